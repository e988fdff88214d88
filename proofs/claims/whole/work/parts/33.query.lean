/-! PURE: what there is, the program's side -/
theorem ite_nI {c : Prop} {i : Decidable c} (a b : Nat) : (if c then nI a else nI b) = nI (if c then a else b) := by
  by_cases h : c
  · rw [if_pos h, if_pos h]
  · rw [if_neg h, if_neg h]
/-- the theme out of a tally; unlike letters -/
def thR (t : Nat → Int32) : Nat := itF (fun c g => if t c ≤ t g then g else c) 1 25 0
def unR (t : Nat → Int32) : Int32 := itF (fun c a => a + (if t c ≤ nI 0 then nI 0 else nI 1)) 0 26 (nI 0)
theorem thR_lt (t : Nat → Int32) : thR t < 26 := by
  have := itF_inv (fun c g => if t c ≤ t g then g else c) (fun _ g => g < 26) 25 1 0 (by omega) (fun j b h1 h2 h3 => by
    show (if t j ≤ t b then b else j) < 26
    by_cases h : t j ≤ t b
    · rw [if_pos h]; exact h3
    · rw [if_neg h]; omega)
  exact this
theorem thR_congr {t u : Nat → Int32} (h : ∀ c, c < 26 → t c = u c) : thR t = thR u := by
  have := itF_rel (fun c g => if t c ≤ t g then g else c) (fun c g => if u c ≤ u g then g else c) 0 (fun _ x z => x = z ∧ x < 26) 25 1 0 0 ⟨rfl, by omega⟩ (fun j x z h1 h2 h3 => by
    obtain ⟨rfl, h4⟩ := h3
    rw [Nat.zero_add]
    show (if t j ≤ t x then x else j) = (if u j ≤ u x then x else j) ∧ (if t j ≤ t x then x else j) < 26
    rw [h j (by omega), h x h4]
    refine ⟨rfl, ?_⟩
    by_cases hh : u j ≤ u x
    · rw [if_pos hh]; exact h4
    · rw [if_neg hh]; omega)
  exact this.1
theorem unR_congr {t u : Nat → Int32} (h : ∀ c, c < 26 → t c = u c) : unR t = unR u :=
  itF_congr (fun j x _ h2 => by rw [h j (by omega)])
/-- the tally of the story k -/
def taR (A : Sh) (k : Nat) : Nat → Int32 := fun c => cntR A.le (A.st k) (A.st (k + 1) - A.st k) c
def hoR (he : FN) (lo n : Nat) : Nat := itF (fun p g => if he p ≤ he g then g else p) lo n lo
section CQ
variable {Fu : Nat} {A : Sh} {se le he sa fa ge : Ar} {ns nf sp bo fi : Int32}
theorem tallyOf_L (Fu : Nat) (k : Ar → Option Ar) (hW : WF A) (h : RV A se le he sa fa ge ns nf sp bo fi) {K : Nat} (hK : K < A.ns) : ∀ (fu i : Nat) (t : Ar), i ≤ A.st (K + 1) → A.st (K + 1) - i < fu → f_X2_tallyOf_L15 Fu k le sa (nI K) fu (nI i) t = k (itF (fun p t => upd t (A.le p) (t (A.le p) + nI 1)) i (A.st (K + 1) - i) t) := by
  have hn := hW.n
  have e2 := h.rsa (show K + 1 ≤ A.ns by omega)
  have hm2 := hW.1.le (show K + 1 ≤ A.ns by omega) (Nat.le_refl _)
  have hw := hW.w
  have hw' : A.st A.ns ≤ 150 := hW.w
  intro fu
  induction fu with
  | zero => intro i t h1 h2; omega
  | succ fu ih =>
    intro i t h1 h2
    rw [f_X2_tallyOf_L15_s]
    by_cases hh : A.st (K + 1) ≤ i
    · have e : A.st (K + 1) - i = 0 := by omega
      rw [e, itF_0]
      simp (disch := omega) only [gd_true, nm_eq, jn_eq, bd1_s, bd2_s, bd3_s, bd4_s, bd5_s, bd6_s, bd7_s, bd8_s, bd9_s, bd10_s, bd11_s, bd12_s, nI_add, pk_mul, pk_subs, nI_m1s, ix_nIs, nI_clamps, nI_les, nI_lts, nI_eqs, bz_0, bz_1, nI_zero, eq_self, if_true, if_false, e2, if_pos]
    · have e : A.st (K + 1) - i = (A.st (K + 1) - (i + 1)) + 1 := by omega
      have hp : i < A.wn := by unfold Sh.wn; omega
      have e1 := h.rle hp
      have e3 := (hW.2.2 i hp).1
      rw [e, itF_s, ← ih (i + 1) _ (by omega) (by omega)]
      simp (disch := omega) only [gd_true, nm_eq, jn_eq, bd1_s, bd2_s, bd3_s, bd4_s, bd5_s, bd6_s, bd7_s, bd8_s, bd9_s, bd10_s, bd11_s, bd12_s, nI_add, pk_mul, pk_subs, nI_m1s, ix_nIs, nI_clamps, nI_les, nI_lts, nI_eqs, bz_0, bz_1, nI_zero, eq_self, if_true, if_false, e1, e2, if_neg]
theorem tally_pt (le : FN) (c : Nat) (n lo : Nat) (t : Ar) : (itF (fun p t => upd t (le p) (t (le p) + nI 1)) lo n t) c = itF (fun p a => a + (if le p = c then nI 1 else nI 0)) lo n (t c) := by
  have := itF_rel (fun p t => upd t (le p) (t (le p) + nI 1)) (fun p a => a + (if le p = c then nI 1 else nI 0)) 0 (fun _ (x : Ar) z => x c = z) n lo t (t c) rfl (fun j x z h1 h2 h3 => by
    show upd x (le j) (x (le j) + nI 1) c = z + (if le (0 + j) = c then nI 1 else nI 0)
    rw [Nat.zero_add]
    unfold upd
    by_cases hh : le j = c
    · rw [if_pos hh, if_pos hh.symm, hh, h3]
    · rw [if_neg hh, if_neg (fun e => hh e.symm), h3, nI_0, Int32.add_zero])
  rw [Nat.zero_add] at this
  exact this
theorem tallyOf_s (hF : 20000000 ≤ Fu) (hW : WF A) (h : RV A se le he sa fa ge ns nf sp bo fi) (t0 : Ar) {K : Nat} (hK : K < A.ns) : ∃ t, f_X2_tallyOf Fu le sa t0 (nI K) = some t ∧ ∀ c, t c = taR A K c := by
  have hn := hW.n
  have hw := hW.w
  have hw' : A.st A.ns ≤ 150 := hW.w
  have e1 := h.rsa (show K ≤ A.ns by omega)
  have hm := hW.1.2.2.1 K hK
  have hm2 := hW.1.le (show K + 1 ≤ A.ns by omega) (Nat.le_refl _)
  refine ⟨itF (fun p t => upd t (A.le p) (t (A.le p) + nI 1)) (A.st K) (A.st (K + 1) - A.st K) (fun _ => nI 0), ?_, fun c => tally_pt A.le c _ _ _⟩
  unfold f_X2_tallyOf
  rw [ix_nIs (by omega) (by omega), gd_true, jn_eq, nI_clamps (by omega), e1]
  rw [tallyOf_L Fu _ hW h hK Fu (A.st K) _ (by omega) (by unfold Sh.wn at hw; omega)]
theorem themeOf_L (Fu : Nat) (k : Int32 → Option (Int32 × Ar)) (t : Ar) : ∀ (fu i g : Nat), i ≤ 26 → g < 26 → 26 - i < fu → f_X2_themeOf_L9 Fu k t fu (nI g) (nI i) = k (nI (itF (fun c g => if t c ≤ t g then g else c) i (26 - i) g)) := by
  intro fu
  induction fu with
  | zero => intro i g h1 h2 h3; omega
  | succ fu ih =>
    intro i g h1 h2 h3
    rw [f_X2_themeOf_L9_s]
    by_cases hh : 26 ≤ i
    · have e : 26 - i = 0 := by omega
      rw [e, itF_0]
      simp (disch := omega) only [gd_true, nm_eq, jn_eq, bd1_s, bd2_s, bd3_s, bd4_s, bd5_s, bd6_s, bd7_s, bd8_s, bd9_s, bd10_s, bd11_s, bd12_s, nI_add, pk_mul, pk_subs, nI_m1s, ix_nIs, nI_clamps, nI_les, nI_lts, nI_eqs, bz_0, bz_1, nI_zero, eq_self, if_true, if_false, if_pos, if_neg]
    · have e : 26 - i = (26 - (i + 1)) + 1 := by omega
      have hg : (if t i ≤ t g then g else i) < 26 := by
        by_cases h : t i ≤ t g
        · rw [if_pos h]; exact h2
        · rw [if_neg h]; omega
      rw [e, itF_s, ← ih (i + 1) _ (by omega) hg (by omega)]
      simp (disch := omega) only [gd_true, nm_eq, jn_eq, bd1_s, bd2_s, bd3_s, bd4_s, bd5_s, bd6_s, bd7_s, bd8_s, bd9_s, bd10_s, bd11_s, bd12_s, nI_add, pk_mul, pk_subs, nI_m1s, ix_nIs, nI_clamps, nI_les, nI_lts, nI_eqs, bz_0, bz_1, nI_zero, eq_self, if_true, if_false, if_neg, ite_nI]
theorem themeOf_s (hF : 20000000 ≤ Fu) (hW : WF A) (h : RV A se le he sa fa ge ns nf sp bo fi) (t0 : Ar) {K : Nat} (hK : K < A.ns) : ∃ t, f_X2_themeOf Fu le sa t0 (nI K) = some (nI (thR (taR A K)), t) := by
  obtain ⟨t, h1, h2⟩ := tallyOf_s hF hW h t0 hK
  refine ⟨t, ?_⟩
  unfold f_X2_themeOf
  rw [h1, bd1_s, jn_eq, themeOf_L Fu _ t Fu 1 0 (by omega) (by omega) (by omega)]
  have : thR t = thR (taR A K) := thR_congr (fun c _ => h2 c)
  rw [← this]
  rfl
theorem unlikeLettersOf_L (Fu : Nat) (k : Int32 → Option (Int32 × Ar)) (t : Ar) : ∀ (fu i : Nat) (a : Int32), i ≤ 26 → 26 - i < fu → f_X2_unlikeLettersOf_L9 Fu k t fu a (nI i) = k (itF (fun c a => a + (if t c ≤ nI 0 then nI 0 else nI 1)) i (26 - i) a) := by
  intro fu
  induction fu with
  | zero => intro i g h1 h3; omega
  | succ fu ih =>
    intro i g h1 h3
    rw [f_X2_unlikeLettersOf_L9_s]
    by_cases hh : 26 ≤ i
    · have e : 26 - i = 0 := by omega
      rw [e, itF_0]
      simp (disch := omega) only [gd_true, nm_eq, jn_eq, bd1_s, bd2_s, bd3_s, bd4_s, bd5_s, bd6_s, bd7_s, bd8_s, bd9_s, bd10_s, bd11_s, bd12_s, nI_add, pk_mul, pk_subs, nI_m1s, ix_nIs, nI_clamps, nI_les, nI_lts, nI_eqs, bz_0, bz_1, nI_zero, eq_self, if_true, if_false, if_pos, if_neg]
    · have e : 26 - i = (26 - (i + 1)) + 1 := by omega
      rw [e, itF_s, ← ih (i + 1) _ (by omega) (by omega)]
      simp (disch := omega) only [gd_true, nm_eq, jn_eq, bd1_s, bd2_s, bd3_s, bd4_s, bd5_s, bd6_s, bd7_s, bd8_s, bd9_s, bd10_s, bd11_s, bd12_s, nI_add, pk_mul, pk_subs, nI_m1s, ix_nIs, nI_clamps, nI_les, nI_lts, nI_eqs, bz_0, bz_1, nI_zero, eq_self, if_true, if_false, if_neg]
theorem unlikeLettersOf_s (hF : 20000000 ≤ Fu) (hW : WF A) (h : RV A se le he sa fa ge ns nf sp bo fi) (t0 : Ar) {K : Nat} (hK : K < A.ns) : ∃ t, f_X2_unlikeLettersOf Fu le sa t0 (nI K) = some (unR (taR A K), t) := by
  obtain ⟨t, h1, h2⟩ := tallyOf_s hF hW h t0 hK
  refine ⟨t, ?_⟩
  unfold f_X2_unlikeLettersOf
  rw [h1, bd1_s, jn_eq, unlikeLettersOf_L Fu _ t Fu 0 _ (by omega) (by omega)]
  have : unR t = unR (taR A K) := unR_congr (fun c _ => h2 c)
  rw [← this]
  rfl
theorem hottestOf_L (Fu : Nat) (k : Int32 → Option Int32) (hW : WF A) (h : RV A se le he sa fa ge ns nf sp bo fi) {K : Nat} (hK : K < A.ns) : ∀ (fu i g : Nat), i ≤ A.st (K + 1) → g < A.st (K + 1) → A.st (K + 1) - i < fu → f_X2_hottestOf_L14 Fu k he sa (nI K) fu (nI g) (nI i) = k (nI (itF (fun p g => if A.he p ≤ A.he g then g else p) i (A.st (K + 1) - i) g)) := by
  have hn := hW.n
  have e2 := h.rsa (show K + 1 ≤ A.ns by omega)
  have hm2 := hW.1.le (show K + 1 ≤ A.ns by omega) (Nat.le_refl _)
  have hw := hW.w
  have hw' : A.st A.ns ≤ 150 := hW.w
  intro fu
  induction fu with
  | zero => intro i g h1 h2 h3; omega
  | succ fu ih =>
    intro i g h1 h2 h3
    rw [f_X2_hottestOf_L14_s]
    by_cases hh : A.st (K + 1) ≤ i
    · have e : A.st (K + 1) - i = 0 := by omega
      rw [e, itF_0]
      simp (disch := omega) only [gd_true, nm_eq, jn_eq, bd1_s, bd2_s, bd3_s, bd4_s, bd5_s, bd6_s, bd7_s, bd8_s, bd9_s, bd10_s, bd11_s, bd12_s, nI_add, pk_mul, pk_subs, nI_m1s, ix_nIs, nI_clamps, nI_les, nI_lts, nI_eqs, bz_0, bz_1, nI_zero, eq_self, if_true, if_false, e2, if_pos]
    · have e : A.st (K + 1) - i = (A.st (K + 1) - (i + 1)) + 1 := by omega
      have hp : i < A.wn := by unfold Sh.wn; omega
      have hq : g < A.wn := by unfold Sh.wn; omega
      have e1 := h.rhe hp
      have e3 := h.rhe hq
      have e4 := (hW.2.2 i hp).2
      have e5 := (hW.2.2 g hq).2
      have hg : (if A.he i ≤ A.he g then g else i) < A.st (K + 1) := by
        by_cases h : A.he i ≤ A.he g
        · rw [if_pos h]; exact h2
        · rw [if_neg h]; omega
      rw [e, itF_s, ← ih (i + 1) _ (by omega) hg (by omega)]
      simp (disch := omega) only [gd_true, nm_eq, jn_eq, bd1_s, bd2_s, bd3_s, bd4_s, bd5_s, bd6_s, bd7_s, bd8_s, bd9_s, bd10_s, bd11_s, bd12_s, nI_add, pk_mul, pk_subs, nI_m1s, ix_nIs, nI_clamps, nI_les, nI_lts, nI_eqs, bz_0, bz_1, nI_zero, eq_self, if_true, if_false, e1, e2, e3, if_neg hh, ite_nI]
theorem hoR_lt (he : FN) {lo n : Nat} (hn : 0 < n) : lo ≤ hoR he lo n ∧ hoR he lo n < lo + n := by
  have := itF_inv (fun p g => if he p ≤ he g then g else p) (fun _ g => lo ≤ g ∧ g < lo + n) n lo lo (by omega) (fun j b h1 h2 h3 => by
    show lo ≤ (if he j ≤ he b then b else j) ∧ (if he j ≤ he b then b else j) < lo + n
    by_cases h : he j ≤ he b
    · rw [if_pos h]; exact h3
    · rw [if_neg h]; omega)
  exact this
theorem hottestOf_s (hF : 20000000 ≤ Fu) (hW : WF A) (h : RV A se le he sa fa ge ns nf sp bo fi) {K : Nat} (hK : K < A.ns) : f_X2_hottestOf Fu he sa (nI K) = some (nI (hoR A.he (A.st K) (A.st (K + 1) - A.st K) - A.st K)) := by
  have hn := hW.n
  have e1 := h.rsa (show K ≤ A.ns by omega)
  have hm := hW.1.2.2.1 K hK
  have hm2 := hW.1.le (show K + 1 ≤ A.ns by omega) (Nat.le_refl _)
  have hw := hW.w
  have hw' : A.st A.ns ≤ 150 := hW.w
  have hb := hoR_lt A.he (lo := A.st K) (show 0 < A.st (K + 1) - A.st K by omega)
  unfold f_X2_hottestOf
  rw [ix_nIs (by omega) (by omega), gd_true, gd_true, jn_eq, nI_clamps (by omega), e1, hottestOf_L Fu _ hW h hK Fu (A.st K) (A.st K) (by omega) (by omega) (by unfold Sh.wn at hw; omega)]
  show gd true (some (nI (hoR A.he (A.st K) (A.st (K + 1) - A.st K)) - nI (A.st K))) = _
  rw [gd_true, pk_subs hb.1]
/-- a story reads the same from both ends -/
def palB (le : FN) (lo n : Nat) : Bool := decide (∀ j, j < n → le (lo + j) = le (lo + n - 1 - j))
theorem int_half {n : Nat} (h : n < 1000000) : nI n / nI 2 = nI (n / 2) := pk_div (by omega) (by omega) (by omega)
theorem reads_L (Fu : Nat) (hW : WF A) (h : RV A se le he sa fa ge ns nf sp bo fi) {K : Nat} (hK : K < A.ns) : ∀ (fu i : Nat), i ≤ (A.st (K + 1) - A.st K) / 2 → (∀ j, j < i → A.le (A.st K + j) = A.le (A.st (K + 1) - 1 - j)) → (A.st (K + 1) - A.st K) / 2 - i < fu → f_X2_readsFromBothEnds_L13 Fu le sa (nI K) (nI (A.st (K + 1) - 1)) fu (nI i) = some (if palB A.le (A.st K) (A.st (K + 1) - A.st K) = true then nI 1 else nI 0) := by
  have hn := hW.n
  have e1 := h.rsa (show K ≤ A.ns by omega)
  have hm := hW.1.2.2.1 K hK
  have hm2 := hW.1.le (show K + 1 ≤ A.ns by omega) (Nat.le_refl _)
  have hw := hW.w
  have hw' : A.st A.ns ≤ 150 := hW.w
  have es := sizeOf_s Fu hW.1 (fun k hk => h.rsa hk) hK
  have eh := int_half (show A.st (K + 1) - A.st K < 1000000 by unfold Sh.wn at hw; omega)
  intro fu
  induction fu with
  | zero => intro i h1 h2 h3; omega
  | succ fu ih =>
    intro i h1 h2 h3
    rw [f_X2_readsFromBothEnds_L13_s, es, bd1_s, eh]
    by_cases hh : (A.st (K + 1) - A.st K) / 2 ≤ i
    · have hp : palB A.le (A.st K) (A.st (K + 1) - A.st K) = true := by
        simp only [palB, decide_eq_true_eq]
        intro j hj
        by_cases hlo : j < i
        · have := h2 j hlo
          rw [show A.st K + (A.st (K + 1) - A.st K) - 1 - j = A.st (K + 1) - 1 - j by omega]
          exact this
        · by_cases hmid : j = A.st (K + 1) - A.st K - 1 - j
          · rw [show A.st K + (A.st (K + 1) - A.st K) - 1 - j = A.st K + j by omega]
          · have := h2 (A.st (K + 1) - A.st K - 1 - j) (by omega)
            rw [show A.st K + (A.st (K + 1) - A.st K) - 1 - j = A.st K + (A.st (K + 1) - A.st K - 1 - j) by omega, this]
            congr 1
            omega
      rw [if_pos hp]
      simp (disch := omega) only [gd_true, nm_eq, jn_eq, bd1_s, bd2_s, bd3_s, bd4_s, bd5_s, bd6_s, bd7_s, bd8_s, bd9_s, bd10_s, bd11_s, bd12_s, nI_add, pk_mul, pk_subs, nI_m1s, ix_nIs, nI_clamps, nI_les, nI_lts, nI_eqs, bz_0, bz_1, nI_zero, eq_self, if_true, if_false, if_pos, if_neg]
    · have hp1 : A.st K + i < A.wn := by unfold Sh.wn; omega
      have hp2 : A.st (K + 1) - 1 - i < A.wn := by unfold Sh.wn; omega
      have l1 := h.rle hp1
      have l2 := h.rle hp2
      have b1 := (hW.2.2 _ hp1).1
      have b2 := (hW.2.2 _ hp2).1
      by_cases hq : A.le (A.st K + i) = A.le (A.st (K + 1) - 1 - i)
      · have := ih (i + 1) (by omega) (fun j hj => by
          by_cases hji : j = i
          · rw [hji]; exact hq
          · exact h2 j (by omega)) (by omega)
        rw [← this]
        simp (disch := omega) only [gd_true, nm_eq, jn_eq, bd1_s, bd2_s, bd3_s, bd4_s, bd5_s, bd6_s, bd7_s, bd8_s, bd9_s, bd10_s, bd11_s, bd12_s, nI_add, pk_mul, pk_subs, nI_m1s, ix_nIs, nI_clamps, nI_les, nI_lts, nI_eqs, bz_0, bz_1, nI_zero, eq_self, if_true, if_false, e1, l1, l2, if_neg hh, if_pos hq]
      · have hp : ¬ palB A.le (A.st K) (A.st (K + 1) - A.st K) = true := by
          simp only [palB, decide_eq_true_eq]
          intro z
          have := z i (by omega)
          rw [show A.st K + (A.st (K + 1) - A.st K) - 1 - i = A.st (K + 1) - 1 - i by omega] at this
          exact hq this
        rw [if_neg hp]
        simp (disch := omega) only [gd_true, nm_eq, jn_eq, bd1_s, bd2_s, bd3_s, bd4_s, bd5_s, bd6_s, bd7_s, bd8_s, bd9_s, bd10_s, bd11_s, bd12_s, nI_add, pk_mul, pk_subs, nI_m1s, ix_nIs, nI_clamps, nI_les, nI_lts, nI_eqs, bz_0, bz_1, nI_zero, eq_self, if_true, if_false, e1, l1, l2, if_neg hh, if_neg hq]
theorem reads_s (hF : 20000000 ≤ Fu) (hW : WF A) (h : RV A se le he sa fa ge ns nf sp bo fi) {K : Nat} (hK : K < A.ns) : f_X2_readsFromBothEnds Fu le sa (nI K) = some (if palB A.le (A.st K) (A.st (K + 1) - A.st K) = true then nI 1 else nI 0) := by
  have hn := hW.n
  have e2 := h.rsa (show K + 1 ≤ A.ns by omega)
  have hm := hW.1.2.2.1 K hK
  have hm2 := hW.1.le (show K + 1 ≤ A.ns by omega) (Nat.le_refl _)
  have hw := hW.w
  have hw' : A.st A.ns ≤ 150 := hW.w
  have := reads_L Fu hW h hK Fu 0 (Nat.zero_le _) (fun j hj => by omega) (by unfold Sh.wn at hw; omega)
  rw [← this]
  unfold f_X2_readsFromBothEnds
  simp (disch := omega) only [gd_true, nm_eq, jn_eq, bd1_s, bd2_s, bd3_s, bd4_s, bd5_s, bd6_s, bd7_s, bd8_s, bd9_s, bd10_s, bd11_s, bd12_s, nI_add, pk_mul, pk_subs, nI_m1s, ix_nIs, nI_clamps, nI_les, nI_lts, nI_eqs, bz_0, bz_1, nI_zero, eq_self, if_true, if_false, e2]
end CQ
