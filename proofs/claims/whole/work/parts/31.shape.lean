/-! PURE: the shape: how many stories, and where each begins -/
def SW (ns : Nat) (st : Nat → Nat) : Prop := ns ≤ 12 ∧ st 0 = 0 ∧ (∀ k, k < ns → st k < st (k + 1)) ∧ st ns ≤ 150
theorem SW.lt {ns : Nat} {st : Nat → Nat} (h : SW ns st) {i j : Nat} (hij : i < j) (hj : j ≤ ns) : st i + (j - i) ≤ st j := by
  induction j with
  | zero => omega
  | succ j ih =>
    have h1 := h.2.2.1 j (by omega)
    by_cases hh : i = j
    · subst hh; omega
    · have := ih (by omega) (by omega)
      omega
theorem SW.le {ns : Nat} {st : Nat → Nat} (h : SW ns st) {i j : Nat} (hij : i ≤ j) (hj : j ≤ ns) : st i ≤ st j := by
  by_cases e : i = j
  · subst e; exact Nat.le_refl _
  · have := h.lt (show i < j by omega) hj
    omega
theorem SW.b {ns : Nat} {st : Nat → Nat} (h : SW ns st) {i : Nat} (hi : i ≤ ns) : st i ≤ 150 := Nat.le_trans (h.le hi (Nat.le_refl _)) h.2.2.2
theorem SW.find {ns : Nat} {st : Nat → Nat} (h : SW ns st) {p : Nat} (hp : p < st ns) : ∃ k, k < ns ∧ st k ≤ p ∧ p < st (k + 1) := by
  have key : ∀ j, j ≤ ns → p < st j → ∃ k, k < j ∧ st k ≤ p ∧ p < st (k + 1) := by
    intro j
    induction j with
    | zero => intro _ h1; have := h.2.1; omega
    | succ j ih =>
      intro hj h1
      by_cases h2 : p < st j
      · obtain ⟨k, a, b⟩ := ih (by omega) h2
        exact ⟨k, by omega, b⟩
      · exact ⟨j, by omega, by omega, h1⟩
  exact key ns (Nat.le_refl _) hp
theorem SW.uniq {ns : Nat} {st : Nat → Nat} (h : SW ns st) {p k j : Nat} (hk : k < ns) (h1 : st k ≤ p) (h2 : p < st (k + 1)) (hj : j < ns) (h3 : st j ≤ p) (h4 : p < st (j + 1)) : k = j := by
  rcases Nat.lt_trichotomy k j with q | q | q
  · have := h.le (show k + 1 ≤ j by omega) (by omega); omega
  · exact q
  · have := h.le (show j + 1 ≤ k by omega) (by omega); omega
/-- an int that is a number below n -/
def isS (n : Nat) (p : Int32) : Bool := decide (0 ≤ p.toInt ∧ p.toInt < n)
theorem isS_t {n : Nat} {p : Int32} (h : isS n p = true) (hn : n < 2147483648) : ∃ k, k < n ∧ p = nI k := by
  simp only [isS, decide_eq_true_eq] at h
  refine ⟨p.toInt.toNat, by omega, ?_⟩
  apply Int32.toInt_inj.mp
  rw [nI_toInt (by omega)]
  omega
theorem isS_n {n k : Nat} (hk : k < n) (hn : n < 2147483648) : isS n (nI k) = true := by
  simp only [isS, decide_eq_true_eq]
  rw [nI_toInt (by omega)]
  omega
theorem within_isS {n : Nat} {p : Int32} (hn : n < 1000000) : (if nI 0 ≤ p ∧ p ≤ nI n - nI 1 then nI 1 else nI 0) = (if isS n p = true then nI 1 else nI 0) := by
  have e : (nI 0 ≤ p ∧ p ≤ nI n - nI 1) ↔ isS n p = true := by
    simp only [isS, decide_eq_true_eq]
    rw [Int32.le_iff_toInt_le, Int32.le_iff_toInt_le, pk_sub_toInt (by omega) (by omega), nI_toInt (by omega)]
    omega
  by_cases h : isS n p = true
  · rw [if_pos h, if_pos (e.mpr h)]
  · rw [if_neg h, if_neg (fun z => h (e.mp z))]
theorem bz_if {c : Prop} {i : Decidable c} : bz (if c then nI 1 else nI 0) = true := by
  by_cases h : c
  · rw [if_pos h]; exact bz_1
  · rw [if_neg h]; exact bz_0
theorem hasStory_s (Fu : Nat) {n : Nat} (p : Int32) (hn : n < 1000000) : f_X2_hasStory Fu (nI n) p = some (if isS n p = true then nI 1 else nI 0) := by
  unfold f_X2_hasStory
  rw [isWithin_s, within_isS hn, bd1_s, bz_if, gd_true]
theorem isStory_s (Fu : Nat) {n : Nat} {s : Ar} (p : Int32) (hs : s 3 = nI n) (hn : n < 1000000) : f_X4_isStory Fu s p = some (if isS n p = true then nI 1 else nI 0) := by
  unfold f_X4_isStory
  rw [hs, in4_s, within_isS hn, bd1_s, bz_if, gd_true]
theorem sizeOf_s (Fu : Nat) {sa : Ar} {ns : Nat} {st : Nat → Nat} (hW : SW ns st) (hs : ∀ k, k ≤ ns → sa k = nI (st k)) {k : Nat} (hk : k < ns) : f_X2_sizeOf Fu sa (nI k) = some (nI (st (k + 1) - st k)) := by
  have h1 := hW.1
  have h2 := hW.2.2.1 k hk
  have e1 := hs (k + 1) (by omega)
  have e2 := hs k (by omega)
  unfold f_X2_sizeOf
  simp (disch := omega) only [gd_true, nm_eq, jn_eq, bd1_s, bd2_s, bd3_s, bd4_s, bd5_s, bd6_s, bd7_s, bd8_s, bd9_s, bd10_s, bd11_s, bd12_s, nI_add, pk_mul, pk_subs, nI_m1s, ix_nIs, nI_clamps, nI_les, nI_lts, nI_eqs, bz_0, bz_1, nI_zero, eq_self, if_true, if_false, e1, e2]
theorem words_s (Fu : Nat) {sa : Ar} {ns : Nat} {st : Nat → Nat} (hW : SW ns st) (hs : ∀ k, k ≤ ns → sa k = nI (st k)) : f_X2_words Fu sa (nI ns) = some (nI (st ns)) := by
  have h1 := hW.1
  have e1 := hs ns (by omega)
  unfold f_X2_words
  simp (disch := omega) only [gd_true, nm_eq, jn_eq, bd1_s, bd2_s, bd3_s, bd4_s, bd5_s, bd6_s, bd7_s, bd8_s, bd9_s, bd10_s, bd11_s, bd12_s, nI_add, pk_mul, pk_subs, nI_m1s, ix_nIs, nI_clamps, nI_les, nI_lts, nI_eqs, bz_0, bz_1, nI_zero, eq_self, if_true, if_false, e1]
def isW (ns : Nat) (st : Nat → Nat) (p q : Int32) : Bool := isS ns p && isS (st (p.toNatClampNeg + 1) - st p.toNatClampNeg) q
theorem isW_t {ns : Nat} {st : Nat → Nat} {p q : Int32} (h : isW ns st p q = true) (hW : SW ns st) : ∃ k w, k < ns ∧ st k + w < st (k + 1) ∧ p = nI k ∧ q = nI w := by
  simp only [isW, Bool.and_eq_true] at h
  obtain ⟨k, hk, rfl⟩ := isS_t h.1 (by have := hW.1; omega)
  have h1 := hW.1
  have hb := hW.b (show k + 1 ≤ ns by omega)
  rw [nI_clamp (by omega)] at h
  obtain ⟨w, hw, rfl⟩ := isS_t h.2 (by omega)
  exact ⟨k, w, hk, by omega, rfl, rfl⟩
theorem hasWord_s (Fu : Nat) {sa : Ar} {ns : Nat} {st : Nat → Nat} (hW : SW ns st) (hs : ∀ k, k ≤ ns → sa k = nI (st k)) (p q : Int32) : f_X2_hasWord Fu sa (nI ns) p q = some (if isW ns st p q = true then nI 1 else nI 0) := by
  have h1 := hW.1
  unfold f_X2_hasWord
  rw [hasStory_s Fu p (show ns < 1000000 by omega), bd1_s, jn_eq]
  by_cases h : isS ns p = true
  · rw [if_pos h, if_neg (show ¬ nI 1 = 0 by decide)]
    obtain ⟨k, hk, rfl⟩ := isS_t h (by omega)
    have hb := hW.b (show k + 1 ≤ ns by omega)
    rw [sizeOf_s Fu hW hs hk, bd1_s, isWithin_s, within_isS (by omega), bd1_s]
    have e : isW ns st (nI k) q = isS (st (k + 1) - st k) q := by
      simp only [isW, h, Bool.true_and, nI_clamp (show k < 2 ^ 31 by omega)]
    rw [e]
    by_cases h2 : isS (st (k + 1) - st k) q = true
    · rw [if_pos h2, if_neg (show ¬ nI 1 = 0 by decide)]; simp only [bz_1, gd_true]
    · rw [if_neg h2, if_pos (show nI 0 = 0 by decide)]; simp only [bz_0, gd_true]
  · rw [if_neg h, if_pos (show nI 0 = 0 by decide)]; simp only [bz_0, gd_true]
    have e : ¬ isW ns st p q = true := by
      intro z
      simp only [isW, Bool.and_eq_true] at z
      exact h z.1
    rw [if_neg e]
theorem isWord_s (Fu : Nat) {s : Ar} {ns : Nat} {st : Nat → Nat} (hW : SW ns st) (h3 : s 3 = nI ns) (hs : ∀ k, k < ns → s (9 + k) = nI (st (k + 1) - st k)) (p q : Int32) : f_X4_isWord Fu s p q = some (if isW ns st p q = true then nI 1 else nI 0) := by
  have h1 := hW.1
  unfold f_X4_isWord
  rw [isStory_s Fu p h3 (show ns < 1000000 by omega), bd1_s, jn_eq]
  by_cases h : isS ns p = true
  · rw [if_pos h, if_neg (show ¬ nI 1 = 0 by decide)]
    obtain ⟨k, hk, rfl⟩ := isS_t h (by omega)
    have hb := hW.b (show k + 1 ≤ ns by omega)
    rw [nI_add, ix_nIs (by omega) (by omega), gd_true, nI_clamps (by omega), hs k hk, in4_s, within_isS (by omega), bd1_s]
    have e : isW ns st (nI k) q = isS (st (k + 1) - st k) q := by
      simp only [isW, h, Bool.true_and, nI_clamp (show k < 2 ^ 31 by omega)]
    rw [e]
    by_cases h2 : isS (st (k + 1) - st k) q = true
    · rw [if_pos h2, if_neg (show ¬ nI 1 = 0 by decide)]; simp only [bz_1, gd_true]
    · rw [if_neg h2, if_pos (show nI 0 = 0 by decide)]; simp only [bz_0, gd_true]
  · rw [if_neg h, if_pos (show nI 0 = 0 by decide)]; simp only [bz_0, gd_true]
    have e : ¬ isW ns st p q = true := by
      intro z
      simp only [isW, Bool.and_eq_true] at z
      exact h z.1
    rw [if_neg e]
theorem storyAt_L (Fu : Nat) (k : Int32 → Option Int32) {sa : Ar} {ns : Nat} {st : Nat → Nat} (hW : SW ns st) (hs : ∀ k, k ≤ ns → sa k = nI (st k)) {p K : Nat} (hK : K < ns) (h1 : st K ≤ p) (h2 : p < st (K + 1)) : ∀ (fu i : Nat), i ≤ K → K - i < fu → f_X2_storyAt_L2 Fu k sa (nI ns) (nI p) fu (nI i) = k (nI K) := by
  have hn := hW.1
  have hb := hW.b (show K + 1 ≤ ns by omega)
  intro fu
  induction fu with
  | zero => intro i a b; omega
  | succ fu ih =>
    intro i a b
    rw [f_X2_storyAt_L2_s]
    by_cases hi : i = K
    · subst hi
      have e1 := hs (i + 1) (by omega)
      by_cases hl : ns ≤ i + 1
      · simp (disch := omega) only [gd_true, nm_eq, jn_eq, bd1_s, bd2_s, bd3_s, bd4_s, bd5_s, bd6_s, bd7_s, bd8_s, bd9_s, bd10_s, bd11_s, bd12_s, nI_add, pk_mul, pk_subs, nI_m1s, ix_nIs, nI_clamps, nI_les, nI_lts, nI_eqs, bz_0, bz_1, nI_zero, eq_self, if_true, if_false, if_pos, if_neg]
      · simp (disch := omega) only [gd_true, nm_eq, jn_eq, bd1_s, bd2_s, bd3_s, bd4_s, bd5_s, bd6_s, bd7_s, bd8_s, bd9_s, bd10_s, bd11_s, bd12_s, nI_add, pk_mul, pk_subs, nI_m1s, ix_nIs, nI_clamps, nI_les, nI_lts, nI_eqs, bz_0, bz_1, nI_zero, eq_self, if_true, if_false, e1, if_pos, if_neg]
    · have e1 := hs (i + 1) (by omega)
      have hm := hW.le (show i + 1 ≤ K by omega) (by omega)
      simp (disch := omega) only [gd_true, nm_eq, jn_eq, bd1_s, bd2_s, bd3_s, bd4_s, bd5_s, bd6_s, bd7_s, bd8_s, bd9_s, bd10_s, bd11_s, bd12_s, nI_add, pk_mul, pk_subs, nI_m1s, ix_nIs, nI_clamps, nI_les, nI_lts, nI_eqs, bz_0, bz_1, nI_zero, eq_self, if_true, if_false, e1, if_pos, if_neg]
      exact ih (i + 1) (by omega) (by omega)
theorem storyAt_s {Fu : Nat} (hF : 20000000 ≤ Fu) {sa : Ar} {ns : Nat} {st : Nat → Nat} (hW : SW ns st) (hs : ∀ k, k ≤ ns → sa k = nI (st k)) {p K : Nat} (hK : K < ns) (h1 : st K ≤ p) (h2 : p < st (K + 1)) : f_X2_storyAt Fu sa (nI ns) (nI p) = some (nI K) := by
  have hn := hW.1
  unfold f_X2_storyAt
  rw [jn_eq, storyAt_L Fu _ hW hs hK h1 h2 Fu 0 (Nat.zero_le _) (by omega)]
theorem placeOf_s {Fu : Nat} (hF : 20000000 ≤ Fu) {sa : Ar} {ns : Nat} {st : Nat → Nat} (hW : SW ns st) (hs : ∀ k, k ≤ ns → sa k = nI (st k)) {p K : Nat} (hK : K < ns) (h1 : st K ≤ p) (h2 : p < st (K + 1)) : f_X2_placeOf Fu sa (nI ns) (nI p) = some (nI (p - st K)) := by
  have hn := hW.1
  have e1 := hs K (by omega)
  unfold f_X2_placeOf
  rw [storyAt_s hF hW hs hK h1 h2]
  simp (disch := omega) only [gd_true, nm_eq, jn_eq, bd1_s, bd2_s, bd3_s, bd4_s, bd5_s, bd6_s, bd7_s, bd8_s, bd9_s, bd10_s, bd11_s, bd12_s, nI_add, pk_mul, pk_subs, nI_m1s, ix_nIs, nI_clamps, nI_les, nI_lts, nI_eqs, bz_0, bz_1, nI_zero, eq_self, if_true, if_false, e1]
theorem storyOf_L (Fu : Nat) (k : Int32 → Option Int32) {s : Ar} {ns : Nat} {st : Nat → Nat} (hW : SW ns st) (hs : ∀ k, k < ns → s (9 + k) = nI (st (k + 1) - st k)) {p K : Nat} (hK : K < ns) (h1 : st K ≤ p) (h2 : p < st (K + 1)) : ∀ (fu i : Nat), i ≤ K → K - i < fu → f_X4_storyOf_L4 Fu k s fu (nI i) (nI (p - st i)) = k (nI K) := by
  have hn := hW.1
  have hb := hW.b (show K + 1 ≤ ns by omega)
  intro fu
  induction fu with
  | zero => intro i a b; omega
  | succ fu ih =>
    intro i a b
    rw [f_X4_storyOf_L4_s]
    have e1 := hs i (by omega)
    have hm := hW.le a (by omega)
    by_cases hi : i = K
    · subst hi
      simp (disch := omega) only [gd_true, nm_eq, jn_eq, bd1_s, bd2_s, bd3_s, bd4_s, bd5_s, bd6_s, bd7_s, bd8_s, bd9_s, bd10_s, bd11_s, bd12_s, nI_add, pk_mul, pk_subs, nI_m1s, ix_nIs, nI_clamps, nI_les, nI_lts, nI_eqs, bz_0, bz_1, nI_zero, eq_self, if_true, if_false, e1, if_pos, if_neg]
    · have hm2 := hW.le (show i + 1 ≤ K by omega) (by omega)
      have hm3 := hW.2.2.1 i (by omega)
      simp (disch := omega) only [gd_true, nm_eq, jn_eq, bd1_s, bd2_s, bd3_s, bd4_s, bd5_s, bd6_s, bd7_s, bd8_s, bd9_s, bd10_s, bd11_s, bd12_s, nI_add, pk_mul, pk_subs, nI_m1s, ix_nIs, nI_clamps, nI_les, nI_lts, nI_eqs, bz_0, bz_1, nI_zero, eq_self, if_true, if_false, e1, if_pos, if_neg]
      rw [← ih (i + 1) (by omega) (by omega)]
      congr 2
      omega
theorem storyOf_s {Fu : Nat} (hF : 20000000 ≤ Fu) {s : Ar} {ns : Nat} {st : Nat → Nat} (hW : SW ns st) (hs : ∀ k, k < ns → s (9 + k) = nI (st (k + 1) - st k)) {p K : Nat} (hK : K < ns) (h1 : st K ≤ p) (h2 : p < st (K + 1)) : f_X4_storyOf Fu s (nI p) = some (nI K) := by
  have hn := hW.1
  unfold f_X4_storyOf
  have h := storyOf_L Fu (fun v => some v) hW hs hK h1 h2 Fu 0 (Nat.zero_le _) (by omega)
  rw [hW.2.1, Nat.sub_zero] at h
  exact h
theorem first_L (Fu : Nat) (k : Int32 → Option Int32) {s : Ar} {ns : Nat} {st : Nat → Nat} (hW : SW ns st) (hs : ∀ k, k < ns → s (9 + k) = nI (st (k + 1) - st k)) {K : Nat} (hK : K ≤ ns) : ∀ (fu i : Nat), i ≤ K → K - i < fu → f_X4_first_L4 Fu k s (nI K) fu (nI (st i)) (nI i) = k (nI (st K)) := by
  have hn := hW.1
  intro fu
  induction fu with
  | zero => intro i a b; omega
  | succ fu ih =>
    intro i a b
    rw [f_X4_first_L4_s]
    by_cases hi : i = K
    · subst hi
      simp (disch := omega) only [gd_true, nm_eq, jn_eq, bd1_s, bd2_s, bd3_s, bd4_s, bd5_s, bd6_s, bd7_s, bd8_s, bd9_s, bd10_s, bd11_s, bd12_s, nI_add, pk_mul, pk_subs, nI_m1s, ix_nIs, nI_clamps, nI_les, nI_lts, nI_eqs, bz_0, bz_1, nI_zero, eq_self, if_true, if_false, if_pos, if_neg]
    · have e1 := hs i (by omega)
      have hm3 := hW.2.2.1 i (by omega)
      have hb := hW.b (show i + 1 ≤ ns by omega)
      simp (disch := omega) only [gd_true, nm_eq, jn_eq, bd1_s, bd2_s, bd3_s, bd4_s, bd5_s, bd6_s, bd7_s, bd8_s, bd9_s, bd10_s, bd11_s, bd12_s, nI_add, pk_mul, pk_subs, nI_m1s, ix_nIs, nI_clamps, nI_les, nI_lts, nI_eqs, bz_0, bz_1, nI_zero, eq_self, if_true, if_false, e1, if_pos, if_neg]
      rw [← ih (i + 1) (by omega) (by omega)]
      congr 2
      omega
theorem first_s {Fu : Nat} (hF : 20000000 ≤ Fu) {s : Ar} {ns : Nat} {st : Nat → Nat} (hW : SW ns st) (hs : ∀ k, k < ns → s (9 + k) = nI (st (k + 1) - st k)) {K : Nat} (hK : K ≤ ns) : f_X4_first Fu s (nI K) = some (nI (st K)) := by
  have hn := hW.1
  unfold f_X4_first
  have h := first_L Fu (fun v => some v) hW hs hK Fu 0 (Nat.zero_le _) (by omega)
  rw [hW.2.1] at h
  exact h
