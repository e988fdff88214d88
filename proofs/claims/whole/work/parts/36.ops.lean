/-! PURE: heat comes, a story splits, a word reacts: on the shelf's value, and both sides -/
def minH (a b : Nat) : Nat := if a + b ≤ 999 then a + b else 999
theorem minH_le (a b : Nat) : minH a b ≤ 999 ∧ minH a b ≤ a + b := by
  unfold minH
  by_cases h : a + b ≤ 999
  · rw [if_pos h]; omega
  · rw [if_neg h]; omega
theorem jmin_s {a b : Nat} (ha : a ≤ 100000) (hb : b ≤ 100000) : jmin (nI 999) (nI a + nI b) = nI (minH a b) := by
  unfold jmin minH
  rw [nI_add]
  by_cases h : a + b ≤ 999
  · rw [if_pos h]
    by_cases h2 : a + b < 999
    · rw [if_pos (by rw [nI_lts (by omega) (by omega)]; exact h2)]
    · rw [if_neg (by rw [nI_lts (by omega) (by omega)]; exact h2)]
      congr 1
      omega
  · rw [if_neg h, if_neg (by rw [nI_lts (by omega) (by omega)]; omega)]
def Sh.setHe (A : Sh) (h : FN) : Sh := Sh.mk A.se A.ns A.st A.le h A.fa A.ge A.nf A.sp A.bo A.fi
def warmA (A : Sh) (p b : Nat) : Sh := A.setHe (fun q => if q = p then minH (A.he p) b else A.he q)
theorem WF.he {A : Sh} {h : FN} (hW : WF A) (hh : ∀ p, p < A.wn → h p ≤ 999) : WF (A.setHe h) := ⟨hW.1, hW.2.1, fun p hp => ⟨(hW.2.2 p hp).1, hh p hp⟩⟩
theorem WF.warm {A : Sh} (hW : WF A) (p b : Nat) : WF (warmA A p b) := hW.he (fun q hq => by
  show (if q = p then minH (A.he p) b else A.he q) ≤ 999
  by_cases h : q = p
  · rw [if_pos h]; exact (minH_le _ _).1
  · rw [if_neg h]; exact (hW.2.2 q hq).2)
section OPV
variable {Fu : Nat} {A : Sh} {se le he sa fa ge : Ar} {ns nf sp bo fi : Int32}
theorem RV.setHe (h : RV A se le he sa fa ge ns nf sp bo fi) {he' : Ar} {g : FN} (hh : ∀ p, p < A.wn → he' p = nI (g p)) : RV (A.setHe g) se le he' sa fa ge ns nf sp bo fi := ⟨h.1, h.2.1, hh, h.2.2.2⟩
theorem warm_s (hW : WF A) (h : RV A se le he sa fa ge ns nf sp bo fi) {p b : Nat} (hp : p < A.wn) (hb : b ≤ 1000) : ∃ he', f_X2_warm Fu he (nI p) (nI b) = some he' ∧ RV (warmA A p b) se le he' sa fa ge ns nf sp bo fi := by
  have hw := hW.w
  have e1 := h.rhe hp
  have b1 := (hW.2.2 p hp).2
  have e2 := jmin_s (show A.he p ≤ 100000 by omega) (show b ≤ 100000 by omega)
  refine ⟨upd he p (nI (minH (A.he p) b)), ?_, h.setHe (fun q hq => ?_)⟩
  · rw [← e2]
    unfold f_X2_warm
    simp (disch := omega) only [gd_true, nm_eq, jn_eq, bd1_s, bd2_s, bd3_s, bd4_s, bd5_s, bd6_s, bd7_s, bd8_s, bd9_s, bd10_s, bd11_s, bd12_s, nI_add, pk_mul, pk_subs, nI_m1s, ix_nIs, nI_clamps, nI_les, nI_lts, nI_eqs, bz_0, bz_1, nI_zero, eq_self, if_true, if_false, e1]
  · unfold upd
    by_cases hqp : q = p
    · rw [if_pos hqp, if_pos hqp]
    · rw [if_neg hqp, if_neg hqp]; exact h.rhe hq
end OPV
theorem RS.setHe {A : Sh} {s s' : Ar} (h : RS A s) (hW : WF A) {g : FN} (h1 : ∀ j, j < 195 → s' j = s j) (h2 : ∀ p, p < A.wn → s' (195 + p) = nI (g p)) : RS (A.setHe g) s' := by
  have hn := hW.n
  have hw := hW.w
  exact ⟨fun i hi => by rw [h1 i (by omega)]; exact h.rse hi, by rw [h1 3 (by omega)]; exact h.rns, by rw [h1 4 (by omega)]; exact h.rwn, by rw [h1 5 (by omega)]; exact h.rnf, by rw [h1 6 (by omega)]; exact h.rsp, by rw [h1 7 (by omega)]; exact h.rbo, by rw [h1 8 (by omega)]; exact h.rfi,
    fun k (hk : k < A.ns) => by rw [h1 (9 + k) (by omega)]; exact h.rlo hk, fun k (hk : k < A.ns) => by rw [h1 (21 + k) (by omega)]; exact h.rfa hk, fun k (hk : k < A.ns) => by rw [h1 (33 + k) (by omega)]; exact h.rge hk, fun p (hp : p < A.wn) => by rw [h1 (45 + p) (by omega)]; exact h.rle hp, h2⟩
theorem warm4_s {Fu : Nat} {A : Sh} {s : Ar} (hW : WF A) (h : RS A s) {p b : Nat} (hp : p < A.wn) (hb : b ≤ 1000) : ∃ s', f_X4_warm Fu s (nI p) (nI b) = some s' ∧ RS (warmA A p b) s' := by
  have hw := hW.w
  have e1 := h.rhe hp
  have b1 := (hW.2.2 p hp).2
  refine ⟨upd s (195 + p) (nI (minH (A.he p) b)), ?_, h.setHe hW (fun j hj => ?_) (fun q hq => ?_)⟩
  · unfold f_X4_warm minH
    by_cases hc : A.he p + b ≤ 999
    · rw [if_pos hc]
      simp (disch := omega) only [gd_true, nm_eq, jn_eq, bd1_s, bd2_s, bd3_s, bd4_s, bd5_s, bd6_s, bd7_s, bd8_s, bd9_s, bd10_s, bd11_s, bd12_s, nI_add, pk_mul, pk_subs, nI_m1s, ix_nIs, nI_clamps, nI_les, nI_lts, nI_eqs, bz_0, bz_1, nI_zero, eq_self, if_true, if_false, e1, if_pos hc]
    · rw [if_neg hc]
      simp (disch := omega) only [gd_true, nm_eq, jn_eq, bd1_s, bd2_s, bd3_s, bd4_s, bd5_s, bd6_s, bd7_s, bd8_s, bd9_s, bd10_s, bd11_s, bd12_s, nI_add, pk_mul, pk_subs, nI_m1s, ix_nIs, nI_clamps, nI_les, nI_lts, nI_eqs, bz_0, bz_1, nI_zero, eq_self, if_true, if_false, e1, if_neg hc]
  · unfold upd
    rw [if_neg (by omega)]
  · unfold upd
    by_cases hqp : q = p
    · rw [if_pos (by omega), if_pos hqp]
    · rw [if_neg (by omega), if_neg hqp]; exact h.rhe hq
/-- the story of a word -/
def stO (st : FN) (p : Nat) : Nat → Nat
  | 0 => 0
  | k + 1 => if st (k + 1) ≤ p then k + 1 else stO st p k
theorem stO_s {ns : Nat} {st : FN} (hW : SW ns st) {p K : Nat} (hK : K < ns) (h1 : st K ≤ p) (h2 : p < st (K + 1)) : stO st p (ns - 1) = K := by
  have key : ∀ j, K ≤ j → j < ns → stO st p j = K := by
    intro j
    induction j with
    | zero => intro a b; show 0 = K; omega
    | succ j ih =>
      intro a b
      show (if st (j + 1) ≤ p then j + 1 else stO st p j) = K
      by_cases hj : K = j + 1
      · subst hj; rw [if_pos h1]
      · have := hW.le (show K + 1 ≤ j + 1 by omega) (by omega)
        rw [if_neg (by omega)]
        exact ih (by omega) (by omega)
  exact key (ns - 1) (by omega) (by omega)
def Sh.so (A : Sh) (p : Nat) : Nat := stO A.st p (A.ns - 1)
theorem WF.so {A : Sh} (hW : WF A) {p : Nat} (hp : p < A.wn) : A.so p < A.ns ∧ A.st (A.so p) ≤ p ∧ p < A.st (A.so p + 1) := by
  obtain ⟨K, hK, h1, h2⟩ := hW.1.find (show p < A.st A.ns from hp)
  have : A.so p = K := stO_s hW.1 hK h1 h2
  rw [this]
  exact ⟨hK, h1, h2⟩
/-- the story K splits at the word p -/
def splitA (A : Sh) (K p : Nat) : Sh := Sh.mk A.se (A.ns + 1) (fun k => if k ≤ K then A.st k else if k = K + 1 then p else A.st (k - 1)) A.le A.he (fun k => if k ≤ K then A.fa k else A.fa (k - 1)) (fun k => if k ≤ K then A.ge k else if k = K + 1 then A.ge K + nI 1 else A.ge (k - 1)) A.nf A.sp A.bo A.fi
theorem split_st {A : Sh} {K p k : Nat} : (splitA A K p).st k = if k ≤ K then A.st k else if k = K + 1 then p else A.st (k - 1) := rfl
theorem split_wn {A : Sh} {K p : Nat} (hK : K < A.ns) : (splitA A K p).wn = A.wn := by
  show (splitA A K p).st (A.ns + 1) = A.st A.ns
  rw [split_st, if_neg (by omega), if_neg (by omega), show A.ns + 1 - 1 = A.ns by omega]
theorem WF.split {A : Sh} (hW : WF A) {K p : Nat} (hK : K < A.ns) (h1 : A.st K < p) (h2 : p < A.st (K + 1)) (hn : A.ns < 12) : WF (splitA A K p) := by
  refine ⟨⟨by show A.ns + 1 ≤ 12; omega, ?_, fun k (hk : k < A.ns + 1) => ?_, ?_⟩, hW.2.1, fun q hq => ?_⟩
  · rw [split_st, if_pos (Nat.zero_le _)]; exact hW.1.2.1
  · rw [split_st, split_st]
    rcases Nat.lt_trichotomy k K with q | q | q
    · rw [if_pos (by omega), if_pos (by omega)]; exact hW.1.2.2.1 k (by omega)
    · subst q; rw [if_pos (Nat.le_refl _), if_neg (by omega), if_pos rfl]; exact h1
    · by_cases q2 : k = K + 1
      · subst q2; rw [if_neg (by omega), if_pos rfl, if_neg (by omega), if_neg (by omega)]; exact h2
      · rw [if_neg (by omega), if_neg q2, if_neg (by omega), if_neg (by omega), show k + 1 - 1 = (k - 1) + 1 by omega]; exact hW.1.2.2.1 (k - 1) (by omega)
  · have : (splitA A K p).wn ≤ 150 := by rw [split_wn hK]; exact hW.w
    exact this
  · rw [split_wn hK] at hq
    exact hW.2.2 q hq
theorem le_dec (a b : Nat) : (le a b) = decide (a ≤ b) := rfl
section SPL
variable {Fu : Nat} {A : Sh} {se le he sa fa ge : Ar} {ns nf sp bo fi : Int32} {s : Ar}
theorem cpok_s {n0 n1 a b c : Nat} (h1 : a + c ≤ n0) (h2 : b + c ≤ n1) (h3 : n0 < 1000000) (h4 : n1 < 1000000) : cpok n0 n1 (nI a) (nI b) (nI c) = true := by
  have x1 : ¬ nI a < 0 := nI_pos (by omega)
  have x2 : ¬ nI b < 0 := nI_pos (by omega)
  have x3 : ¬ nI c < 0 := nI_pos (by omega)
  simp only [cpok, nn, le_dec, nI_clamp (show a < 2 ^ 31 by omega), nI_clamp (show b < 2 ^ 31 by omega), nI_clamp (show c < 2 ^ 31 by omega), x1, x2, x3, h1, h2, decide_true, decide_false, Bool.not_false, Bool.and_self]
theorem cpA_pt {f g : Ar} {a b c k : Nat} (ha : a < 1000000) (hb : b < 1000000) (hc : c < 1000000) : cpA f g (nI a) (nI b) (nI c) k = if b ≤ k ∧ k < b + c then f (a + (k - b)) else g k := by
  show va_cpy f g (nI a).toNatClampNeg (nI b).toNatClampNeg (nI c).toNatClampNeg k = _
  rw [nI_clamp (by omega), nI_clamp (by omega), nI_clamp (by omega)]
  rfl
theorem split_s (hW : WF A) (h : RV A se le he sa fa ge ns nf sp bo fi) {K p : Nat} (hK : K < A.ns) (hp : p < A.wn) (hn : A.ns < 12) : ∃ sa' fa' ge', f_X2_split Fu sa fa ge ns (nI K) (nI p) = some (sa', fa', ge', nI (A.ns + 1)) ∧ RV (splitA A K p) se le he sa' fa' ge' (nI (A.ns + 1)) nf sp bo fi := by
  have hw := hW.w
  have hnn := hW.n
  have c1 := cpok_s (n0 := 13) (n1 := 13) (a := K + 1) (b := K + 2) (c := A.ns - K) (by omega) (by omega) (by omega) (by omega)
  have c2 := cpok_s (n0 := 12) (n1 := 12) (a := K) (b := K + 1) (c := A.ns - K) (by omega) (by omega) (by omega) (by omega)
  refine ⟨upd (cpA sa sa (nI (K + 1)) (nI (K + 2)) (nI (A.ns - K))) (K + 1) (nI p), cpA fa fa (nI K) (nI (K + 1)) (nI (A.ns - K)), upd (cpA ge ge (nI K) (nI (K + 1)) (nI (A.ns - K))) (K + 1) ((cpA ge ge (nI K) (nI (K + 1)) (nI (A.ns - K))) (K + 1) + nI 1), ?_, ?_⟩
  · rw [h.rns]
    unfold f_X2_split
    simp (disch := omega) only [gd_true, nm_eq, jn_eq, bd1_s, bd2_s, bd3_s, bd4_s, bd5_s, bd6_s, bd7_s, bd8_s, bd9_s, bd10_s, bd11_s, bd12_s, nI_add, pk_mul, pk_subs, nI_m1s, ix_nIs, nI_clamps, nI_les, nI_lts, nI_eqs, bz_0, bz_1, nI_zero, eq_self, if_true, if_false, c1, c2]
  · refine ⟨h.1, ?_, ?_, fun k (hk : k ≤ A.ns + 1) => ?_, fun k (hk : k < A.ns + 1) => ?_, fun k (hk : k < A.ns + 1) => ?_, rfl, h.rnf, h.rsp, h.rbo, h.rfi⟩
    · intro q hq; rw [split_wn hK] at hq; exact h.rle hq
    · intro q hq; rw [split_wn hK] at hq; exact h.rhe hq
    · rw [split_st]
      unfold upd
      by_cases k1 : k = K + 1
      · rw [if_pos k1, if_neg (by omega), if_pos k1]
      · rw [if_neg k1, cpA_pt (by omega) (by omega) (by omega)]
        by_cases k2 : k ≤ K
        · rw [if_pos k2, if_neg (by omega)]; exact h.rsa (by omega)
        · rw [if_neg k2, if_neg k1, if_pos (by omega), show K + 1 + (k - (K + 2)) = k - 1 by omega]; exact h.rsa (by omega)
    · rw [cpA_pt (by omega) (by omega) (by omega)]
      show _ = if k ≤ K then A.fa k else A.fa (k - 1)
      by_cases k2 : k ≤ K
      · rw [if_pos k2, if_neg (by omega)]; exact h.rfa (by omega)
      · rw [if_neg k2, if_pos (by omega), show K + (k - (K + 1)) = k - 1 by omega]; exact h.rfa (by omega)
    · show _ = if k ≤ K then A.ge k else if k = K + 1 then A.ge K + nI 1 else A.ge (k - 1)
      unfold upd
      by_cases k1 : k = K + 1
      · rw [if_pos k1, if_neg (by omega), if_pos k1, cpA_pt (by omega) (by omega) (by omega), if_pos (by omega), show K + (K + 1 - (K + 1)) = K by omega, h.rge hK]
      · rw [if_neg k1, cpA_pt (by omega) (by omega) (by omega)]
        by_cases k2 : k ≤ K
        · rw [if_pos k2, if_neg (by omega)]; exact h.rge (by omega)
        · rw [if_neg k2, if_neg k1, if_pos (by omega), show K + (k - (K + 1)) = k - 1 by omega]; exact h.rge (by omega)
end SPL
