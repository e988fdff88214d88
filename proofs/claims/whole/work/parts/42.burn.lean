/-! PURE: a story is taken away, both sides; burn -/
def Sh.sz (A : Sh) (K : Nat) : Nat := A.st (K + 1) - A.st K
def removeA (A : Sh) (K : Nat) : Sh := Sh.mk A.se (A.ns - 1) (fun k => if k ≤ K then A.st k else A.st (k + 1) - A.sz K) (fun p => if p < A.st K then A.le p else A.le (p + A.sz K)) (fun p => if p < A.st K then A.he p else A.he (p + A.sz K)) (fun k => if k < K then A.fa k else A.fa (k + 1)) (fun k => if k < K then A.ge k else A.ge (k + 1)) A.nf A.sp A.bo A.fi
theorem rm_st {A : Sh} {K k : Nat} : (removeA A K).st k = if k ≤ K then A.st k else A.st (k + 1) - A.sz K := rfl
theorem rm_le {A : Sh} {K k : Nat} : (removeA A K).le k = if k < A.st K then A.le k else A.le (k + A.sz K) := rfl
theorem rm_he {A : Sh} {K k : Nat} : (removeA A K).he k = if k < A.st K then A.he k else A.he (k + A.sz K) := rfl
theorem rm_fa {A : Sh} {K k : Nat} : (removeA A K).fa k = if k < K then A.fa k else A.fa (k + 1) := rfl
theorem rm_ge {A : Sh} {K k : Nat} : (removeA A K).ge k = if k < K then A.ge k else A.ge (k + 1) := rfl
theorem rm_ns {A : Sh} {K : Nat} : (removeA A K).ns = A.ns - 1 := rfl
theorem rm_wn {A : Sh} (hW : WF A) {K : Nat} (hK : K < A.ns) : (removeA A K).wn = A.wn - A.sz K := by
  show (removeA A K).st (A.ns - 1) = A.st A.ns - A.sz K
  rw [rm_st]
  by_cases h : A.ns - 1 ≤ K
  · have e : A.ns = K + 1 := by omega
    have := hW.1.2.2.1 K hK
    rw [if_pos h, e, Nat.add_sub_cancel]
    unfold Sh.sz
    omega
  · rw [if_neg h, show A.ns - 1 + 1 = A.ns by omega]
theorem WF.sz {A : Sh} (hW : WF A) {K : Nat} (hK : K < A.ns) : 0 < A.sz K ∧ A.st K + A.sz K = A.st (K + 1) ∧ A.st (K + 1) ≤ A.wn := by
  have h1 := hW.1.2.2.1 K hK
  have h2 : A.st (K + 1) ≤ A.st A.ns := hW.1.le (show K + 1 ≤ A.ns by omega) (Nat.le_refl _)
  refine ⟨?_, ?_, h2⟩ <;> unfold Sh.sz <;> omega
theorem WF.remove {A : Sh} (hW : WF A) {K : Nat} (hK : K < A.ns) : WF (removeA A K) := by
  have hn := hW.n
  obtain ⟨z1, z2, z3⟩ := hW.sz hK
  have hw := hW.w
  refine ⟨⟨by show A.ns - 1 ≤ 12; omega, ?_, fun k (hk : k < A.ns - 1) => ?_, ?_⟩, hW.2.1, fun q hq => ?_⟩
  · rw [rm_st, if_pos (Nat.zero_le _)]; exact hW.1.2.1
  · rw [rm_st, rm_st]
    by_cases h : k + 1 ≤ K
    · rw [if_pos (by omega), if_pos h]; exact hW.1.2.2.1 k (by omega)
    · by_cases h2 : k = K
      · subst h2
        have := hW.1.2.2.1 (k + 1) (by omega)
        rw [if_pos (Nat.le_refl _), if_neg h]
        omega
      · have h3 := hW.1.2.2.1 (k + 1) (by omega)
        have h4 := hW.1.le (show K + 1 ≤ k + 1 by omega) (show k + 1 ≤ A.ns by omega)
        rw [if_neg (by omega), if_neg h]
        omega
  · have : (removeA A K).wn ≤ 150 := by rw [rm_wn hW hK]; omega
    exact this
  · rw [rm_wn hW hK] at hq
    rw [rm_le, rm_he]
    by_cases h : q < A.st K
    · rw [if_pos h, if_pos h]; exact hW.2.2 q (by omega)
    · rw [if_neg h, if_neg h]; exact hW.2.2 (q + A.sz K) (by omega)
def rmSt (sa : Ar) (n K i : Nat) : Ar := fun k => if K ≤ k ∧ k < i then sa (k + 1) - nI n else sa k
theorem rmSt_step (sa : Ar) {n K i : Nat} (h : K ≤ i) : upd (rmSt sa n K i) i (rmSt sa n K i (i + 1) - nI n) = rmSt sa n K (i + 1) := by
  have e : rmSt sa n K i (i + 1) = sa (i + 1) := by unfold rmSt; rw [if_neg (by omega)]
  rw [e]
  funext j
  unfold upd
  by_cases h1 : j = i
  · subst h1; unfold rmSt; rw [if_pos rfl, if_pos (by omega)]
  · unfold rmSt
    by_cases h2 : K ≤ j ∧ j < i
    · rw [if_neg h1, if_pos h2, if_pos (by omega)]
    · rw [if_neg h1, if_neg h2, if_neg (by omega)]
section RMV
variable {Fu : Nat} {A : Sh} {se le he sa fa ge : Ar} {ns nf sp bo fi : Int32}
theorem remove_L (Fu : Nat) (k : Ar → Option (Ar × Ar × Ar × Ar × Ar × Int32)) {K a b n m : Nat} (hm : m ≤ 12) (ha : sa K = nI a) (hab : b = a + n) (hb : b ≤ 150) : ∀ (fu i : Nat), K ≤ i → i ≤ m → m - i < fu → f_X2_remove_L101 Fu k sa (nI m) (nI K) (nI b) fu (nI i) (rmSt sa n K i) = k (rmSt sa n K m) := by
  intro fu
  induction fu with
  | zero => intro i h1 h2 h3; omega
  | succ fu ih =>
    intro i h1 h2 h3
    rw [f_X2_remove_L101_s]
    by_cases hh : m ≤ i
    · have e : i = m := by omega
      subst e
      simp (disch := omega) only [gd_true, nm_eq, jn_eq, bd1_s, bd2_s, bd3_s, bd4_s, bd5_s, bd6_s, bd7_s, bd8_s, bd9_s, bd10_s, bd11_s, bd12_s, nI_add, pk_mul, pk_subs, nI_m1s, ix_nIs, nI_clamps, nI_les, nI_lts, nI_eqs, bz_0, bz_1, nI_zero, eq_self, if_true, if_false, if_pos (Nat.le_refl _)]
    · have e2 : b - a = n := by omega
      rw [← ih (i + 1) (by omega) (by omega) (by omega), ← rmSt_step sa h1]
      simp (disch := omega) only [gd_true, nm_eq, jn_eq, bd1_s, bd2_s, bd3_s, bd4_s, bd5_s, bd6_s, bd7_s, bd8_s, bd9_s, bd10_s, bd11_s, bd12_s, nI_add, pk_mul, pk_subs, nI_m1s, ix_nIs, nI_clamps, nI_les, nI_lts, nI_eqs, bz_0, bz_1, nI_zero, eq_self, if_true, if_false, if_neg hh, ha, e2]
theorem remove_s (hF : 20000000 ≤ Fu) (hW : WF A) (h : RV A se le he sa fa ge ns nf sp bo fi) {K : Nat} (hK : K < A.ns) : ∃ le' he' sa' fa' ge', f_X2_remove Fu le he sa fa ge ns (nI K) = some (le', he', sa', fa', ge', nI (A.ns - 1)) ∧ RV (removeA A K) se le' he' sa' fa' ge' (nI (A.ns - 1)) nf sp bo fi := by
  have hn := hW.n
  have hw := hW.w
  obtain ⟨z1, z2, z3⟩ := hW.sz hK
  have e1 := h.rsa (show K ≤ A.ns by omega)
  have e2 := h.rsa (show K + 1 ≤ A.ns by omega)
  have e3 := words_r (Fu := Fu) hW h
  have c1 := cpok_s (n0 := 150) (n1 := 150) (a := A.st (K + 1)) (b := A.st K) (c := A.wn - A.st (K + 1)) (by omega) (by omega) (by omega) (by omega)
  have c2 := cpok_s (n0 := 12) (n1 := 12) (a := K + 1) (b := K) (c := A.ns - 1 - K) (by omega) (by omega) (by omega) (by omega)
  have r0 : rmSt sa (A.sz K) K K = sa := by
    funext j
    unfold rmSt
    rw [if_neg (by omega)]
  have el : ∀ k, f_X2_remove_L101 Fu k sa (nI A.ns) (nI K) (nI (A.st (K + 1))) Fu (nI K) sa = k (rmSt sa (A.sz K) K A.ns) := fun k => by
    have := remove_L (sa := sa) Fu k (K := K) (a := A.st K) (b := A.st (K + 1)) (n := A.sz K) (m := A.ns) (by omega) e1 z2.symm (by omega) Fu K (Nat.le_refl _) (by omega) (by omega)
    rw [r0] at this
    exact this
  refine ⟨cpA le le (nI (A.st (K + 1))) (nI (A.st K)) (nI (A.wn - A.st (K + 1))), cpA he he (nI (A.st (K + 1))) (nI (A.st K)) (nI (A.wn - A.st (K + 1))), rmSt sa (A.sz K) K A.ns, cpA fa fa (nI (K + 1)) (nI K) (nI (A.ns - 1 - K)), cpA ge ge (nI (K + 1)) (nI K) (nI (A.ns - 1 - K)), ?_, ?_⟩
  · have hns := h.rns
    rw [hns] at e3
    rw [hns]
    unfold f_X2_remove
    simp (disch := omega) only [gd_true, nm_eq, jn_eq, bd1_s, bd2_s, bd3_s, bd4_s, bd5_s, bd6_s, bd7_s, bd8_s, bd9_s, bd10_s, bd11_s, bd12_s, nI_add, pk_mul, pk_subs, nI_m1s, ix_nIs, nI_clamps, nI_les, nI_lts, nI_eqs, bz_0, bz_1, nI_zero, eq_self, if_true, if_false, e1, e2, e3, c1, c2, el]
  · refine ⟨h.1, fun p hp => ?_, fun p hp => ?_, fun k (hk : k ≤ A.ns - 1) => ?_, fun k (hk : k < A.ns - 1) => ?_, fun k (hk : k < A.ns - 1) => ?_, rfl, h.rnf, h.rsp, h.rbo, h.rfi⟩
    · rw [rm_wn hW hK] at hp
      rw [cpA_pt (by omega) (by omega) (by omega), rm_le]
      by_cases c : p < A.st K
      · rw [if_neg (by omega), if_pos c]; exact h.rle (by omega)
      · rw [if_pos (by omega), if_neg c, show A.st (K + 1) + (p - A.st K) = p + A.sz K by omega]; exact h.rle (by omega)
    · rw [rm_wn hW hK] at hp
      rw [cpA_pt (by omega) (by omega) (by omega), rm_he]
      by_cases c : p < A.st K
      · rw [if_neg (by omega), if_pos c]; exact h.rhe (by omega)
      · rw [if_pos (by omega), if_neg c, show A.st (K + 1) + (p - A.st K) = p + A.sz K by omega]; exact h.rhe (by omega)
    · rw [rm_st]
      unfold rmSt
      by_cases c : K ≤ k ∧ k < A.ns
      · have q := hW.1.le (show K + 1 ≤ k + 1 by omega) (show k + 1 ≤ A.ns by omega)
        rw [if_pos c, h.rsa (by omega), pk_subs (by omega)]
        by_cases c2 : k ≤ K
        · have e : k = K := by omega
          subst e
          rw [if_pos c2]
          congr 1
          omega
        · rw [if_neg c2]
      · rw [if_neg c]
        by_cases c2 : k ≤ K
        · rw [if_pos c2]; exact h.rsa (by omega)
        · exfalso; omega
    · rw [cpA_pt (by omega) (by omega) (by omega), rm_fa]
      by_cases c : k < K
      · rw [if_neg (by omega), if_pos c]; exact h.rfa (by omega)
      · rw [if_pos (by omega), if_neg c, show K + 1 + (k - K) = k + 1 by omega]; exact h.rfa (by omega)
    · rw [cpA_pt (by omega) (by omega) (by omega), rm_ge]
      by_cases c : k < K
      · rw [if_neg (by omega), if_pos c]; exact h.rge (by omega)
      · rw [if_pos (by omega), if_neg c, show K + 1 + (k - K) = k + 1 by omega]; exact h.rge (by omega)
end RMV
def rwF (s : Ar) (n b i : Nat) : Ar := fun j => if (45 + b ≤ j ∧ j < 45 + i) ∨ (195 + b ≤ j ∧ j < 195 + i) then s (j + n) else s j
theorem rwF_step (s : Ar) {n b i : Nat} (h : b ≤ i) (hi : i + n < 150) : upd (upd (rwF s n b i) (45 + i) (rwF s n b i (45 + i + n))) (195 + i) ((upd (rwF s n b i) (45 + i) (rwF s n b i (45 + i + n))) (195 + i + n)) = rwF s n b (i + 1) := by
  have e1 : rwF s n b i (45 + i + n) = s (45 + i + n) := by unfold rwF; rw [if_neg (by omega)]
  have e2 : rwF s n b i (195 + i + n) = s (195 + i + n) := by unfold rwF; rw [if_neg (by omega)]
  rw [upd_ne (show 195 + i + n ≠ 45 + i by omega), e1, e2]
  funext j
  unfold upd
  by_cases h2 : j = 195 + i
  · subst h2; unfold rwF; rw [if_pos rfl, if_pos (by omega)]
  · rw [if_neg h2]
    by_cases h1 : j = 45 + i
    · subst h1; unfold rwF; rw [if_pos rfl, if_pos (by omega)]
    · rw [if_neg h1]
      unfold rwF
      by_cases hc : (45 + b ≤ j ∧ j < 45 + i) ∨ (195 + b ≤ j ∧ j < 195 + i)
      · rw [if_pos hc, if_pos (by omega)]
      · rw [if_neg hc, if_neg (by omega)]
theorem rwF_0 (s : Ar) (n b : Nat) : rwF s n b b = s := by
  funext j
  unfold rwF
  rw [if_neg (by omega)]
theorem removeWords_L (Fu : Nat) (k : Ar → Option Ar) (s : Ar) {n b m : Nat} (hm : m + n ≤ 150) (h4 : s 4 = nI m) : ∀ (fu i : Nat), b ≤ i → i ≤ m → m - i < fu → f_X4_removeWords_L12 Fu k (nI n) fu (nI i) (rwF s n b i) = k (rwF s n b m) := by
  intro fu
  induction fu with
  | zero => intro i h1 h2 h3; omega
  | succ fu ih =>
    intro i h1 h2 h3
    have e4 : rwF s n b i 4 = nI m := by unfold rwF; rw [if_neg (by omega)]; exact h4
    rw [f_X4_removeWords_L12_s]
    by_cases hh : m ≤ i
    · have e : i = m := by omega
      subst e
      simp (disch := omega) only [gd_true, nm_eq, jn_eq, bd1_s, bd2_s, bd3_s, bd4_s, bd5_s, bd6_s, bd7_s, bd8_s, bd9_s, bd10_s, bd11_s, bd12_s, nI_add, pk_mul, pk_subs, nI_m1s, ix_nIs, nI_clamps, nI_les, nI_lts, nI_eqs, bz_0, bz_1, nI_zero, eq_self, if_true, if_false, e4, if_pos (Nat.le_refl _)]
    · rw [← ih (i + 1) (by omega) (by omega) (by omega), ← rwF_step s h1 (by omega)]
      simp (disch := omega) only [gd_true, nm_eq, jn_eq, bd1_s, bd2_s, bd3_s, bd4_s, bd5_s, bd6_s, bd7_s, bd8_s, bd9_s, bd10_s, bd11_s, bd12_s, nI_add, pk_mul, pk_subs, nI_m1s, ix_nIs, nI_clamps, nI_les, nI_lts, nI_eqs, bz_0, bz_1, nI_zero, eq_self, if_true, if_false, if_neg hh, e4]
theorem removeWords_s {Fu : Nat} (hF : 20000000 ≤ Fu) {s : Ar} {n b m : Nat} (hm : m + n ≤ 150) (hb : b ≤ m) (h4 : s 4 = nI (m + n)) : f_X4_removeWords Fu s (nI b) (nI n) = some (rwF (upd s 4 (nI m)) n b m) := by
  have e := removeWords_L Fu (fun q => some q) (upd s 4 (nI m)) (n := n) (b := b) hm upd_eq Fu b (Nat.le_refl _) hb (by omega)
  rw [rwF_0] at e
  unfold f_X4_removeWords
  rw [jn_eq, h4, pk_subs (by omega), Nat.add_sub_cancel]
  exact e
def rsF (s : Ar) (K i : Nat) : Ar := fun j => if (9 + K ≤ j ∧ j < 9 + i) ∨ (21 + K ≤ j ∧ j < 21 + i) ∨ (33 + K ≤ j ∧ j < 33 + i) then s (j + 1) else s j
theorem rsF_step (s : Ar) {K i : Nat} (h : K ≤ i) (hi : i + 1 < 12) : upd (upd (upd (rsF s K i) (9 + i) (rsF s K i (9 + i + 1))) (21 + i) ((upd (rsF s K i) (9 + i) (rsF s K i (9 + i + 1))) (21 + i + 1))) (33 + i) ((upd (upd (rsF s K i) (9 + i) (rsF s K i (9 + i + 1))) (21 + i) ((upd (rsF s K i) (9 + i) (rsF s K i (9 + i + 1))) (21 + i + 1))) (33 + i + 1)) = rsF s K (i + 1) := by
  have e1 : rsF s K i (9 + i + 1) = s (9 + i + 1) := by unfold rsF; rw [if_neg (by omega)]
  have e2 : rsF s K i (21 + i + 1) = s (21 + i + 1) := by unfold rsF; rw [if_neg (by omega)]
  have e3 : rsF s K i (33 + i + 1) = s (33 + i + 1) := by unfold rsF; rw [if_neg (by omega)]
  rw [upd_ne (show 33 + i + 1 ≠ 21 + i by omega), upd_ne (show 33 + i + 1 ≠ 9 + i by omega), upd_ne (show 21 + i + 1 ≠ 9 + i by omega), e1, e2, e3]
  funext j
  unfold upd
  by_cases h3 : j = 33 + i
  · subst h3; unfold rsF; rw [if_pos rfl, if_pos (by omega)]
  · rw [if_neg h3]
    by_cases h2 : j = 21 + i
    · subst h2; unfold rsF; rw [if_pos rfl, if_pos (by omega)]
    · rw [if_neg h2]
      by_cases h1 : j = 9 + i
      · subst h1; unfold rsF; rw [if_pos rfl, if_pos (by omega)]
      · rw [if_neg h1]
        unfold rsF
        by_cases hc : (9 + K ≤ j ∧ j < 9 + i) ∨ (21 + K ≤ j ∧ j < 21 + i) ∨ (33 + K ≤ j ∧ j < 33 + i)
        · rw [if_pos hc, if_pos (by omega)]
        · rw [if_neg hc, if_neg (by omega)]
theorem rsF_0 (s : Ar) (K : Nat) : rsF s K K = s := by
  funext j
  unfold rsF
  rw [if_neg (by omega)]
theorem removeStory_L (Fu : Nat) (k : Ar → Option Ar) (s : Ar) {K m : Nat} (hm : m < 12) (h3 : s 3 = nI m) : ∀ (fu i : Nat), K ≤ i → i ≤ m → m - i < fu → f_X4_removeStory_L12 Fu k fu (nI i) (rsF s K i) = k (rsF s K m) := by
  intro fu
  induction fu with
  | zero => intro i h1 h2 h3; omega
  | succ fu ih =>
    intro i h1 h2 h5
    have e3 : rsF s K i 3 = nI m := by unfold rsF; rw [if_neg (by omega)]; exact h3
    rw [f_X4_removeStory_L12_s]
    by_cases hh : m ≤ i
    · have e : i = m := by omega
      subst e
      simp (disch := omega) only [gd_true, nm_eq, jn_eq, bd1_s, bd2_s, bd3_s, bd4_s, bd5_s, bd6_s, bd7_s, bd8_s, bd9_s, bd10_s, bd11_s, bd12_s, nI_add, pk_mul, pk_subs, nI_m1s, ix_nIs, nI_clamps, nI_les, nI_lts, nI_eqs, bz_0, bz_1, nI_zero, eq_self, if_true, if_false, e3, if_pos (Nat.le_refl _)]
    · rw [← ih (i + 1) (by omega) (by omega) (by omega), ← rsF_step s h1 (by omega)]
      simp (disch := omega) only [gd_true, nm_eq, jn_eq, bd1_s, bd2_s, bd3_s, bd4_s, bd5_s, bd6_s, bd7_s, bd8_s, bd9_s, bd10_s, bd11_s, bd12_s, nI_add, pk_mul, pk_subs, nI_m1s, ix_nIs, nI_clamps, nI_les, nI_lts, nI_eqs, bz_0, bz_1, nI_zero, eq_self, if_true, if_false, if_neg hh, e3]
theorem removeStory_s {Fu : Nat} (hF : 20000000 ≤ Fu) {s : Ar} {K m : Nat} (hm : m < 12) (hK : K ≤ m) (h3 : s 3 = nI (m + 1)) : f_X4_removeStory Fu s (nI K) = some (rsF (upd s 3 (nI m)) K m) := by
  have e := removeStory_L Fu (fun q => some q) (upd s 3 (nI m)) (K := K) hm upd_eq Fu K (Nat.le_refl _) hK (by omega)
  rw [rsF_0] at e
  unfold f_X4_removeStory
  rw [jn_eq, h3, pk_subs (by omega), Nat.add_sub_cancel]
  exact e
/-- words, then story: what the reference holds afterwards -/
theorem remove4_s {Fu : Nat} (hF : 20000000 ≤ Fu) {A : Sh} {s : Ar} (hW : WF A) (h : RS A s) {K : Nat} (hK : K < A.ns) : ∃ s1 s2, f_X4_removeWords Fu s (nI (A.st K)) (nI (A.sz K)) = some s1 ∧ f_X4_removeStory Fu s1 (nI K) = some s2 ∧ RS (removeA A K) s2 := by
  have hn := hW.n
  have hw := hW.w
  obtain ⟨z1, z2, z3⟩ := hW.sz hK
  have q1 := removeWords_s hF (s := s) (n := A.sz K) (b := A.st K) (m := A.wn - A.sz K) (by omega) (by omega) (by rw [h.rwn]; congr 1; omega)
  have b3 : rwF (upd s 4 (nI (A.wn - A.sz K))) (A.sz K) (A.st K) (A.wn - A.sz K) 3 = nI (A.ns - 1 + 1) := by
    unfold rwF
    rw [if_neg (by omega), upd_ne (by omega), h.rns]
    congr 1
    omega
  have q2 := removeStory_s hF (s := rwF (upd s 4 (nI (A.wn - A.sz K))) (A.sz K) (A.st K) (A.wn - A.sz K)) (K := K) (m := A.ns - 1) (by omega) (by omega) b3
  refine ⟨_, _, q1, q2, ?_⟩
  have lo : ∀ j, j < 9 → j ≠ 3 → rsF (upd (rwF (upd s 4 (nI (A.wn - A.sz K))) (A.sz K) (A.st K) (A.wn - A.sz K)) 3 (nI (A.ns - 1))) K (A.ns - 1) j = upd s 4 (nI (A.wn - A.sz K)) j := fun j h1 h2 => by
    unfold rsF rwF
    rw [if_neg (by omega), upd_ne h2, if_neg (by omega)]
  have st : ∀ j, 9 ≤ j → j < 45 → (upd (rwF (upd s 4 (nI (A.wn - A.sz K))) (A.sz K) (A.st K) (A.wn - A.sz K)) 3 (nI (A.ns - 1))) j = s j := fun j h1 h2 => by
    unfold rwF
    rw [upd_ne (by omega), if_neg (by omega), upd_ne (by omega)]
  have wd : ∀ j, 45 ≤ j → rsF (upd (rwF (upd s 4 (nI (A.wn - A.sz K))) (A.sz K) (A.st K) (A.wn - A.sz K)) 3 (nI (A.ns - 1))) K (A.ns - 1) j = (if (45 + A.st K ≤ j ∧ j < 45 + (A.wn - A.sz K)) ∨ (195 + A.st K ≤ j ∧ j < 195 + (A.wn - A.sz K)) then s (j + A.sz K) else s j) := fun j h1 => by
    unfold rsF rwF
    rw [if_neg (by omega), upd_ne (by omega)]
    by_cases hc : (45 + A.st K ≤ j ∧ j < 45 + (A.wn - A.sz K)) ∨ (195 + A.st K ≤ j ∧ j < 195 + (A.wn - A.sz K))
    · rw [if_pos hc, if_pos hc, upd_ne (by omega)]
    · rw [if_neg hc, if_neg hc, upd_ne (by omega)]
  refine ⟨fun i hi => ?_, ?_, ?_, ?_, ?_, ?_, ?_, fun k (hk : k < A.ns - 1) => ?_, fun k (hk : k < A.ns - 1) => ?_, fun k (hk : k < A.ns - 1) => ?_, fun p hp => ?_, fun p hp => ?_⟩
  · rw [lo i (by omega) (by omega), upd_ne (by omega)]; exact h.rse hi
  · unfold rsF; rw [if_neg (by omega), upd_eq]; rfl
  · rw [lo 4 (by omega) (by omega), upd_eq, rm_wn hW hK]
  · rw [lo 5 (by omega) (by omega), upd_ne (by omega)]; exact h.rnf
  · rw [lo 6 (by omega) (by omega), upd_ne (by omega)]; exact h.rsp
  · rw [lo 7 (by omega) (by omega), upd_ne (by omega)]; exact h.rbo
  · rw [lo 8 (by omega) (by omega), upd_ne (by omega)]; exact h.rfi
  · rw [rm_st, rm_st]
    unfold rsF
    by_cases c : k < K
    · rw [if_neg (by omega), st _ (by omega) (by omega), if_pos (by omega), if_pos (by omega)]; exact h.rlo (by omega)
    · have q := hW.1.le (show K + 1 ≤ k + 1 by omega) (show k + 1 ≤ A.ns by omega)
      rw [if_pos (by omega), st _ (by omega) (by omega), if_neg (show ¬ k + 1 ≤ K by omega), show 9 + k + 1 = 9 + (k + 1) by omega, h.rlo (by omega)]
      congr 1
      by_cases c2 : k = K
      · subst c2; rw [if_pos (Nat.le_refl _)]; omega
      · rw [if_neg (by omega)]; omega
  · rw [rm_fa]
    unfold rsF
    by_cases c : k < K
    · rw [if_neg (by omega), st _ (by omega) (by omega), if_pos c]; exact h.rfa (by omega)
    · rw [if_pos (by omega), st _ (by omega) (by omega), if_neg c, show 21 + k + 1 = 21 + (k + 1) by omega]; exact h.rfa (by omega)
  · rw [rm_ge]
    unfold rsF
    by_cases c : k < K
    · rw [if_neg (by omega), st _ (by omega) (by omega), if_pos c]; exact h.rge (by omega)
    · rw [if_pos (by omega), st _ (by omega) (by omega), if_neg c, show 33 + k + 1 = 33 + (k + 1) by omega]; exact h.rge (by omega)
  · rw [rm_wn hW hK] at hp
    rw [wd _ (by omega), rm_le]
    by_cases c : p < A.st K
    · rw [if_neg (by omega), if_pos c]; exact h.rle (by omega)
    · rw [if_pos (by omega), if_neg c, Nat.add_assoc]; exact h.rle (by omega)
  · rw [rm_wn hW hK] at hp
    rw [wd _ (by omega), rm_he]
    by_cases c : p < A.st K
    · rw [if_neg (by omega), if_pos c]; exact h.rhe (by omega)
    · rw [if_pos (by omega), if_neg c, Nat.add_assoc]; exact h.rhe (by omega)
section BU
variable {Fu M : Nat} {A : Sh} {se le he sa fa ge : Ar} {ns nf sp bo fi : Int32} {s : Ar} {hs : Nat → Sh} {o z : Nat} {hv : Nat → SV} {be : Ar}
theorem sim_burn (hF : 20000000 ≤ Fu) (hW : WF A) (hM : A.sp ≤ M) (h : RV A se le he sa fa ge ns nf sp bo fi) (g : RS A s) (hH : HR M hs o z hv be) (p : Int32) :
    ∃ r B hs' o' z' hv' be' le' he' sa' fa' ge' ns' s', WF B ∧ B.sp ≤ M ∧ RV B se le' he' sa' fa' ge' ns' nf sp bo fi ∧ RS B s' ∧ HR M hs' o' z' hv' be' ∧
      f_X3_burn Fu se le he sa fa ge ns nf sp bo fi hv (nI o) (nI z) p = some (r, le', he', sa', fa', ge', ns', hv', nI o', nI z') ∧ f_X4_burn Fu s be (nI z) p = some (r, s', be', nI z') := by
  have hn := hW.n
  have a1 := hasStory_s Fu p (show A.ns < 1000000 by omega)
  have a2 := isStory_s Fu p g.rns (show A.ns < 1000000 by omega)
  rw [← h.rns] at a1
  unfold f_X3_burn f_X4_burn
  rw [a1, a2, bd1_s, bd1_s]
  by_cases hq : isS A.ns p = true
  · rw [if_pos hq, if_neg one_ne, if_neg one_ne]
    obtain ⟨k, hk, rfl⟩ := isS_t hq (by omega)
    obtain ⟨hs', o', z', hv', be', q1, q2, q3⟩ := rec_sim hF hW hM h g hH
    have e1 : f_X2_sizeOf Fu sa (nI k) = some (nI (A.sz k)) := sizeOf_s Fu hW.1 (fun j hj => h.rsa hj) hk
    have e2 : s (9 + k) = nI (A.sz k) := g.rlo hk
    have e3 := first_r hF hW g (show k ≤ A.ns by omega)
    obtain ⟨le', he', sa', fa', ge', r1, r2⟩ := remove_s hF hW h hk
    obtain ⟨s1, s2, v1, v2, v3⟩ := remove4_s hF hW g hk
    refine ⟨nI (A.sz k), removeA A k, hs', o', z', hv', be', le', he', sa', fa', ge', nI (A.ns - 1), s2, hW.remove hk, hM, r2, v3, q1, ?_, ?_⟩
    · rw [q2, bd3_s, e1, bd1_s, r1, bd6_s]
    · rw [q3, bd2_s, nI_add, ix_nIs (by omega) (by omega), gd_true, nI_clamps (by omega), e2, nm_eq, e3, bd1_s, v1, bd1_s, v2, bd1_s]
  · rw [if_neg hq, if_pos zero_eq, if_pos zero_eq]
    exact ⟨-1, A, hs, o, z, hv, be, le, he, sa, fa, ge, ns, s, hW, hM, h, g, hH, rfl, rfl⟩
end BU
