/-! PURE: words put at a story's end, both sides; fuse -/
def insA (B : Sh) (t n : Nat) (fl fh : FN) (g : Int32) : Sh := Sh.mk B.se B.ns (fun k => if k ≤ t then B.st k else B.st k + n) (fun p => if p < B.st (t + 1) then B.le p else if p < B.st (t + 1) + n then fl (p - B.st (t + 1)) else B.le (p - n)) (fun p => if p < B.st (t + 1) then B.he p else if p < B.st (t + 1) + n then fh (p - B.st (t + 1)) else B.he (p - n)) B.fa (fun k => if k = t then g else B.ge k) B.nf B.sp B.bo B.fi
section INS
variable {B : Sh} {t n : Nat} {fl fh : FN} {g : Int32}
theorem in_st {k : Nat} : (insA B t n fl fh g).st k = if k ≤ t then B.st k else B.st k + n := rfl
theorem in_le {p : Nat} : (insA B t n fl fh g).le p = if p < B.st (t + 1) then B.le p else if p < B.st (t + 1) + n then fl (p - B.st (t + 1)) else B.le (p - n) := rfl
theorem in_he {p : Nat} : (insA B t n fl fh g).he p = if p < B.st (t + 1) then B.he p else if p < B.st (t + 1) + n then fh (p - B.st (t + 1)) else B.he (p - n) := rfl
theorem in_ge {k : Nat} : (insA B t n fl fh g).ge k = if k = t then g else B.ge k := rfl
theorem in_wn (ht : t < B.ns) : (insA B t n fl fh g).wn = B.wn + n := by
  show (insA B t n fl fh g).st B.ns = B.st B.ns + n
  rw [in_st, if_neg (by omega)]
theorem WF.ins (hW : WF B) (ht : t < B.ns) (hn : B.wn + n ≤ 150) (hf : ∀ j, j < n → fl j < 26 ∧ fh j ≤ 999) : WF (insA B t n fl fh g) := by
  have q2 : B.st (t + 1) ≤ B.wn := hW.1.le (show t + 1 ≤ B.ns by omega) (Nat.le_refl _)
  refine ⟨⟨hW.1.1, ?_, fun k (hk : k < B.ns) => ?_, ?_⟩, hW.2.1, fun p hp => ?_⟩
  · rw [in_st, if_pos (Nat.zero_le _)]; exact hW.1.2.1
  · have q := hW.1.2.2.1 k hk
    rw [in_st, in_st]
    by_cases c : k + 1 ≤ t
    · rw [if_pos (by omega), if_pos c]; exact q
    · by_cases c2 : k ≤ t
      · rw [if_pos c2, if_neg c]; omega
      · rw [if_neg c2, if_neg c]; omega
  · have : (insA B t n fl fh g).wn ≤ 150 := by rw [in_wn ht]; exact hn
    exact this
  · rw [in_wn ht] at hp
    rw [in_le, in_he]
    by_cases c : p < B.st (t + 1)
    · rw [if_pos c, if_pos c]; exact hW.2.2 p (by omega)
    · rw [if_neg c, if_neg c]
      by_cases c2 : p < B.st (t + 1) + n
      · rw [if_pos c2, if_pos c2]; exact hf _ (by omega)
      · rw [if_neg c2, if_neg c2]; exact hW.2.2 _ (by omega)
end INS
def apSt (sa : Ar) (n a i : Nat) : Ar := fun k => if a ≤ k ∧ k < i then sa k + nI n else sa k
theorem apSt_step (sa : Ar) {n a i : Nat} (h : a ≤ i) : upd (apSt sa n a i) i (apSt sa n a i i + nI n) = apSt sa n a (i + 1) := by
  have e : apSt sa n a i i = sa i := by unfold apSt; rw [if_neg (by omega)]
  rw [e]
  funext j
  unfold upd
  by_cases h1 : j = i
  · subst h1; unfold apSt; rw [if_pos rfl, if_pos (by omega)]
  · unfold apSt
    by_cases h2 : a ≤ j ∧ j < i
    · rw [if_neg h1, if_pos h2, if_pos (by omega)]
    · rw [if_neg h1, if_neg h2, if_neg (by omega)]
theorem append_L (Fu : Nat) (k : Ar → Option (Ar × Ar × Ar)) (sa : Ar) {a n m : Nat} (hm : m ≤ 12) : ∀ (fu i : Nat), a ≤ i → i ≤ m + 1 → m + 1 - i < fu → f_X2_append_L113 Fu k (nI m) (nI n) fu (nI i) (apSt sa n a i) = k (apSt sa n a (m + 1)) := by
  intro fu
  induction fu with
  | zero => intro i h1 h2 h3; omega
  | succ fu ih =>
    intro i h1 h2 h3
    rw [f_X2_append_L113_s]
    by_cases hh : m < i
    · have e : i = m + 1 := by omega
      subst e
      simp (disch := omega) only [gd_true, nm_eq, jn_eq, bd1_s, bd2_s, bd3_s, bd4_s, bd5_s, bd6_s, bd7_s, bd8_s, bd9_s, bd10_s, bd11_s, bd12_s, nI_add, pk_mul, pk_subs, nI_m1s, ix_nIs, nI_clamps, nI_les, nI_lts, nI_eqs, bz_0, bz_1, nI_zero, eq_self, if_true, if_false, if_pos (Nat.lt_succ_self _)]
    · rw [← ih (i + 1) (by omega) (by omega) (by omega), ← apSt_step sa h1]
      simp (disch := omega) only [gd_true, nm_eq, jn_eq, bd1_s, bd2_s, bd3_s, bd4_s, bd5_s, bd6_s, bd7_s, bd8_s, bd9_s, bd10_s, bd11_s, bd12_s, nI_add, pk_mul, pk_subs, nI_m1s, ix_nIs, nI_clamps, nI_les, nI_lts, nI_eqs, bz_0, bz_1, nI_zero, eq_self, if_true, if_false, if_neg hh]
section APP
variable {Fu : Nat} {A B : Sh} {se le he sa fa ge ose ole ohe osa ofa oge : Ar} {ns nf sp bo fi ons onf osp obo ofi : Int32}
theorem append_s (hF : 20000000 ≤ Fu) (hW : WF A) (hB : WF B) (h : RV B se le he sa fa ge ns nf sp bo fi) (o : RV A ose ole ohe osa ofa oge ons onf osp obo ofi) {t P : Nat} (ht : t < B.ns) (hP : P < A.ns) (hs : B.wn + A.sz P ≤ 150) (g : Int32) :
    ∃ le' he' sa', f_X2_append Fu le he sa ns ole ohe osa (nI t) (nI P) = some (le', he', sa') ∧ RV (insA B t (A.sz P) (fun j => A.le (A.st P + j)) (fun j => A.he (A.st P + j)) g) se le' he' sa' fa (upd ge t g) ns nf sp bo fi := by
  have hn := hB.n
  have hna := hW.n
  have hwa := hW.w
  obtain ⟨z1, z2, z3⟩ := hW.sz hP
  have q2 : B.st (t + 1) ≤ B.wn := hB.1.le (show t + 1 ≤ B.ns by omega) (Nat.le_refl _)
  have e1 := h.rsa (show t + 1 ≤ B.ns by omega)
  have e2 := o.rsa (show P ≤ A.ns by omega)
  have e3 := words_r (Fu := Fu) hB h
  have e4 : f_X2_sizeOf Fu osa (nI P) = some (nI (A.sz P)) := sizeOf_s Fu hW.1 (fun j hj => o.rsa hj) hP
  have c1 := cpok_s (n0 := 150) (n1 := 150) (a := B.st (t + 1)) (b := B.st (t + 1) + A.sz P) (c := B.wn - B.st (t + 1)) (by omega) (by omega) (by omega) (by omega)
  have c2 := cpok_s (n0 := 150) (n1 := 150) (a := A.st P) (b := B.st (t + 1)) (c := A.sz P) (by omega) (by omega) (by omega) (by omega)
  have r0 : apSt sa (A.sz P) (t + 1) (t + 1) = sa := by
    funext j
    unfold apSt
    rw [if_neg (by omega)]
  have el : ∀ k, f_X2_append_L113 Fu k (nI B.ns) (nI (A.sz P)) Fu (nI (t + 1)) sa = k (apSt sa (A.sz P) (t + 1) (B.ns + 1)) := fun k => by
    have := append_L Fu k sa (a := t + 1) (n := A.sz P) (m := B.ns) (by omega) Fu (t + 1) (Nat.le_refl _) (by omega) (by omega)
    rw [r0] at this
    exact this
  refine ⟨cpA ole (cpA le le (nI (B.st (t + 1))) (nI (B.st (t + 1) + A.sz P)) (nI (B.wn - B.st (t + 1)))) (nI (A.st P)) (nI (B.st (t + 1))) (nI (A.sz P)), cpA ohe (cpA he he (nI (B.st (t + 1))) (nI (B.st (t + 1) + A.sz P)) (nI (B.wn - B.st (t + 1)))) (nI (A.st P)) (nI (B.st (t + 1))) (nI (A.sz P)), apSt sa (A.sz P) (t + 1) (B.ns + 1), ?_, ?_⟩
  · have hns := h.rns
    rw [hns] at e3
    rw [hns]
    unfold f_X2_append
    simp (disch := omega) only [gd_true, nm_eq, jn_eq, bd1_s, bd2_s, bd3_s, bd4_s, bd5_s, bd6_s, bd7_s, bd8_s, bd9_s, bd10_s, bd11_s, bd12_s, nI_add, pk_mul, pk_subs, nI_m1s, ix_nIs, nI_clamps, nI_les, nI_lts, nI_eqs, bz_0, bz_1, nI_zero, eq_self, if_true, if_false, e1, e2, e3, e4, c1, c2, el]
  · refine ⟨h.1, fun p hp => ?_, fun p hp => ?_, fun k (hk : k ≤ B.ns) => ?_, h.2.2.2.2.1, fun k (hk : k < B.ns) => ?_, h.rns, h.rnf, h.rsp, h.rbo, h.rfi⟩
    · rw [in_wn ht] at hp
      rw [cpA_pt (by omega) (by omega) (by omega), in_le]
      by_cases c : p < B.st (t + 1)
      · rw [if_neg (by omega), if_pos c, cpA_pt (by omega) (by omega) (by omega), if_neg (by omega)]; exact h.rle (by omega)
      · by_cases c2 : p < B.st (t + 1) + A.sz P
        · rw [if_pos (by omega), if_neg c, if_pos c2]; exact o.rle (by omega)
        · rw [if_neg (by omega), if_neg c, if_neg c2, cpA_pt (by omega) (by omega) (by omega), if_pos (by omega), show B.st (t + 1) + (p - (B.st (t + 1) + A.sz P)) = p - A.sz P by omega]; exact h.rle (by omega)
    · rw [in_wn ht] at hp
      rw [cpA_pt (by omega) (by omega) (by omega), in_he]
      by_cases c : p < B.st (t + 1)
      · rw [if_neg (by omega), if_pos c, cpA_pt (by omega) (by omega) (by omega), if_neg (by omega)]; exact h.rhe (by omega)
      · by_cases c2 : p < B.st (t + 1) + A.sz P
        · rw [if_pos (by omega), if_neg c, if_pos c2]; exact o.rhe (by omega)
        · rw [if_neg (by omega), if_neg c, if_neg c2, cpA_pt (by omega) (by omega) (by omega), if_pos (by omega), show B.st (t + 1) + (p - (B.st (t + 1) + A.sz P)) = p - A.sz P by omega]; exact h.rhe (by omega)
    · rw [in_st]
      unfold apSt
      by_cases c : k ≤ t
      · rw [if_neg (by omega), if_pos c]; exact h.rsa hk
      · rw [if_pos (by omega), if_neg c, h.rsa hk, nI_add]
    · rw [in_ge]
      unfold upd
      by_cases c : k = t
      · rw [if_pos c, if_pos c]
      · rw [if_neg c, if_neg c]; exact h.rge hk
end APP
def upF (s : Ar) (n m i : Nat) : Ar := fun j => if (45 + i + n < j ∧ j < 45 + m + n) ∨ (195 + i + n < j ∧ j < 195 + m + n) then s (j - n) else s j
theorem upF_step (s : Ar) {n m i : Nat} (h0 : 0 < i) (h : i < m) (hm : m + n ≤ 150) : upd (upd (upF s n m i) (45 + i + n) (upF s n m i (45 + i))) (195 + i + n) ((upd (upF s n m i) (45 + i + n) (upF s n m i (45 + i))) (195 + i)) = upF s n m (i - 1) := by
  have e1 : upF s n m i (45 + i) = s (45 + i) := by unfold upF; rw [if_neg (by omega)]
  have e2 : upF s n m i (195 + i) = s (195 + i) := by unfold upF; rw [if_neg (by omega)]
  rw [upd_ne (show 195 + i ≠ 45 + i + n by omega), e1, e2]
  funext j
  unfold upd
  by_cases h2 : j = 195 + i + n
  · subst h2; unfold upF; rw [if_pos rfl, if_pos (by omega), Nat.add_sub_cancel]
  · rw [if_neg h2]
    by_cases h1 : j = 45 + i + n
    · subst h1; unfold upF; rw [if_pos rfl, if_pos (by omega), Nat.add_sub_cancel]
    · rw [if_neg h1]
      unfold upF
      by_cases hc : (45 + i + n < j ∧ j < 45 + m + n) ∨ (195 + i + n < j ∧ j < 195 + m + n)
      · rw [if_pos hc, if_pos (by omega)]
      · rw [if_neg hc, if_neg (by omega)]
theorem fuse_L220 (Fu : Nat) (k : Ar → Option (Int32 × Ar × Ar × Int32 × Ar × Ar)) (s : Ar) {n m v : Nat} (hm : m + n ≤ 150) (hv : 0 < v) : ∀ (fu i : Nat), v ≤ i + 1 → i < m → i + 1 - v < fu → f_X4_fuse_L220 Fu k (nI n) (nI v) fu (nI i) (upF s n m i) = k (upF s n m (v - 1)) := by
  intro fu
  induction fu with
  | zero => intro i h1 h2 h3; omega
  | succ fu ih =>
    intro i h1 h2 h3
    rw [f_X4_fuse_L220_s]
    by_cases hh : i < v
    · have e : i = v - 1 := by omega
      rw [if_pos (by rw [nI_lts (by omega) (by omega)]; exact hh), e]
    · rw [← ih (i - 1) (by omega) (by omega) (by omega), ← upF_step s (by omega) h2 hm]
      simp (disch := omega) only [gd_true, nm_eq, jn_eq, bd1_s, bd2_s, bd3_s, bd4_s, bd5_s, bd6_s, bd7_s, bd8_s, bd9_s, bd10_s, bd11_s, bd12_s, nI_add, pk_mul, pk_subs, nI_m1s, ix_nIs, nI_clamps, nI_les, nI_lts, nI_eqs, bz_0, bz_1, nI_zero, eq_self, if_true, if_false, if_neg hh]
def inF (s l h : Ar) (v i : Nat) : Ar := fun j => if 45 + v ≤ j ∧ j < 45 + v + i then l (j - (45 + v)) else if 195 + v ≤ j ∧ j < 195 + v + i then h (j - (195 + v)) else s j
theorem inF_step (s l h : Ar) {v i : Nat} (hm : v + i < 150) : upd (upd (inF s l h v i) (45 + v + i) (l i)) (195 + v + i) (h i) = inF s l h v (i + 1) := by
  funext j
  unfold upd
  by_cases h2 : j = 195 + v + i
  · subst h2; unfold inF; rw [if_pos rfl, if_neg (by omega), if_pos (by omega), show 195 + v + i - (195 + v) = i by omega]
  · rw [if_neg h2]
    by_cases h1 : j = 45 + v + i
    · subst h1; unfold inF; rw [if_pos rfl, if_pos (by omega), show 45 + v + i - (45 + v) = i by omega]
    · rw [if_neg h1]
      unfold inF
      by_cases c1 : 45 + v ≤ j ∧ j < 45 + v + i
      · rw [if_pos c1, if_pos (by omega)]
      · rw [if_neg c1, if_neg (show ¬ (45 + v ≤ j ∧ j < 45 + v + (i + 1)) by omega)]
        by_cases c2 : 195 + v ≤ j ∧ j < 195 + v + i
        · rw [if_pos c2, if_pos (by omega)]
        · rw [if_neg c2, if_neg (by omega)]
theorem fuse_L282 (Fu : Nat) (k : Ar → Option (Int32 × Ar × Ar × Int32 × Ar × Ar)) (s l h : Ar) {n v : Nat} (hm : v + n ≤ 150) : ∀ (fu i : Nat), i ≤ n → n - i < fu → f_X4_fuse_L282 Fu k (nI n) l h (nI v) fu (nI i) (inF s l h v i) = k (inF s l h v n) := by
  intro fu
  induction fu with
  | zero => intro i h1 h3; omega
  | succ fu ih =>
    intro i h1 h3
    rw [f_X4_fuse_L282_s]
    by_cases hh : n ≤ i
    · have e : i = n := by omega
      subst e
      simp (disch := omega) only [gd_true, nm_eq, jn_eq, bd1_s, bd2_s, bd3_s, bd4_s, bd5_s, bd6_s, bd7_s, bd8_s, bd9_s, bd10_s, bd11_s, bd12_s, nI_add, pk_mul, pk_subs, nI_m1s, ix_nIs, nI_clamps, nI_les, nI_lts, nI_eqs, bz_0, bz_1, nI_zero, eq_self, if_true, if_false, if_pos (Nat.le_refl _)]
    · rw [← ih (i + 1) (by omega) (by omega), ← inF_step s l h (by omega)]
      simp (disch := omega) only [gd_true, nm_eq, jn_eq, bd1_s, bd2_s, bd3_s, bd4_s, bd5_s, bd6_s, bd7_s, bd8_s, bd9_s, bd10_s, bd11_s, bd12_s, nI_add, pk_mul, pk_subs, nI_m1s, ix_nIs, nI_clamps, nI_les, nI_lts, nI_eqs, bz_0, bz_1, nI_zero, eq_self, if_true, if_false, if_neg hh]
def exF (s q : Ar) (b i : Nat) : Ar := fun k => if k < i then s (b + k) else q k
theorem exF_step (s q : Ar) (b i : Nat) : upd (exF s q b i) i (s (b + i)) = exF s q b (i + 1) := by
  funext j
  unfold upd exF
  by_cases h : j = i
  · subst h; rw [if_pos rfl, if_pos (by omega)]
  · rw [if_neg h]
    by_cases h2 : j < i
    · rw [if_pos h2, if_pos (by omega)]
    · rw [if_neg h2, if_neg (by omega)]
theorem exF_0 (s q : Ar) (b : Nat) : exF s q b 0 = q := by
  funext j
  unfold exF
  rw [if_neg (by omega)]
theorem fuse_L59 (Fu : Nat) (k : Ar → Ar → Option (Int32 × Ar × Ar × Int32 × Ar × Ar)) (s l h : Ar) {n a P : Nat} (hm : a + n ≤ 150) (e : f_X4_first Fu s (nI P) = some (nI a)) : ∀ (fu i : Nat), i ≤ n → n - i < fu → f_X4_fuse_L59 Fu k s (nI P) (nI n) fu (nI i) (exF s l (45 + a) i) (exF s h (195 + a) i) = k (exF s l (45 + a) n) (exF s h (195 + a) n) := by
  intro fu
  induction fu with
  | zero => intro i h1 h3; omega
  | succ fu ih =>
    intro i h1 h3
    rw [f_X4_fuse_L59_s]
    by_cases hh : n ≤ i
    · have e : i = n := by omega
      subst e
      simp (disch := omega) only [gd_true, nm_eq, jn_eq, bd1_s, bd2_s, bd3_s, bd4_s, bd5_s, bd6_s, bd7_s, bd8_s, bd9_s, bd10_s, bd11_s, bd12_s, nI_add, pk_mul, pk_subs, nI_m1s, ix_nIs, nI_clamps, nI_les, nI_lts, nI_eqs, bz_0, bz_1, nI_zero, eq_self, if_true, if_false, if_pos (Nat.le_refl _)]
    · rw [← ih (i + 1) (by omega) (by omega), ← exF_step s l, ← exF_step s h]
      simp (disch := omega) only [gd_true, nm_eq, jn_eq, bd1_s, bd2_s, bd3_s, bd4_s, bd5_s, bd6_s, bd7_s, bd8_s, bd9_s, bd10_s, bd11_s, bd12_s, nI_add, pk_mul, pk_subs, nI_m1s, ix_nIs, nI_clamps, nI_les, nI_lts, nI_eqs, bz_0, bz_1, nI_zero, eq_self, if_true, if_false, if_neg hh, e]
theorem ins4_s {B : Sh} {s l h : Ar} (hB : WF B) (g : RS B s) {t n : Nat} (ht : t < B.ns) (hn : B.wn + n ≤ 150) {fl fh : FN} (h1 : ∀ j, j < n → l j = nI (fl j)) (h2 : ∀ j, j < n → h j = nI (fh j)) (x : Int32) :
    RS (insA B t n fl fh x) (upd (upd (upd (inF (upF s n B.wn (B.st (t + 1) - 1)) l h (B.st (t + 1)) n) 4 (nI (B.wn + n))) (9 + t) (nI (B.sz t + n))) (33 + t) x) := by
  have hnn := hB.n
  have q2 : B.st (t + 1) ≤ B.wn := hB.1.le (show t + 1 ≤ B.ns by omega) (Nat.le_refl _)
  obtain ⟨z1, z2, z3⟩ := hB.sz ht
  have lo : ∀ j, j < 45 → inF (upF s n B.wn (B.st (t + 1) - 1)) l h (B.st (t + 1)) n j = s j := fun j hj => by
    unfold inF upF
    rw [if_neg (by omega), if_neg (by omega), if_neg (by omega)]
  refine ⟨fun i hi => ?_, ?_, ?_, ?_, ?_, ?_, ?_, fun k (hk : k < B.ns) => ?_, fun k (hk : k < B.ns) => ?_, fun k (hk : k < B.ns) => ?_, fun p hp => ?_, fun p hp => ?_⟩
  · rw [upd_ne (by omega), upd_ne (by omega), upd_ne (by omega), lo _ (by omega)]; exact g.rse hi
  · rw [upd_ne (by omega), upd_ne (by omega), upd_ne (by omega), lo _ (by omega)]; exact g.rns
  · rw [upd_ne (by omega), upd_ne (by omega), upd_eq, in_wn ht]
  · rw [upd_ne (by omega), upd_ne (by omega), upd_ne (by omega), lo _ (by omega)]; exact g.rnf
  · rw [upd_ne (by omega), upd_ne (by omega), upd_ne (by omega), lo _ (by omega)]; exact g.rsp
  · rw [upd_ne (by omega), upd_ne (by omega), upd_ne (by omega), lo _ (by omega)]; exact g.rbo
  · rw [upd_ne (by omega), upd_ne (by omega), upd_ne (by omega), lo _ (by omega)]; exact g.rfi
  · rw [in_st, in_st, upd_ne (by omega)]
    by_cases c : k = t
    · subst c
      rw [upd_eq, if_neg (by omega), if_pos (Nat.le_refl _)]
      congr 1
      omega
    · rw [upd_ne (by omega), upd_ne (by omega), lo _ (by omega), g.rlo hk]
      by_cases c2 : k < t
      · rw [if_pos (by omega), if_pos (by omega)]
      · rw [if_neg (by omega), if_neg (by omega)]
        congr 1
        omega
  · rw [upd_ne (by omega), upd_ne (by omega), upd_ne (by omega), lo _ (by omega)]; exact g.rfa hk
  · rw [in_ge]
    by_cases c : k = t
    · subst c; rw [upd_eq, if_pos rfl]
    · rw [if_neg c, upd_ne (by omega), upd_ne (by omega), upd_ne (by omega), lo _ (by omega)]; exact g.rge hk
  · rw [in_wn ht] at hp
    rw [upd_ne (by omega), upd_ne (by omega), upd_ne (by omega), in_le]
    unfold inF upF
    by_cases c : p < B.st (t + 1)
    · rw [if_neg (by omega), if_neg (by omega), if_neg (by omega), if_pos c]; exact g.rle (by omega)
    · by_cases c2 : p < B.st (t + 1) + n
      · rw [if_pos (by omega), if_neg c, if_pos c2, show 45 + p - (45 + B.st (t + 1)) = p - B.st (t + 1) by omega]; exact h1 _ (by omega)
      · rw [if_neg (by omega), if_neg (by omega), if_pos (by omega), if_neg c, if_neg c2, show 45 + p - n = 45 + (p - n) by omega]; exact g.rle (by omega)
  · rw [in_wn ht] at hp
    rw [upd_ne (by omega), upd_ne (by omega), upd_ne (by omega), in_he]
    unfold inF upF
    by_cases c : p < B.st (t + 1)
    · rw [if_neg (by omega), if_neg (by omega), if_neg (by omega), if_pos c]; exact g.rhe (by omega)
    · by_cases c2 : p < B.st (t + 1) + n
      · rw [if_neg (by omega), if_pos (by omega), if_neg c, if_pos c2, show 195 + p - (195 + B.st (t + 1)) = p - B.st (t + 1) by omega]; exact h2 _ (by omega)
      · rw [if_neg (by omega), if_neg (by omega), if_pos (by omega), if_neg c, if_neg c2, show 195 + p - n = 195 + (p - n) by omega]; exact g.rhe (by omega)
