/-! PURE: a shelf's value, and what holds it on both sides -/
abbrev FN : Type := Nat → Nat
def Sh : Type := FN × Nat × FN × FN × FN × Ar × Ar × Int32 × Nat × Int32 × Int32
def Sh.mk (se : FN) (ns : Nat) (st le he : FN) (fa ge : Ar) (nf : Int32) (sp : Nat) (bo fi : Int32) : Sh := (se, ns, st, le, he, fa, ge, nf, sp, bo, fi)
def Sh.se (A : Sh) : FN := A.1
def Sh.ns (A : Sh) : Nat := A.2.1
def Sh.st (A : Sh) : FN := A.2.2.1
def Sh.le (A : Sh) : FN := A.2.2.2.1
def Sh.he (A : Sh) : FN := A.2.2.2.2.1
def Sh.fa (A : Sh) : Ar := A.2.2.2.2.2.1
def Sh.ge (A : Sh) : Ar := A.2.2.2.2.2.2.1
def Sh.nf (A : Sh) : Int32 := A.2.2.2.2.2.2.2.1
def Sh.sp (A : Sh) : Nat := A.2.2.2.2.2.2.2.2.1
def Sh.bo (A : Sh) : Int32 := A.2.2.2.2.2.2.2.2.2.1
def Sh.fi (A : Sh) : Int32 := A.2.2.2.2.2.2.2.2.2.2
/-- how many words -/
def Sh.wn (A : Sh) : Nat := A.st A.ns
def WF (A : Sh) : Prop := SW A.ns A.st ∧ (10 ≤ A.se 0 ∧ A.se 0 ≤ 99 ∧ A.se 1 ≤ 4 ∧ A.se 2 ≤ 20) ∧ (∀ p, p < A.wn → A.le p < 26 ∧ A.he p ≤ 999)
theorem WF.w {A : Sh} (h : WF A) : A.wn ≤ 150 := h.1.2.2.2
theorem WF.n {A : Sh} (h : WF A) : A.ns ≤ 12 := h.1.1
def RV (A : Sh) (se le he sa fa ge : Ar) (ns nf sp bo fi : Int32) : Prop :=
  (∀ i, i < 3 → se i = nI (A.se i)) ∧ (∀ p, p < A.wn → le p = nI (A.le p)) ∧ (∀ p, p < A.wn → he p = nI (A.he p)) ∧ (∀ k, k ≤ A.ns → sa k = nI (A.st k)) ∧ (∀ k, k < A.ns → fa k = A.fa k) ∧ (∀ k, k < A.ns → ge k = A.ge k) ∧ ns = nI A.ns ∧ nf = A.nf ∧ sp = nI A.sp ∧ bo = A.bo ∧ fi = A.fi
section RVs
variable {A : Sh} {se le he sa fa ge : Ar} {ns nf sp bo fi : Int32}
theorem RV.rse (h : RV A se le he sa fa ge ns nf sp bo fi) {i : Nat} (hi : i < 3) : se i = nI (A.se i) := h.1 i hi
theorem RV.rle (h : RV A se le he sa fa ge ns nf sp bo fi) {p : Nat} (hp : p < A.wn) : le p = nI (A.le p) := h.2.1 p hp
theorem RV.rhe (h : RV A se le he sa fa ge ns nf sp bo fi) {p : Nat} (hp : p < A.wn) : he p = nI (A.he p) := h.2.2.1 p hp
theorem RV.rsa (h : RV A se le he sa fa ge ns nf sp bo fi) {k : Nat} (hk : k ≤ A.ns) : sa k = nI (A.st k) := h.2.2.2.1 k hk
theorem RV.rfa (h : RV A se le he sa fa ge ns nf sp bo fi) {k : Nat} (hk : k < A.ns) : fa k = A.fa k := h.2.2.2.2.1 k hk
theorem RV.rge (h : RV A se le he sa fa ge ns nf sp bo fi) {k : Nat} (hk : k < A.ns) : ge k = A.ge k := h.2.2.2.2.2.1 k hk
theorem RV.rns (h : RV A se le he sa fa ge ns nf sp bo fi) : ns = nI A.ns := h.2.2.2.2.2.2.1
theorem RV.rnf (h : RV A se le he sa fa ge ns nf sp bo fi) : nf = A.nf := h.2.2.2.2.2.2.2.1
theorem RV.rsp (h : RV A se le he sa fa ge ns nf sp bo fi) : sp = nI A.sp := h.2.2.2.2.2.2.2.2.1
theorem RV.rbo (h : RV A se le he sa fa ge ns nf sp bo fi) : bo = A.bo := h.2.2.2.2.2.2.2.2.2.1
theorem RV.rfi (h : RV A se le he sa fa ge ns nf sp bo fi) : fi = A.fi := h.2.2.2.2.2.2.2.2.2.2
end RVs
def RS (A : Sh) (s : Ar) : Prop :=
  (∀ i, i < 3 → s i = nI (A.se i)) ∧ s 3 = nI A.ns ∧ s 4 = nI A.wn ∧ s 5 = A.nf ∧ s 6 = nI A.sp ∧ s 7 = A.bo ∧ s 8 = A.fi ∧ (∀ k, k < A.ns → s (9 + k) = nI (A.st (k + 1) - A.st k)) ∧ (∀ k, k < A.ns → s (21 + k) = A.fa k) ∧ (∀ k, k < A.ns → s (33 + k) = A.ge k) ∧ (∀ p, p < A.wn → s (45 + p) = nI (A.le p)) ∧ (∀ p, p < A.wn → s (195 + p) = nI (A.he p))
section RSs
variable {A : Sh} {s : Ar}
theorem RS.rse (h : RS A s) {i : Nat} (hi : i < 3) : s i = nI (A.se i) := h.1 i hi
theorem RS.rns (h : RS A s) : s 3 = nI A.ns := h.2.1
theorem RS.rwn (h : RS A s) : s 4 = nI A.wn := h.2.2.1
theorem RS.rnf (h : RS A s) : s 5 = A.nf := h.2.2.2.1
theorem RS.rsp (h : RS A s) : s 6 = nI A.sp := h.2.2.2.2.1
theorem RS.rbo (h : RS A s) : s 7 = A.bo := h.2.2.2.2.2.1
theorem RS.rfi (h : RS A s) : s 8 = A.fi := h.2.2.2.2.2.2.1
theorem RS.rlo (h : RS A s) {k : Nat} (hk : k < A.ns) : s (9 + k) = nI (A.st (k + 1) - A.st k) := h.2.2.2.2.2.2.2.1 k hk
theorem RS.rfa (h : RS A s) {k : Nat} (hk : k < A.ns) : s (21 + k) = A.fa k := h.2.2.2.2.2.2.2.2.1 k hk
theorem RS.rge (h : RS A s) {k : Nat} (hk : k < A.ns) : s (33 + k) = A.ge k := h.2.2.2.2.2.2.2.2.2.1 k hk
theorem RS.rle (h : RS A s) {p : Nat} (hp : p < A.wn) : s (45 + p) = nI (A.le p) := h.2.2.2.2.2.2.2.2.2.2.1 p hp
theorem RS.rhe (h : RS A s) {p : Nat} (hp : p < A.wn) : s (195 + p) = nI (A.he p) := h.2.2.2.2.2.2.2.2.2.2.2 p hp
end RSs
/-- a row of words: how often a letter stands there, and its heat -/
def cntR (le : FN) (lo n c : Nat) : Int32 := itF (fun p a => a + (if le p = c then nI 1 else nI 0)) lo n (nI 0)
def heatR (he : FN) (lo n : Nat) : Int32 := itF (fun p a => a + nI (he p)) lo n (nI 0)
section CL
variable {Fu : Nat} {A : Sh} {se le he sa fa ge : Ar} {ns nf sp bo fi : Int32}
theorem heatBetween_s (hF : 20000000 ≤ Fu) (hW : WF A) (h : RV A se le he sa fa ge ns nf sp bo fi) {lo hi : Nat} (h1 : lo ≤ hi) (h2 : hi ≤ A.wn) : f_X2_heatBetween Fu he (nI lo) (nI hi) = some (heatR A.he lo (hi - lo)) := by
  have hw := hW.w
  unfold f_X2_heatBetween
  rw [jn_eq, heatBetween_L Fu _ he hi (by omega) Fu lo _ h1 (by omega)]
  congr 1
  exact itF_congr (fun j x a b => by rw [h.rhe (show j < A.wn by omega)])
theorem heatOf_s (hF : 20000000 ≤ Fu) (hW : WF A) (h : RV A se le he sa fa ge ns nf sp bo fi) {k : Nat} (hk : k < A.ns) : f_X2_heatOf Fu he sa (nI k) = some (heatR A.he (A.st k) (A.st (k + 1) - A.st k)) := by
  have hn := hW.n
  have e1 := h.rsa (show k ≤ A.ns by omega)
  have e2 := h.rsa (show k + 1 ≤ A.ns by omega)
  have hm := hW.1.2.2.1 k hk
  have hm2 := hW.1.le (show k + 1 ≤ A.ns by omega) (Nat.le_refl _)
  have e3 := heatBetween_s hF hW h (Nat.le_of_lt hm) hm2
  unfold f_X2_heatOf
  simp (disch := omega) only [gd_true, nm_eq, jn_eq, bd1_s, bd2_s, bd3_s, bd4_s, bd5_s, bd6_s, bd7_s, bd8_s, bd9_s, bd10_s, bd11_s, bd12_s, nI_add, pk_mul, pk_subs, nI_m1s, ix_nIs, nI_clamps, nI_les, nI_lts, nI_eqs, bz_0, bz_1, nI_zero, eq_self, if_true, if_false, e1, e2, e3]
theorem words_r (hW : WF A) (h : RV A se le he sa fa ge ns nf sp bo fi) : f_X2_words Fu sa ns = some (nI A.wn) := by
  rw [h.rns]
  exact words_s Fu hW.1 (fun k hk => h.rsa hk)
theorem heatOfAll_s (hF : 20000000 ≤ Fu) (hW : WF A) (h : RV A se le he sa fa ge ns nf sp bo fi) : f_X2_heatOfAll Fu he sa ns = some (heatR A.he 0 A.wn) := by
  have e3 := heatBetween_s hF hW h (Nat.zero_le A.wn) (Nat.le_refl _)
  unfold f_X2_heatOfAll
  rw [words_r hW h, bd1_s, e3, bd1_s, Nat.sub_zero]
theorem timesBetween_L (Fu : Nat) (k : Int32 → Option Int32) (le : Ar) (lN : FN) (hi c : Nat) (hb : hi ≤ 150) (hc : c < 1000) (hl : ∀ p, p < hi → le p = nI (lN p) ∧ lN p < 1000) : ∀ (fu i : Nat) (acc : Int32), i ≤ hi → hi - i < fu → f_X2_timesBetween_L6 Fu k le (nI hi) (nI c) fu acc (nI i) = k (itF (fun p a => a + (if lN p = c then nI 1 else nI 0)) i (hi - i) acc) := by
  intro fu
  induction fu with
  | zero => intro i acc h1 h2; omega
  | succ fu ih =>
    intro i acc h1 h2
    rw [f_X2_timesBetween_L6_s]
    by_cases h : hi ≤ i
    · have e : hi - i = 0 := by omega
      rw [e, itF_0]
      simp (disch := omega) only [gd_true, nm_eq, jn_eq, bd1_s, bd2_s, bd3_s, bd4_s, bd5_s, bd6_s, bd7_s, bd8_s, bd9_s, bd10_s, bd11_s, bd12_s, nI_add, pk_mul, pk_subs, nI_m1s, ix_nIs, nI_clamps, nI_les, nI_lts, nI_eqs, bz_0, bz_1, nI_zero, eq_self, if_true, if_false, if_pos, if_neg]
    · have e : hi - i = (hi - (i + 1)) + 1 := by omega
      have e1 := (hl i (by omega)).1
      have e2 := (hl i (by omega)).2
      rw [e, itF_s, ← ih (i + 1) _ (by omega) (by omega)]
      simp (disch := omega) only [gd_true, nm_eq, jn_eq, bd1_s, bd2_s, bd3_s, bd4_s, bd5_s, bd6_s, bd7_s, bd8_s, bd9_s, bd10_s, bd11_s, bd12_s, nI_add, pk_mul, pk_subs, nI_m1s, ix_nIs, nI_clamps, nI_les, nI_lts, nI_eqs, bz_0, bz_1, nI_zero, eq_self, if_true, if_false, e1, if_neg h]
theorem timesBetween_s (hF : 20000000 ≤ Fu) (hW : WF A) (h : RV A se le he sa fa ge ns nf sp bo fi) {lo hi c : Nat} (hc : c < 1000) (h1 : lo ≤ hi) (h2 : hi ≤ A.wn) : f_X2_timesBetween Fu le (nI lo) (nI hi) (nI c) = some (cntR A.le lo (hi - lo) c) := by
  have hw := hW.w
  unfold f_X2_timesBetween
  rw [jn_eq, timesBetween_L Fu _ le A.le hi c (by omega) hc (fun p hp => ⟨h.rle (show p < A.wn by omega), by have := (hW.2.2 p (by omega)).1; omega⟩) Fu lo _ h1 (by omega)]
  rfl
theorem timesIn_s (hF : 20000000 ≤ Fu) (hW : WF A) (h : RV A se le he sa fa ge ns nf sp bo fi) {k c : Nat} (hc : c < 1000) (hk : k < A.ns) : f_X2_timesIn Fu le sa (nI k) (nI c) = some (cntR A.le (A.st k) (A.st (k + 1) - A.st k) c) := by
  have hn := hW.n
  have e1 := h.rsa (show k ≤ A.ns by omega)
  have e2 := h.rsa (show k + 1 ≤ A.ns by omega)
  have hm := hW.1.2.2.1 k hk
  have hm2 := hW.1.le (show k + 1 ≤ A.ns by omega) (Nat.le_refl _)
  have e3 := timesBetween_s hF hW h hc (Nat.le_of_lt hm) hm2
  unfold f_X2_timesIn
  simp (disch := omega) only [gd_true, nm_eq, jn_eq, bd1_s, bd2_s, bd3_s, bd4_s, bd5_s, bd6_s, bd7_s, bd8_s, bd9_s, bd10_s, bd11_s, bd12_s, nI_add, pk_mul, pk_subs, nI_m1s, ix_nIs, nI_clamps, nI_les, nI_lts, nI_eqs, bz_0, bz_1, nI_zero, eq_self, if_true, if_false, e1, e2, e3]
theorem timesInAll_s (hF : 20000000 ≤ Fu) (hW : WF A) (h : RV A se le he sa fa ge ns nf sp bo fi) {c : Nat} (hc : c < 1000) : f_X2_timesInAll Fu le sa ns (nI c) = some (cntR A.le 0 A.wn c) := by
  have e3 := timesBetween_s hF hW h hc (Nat.zero_le A.wn) (Nat.le_refl _)
  unfold f_X2_timesInAll
  rw [words_r hW h, bd1_s, e3, bd1_s, Nat.sub_zero]
end CL
