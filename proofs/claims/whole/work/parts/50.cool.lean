/-! PURE: coolestPair -/
abbrev T3 : Type := Int32 × Int32 × Int32
def cpF (TH : Nat → Nat) (HT : Nat → Int32) (i : Nat) : Nat → T3 → T3 := fun j t => if TH i = TH j ∧ (t.1 = -6 ∨ ¬ t.2.2 ≤ HT i + HT j) then (nI i, nI j, HT i + HT j) else t
def coF (TH : Nat → Nat) (HT : Nat → Int32) (n : Nat) : Nat → T3 → T3 := fun i t => itF (cpF TH HT i) (i + 1) (n - (i + 1)) t
def thA (A : Sh) (k : Nat) : Nat := thR (taR A k)
def htA (A : Sh) (k : Nat) : Int32 := heatR A.he (A.st k) (A.st (k + 1) - A.st k)
section CO
variable {Fu : Nat} {A : Sh} {se le he sa fa ge : Ar} {ns nf sp bo fi : Int32} {s : Ar}
theorem cool89_L (Fu : Nat) (k : Int32 → Int32 → Int32 → Option (Int32 × Ar × Ar × Ar)) {n i : Nat} {t1 t2 : Ar} (hn : n ≤ 12) (hi : i < n) (TH : Nat → Nat) (HT : Nat → Int32) (hT : ∀ c, TH c < 26) (h1 : ∀ c, c < n → t1 c = nI (TH c)) (h2 : ∀ c, c < n → t2 c = HT c) : ∀ (fu j : Nat) (t : T3), j ≤ n → n - j < fu → f_X3_coolestPair_L89 Fu k (nI n) t1 t2 (nI i) fu t.1 t.2.1 t.2.2 (nI j) = k (itF (cpF TH HT i) j (n - j) t).1 (itF (cpF TH HT i) j (n - j) t).2.1 (itF (cpF TH HT i) j (n - j) t).2.2 := by
  intro fu
  induction fu with
  | zero => intro j t a b; omega
  | succ fu ih =>
    intro j t a b
    rw [f_X3_coolestPair_L89_s]
    by_cases hh : n ≤ j
    · rw [if_pos (by rw [nI_les (by omega) (by omega)]; exact hh), show n - j = 0 by omega, itF_0]
    · rw [if_neg (by rw [nI_les (by omega) (by omega)]; exact hh), ix_nIs (by omega) (by omega), gd_true, ix_nIs (by omega) (by omega), gd_true, nm_eq, gd_true, gd_true, nI_clamps (by omega), nI_clamps (by omega), h1 i hi, h1 j (by omega), h2 i hi, h2 j (by omega), nm_eq, nm_eq, nm_eq, nI_add, show n - j = (n - (j + 1)) + 1 by omega, itF_s, ← ih (j + 1) _ (by omega) (by omega)]
      unfold cpF
      have hi26 := hT i
      have hj26 := hT j
      by_cases c1 : TH i = TH j
      · have d1 : nI (TH i) = nI (TH j) := by rw [c1]
        rw [if_pos d1, if_pos d1, if_pos d1]
        by_cases c2 : t.1 = -6
        · rw [if_pos c2, if_pos c2, if_pos c2, if_pos ⟨c1, Or.inl c2⟩]
        · rw [if_neg c2, if_neg c2, if_neg c2]
          by_cases c3 : t.2.2 ≤ HT i + HT j
          · rw [if_pos c3, if_pos c3, if_pos c3, if_neg (fun z => z.2.elim c2 (fun y => y c3))]
          · rw [if_neg c3, if_neg c3, if_neg c3, if_pos ⟨c1, Or.inr c3⟩]
      · have d1 : ¬ nI (TH i) = nI (TH j) := by rw [nI_eqs (by omega) (by omega)]; exact c1
        rw [if_neg d1, if_neg d1, if_neg d1, if_neg (fun z => c1 z.1)]
theorem cool71_L (Fu : Nat) (hF : 20000000 ≤ Fu) (k : Int32 → Int32 → Option (Int32 × Ar × Ar × Ar)) {n : Nat} {t1 t2 : Ar} (hn : n ≤ 12) (TH : Nat → Nat) (HT : Nat → Int32) (hT : ∀ c, TH c < 26) (h1 : ∀ c, c < n → t1 c = nI (TH c)) (h2 : ∀ c, c < n → t2 c = HT c) : ∀ (fu i : Nat) (t : T3), i ≤ n → n - i < fu → f_X3_coolestPair_L71 Fu k (nI n) t1 t2 fu t.1 t.2.1 t.2.2 (nI i) = k (itF (coF TH HT n) i (n - i) t).1 (itF (coF TH HT n) i (n - i) t).2.1 := by
  intro fu
  induction fu with
  | zero => intro i t a b; omega
  | succ fu ih =>
    intro i t a b
    rw [f_X3_coolestPair_L71_s]
    by_cases hh : n ≤ i
    · rw [if_pos (by rw [nI_les (by omega) (by omega)]; exact hh), show n - i = 0 by omega, itF_0]
    · rw [if_neg (by rw [nI_les (by omega) (by omega)]; exact hh), jn_eq, nI_add, cool89_L Fu _ hn (by omega) TH HT hT h1 h2 Fu (i + 1) t (by omega) (by omega), show n - i = (n - (i + 1)) + 1 by omega, itF_s, ← ih (i + 1) _ (by omega) (by omega)]
      rfl
theorem cool14_L (Fu : Nat) (hF : 20000000 ≤ Fu) (hW : WF A) (h : RV A se le he sa fa ge ns nf sp bo fi) : ∀ (fu i : Nat) (t1 t2 tl : Ar), i ≤ A.ns → (∀ c, c < i → t1 c = nI (thA A c)) → (∀ c, c < i → t2 c = htA A c) → A.ns - i < fu → ∃ t1' t2' tl', (∀ c, c < A.ns → t1' c = nI (thA A c)) ∧ (∀ c, c < A.ns → t2' c = htA A c) ∧ ∀ k : Ar → Ar → Ar → Option (Int32 × Ar × Ar × Ar), f_X3_coolestPair_L14 Fu k le he sa ns fu (nI i) t1 t2 tl = k t1' t2' tl' := by
  have hn := hW.n
  intro fu
  induction fu with
  | zero => intro i t1 t2 tl a b c d; omega
  | succ fu ih =>
    intro i t1 t2 tl a b c d
    by_cases hh : A.ns ≤ i
    · refine ⟨t1, t2, tl, fun j hj => b j (by omega), fun j hj => c j (by omega), fun k => ?_⟩
      rw [f_X3_coolestPair_L14_s, h.rns, if_pos (by rw [nI_les (by omega) (by omega)]; exact hh)]
    · have hi : i < A.ns := by omega
      obtain ⟨tl', e1⟩ := themeOf_s (Fu := Fu) hF hW h tl hi
      have e2 := heatOf_s hF hW h hi
      obtain ⟨t1', t2', tl'', z1, z2, z3⟩ := ih (i + 1) (upd t1 i (nI (thA A i))) (upd t2 i (htA A i)) tl' (by omega) (fun j hj => by
        by_cases q : j = i
        · subst q; rw [upd_eq]
        · rw [upd_ne q]; exact b j (by omega)) (fun j hj => by
        by_cases q : j = i
        · subst q; rw [upd_eq]
        · rw [upd_ne q]; exact c j (by omega)) (by omega)
      refine ⟨t1', t2', tl'', z1, z2, fun k => ?_⟩
      rw [← z3 k, f_X3_coolestPair_L14_s]
      rw [h.rns] 
      rw [if_neg (by rw [nI_les (by omega) (by omega)]; exact hh), e1, bd2_s, ix_nIs (by omega) (by omega), gd_true, e2, bd1_s, gd_true, nI_clamps (by omega), nI_add]
      rfl
theorem cool41_L (Fu : Nat) (hF : 20000000 ≤ Fu) (k : Int32 → Int32 → Int32 → Option Int32) (hW : WF A) (g : RS A s) {i : Nat} (hi : i < A.ns) : ∀ (fu j : Nat) (t : T3), j ≤ A.ns → A.ns - j < fu → f_X4_coolestPair_L41 Fu k s (nI i) fu t.1 t.2.1 t.2.2 (nI j) = k (itF (cpF (thA A) (htA A) i) j (A.ns - j) t).1 (itF (cpF (thA A) (htA A) i) j (A.ns - j) t).2.1 (itF (cpF (thA A) (htA A) i) j (A.ns - j) t).2.2 := by
  have hn := hW.n
  intro fu
  induction fu with
  | zero => intro j t a b; omega
  | succ fu ih =>
    intro j t a b
    rw [f_X4_coolestPair_L41_s, g.rns]
    by_cases hh : A.ns ≤ j
    · rw [if_pos (by rw [nI_les (by omega) (by omega)]; exact hh), show A.ns - j = 0 by omega, itF_0]
    · have hj : j < A.ns := by omega
      have e1 : f_X4_heatOf Fu s (nI i) = some (htA A i) := heatOf4_s hF hW g hi
      have e2 : f_X4_heatOf Fu s (nI j) = some (htA A j) := heatOf4_s hF hW g hj
      have e3 : f_X4_theme Fu s (nI i) = some (nI (thA A i)) := theme_s hF hW g hi
      have e4 : f_X4_theme Fu s (nI j) = some (nI (thA A j)) := theme_s hF hW g hj
      have hi26 : thA A i < 26 := thR_lt _
      have hj26 : thA A j < 26 := thR_lt _
      rw [if_neg (by rw [nI_les (by omega) (by omega)]; exact hh), e1, bd1_s, e2, bd1_s, e3, bd1_s, e4, bd1_s, nm_eq, nm_eq, nm_eq, nm_eq, nI_add, show A.ns - j = (A.ns - (j + 1)) + 1 by omega, itF_s, ← ih (j + 1) _ (by omega) (by omega)]
      unfold cpF
      by_cases c1 : thA A i = thA A j
      · have d1 : nI (thA A i) = nI (thA A j) := by rw [c1]
        rw [if_pos d1]
        by_cases c2 : t.1 = -6
        · rw [if_pos c2, if_neg one_ne, if_neg one_ne, if_neg one_ne, if_pos ⟨c1, Or.inl c2⟩]
        · rw [if_neg c2]
          by_cases c3 : t.2.2 ≤ htA A i + htA A j
          · rw [if_pos c3, if_pos zero_eq, if_pos zero_eq, if_pos zero_eq, if_neg (fun z => z.2.elim c2 (fun y => y c3))]
          · rw [if_neg c3, if_neg one_ne, if_neg one_ne, if_neg one_ne, if_pos ⟨c1, Or.inr c3⟩]
      · have d1 : ¬ nI (thA A i) = nI (thA A j) := by rw [nI_eqs (by omega) (by omega)]; exact c1
        rw [if_neg d1, if_pos zero_eq, if_pos zero_eq, if_pos zero_eq, if_neg (fun z => c1 z.1)]
theorem cool24_L (Fu : Nat) (hF : 20000000 ≤ Fu) (k : Int32 → Int32 → Option Int32) (hW : WF A) (g : RS A s) : ∀ (fu i : Nat) (t : T3), i ≤ A.ns → A.ns - i < fu → f_X4_coolestPair_L24 Fu k s fu t.1 t.2.1 t.2.2 (nI i) = k (itF (coF (thA A) (htA A) A.ns) i (A.ns - i) t).1 (itF (coF (thA A) (htA A) A.ns) i (A.ns - i) t).2.1 := by
  have hn := hW.n
  intro fu
  induction fu with
  | zero => intro i t a b; omega
  | succ fu ih =>
    intro i t a b
    rw [f_X4_coolestPair_L24_s, g.rns]
    by_cases hh : A.ns ≤ i
    · rw [if_pos (by rw [nI_les (by omega) (by omega)]; exact hh), show A.ns - i = 0 by omega, itF_0]
    · rw [if_neg (by rw [nI_les (by omega) (by omega)]; exact hh), jn_eq, nI_add, cool41_L Fu hF _ hW g (by omega) Fu (i + 1) t (by omega) (by omega), show A.ns - i = (A.ns - (i + 1)) + 1 by omega, itF_s, ← ih (i + 1) _ (by omega) (by omega)]
      rfl
theorem sim_cool (hF : 20000000 ≤ Fu) (hW : WF A) (h : RV A se le he sa fa ge ns nf sp bo fi) (g : RS A s) (t1 t2 tl : Ar) (p : Int32) : ∃ r t1' t2' tl', f_X3_coolestPair Fu t1 t2 le he sa tl ns p = some (r, t1', t2', tl') ∧ f_X4_coolestPair Fu s p = some r := by
  have hn := hW.n
  unfold f_X3_coolestPair f_X4_coolestPair
  rw [isWithin_s, in4_s, bd1_s, bd1_s]
  by_cases hp : nI 0 ≤ p ∧ p ≤ nI 1
  · rw [if_pos hp, if_neg one_ne, if_neg one_ne]
    obtain ⟨t1', t2', tl', z1, z2, z3⟩ := cool14_L Fu hF hW h Fu 0 t1 t2 tl (Nat.zero_le _) (fun c hc => absurd hc (Nat.not_lt_zero _)) (fun c hc => absurd hc (Nat.not_lt_zero _)) (by omega)
    have m1 := fun k => cool71_L Fu hF k hn (thA A) (htA A) (fun c => thR_lt _) z1 z2 Fu 0 (-6, -6, nI 0) (Nat.zero_le _) (by omega)
    have m2 := fun k => cool24_L Fu hF k hW g Fu 0 (-6, -6, nI 0) (Nat.zero_le _) (by omega)
    rw [jn_eq, z3, jn_eq, h.rns, m1, nm_eq, jn_eq, m2, nm_eq]
    exact ⟨_, _, _, _, rfl, rfl⟩
  · rw [if_neg hp, if_pos zero_eq, if_pos zero_eq]
    exact ⟨-2, _, _, _, rfl, rfl⟩
end CO
