/-! PURE: what two stories have in common -/
def Qr (a b : FN) : Nat → Nat → Nat
  | 0, _ => 0
  | i + 1, j => if a i = b j then (if j = 0 then 0 else Qr a b i (j - 1)) + 1 else 0
theorem Qr_s (a b : FN) (i j : Nat) : Qr a b (i + 1) j = if a i = b j then (if j = 0 then 0 else Qr a b i (j - 1)) + 1 else 0 := rfl
theorem Qr_C (a b : FN) : ∀ (i j : Nat), Qr a b i j ≤ i ∧ Qr a b i j ≤ j + 1 ∧ ∀ t, t < Qr a b i j → a (i - Qr a b i j + t) = b (j + 1 - Qr a b i j + t) := by
  intro i
  induction i with
  | zero => intro j; exact ⟨Nat.le_refl _, Nat.zero_le _, fun t h => absurd h (Nat.not_lt_zero _)⟩
  | succ i ih =>
    intro j
    rw [Qr_s]
    by_cases h : a i = b j
    · rw [if_pos h]
      by_cases h0 : j = 0
      · subst h0
        rw [if_pos rfl]
        refine ⟨by omega, by omega, fun t ht => ?_⟩
        have : t = 0 := by omega
        subst this
        exact h
      · rw [if_neg h0]
        obtain ⟨q1, q2, q3⟩ := ih (j - 1)
        refine ⟨by omega, by omega, fun t ht => ?_⟩
        by_cases c : t < Qr a b i (j - 1)
        · have := q3 t c
          rw [show i + 1 - (Qr a b i (j - 1) + 1) + t = i - Qr a b i (j - 1) + t by omega, show j + 1 - (Qr a b i (j - 1) + 1) + t = j - 1 + 1 - Qr a b i (j - 1) + t by omega]
          exact this
        · rw [show i + 1 - (Qr a b i (j - 1) + 1) + t = i by omega, show j + 1 - (Qr a b i (j - 1) + 1) + t = j by omega]
          exact h
    · rw [if_neg h]
      exact ⟨Nat.zero_le _, Nat.zero_le _, fun t ht => absurd ht (Nat.not_lt_zero _)⟩
theorem C_Qr (a b : FN) : ∀ (l i j : Nat), (∀ t, t ≤ l → a (i + t) = b (j + t)) → l + 1 ≤ Qr a b (i + l + 1) (j + l) := by
  intro l
  induction l with
  | zero =>
    intro i j h
    have h0 := h 0 (Nat.le_refl _)
    simp only [Nat.add_zero] at h0 ⊢
    rw [Qr_s, if_pos h0]
    omega
  | succ l ih =>
    intro i j h
    have := ih i j (fun t ht => h t (by omega))
    rw [Qr_s, if_pos (h (l + 1) (Nat.le_refl _)), if_neg (by omega), show j + (l + 1) - 1 = j + l by omega]
    have e : i + (l + 1) = i + l + 1 := by omega
    rw [e]
    omega
theorem jmaxn {a b : Nat} (ha : a < 1000000) (hb : b < 1000000) : jmax (nI a) (nI b) = nI (if a < b then b else a) := by
  unfold jmax
  by_cases h : a < b
  · rw [if_pos h, if_pos (by rw [nI_lts (by omega) (by omega)]; exact h)]
  · rw [if_neg h, if_neg (by rw [nI_lts (by omega) (by omega)]; exact h)]
theorem cI_m1 (r : Nat) (hr : r < 1000000) : nI r + (-1) = cI r := by
  unfold cI
  by_cases h : r = 0
  · subst h; rw [if_pos rfl]; decide
  · rw [if_neg h, nI_m1s (by omega)]
section CM
variable {Fu : Nat} {A : Sh} {se le he sa fa ge : Ar} {ns nf sp bo fi : Int32} {s : Ar} {K J : Nat}
theorem com88_L (Fu : Nat) (k : Int32 → Ar → Option (Int32 × Ar)) (hW : WF A) (h : RV A se le he sa fa ge ns nf sp bo fi) (hK : K < A.ns) (hJ : J < A.ns) {i : Nat} (hi : i < A.sz K) : ∀ (fu r acc : Nat) (q : Ar), r ≤ A.sz J → acc ≤ 150 → (∀ j, j < A.sz J → q j = nI (if r ≤ j then Qr (fun x => A.le (A.st K + x)) (fun x => A.le (A.st J + x)) (i + 1) j else Qr (fun x => A.le (A.st K + x)) (fun x => A.le (A.st J + x)) i j)) → r < fu →
    ∃ acc' q', acc ≤ acc' ∧ acc' ≤ 150 ∧ (∀ j, j < r → Qr (fun x => A.le (A.st K + x)) (fun x => A.le (A.st J + x)) (i + 1) j ≤ acc') ∧ (acc' = acc ∨ ∃ j, j < r ∧ acc' = Qr (fun x => A.le (A.st K + x)) (fun x => A.le (A.st J + x)) (i + 1) j) ∧ (∀ j, j < A.sz J → q' j = nI (Qr (fun x => A.le (A.st K + x)) (fun x => A.le (A.st J + x)) (i + 1) j)) ∧
      f_X3_common_L88 Fu k le sa (nI J) (nI (A.st K + i)) fu (nI acc) (cI r) q = k (nI acc') q' := by
  have hn := hW.n
  have hw := hW.w
  obtain ⟨z1, z2, z3⟩ := hW.sz hK
  obtain ⟨y1, y2, y3⟩ := hW.sz hJ
  have eJ := h.rsa (show J ≤ A.ns by omega)
  have ea := h.rle (show A.st K + i < A.wn by omega)
  have ba := (hW.2.2 (A.st K + i) (by omega)).1
  intro fu
  induction fu with
  | zero => intro r acc q h1 h2 h3 h4; omega
  | succ fu ih =>
    intro r acc q h1 h2 h3 h4
    rw [f_X3_common_L88_s]
    by_cases hr : r = 0
    · subst hr
      rw [cI_0, if_pos (by decide)]
      exact ⟨acc, q, Nat.le_refl _, h2, fun j hj => by omega, Or.inl rfl, fun j hj => by rw [h3 j hj, if_pos (Nat.zero_le _)], rfl⟩
    · obtain ⟨j, rfl⟩ : ∃ j, r = j + 1 := ⟨r - 1, by omega⟩
      have eb := h.rle (show A.st J + j < A.wn by omega)
      have bb := (hW.2.2 (A.st J + j) (by omega)).1
      have hQ := Qr_C (fun x => A.le (A.st K + x)) (fun x => A.le (A.st J + x)) (i + 1) j
      have key : Qr (fun x => A.le (A.st K + x)) (fun x => A.le (A.st J + x)) (i + 1) j = if A.le (A.st K + i) = A.le (A.st J + j) then (if j = 0 then 0 else Qr (fun x => A.le (A.st K + x)) (fun x => A.le (A.st J + x)) i (j - 1)) + 1 else 0 := rfl
      have eq1 : (if nI (A.le (A.st K + i)) = nI (A.le (A.st J + j)) then nI 1 else nI 0) = nI (if A.le (A.st K + i) = A.le (A.st J + j) then 1 else 0) := by
        by_cases c : A.le (A.st K + i) = A.le (A.st J + j)
        · rw [if_pos c, c, if_pos rfl]
        · rw [if_neg c, if_neg (by rw [nI_eqs (by omega) (by omega)]; exact c)]
      obtain ⟨acc', q', g1, g2, g3, g4, g5, g6⟩ := ih j (if acc < Qr (fun x => A.le (A.st K + x)) (fun x => A.le (A.st J + x)) (i + 1) j then Qr (fun x => A.le (A.st K + x)) (fun x => A.le (A.st J + x)) (i + 1) j else acc) (upd q j (nI (Qr (fun x => A.le (A.st K + x)) (fun x => A.le (A.st J + x)) (i + 1) j))) (by omega) (by
        by_cases c : acc < Qr (fun x => A.le (A.st K + x)) (fun x => A.le (A.st J + x)) (i + 1) j
        · rw [if_pos c]; omega
        · rw [if_neg c]; exact h2) (fun c hc => by
        by_cases d : c = j
        · subst d; rw [upd_eq, if_pos (Nat.le_refl _)]
        · rw [upd_ne d, h3 c hc]
          by_cases e : j + 1 ≤ c
          · rw [if_pos e, if_pos (by omega)]
          · rw [if_neg e, if_neg (by omega)]) (by omega)
      have bnd : acc ≤ (if acc < Qr (fun x => A.le (A.st K + x)) (fun x => A.le (A.st J + x)) (i + 1) j then Qr (fun x => A.le (A.st K + x)) (fun x => A.le (A.st J + x)) (i + 1) j else acc) ∧ Qr (fun x => A.le (A.st K + x)) (fun x => A.le (A.st J + x)) (i + 1) j ≤ (if acc < Qr (fun x => A.le (A.st K + x)) (fun x => A.le (A.st J + x)) (i + 1) j then Qr (fun x => A.le (A.st K + x)) (fun x => A.le (A.st J + x)) (i + 1) j else acc) := by
        by_cases c : acc < Qr (fun x => A.le (A.st K + x)) (fun x => A.le (A.st J + x)) (i + 1) j
        · rw [if_pos c]; omega
        · rw [if_neg c]; omega
      refine ⟨acc', q', by omega, g2, fun c hc => ?_, ?_, g5, ?_⟩
      · by_cases d : c = j
        · subst d; omega
        · exact g3 c (by omega)
      · rcases g4 with g4 | ⟨c, hc, g4⟩
        · by_cases c : acc < Qr (fun x => A.le (A.st K + x)) (fun x => A.le (A.st J + x)) (i + 1) j
          · rw [if_pos c] at g4
            exact Or.inr ⟨j, by omega, g4⟩
          · rw [if_neg c] at g4
            exact Or.inl g4
        · exact Or.inr ⟨c, by omega, g4⟩
      · rw [← g6, cI_s, if_neg (show ¬ nI j < 0 from nI_pos (by omega)), ix_nIs (by omega) (by omega), gd_true, nI_clamps (show J < 2147483648 by omega), eJ, nI_add, ix_nIs (by omega) (by omega), gd_true, nm_eq, nI_clamps (by omega), nI_clamps (by omega), ea, eb, eq1, jn_eq]
        have fin : ∀ v : Nat, v = (if j = 0 then 0 else Qr (fun x => A.le (A.st K + x)) (fun x => A.le (A.st J + x)) i (j - 1)) → (nm (if nI (if A.le (A.st K + i) = A.le (A.st J + j) then 1 else 0) = 0 then nI 0 else nI v + nI 1) fun v29 => gd (ix (nI j) 150) (gd (ix (nI j) 150) (nm (jmax (nI acc) ((upd q (nI j).toNatClampNeg v29) (nI j).toNatClampNeg)) (fun v32 => f_X3_common_L88 Fu k le sa (nI J) (nI (A.st K + i)) fu v32 (nI j + (-1)) (upd q (nI j).toNatClampNeg v29))))) = f_X3_common_L88 Fu k le sa (nI J) (nI (A.st K + i)) fu (nI (if acc < Qr (fun x => A.le (A.st K + x)) (fun x => A.le (A.st J + x)) (i + 1) j then Qr (fun x => A.le (A.st K + x)) (fun x => A.le (A.st J + x)) (i + 1) j else acc)) (cI j) (upd q j (nI (Qr (fun x => A.le (A.st K + x)) (fun x => A.le (A.st J + x)) (i + 1) j))) := fun v hv => by
          have e9 : (if nI (if A.le (A.st K + i) = A.le (A.st J + j) then 1 else 0) = 0 then nI 0 else nI v + nI 1) = nI (Qr (fun x => A.le (A.st K + x)) (fun x => A.le (A.st J + x)) (i + 1) j) := by
            rw [key, nI_add, hv]
            by_cases c : A.le (A.st K + i) = A.le (A.st J + j)
            · rw [if_pos c, if_neg one_ne, if_pos c]
            · rw [if_neg c, if_pos zero_eq, if_neg c]
          rw [e9, nm_eq, ix_nIs (by omega) (by omega), gd_true, gd_true, nI_clamps (by omega), upd_eq, jmaxn (by omega) (by omega), nm_eq, cI_m1 j (by omega)]
        by_cases j0 : j = 0
        · subst j0
          rw [if_pos (show nI 0 ≤ 0 by decide)]
          exact fin 0 rfl
        · rw [if_neg (show ¬ nI j ≤ 0 by rw [nI_zero, nI_les (by omega) (by omega)]; omega), pk_subs (by omega), ix_nIs (by omega) (by omega), gd_true, nI_clamps (show j - 1 < 2147483648 by omega), h3 (j - 1) (by omega), if_neg (show ¬ j + 1 ≤ j - 1 by omega)]
          exact fin _ (by rw [if_neg j0])
theorem com66_L (Fu : Nat) (hF : 20000000 ≤ Fu) (k : Int32 → Ar → Option (Int32 × Ar)) (hW : WF A) (h : RV A se le he sa fa ge ns nf sp bo fi) (hK : K < A.ns) (hJ : J < A.ns) : ∀ (fu i acc : Nat) (q : Ar), i ≤ A.sz K → acc ≤ 150 → (∀ j, j < A.sz J → q j = nI (Qr (fun x => A.le (A.st K + x)) (fun x => A.le (A.st J + x)) i j)) → A.sz K - i < fu →
    ∃ acc' q', acc ≤ acc' ∧ (∀ c j, i ≤ c → c < A.sz K → j < A.sz J → Qr (fun x => A.le (A.st K + x)) (fun x => A.le (A.st J + x)) (c + 1) j ≤ acc') ∧ (acc' = acc ∨ ∃ c j, c < A.sz K ∧ j < A.sz J ∧ acc' = Qr (fun x => A.le (A.st K + x)) (fun x => A.le (A.st J + x)) (c + 1) j) ∧
      f_X3_common_L66 Fu k le sa (nI K) (nI J) (nI (A.sz J)) fu (nI acc) (nI (A.st K + i)) q = k (nI acc') q' := by
  have hn := hW.n
  have hw := hW.w
  obtain ⟨z1, z2, z3⟩ := hW.sz hK
  obtain ⟨y1, y2, y3⟩ := hW.sz hJ
  have eK := h.rsa (show K + 1 ≤ A.ns by omega)
  intro fu
  induction fu with
  | zero => intro i acc q h1 h2 h3 h4; omega
  | succ fu ih =>
    intro i acc q h1 h2 h3 h4
    rw [f_X3_common_L66_s, nI_add, ix_nIs (by omega) (by omega), gd_true, nI_clamps (by omega), eK]
    by_cases hh : A.st (K + 1) ≤ A.st K + i
    · rw [if_pos (by rw [nI_les (by omega) (by omega)]; exact hh)]
      exact ⟨acc, q, Nat.le_refl _, fun c j a b => by omega, Or.inl rfl, rfl⟩
    · rw [if_neg (by rw [nI_les (by omega) (by omega)]; exact hh), jn_eq]
      obtain ⟨a1, q1, g1, g2, g3, g4, g5, g6⟩ := com88_L Fu (fun v33 q34 => f_X3_common_L66 Fu k le sa (nI K) (nI J) (nI (A.sz J)) fu v33 (nI (A.st K + i) + nI 1) q34) hW h hK hJ (show i < A.sz K by omega) Fu (A.sz J) acc q (Nat.le_refl _) h2 (fun j hj => by rw [h3 j hj, if_neg (by omega)]) (by omega)
      obtain ⟨a2, q2, i1, i2, i3, i4⟩ := ih (i + 1) a1 q1 (by omega) g2 g5 (by omega)
      refine ⟨a2, q2, by omega, fun c j hc hc2 hj => ?_, ?_, ?_⟩
      · by_cases d : c = i
        · subst d
          have := g3 j hj
          omega
        · exact i2 c j (by omega) hc2 hj
      · rcases i3 with i3 | i3
        · rcases g4 with g4 | ⟨j, hj, g4⟩
          · exact Or.inl (by omega)
          · exact Or.inr ⟨i, j, by omega, hj, by omega⟩
        · exact Or.inr i3
      · have er : nI (A.sz J) - nI 1 = cI (A.sz J) := by
          rw [pk_subs (by omega)]
          unfold cI
          rw [if_neg (by omega)]
        rw [er, g6, nI_add]
        exact i4
/-- a common row of length l -/
def Cm (A : Sh) (K J i j l : Nat) : Prop := i + l ≤ A.sz K ∧ j + l ≤ A.sz J ∧ ∀ t, t < l → A.le (A.st K + (i + t)) = A.le (A.st J + (j + t))
theorem com77_L (Fu : Nat) (k : Int32 → Option Int32) (hW : WF A) (g : RS A s) (hK : K < A.ns) (hJ : J < A.ns) {i j : Nat} : ∀ (fu l : Nat), Cm A K J i j l → 151 - l < fu → ∃ e, e ≤ 150 ∧ Cm A K J i j e ∧ (∀ m, Cm A K J i j m → m ≤ e) ∧ f_X4_common_L77 Fu k s (nI K) (nI J) (nI (A.st K)) (nI (A.st J)) (nI i) (nI j) fu (nI l) = k (nI e) := by
  have hn := hW.n
  have hw := hW.w
  obtain ⟨z1, z2, z3⟩ := hW.sz hK
  obtain ⟨y1, y2, y3⟩ := hW.sz hJ
  have eK : s (9 + K) = nI (A.sz K) := g.rlo hK
  have eJ : s (9 + J) = nI (A.sz J) := g.rlo hJ
  intro fu
  induction fu with
  | zero => intro l h1 h2; omega
  | succ fu ih =>
    intro l h1 h2
    have h1a := h1.1
    have h1b := h1.2.1
    rw [f_X4_common_L77_s, nI_add, ix_nIs (by omega) (by omega), gd_true, nI_clamps (by omega), eK, nI_add]
    by_cases c1 : A.sz K ≤ i + l
    · rw [if_pos (by rw [nI_les (by omega) (by omega)]; exact c1)]
      exact ⟨l, by omega, h1, fun m hm => by have := hm.1; omega, rfl⟩
    · rw [if_neg (by rw [nI_les (by omega) (by omega)]; exact c1), nI_add, ix_nIs (by omega) (by omega), gd_true, nI_clamps (by omega), eJ, nI_add]
      by_cases c2 : A.sz J ≤ j + l
      · rw [if_pos (by rw [nI_les (by omega) (by omega)]; exact c2)]
        exact ⟨l, by omega, h1, fun m hm => by have := hm.2.1; omega, rfl⟩
      · have ea := g.rle (show A.st K + (i + l) < A.wn by omega)
        have eb := g.rle (show A.st J + (j + l) < A.wn by omega)
        have ba := (hW.2.2 (A.st K + (i + l)) (by omega)).1
        have bb := (hW.2.2 (A.st J + (j + l)) (by omega)).1
        have e1 : nI 45 + nI (A.st K) + nI i + nI l = nI (45 + (A.st K + (i + l))) := by
          rw [nI_add, nI_add, nI_add]; congr 1; omega
        have e2 : nI 45 + nI (A.st J) + nI j + nI l = nI (45 + (A.st J + (j + l))) := by
          rw [nI_add, nI_add, nI_add]; congr 1; omega
        rw [if_neg (by rw [nI_les (by omega) (by omega)]; exact c2), e1, e2, ix_nIs (by omega) (by omega), gd_true, ix_nIs (by omega) (by omega), gd_true, nI_clamps (by omega), nI_clamps (by omega), ea, eb]
        by_cases c3 : A.le (A.st K + (i + l)) = A.le (A.st J + (j + l))
        · rw [if_pos (by rw [c3]), nI_add]
          refine ih (l + 1) ⟨by omega, by omega, fun t ht => ?_⟩ (by omega)
          by_cases d : t = l
          · subst d; exact c3
          · exact h1.2.2 t (by omega)
        · rw [if_neg (by rw [nI_eqs (by omega) (by omega)]; exact c3)]
          refine ⟨l, by omega, h1, fun m hm => ?_, rfl⟩
          by_cases d : m ≤ l
          · exact d
          · exact absurd (hm.2.2 l (by omega)) c3
theorem com60_L (Fu : Nat) (hF : 20000000 ≤ Fu) (k : Int32 → Option Int32) (hW : WF A) (g : RS A s) (hK : K < A.ns) (hJ : J < A.ns) {i : Nat} (hi : i ≤ A.sz K) : ∀ (fu j acc : Nat), j ≤ A.sz J → acc ≤ 150 → A.sz J - j < fu → ∃ acc', acc ≤ acc' ∧ acc' ≤ 150 ∧ (∀ c m, j ≤ c → c < A.sz J → Cm A K J i c m → m ≤ acc') ∧ (acc' = acc ∨ ∃ c, Cm A K J i c acc') ∧ f_X4_common_L60 Fu k s (nI K) (nI J) (nI (A.st K)) (nI (A.st J)) (nI i) fu (nI acc) (nI j) = k (nI acc') := by
  have hn := hW.n
  have hw := hW.w
  obtain ⟨z1, z2, z3⟩ := hW.sz hK
  obtain ⟨y1, y2, y3⟩ := hW.sz hJ
  have eJ : s (9 + J) = nI (A.sz J) := g.rlo hJ
  intro fu
  induction fu with
  | zero => intro j acc h1 h2 h3; omega
  | succ fu ih =>
    intro j acc h1 h2 h3
    rw [f_X4_common_L60_s, nI_add, ix_nIs (by omega) (by omega), gd_true, nI_clamps (by omega), eJ]
    by_cases hh : A.sz J ≤ j
    · rw [if_pos (by rw [nI_les (by omega) (by omega)]; exact hh)]
      exact ⟨acc, Nat.le_refl _, h2, fun c m a b => by omega, Or.inl rfl, rfl⟩
    · rw [if_neg (by rw [nI_les (by omega) (by omega)]; exact hh), jn_eq]
      obtain ⟨e, e1, e2, e3, e4⟩ := com77_L Fu (fun v27 => nm (if v27 ≤ nI acc then nI acc else v27) (fun v29 => f_X4_common_L60 Fu k s (nI K) (nI J) (nI (A.st K)) (nI (A.st J)) (nI i) fu v29 (nI j + nI 1))) hW g hK hJ (i := i) (j := j) Fu 0 ⟨by omega, by omega, fun t ht => absurd ht (Nat.not_lt_zero _)⟩ (by omega)
      rw [e4, nm_eq, nI_add]
      have em : (if nI e ≤ nI acc then nI acc else nI e) = nI (if e ≤ acc then acc else e) := by
        by_cases c : e ≤ acc
        · rw [if_pos c, if_pos (by rw [nI_les (by omega) (by omega)]; exact c)]
        · rw [if_neg c, if_neg (by rw [nI_les (by omega) (by omega)]; exact c)]
      rw [em]
      have eb : acc ≤ (if e ≤ acc then acc else e) ∧ e ≤ (if e ≤ acc then acc else e) ∧ (if e ≤ acc then acc else e) ≤ 150 ∧ ((if e ≤ acc then acc else e) = acc ∨ (if e ≤ acc then acc else e) = e) := by
        by_cases c : e ≤ acc
        · rw [if_pos c]; omega
        · rw [if_neg c]; omega
      obtain ⟨a, f1, f2, f3, f4, f5⟩ := ih (j + 1) (if e ≤ acc then acc else e) (by omega) eb.2.2.1 (by omega)
      refine ⟨a, by omega, f2, fun c m hc hc2 hm => ?_, ?_, f5⟩
      · by_cases d : c = j
        · subst d
          have := e3 m hm
          omega
        · exact f3 c m (by omega) hc2 hm
      · rcases f4 with f4 | f4
        · rcases eb.2.2.2 with q | q
          · exact Or.inl (by omega)
          · exact Or.inr ⟨j, by rw [f4, q]; exact e2⟩
        · exact Or.inr f4
theorem com43_L (Fu : Nat) (hF : 20000000 ≤ Fu) (k : Int32 → Option Int32) (hW : WF A) (g : RS A s) (hK : K < A.ns) (hJ : J < A.ns) : ∀ (fu i acc : Nat), i ≤ A.sz K → acc ≤ 150 → A.sz K - i < fu → ∃ acc', acc ≤ acc' ∧ (∀ d c m, i ≤ d → d < A.sz K → c < A.sz J → Cm A K J d c m → m ≤ acc') ∧ (acc' = acc ∨ ∃ d c, Cm A K J d c acc') ∧ f_X4_common_L43 Fu k s (nI K) (nI J) (nI (A.st K)) (nI (A.st J)) fu (nI acc) (nI i) = k (nI acc') := by
  have hn := hW.n
  have hw := hW.w
  obtain ⟨z1, z2, z3⟩ := hW.sz hK
  obtain ⟨y1, y2, y3⟩ := hW.sz hJ
  have eK : s (9 + K) = nI (A.sz K) := g.rlo hK
  intro fu
  induction fu with
  | zero => intro i acc h1 h2 h3; omega
  | succ fu ih =>
    intro i acc h1 h2 h3
    rw [f_X4_common_L43_s, nI_add, ix_nIs (by omega) (by omega), gd_true, nI_clamps (by omega), eK]
    by_cases hh : A.sz K ≤ i
    · rw [if_pos (by rw [nI_les (by omega) (by omega)]; exact hh)]
      exact ⟨acc, Nat.le_refl _, fun d c m a b => by omega, Or.inl rfl, rfl⟩
    · rw [if_neg (by rw [nI_les (by omega) (by omega)]; exact hh), jn_eq]
      obtain ⟨a1, e1, e2, e3, e4, e5⟩ := com60_L Fu hF (fun v30 => f_X4_common_L43 Fu k s (nI K) (nI J) (nI (A.st K)) (nI (A.st J)) fu v30 (nI i + nI 1)) hW g hK hJ (i := i) (by omega) Fu 0 acc (Nat.zero_le _) h2 (by omega)
      obtain ⟨a2, f1, f2, f3, f4⟩ := ih (i + 1) a1 (by omega) e2 (by omega)
      rw [e5, nI_add]
      refine ⟨a2, by omega, fun d c m hd hd2 hc hm => ?_, ?_, f4⟩
      · by_cases q : d = i
        · subst q
          have := e3 c m (Nat.zero_le _) hc hm
          omega
        · exact f2 d c m (by omega) hd2 hc hm
      · rcases f3 with f3 | f3
        · rcases e4 with e4 | ⟨c, e4⟩
          · exact Or.inl (by omega)
          · exact Or.inr ⟨i, c, by rw [f3]; exact e4⟩
        · exact Or.inr f3
theorem sim_common (hF : 20000000 ≤ Fu) (hW : WF A) (h : RV A se le he sa fa ge ns nf sp bo fi) (g : RS A s) (q0 : Ar) (p q : Int32) : ∃ r q', f_X3_common Fu q0 le sa ns p q = some (r, q') ∧ f_X4_common Fu s p q = some r := by
  have hn := hW.n
  have x1 := hasStory_s Fu p (show A.ns < 1000000 by omega)
  have x2 := isStory_s Fu p g.rns (show A.ns < 1000000 by omega)
  have x3 := hasStory_s Fu q (show A.ns < 1000000 by omega)
  have x4 := isStory_s Fu q g.rns (show A.ns < 1000000 by omega)
  rw [← h.rns] at x1 x3
  unfold f_X3_common f_X4_common
  rw [x1, x2, bd1_s, bd1_s]
  by_cases hp : isS A.ns p = true
  · rw [if_pos hp, if_neg one_ne, if_neg one_ne, x3, x4, bd1_s, bd1_s]
    by_cases hq : isS A.ns q = true
    · rw [if_pos hq, if_neg one_ne, if_neg one_ne]
      obtain ⟨K, hK, rfl⟩ := isS_t hp (by omega)
      obtain ⟨J, hJ, rfl⟩ := isS_t hq (by omega)
      obtain ⟨z1, z2, z3⟩ := hW.sz hK
      obtain ⟨y1, y2, y3⟩ := hW.sz hJ
      have e1 : f_X2_sizeOf Fu sa (nI J) = some (nI (A.sz J)) := sizeOf_s Fu hW.1 (fun j hj => h.rsa hj) hJ
      have e2 := h.rsa (show K ≤ A.ns by omega)
      have e3 := first_r hF hW g (show K ≤ A.ns by omega)
      have e4 := first_r hF hW g (show J ≤ A.ns by omega)
      have hw := hW.w
      obtain ⟨X, q', c1, c2, c3, c4⟩ := com66_L Fu hF (fun v35 q36 => some (v35, q36)) hW h hK hJ Fu 0 0 (fun _ => nI 0) (Nat.zero_le _) (by omega) (fun j hj => rfl) (by omega)
      obtain ⟨Y, d1, d2, d3, d4⟩ := com43_L Fu hF (fun v31 => some v31) hW g hK hJ Fu 0 0 (Nat.zero_le _) (by omega) (by omega)
      have hXY : X = Y := by
        refine Nat.le_antisymm ?_ ?_
        · rcases c3 with c3 | ⟨c, j, hc, hj, c3⟩
          · omega
          · have hQ := Qr_C (fun x => A.le (A.st K + x)) (fun x => A.le (A.st J + x)) (c + 1) j
            rw [← c3] at hQ
            by_cases x0 : X = 0
            · omega
            · refine d2 (c + 1 - X) (j + 1 - X) X (Nat.zero_le _) (by omega) (by omega) ⟨by omega, by omega, fun t ht => hQ.2.2 t ht⟩
        · rcases d3 with d3 | ⟨d, c, d3⟩
          · omega
          · by_cases y0 : Y = 0
            · omega
            · have hQ := C_Qr (fun x => A.le (A.st K + x)) (fun x => A.le (A.st J + x)) (Y - 1) d c (fun t ht => d3.2.2 t (by omega))
              have b1 := d3.1
              have b2 := d3.2.1
              have := c2 (d + (Y - 1)) (c + (Y - 1)) (Nat.zero_le _) (by omega) (by omega)
              omega
      subst hXY
      rw [Nat.add_zero] at c4
      rw [ix_nIs (by omega) (by omega), gd_true, e1, bd1_s, ix_nIs (by omega) (by omega), gd_true, nI_clamps (by omega), e2, jn_eq, c4, e3, bd1_s, e4, bd1_s, jn_eq, d4]
      exact ⟨_, _, rfl, rfl⟩
    · rw [if_neg hq, if_pos zero_eq, if_pos zero_eq]
      exact ⟨-1, _, rfl, rfl⟩
  · rw [if_neg hp, if_pos zero_eq, if_pos zero_eq]
    exact ⟨-1, _, rfl, rfl⟩
end CM
