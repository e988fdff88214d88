/-! PURE: evaluation rows and loops as iterations -/
theorem gd_true {α : Type} (x : Option α) : gd true x = x := rfl
theorem nm_eq {α β : Type} (x : α) (k : α → β) : nm x k = k x := rfl
theorem jn_eq {β γ : Type} (b : β) (t : β → γ) : jn b t = t b := rfl
theorem bd1_s {α β : Type} (a : α) (k : α → Option β) : bd1 (some a) k = k a := rfl
theorem bd2_s {α1 α2 β : Type} (a1 : α1) (a2 : α2) (k : α1 → α2 → Option β) : bd2 (some (a1, a2)) k = k a1 a2 := rfl
theorem bd3_s {α1 α2 α3 β : Type} (a1 : α1) (a2 : α2) (a3 : α3) (k : α1 → α2 → α3 → Option β) : bd3 (some (a1, a2, a3)) k = k a1 a2 a3 := rfl
theorem bd4_s {α1 α2 α3 α4 β : Type} (a1 : α1) (a2 : α2) (a3 : α3) (a4 : α4) (k : α1 → α2 → α3 → α4 → Option β) : bd4 (some (a1, a2, a3, a4)) k = k a1 a2 a3 a4 := rfl
theorem bd5_s {α1 α2 α3 α4 α5 β : Type} (a1 : α1) (a2 : α2) (a3 : α3) (a4 : α4) (a5 : α5) (k : α1 → α2 → α3 → α4 → α5 → Option β) : bd5 (some (a1, a2, a3, a4, a5)) k = k a1 a2 a3 a4 a5 := rfl
theorem bd6_s {α1 α2 α3 α4 α5 α6 β : Type} (a1 : α1) (a2 : α2) (a3 : α3) (a4 : α4) (a5 : α5) (a6 : α6) (k : α1 → α2 → α3 → α4 → α5 → α6 → Option β) : bd6 (some (a1, a2, a3, a4, a5, a6)) k = k a1 a2 a3 a4 a5 a6 := rfl
theorem bd7_s {α1 α2 α3 α4 α5 α6 α7 β : Type} (a1 : α1) (a2 : α2) (a3 : α3) (a4 : α4) (a5 : α5) (a6 : α6) (a7 : α7) (k : α1 → α2 → α3 → α4 → α5 → α6 → α7 → Option β) : bd7 (some (a1, a2, a3, a4, a5, a6, a7)) k = k a1 a2 a3 a4 a5 a6 a7 := rfl
theorem bd8_s {α1 α2 α3 α4 α5 α6 α7 α8 β : Type} (a1 : α1) (a2 : α2) (a3 : α3) (a4 : α4) (a5 : α5) (a6 : α6) (a7 : α7) (a8 : α8) (k : α1 → α2 → α3 → α4 → α5 → α6 → α7 → α8 → Option β) : bd8 (some (a1, a2, a3, a4, a5, a6, a7, a8)) k = k a1 a2 a3 a4 a5 a6 a7 a8 := rfl
theorem bd9_s {α1 α2 α3 α4 α5 α6 α7 α8 α9 β : Type} (a1 : α1) (a2 : α2) (a3 : α3) (a4 : α4) (a5 : α5) (a6 : α6) (a7 : α7) (a8 : α8) (a9 : α9) (k : α1 → α2 → α3 → α4 → α5 → α6 → α7 → α8 → α9 → Option β) : bd9 (some (a1, a2, a3, a4, a5, a6, a7, a8, a9)) k = k a1 a2 a3 a4 a5 a6 a7 a8 a9 := rfl
theorem bd10_s {α1 α2 α3 α4 α5 α6 α7 α8 α9 α10 β : Type} (a1 : α1) (a2 : α2) (a3 : α3) (a4 : α4) (a5 : α5) (a6 : α6) (a7 : α7) (a8 : α8) (a9 : α9) (a10 : α10) (k : α1 → α2 → α3 → α4 → α5 → α6 → α7 → α8 → α9 → α10 → Option β) : bd10 (some (a1, a2, a3, a4, a5, a6, a7, a8, a9, a10)) k = k a1 a2 a3 a4 a5 a6 a7 a8 a9 a10 := rfl
theorem bd11_s {α1 α2 α3 α4 α5 α6 α7 α8 α9 α10 α11 β : Type} (a1 : α1) (a2 : α2) (a3 : α3) (a4 : α4) (a5 : α5) (a6 : α6) (a7 : α7) (a8 : α8) (a9 : α9) (a10 : α10) (a11 : α11) (k : α1 → α2 → α3 → α4 → α5 → α6 → α7 → α8 → α9 → α10 → α11 → Option β) : bd11 (some (a1, a2, a3, a4, a5, a6, a7, a8, a9, a10, a11)) k = k a1 a2 a3 a4 a5 a6 a7 a8 a9 a10 a11 := rfl
theorem bd12_s {α1 α2 α3 α4 α5 α6 α7 α8 α9 α10 α11 α12 β : Type} (a1 : α1) (a2 : α2) (a3 : α3) (a4 : α4) (a5 : α5) (a6 : α6) (a7 : α7) (a8 : α8) (a9 : α9) (a10 : α10) (a11 : α11) (a12 : α12) (k : α1 → α2 → α3 → α4 → α5 → α6 → α7 → α8 → α9 → α10 → α11 → α12 → Option β) : bd12 (some (a1, a2, a3, a4, a5, a6, a7, a8, a9, a10, a11, a12)) k = k a1 a2 a3 a4 a5 a6 a7 a8 a9 a10 a11 a12 := rfl
theorem nI_clamps {n : Nat} (h : n < 2147483648) : (nI n).toNatClampNeg = n := nI_clamp h
theorem ix_nIs {i n : Nat} (h : i < n) (hn : n < 2147483648) : ix (nI i) n = true := ix_nI h hn
theorem nI_les {a b : Nat} (ha : a < 2147483648) (hb : b < 2147483648) : (nI a ≤ nI b) = (a ≤ b) := propext (nI_leI ha hb)
theorem nI_lts {a b : Nat} (ha : a < 2147483648) (hb : b < 2147483648) : (nI a < nI b) = (a < b) := propext (nI_ltI ha hb)
theorem nI_eqs {a b : Nat} (ha : a < 2147483648) (hb : b < 2147483648) : (nI a = nI b) = (a = b) := propext (nI_eq ha hb)
theorem pk_subs {a b : Nat} (h : b ≤ a) : nI a - nI b = nI (a - b) := pk_sub h
theorem nI_m1s {a : Nat} (h : 0 < a) : nI a + (-1) = nI (a - 1) := sb_m1 h
theorem bz_0 : bz (nI 0) = true := by decide
theorem bz_1 : bz (nI 1) = true := by decide
theorem nI_zero : (0 : Int32) = nI 0 := nI_0.symm
def itF {α : Type} (f : Nat → α → α) : Nat → Nat → α → α
  | _, 0, a => a
  | i, n + 1, a => itF f (i + 1) n (f i a)
theorem itF_0 {α : Type} (f : Nat → α → α) (i : Nat) (a : α) : itF f i 0 a = a := rfl
theorem itF_s {α : Type} (f : Nat → α → α) (i n : Nat) (a : α) : itF f i (n + 1) a = itF f (i + 1) n (f i a) := rfl
theorem itF_end {α : Type} (f : Nat → α → α) : ∀ (n i : Nat) (a : α), itF f i (n + 1) a = f (i + n) (itF f i n a) := by
  intro n
  induction n with
  | zero => intro i a; rfl
  | succ n ih =>
    intro i a
    rw [itF_s, ih, itF_s]
    rw [show i + 1 + n = i + (n + 1) by omega]
theorem itF_inv {α : Type} (f : Nat → α → α) (P : Nat → α → Prop) : ∀ (n i : Nat) (a : α), P i a → (∀ (j : Nat) (b : α), i ≤ j → j < i + n → P j b → P (j + 1) (f j b)) → P (i + n) (itF f i n a) := by
  intro n
  induction n with
  | zero => intro i a h _; exact h
  | succ n ih =>
    intro i a h hs
    rw [itF_s, show i + (n + 1) = (i + 1) + n by omega]
    exact ih (i + 1) (f i a) (hs i a (Nat.le_refl _) (by omega) h) (fun j b h1 h2 h3 => hs j b (by omega) (by omega) h3)
theorem itF_rel {α β : Type} (f : Nat → α → α) (g : Nat → β → β) (d : Nat) (P : Nat → α → β → Prop) : ∀ (n i : Nat) (a : α) (b : β), P i a b → (∀ (j : Nat) (x : α) (z : β), i ≤ j → j < i + n → P j x z → P (j + 1) (f j x) (g (d + j) z)) → P (i + n) (itF f i n a) (itF g (d + i) n b) := by
  intro n
  induction n with
  | zero => intro i a b h _; exact h
  | succ n ih =>
    intro i a b h hs
    rw [itF_s, itF_s, show i + (n + 1) = (i + 1) + n by omega, show d + i + 1 = d + (i + 1) by omega]
    exact ih (i + 1) _ _ (hs i a b (Nat.le_refl _) (by omega) h) (fun j x z h1 h2 h3 => hs j x z (by omega) (by omega) h3)
theorem itF_congr {α : Type} {f g : Nat → α → α} {n i : Nat} {a : α} (h : ∀ (j : Nat) (x : α), i ≤ j → j < i + n → f j x = g j x) : itF f i n a = itF g i n a := by
  have := itF_rel f g 0 (fun _ x z => x = z) n i a a rfl (fun j x z h1 h2 e => by rw [← e, Nat.zero_add]; exact h j x h1 h2)
  rwa [Nat.zero_add] at this
theorem itF_shift {α : Type} (g : Nat → α → α) (d n i : Nat) (a : α) : itF g (d + i) n a = itF (fun j => g (d + j)) i n a := by
  exact (itF_rel (fun j => g (d + j)) g d (fun _ x z => x = z) n i a a rfl (fun j x z _ _ e => by rw [e])).symm
theorem itF_add {α : Type} (f : Nat → α → α) : ∀ (n k i : Nat) (a : α), itF f i (n + k) a = itF f (i + n) k (itF f i n a) := by
  intro n
  induction n with
  | zero => intro k i a; rw [Nat.zero_add]; rfl
  | succ n ih =>
    intro k i a
    rw [show n + 1 + k = (n + k) + 1 by omega, itF_s, ih, itF_s, show i + 1 + n = i + (n + 1) by omega]
theorem isWithin_s (Fu : Nat) (v lo hi : Int32) : f_X3_isWithin Fu v lo hi = some (if lo ≤ v ∧ v ≤ hi then nI 1 else nI 0) := by
  unfold f_X3_isWithin
  by_cases h1 : v < lo
  · have h2 : ¬ (lo ≤ v ∧ v ≤ hi) := fun h => Int32.not_lt.mpr h.1 h1
    simp only [nm_eq, if_pos h1, if_neg h2, bz_0, gd_true]
  · by_cases h3 : hi < v
    · have h2 : ¬ (lo ≤ v ∧ v ≤ hi) := fun h => Int32.not_lt.mpr h.2 h3
      simp only [nm_eq, if_neg h1, if_pos h3, if_neg h2, bz_0, gd_true]
    · have h2 : (lo ≤ v ∧ v ≤ hi) := ⟨Int32.not_lt.mp h1, Int32.not_lt.mp h3⟩
      simp only [nm_eq, if_neg h1, if_neg h3, if_pos h2, bz_1, gd_true]
theorem in4_s (Fu : Nat) (v lo hi : Int32) : f_X4_in Fu v lo hi = some (if lo ≤ v ∧ v ≤ hi then nI 1 else nI 0) := by
  unfold f_X4_in
  by_cases h1 : v < lo
  · have h2 : ¬ (lo ≤ v ∧ v ≤ hi) := fun h => Int32.not_lt.mpr h.1 h1
    simp only [nm_eq, if_pos h1, if_neg h2, bz_0, gd_true]
  · by_cases h3 : hi < v
    · have h2 : ¬ (lo ≤ v ∧ v ≤ hi) := fun h => Int32.not_lt.mpr h.2 h3
      simp only [nm_eq, if_neg h1, if_pos h3, if_neg h2, bz_0, gd_true]
    · have h2 : (lo ≤ v ∧ v ≤ hi) := ⟨Int32.not_lt.mp h1, Int32.not_lt.mp h3⟩
      simp only [nm_eq, if_neg h1, if_neg h3, if_pos h2, bz_1, gd_true]
theorem heatBetween_L (Fu : Nat) (k : Int32 → Option Int32) (he : Ar) (hi : Nat) (hb : hi ≤ 150) : ∀ (fu i : Nat) (acc : Int32), i ≤ hi → hi - i < fu → f_X2_heatBetween_L5 Fu k he (nI hi) fu acc (nI i) = k (itF (fun p a => a + he p) i (hi - i) acc) := by
  intro fu
  induction fu with
  | zero => intro i acc h1 h2; omega
  | succ fu ih =>
    intro i acc h1 h2
    rw [f_X2_heatBetween_L5_s]
    by_cases h : hi ≤ i
    · have e : hi - i = 0 := by omega
      rw [e, itF_0]
      simp (disch := omega) only [gd_true, nm_eq, jn_eq, bd1_s, bd2_s, bd3_s, bd4_s, bd5_s, bd6_s, bd7_s, bd8_s, bd9_s, bd10_s, bd11_s, bd12_s, nI_add, pk_mul, pk_subs, nI_m1s, ix_nIs, nI_clamps, nI_les, nI_lts, nI_eqs, bz_0, bz_1, nI_zero, eq_self, if_true, if_false, if_pos, if_neg]
    · have e : hi - i = (hi - (i + 1)) + 1 := by omega
      rw [e, itF_s, ← ih (i + 1) _ (by omega) (by omega)]
      simp (disch := omega) only [gd_true, nm_eq, jn_eq, bd1_s, bd2_s, bd3_s, bd4_s, bd5_s, bd6_s, bd7_s, bd8_s, bd9_s, bd10_s, bd11_s, bd12_s, nI_add, pk_mul, pk_subs, nI_m1s, ix_nIs, nI_clamps, nI_les, nI_lts, nI_eqs, bz_0, bz_1, nI_zero, eq_self, if_true, if_false, if_pos, if_neg]
