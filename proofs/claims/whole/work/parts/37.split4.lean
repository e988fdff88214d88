/-! PURE: the reference's split -/
def shfF (s : Ar) (n i : Nat) : Ar := fun j => if (9 + i < j ∧ j ≤ 9 + n) ∨ (21 + i < j ∧ j ≤ 21 + n) ∨ (33 + i < j ∧ j ≤ 33 + n) then s (j - 1) else s j
theorem split4_step (s : Ar) {n i : Nat} (hn : n < 12) (hi : i ≤ n) (h0 : 0 < i) : upd (upd (upd (shfF s n i) (9 + i) (shfF s n i (9 + i - 1))) (21 + i) ((upd (shfF s n i) (9 + i) (shfF s n i (9 + i - 1))) (21 + i - 1))) (33 + i) ((upd (upd (shfF s n i) (9 + i) (shfF s n i (9 + i - 1))) (21 + i) ((upd (shfF s n i) (9 + i) (shfF s n i (9 + i - 1))) (21 + i - 1))) (33 + i - 1)) = shfF s n (i - 1) := by
  have e1 : shfF s n i (9 + i - 1) = s (9 + i - 1) := by unfold shfF; rw [if_neg (by omega)]
  have e2 : (upd (shfF s n i) (9 + i) (shfF s n i (9 + i - 1))) (21 + i - 1) = s (21 + i - 1) := by
    unfold upd
    rw [if_neg (by omega)]
    unfold shfF
    rw [if_neg (by omega)]
  have e3 : (upd (upd (shfF s n i) (9 + i) (shfF s n i (9 + i - 1))) (21 + i) ((upd (shfF s n i) (9 + i) (shfF s n i (9 + i - 1))) (21 + i - 1))) (33 + i - 1) = s (33 + i - 1) := by
    unfold upd
    rw [if_neg (by omega), if_neg (by omega)]
    unfold shfF
    rw [if_neg (by omega)]
  rw [e3, e2, e1]
  funext j
  unfold upd
  by_cases j3 : j = 33 + i
  · subst j3
    rw [if_pos rfl]
    unfold shfF
    rw [if_pos (by omega)]
  · rw [if_neg j3]
    by_cases j2 : j = 21 + i
    · subst j2
      rw [if_pos rfl]
      unfold shfF
      rw [if_pos (by omega)]
    · rw [if_neg j2]
      by_cases j1 : j = 9 + i
      · subst j1
        rw [if_pos rfl]
        unfold shfF
        rw [if_pos (by omega)]
      · rw [if_neg j1]
        unfold shfF
        by_cases hc : (9 + i < j ∧ j ≤ 9 + n) ∨ (21 + i < j ∧ j ≤ 21 + n) ∨ (33 + i < j ∧ j ≤ 33 + n)
        · rw [if_pos hc, if_pos (by omega)]
        · rw [if_neg hc, if_neg (by omega)]
theorem split4_L (Fu : Nat) (k : Ar → Option Ar) (s : Ar) {n K : Nat} (hn : n < 12) (hK : K < n) : ∀ (fu i : Nat), K + 1 ≤ i → i ≤ n → i - (K + 1) < fu → f_X4_split_L7 Fu k (nI K) fu (nI i) (shfF s n i) = k (shfF s n (K + 1)) := by
  intro fu
  induction fu with
  | zero => intro i h1 h2 h3; omega
  | succ fu ih =>
    intro i h1 h2 h3
    rw [f_X4_split_L7_s]
    by_cases hh : i ≤ K + 1
    · have e : i = K + 1 := by omega
      subst e
      simp (disch := omega) only [gd_true, nm_eq, jn_eq, bd1_s, bd2_s, bd3_s, bd4_s, bd5_s, bd6_s, bd7_s, bd8_s, bd9_s, bd10_s, bd11_s, bd12_s, nI_add, pk_mul, pk_subs, nI_m1s, ix_nIs, nI_clamps, nI_les, nI_lts, nI_eqs, bz_0, bz_1, nI_zero, eq_self, if_true, if_false, if_pos, if_neg]
    · rw [← ih (i - 1) (by omega) (by omega) (by omega), ← split4_step s hn h2 (by omega)]
      simp (disch := omega) only [gd_true, nm_eq, jn_eq, bd1_s, bd2_s, bd3_s, bd4_s, bd5_s, bd6_s, bd7_s, bd8_s, bd9_s, bd10_s, bd11_s, bd12_s, nI_add, pk_mul, pk_subs, nI_m1s, ix_nIs, nI_clamps, nI_les, nI_lts, nI_eqs, bz_0, bz_1, nI_zero, eq_self, if_true, if_false, if_neg hh]
theorem split4_s {Fu : Nat} (hF : 20000000 ≤ Fu) {A : Sh} {s : Ar} (hW : WF A) (h : RS A s) {K p : Nat} (hK : K < A.ns) (h1 : A.st K < p) (h2 : p < A.st (K + 1)) (hn : A.ns < 12) : ∃ s', f_X4_split Fu s (nI K) (nI (p - A.st K)) = some s' ∧ RS (splitA A K p) s' := by
  have hm2 := hW.1.le (show K + 1 ≤ A.ns by omega) (Nat.le_refl _)
  have hw := hW.w
  have hw' : A.st A.ns ≤ 150 := hW.w
  have e0 : shfF s A.ns A.ns = s := by
    funext j
    unfold shfF
    rw [if_neg (by omega)]
  have el : ∀ (k : Ar → Option Ar), f_X4_split_L7 Fu k (nI K) Fu (s 3) s = k (shfF s A.ns (K + 1)) := fun k => by
    have := split4_L Fu k s hn hK Fu A.ns (by omega) (Nat.le_refl _) (by omega)
    rw [e0] at this
    rw [h.rns]
    exact this
  have g1 : shfF s A.ns (K + 1) (9 + K) = nI (A.st (K + 1) - A.st K) := by unfold shfF; rw [if_neg (by omega)]; exact h.rlo hK
  have g2 : shfF s A.ns (K + 1) (21 + K) = A.fa K := by unfold shfF; rw [if_neg (by omega)]; exact h.rfa hK
  have g3 : shfF s A.ns (K + 1) (33 + K) = A.ge K := by unfold shfF; rw [if_neg (by omega)]; exact h.rge hK
  have g4 : shfF s A.ns (K + 1) 3 = nI A.ns := by unfold shfF; rw [if_neg (by omega)]; exact h.rns
  generalize hS : shfF s A.ns (K + 1) = S at el g1 g2 g3 g4
  have u1 : ∀ (f : Ar) (a b : Nat) (x : Int32), a ≠ b → upd f a x b = f b := fun f a b x hab => by unfold upd; rw [if_neg (Ne.symm hab)]
  have u2 : ∀ (f : Ar) (a : Nat) (x : Int32), upd f a x a = x := fun f a x => by unfold upd; rw [if_pos rfl]
  refine ⟨upd (upd (upd (upd (upd S (9 + K + 1) (nI (A.st (K + 1) - A.st K - (p - A.st K)))) (9 + K) (nI (p - A.st K))) (21 + K + 1) (A.fa K)) (33 + K + 1) (A.ge K + nI 1)) 3 (nI (A.ns + 1)), ?_, ?_⟩
  · unfold f_X4_split
    rw [jn_eq, el]
    rw [nI_add, nI_add, ix_nIs (by omega) (by omega), gd_true, ix_nIs (by omega) (by omega), gd_true, nm_eq, nI_clamps (by omega), nI_clamps (by omega), g1, pk_subs (by omega), gd_true]
    rw [nI_add, nI_add, ix_nIs (by omega) (by omega), gd_true, ix_nIs (by omega) (by omega), gd_true, nm_eq, nI_clamps (by omega), nI_clamps (by omega)]
    rw [u1 _ _ _ _ (show 9 + K ≠ 21 + K by omega), u1 _ _ _ _ (show 9 + K + 1 ≠ 21 + K by omega), g2]
    rw [nI_add, nI_add, ix_nIs (by omega) (by omega), gd_true, ix_nIs (by omega) (by omega), gd_true, nm_eq, nI_clamps (by omega), nI_clamps (by omega)]
    rw [u1 _ _ _ _ (show 21 + K + 1 ≠ 33 + K by omega), u1 _ _ _ _ (show 9 + K ≠ 33 + K by omega), u1 _ _ _ _ (show 9 + K + 1 ≠ 33 + K by omega), g3]
    rw [u1 _ _ _ _ (show 33 + K + 1 ≠ 3 by omega), u1 _ _ _ _ (show 21 + K + 1 ≠ 3 by omega), u1 _ _ _ _ (show 9 + K ≠ 3 by omega), u1 _ _ _ _ (show 9 + K + 1 ≠ 3 by omega), g4, nI_add]
  · have key : ∀ j, j ≠ 3 → j ≠ 33 + K + 1 → j ≠ 21 + K + 1 → j ≠ 9 + K → j ≠ 9 + K + 1 → upd (upd (upd (upd (upd S (9 + K + 1) (nI (A.st (K + 1) - A.st K - (p - A.st K)))) (9 + K) (nI (p - A.st K))) (21 + K + 1) (A.fa K)) (33 + K + 1) (A.ge K + nI 1)) 3 (nI (A.ns + 1)) j = shfF s A.ns (K + 1) j := fun j a b c d e => by
      rw [u1 _ _ _ _ (Ne.symm a), u1 _ _ _ _ (Ne.symm b), u1 _ _ _ _ (Ne.symm c), u1 _ _ _ _ (Ne.symm d), u1 _ _ _ _ (Ne.symm e), hS]
    refine ⟨fun i hi => ?_, ?_, ?_, ?_, ?_, ?_, ?_, fun k (hk : k < A.ns + 1) => ?_, fun k (hk : k < A.ns + 1) => ?_, fun k (hk : k < A.ns + 1) => ?_, fun q hq => ?_, fun q hq => ?_⟩
    · rw [key i (by omega) (by omega) (by omega) (by omega) (by omega)]; unfold shfF; rw [if_neg (by omega)]; exact h.rse hi
    · rw [u2]; rfl
    · rw [split_wn hK, key 4 (by omega) (by omega) (by omega) (by omega) (by omega)]; unfold shfF; rw [if_neg (by omega)]; exact h.rwn
    · rw [key 5 (by omega) (by omega) (by omega) (by omega) (by omega)]; unfold shfF; rw [if_neg (by omega)]; exact h.rnf
    · rw [key 6 (by omega) (by omega) (by omega) (by omega) (by omega)]; unfold shfF; rw [if_neg (by omega)]; exact h.rsp
    · rw [key 7 (by omega) (by omega) (by omega) (by omega) (by omega)]; unfold shfF; rw [if_neg (by omega)]; exact h.rbo
    · rw [key 8 (by omega) (by omega) (by omega) (by omega) (by omega)]; unfold shfF; rw [if_neg (by omega)]; exact h.rfi
    · rw [split_st, split_st]
      by_cases k1 : k = K
      · subst k1
        rw [u1 _ _ _ _ (show 3 ≠ 9 + k by omega), u1 _ _ _ _ (show 33 + k + 1 ≠ 9 + k by omega), u1 _ _ _ _ (show 21 + k + 1 ≠ 9 + k by omega), u2, if_neg (by omega), if_pos rfl, if_pos (Nat.le_refl _)]
      · by_cases k2 : k = K + 1
        · subst k2
          rw [u1 _ _ _ _ (show 3 ≠ 9 + (K + 1) by omega), u1 _ _ _ _ (show 33 + K + 1 ≠ 9 + (K + 1) by omega), u1 _ _ _ _ (show 21 + K + 1 ≠ 9 + (K + 1) by omega), u1 _ _ _ _ (show 9 + K ≠ 9 + (K + 1) by omega), show 9 + (K + 1) = 9 + K + 1 by omega, u2, if_neg (by omega), if_neg (by omega), if_neg (by omega), if_pos rfl, show K + 1 + 1 - 1 = K + 1 by omega]
          congr 1
          omega
        · rw [key (9 + k) (by omega) (by omega) (by omega) (by omega) (by omega)]
          unfold shfF
          by_cases k3 : k < K
          · rw [if_neg (by omega), if_pos (by omega), if_pos (by omega)]; exact h.rlo (by omega)
          · rw [if_pos (by omega), if_neg (by omega), if_neg (by omega), if_neg (by omega), if_neg k2, show 9 + k - 1 = 9 + (k - 1) by omega, show k + 1 - 1 = (k - 1) + 1 by omega]; exact h.rlo (by omega)
    · show _ = if k ≤ K then A.fa k else A.fa (k - 1)
      by_cases k1 : k = K + 1
      · subst k1
        rw [u1 _ _ _ _ (show 3 ≠ 21 + (K + 1) by omega), u1 _ _ _ _ (show 33 + K + 1 ≠ 21 + (K + 1) by omega), show 21 + (K + 1) = 21 + K + 1 by omega, u2, if_neg (by omega), Nat.add_sub_cancel]
      · by_cases k4 : 21 + k = 33 + K + 1
        · omega
        · rw [key (21 + k) (by omega) (by omega) (by omega) (by omega) (by omega)]
          unfold shfF
          by_cases k3 : k ≤ K
          · rw [if_neg (by omega), if_pos k3]; exact h.rfa (by omega)
          · rw [if_pos (by omega), if_neg k3, show 21 + k - 1 = 21 + (k - 1) by omega]; exact h.rfa (by omega)
    · show _ = if k ≤ K then A.ge k else if k = K + 1 then A.ge K + nI 1 else A.ge (k - 1)
      by_cases k1 : k = K + 1
      · subst k1
        rw [u1 _ _ _ _ (show 3 ≠ 33 + (K + 1) by omega), show 33 + (K + 1) = 33 + K + 1 by omega, u2, if_neg (by omega), if_pos rfl]
      · rw [key (33 + k) (by omega) (by omega) (by omega) (by omega) (by omega)]
        unfold shfF
        by_cases k3 : k ≤ K
        · rw [if_neg (by omega), if_pos k3]; exact h.rge (by omega)
        · rw [if_pos (by omega), if_neg k3, if_neg k1, show 33 + k - 1 = 33 + (k - 1) by omega]; exact h.rge (by omega)
    · rw [split_wn hK] at hq
      rw [key (45 + q) (by omega) (by omega) (by omega) (by omega) (by omega)]; unfold shfF; rw [if_neg (by omega)]; exact h.rle hq
    · rw [split_wn hK] at hq
      rw [key (195 + q) (by omega) (by omega) (by omega) (by omega) (by omega)]; unfold shfF; rw [if_neg (by omega)]; exact h.rhe hq
