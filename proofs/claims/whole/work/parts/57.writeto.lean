/-! PURE: the class writes the pad's stories behind its own -/
section WT
variable {Fu n : Nat} {A : Sh} {se le he sa fa ge : Ar} {ns nf sp bo fi : Int32} {cs pd : Ar}
theorem words_x {T : TT} (h : RV (addT A T) se le he sa fa ge ns nf sp bo fi) (h1 : 1 ≤ tn T) (h2 : te T (tn T) = tw T) (h12 : A.ns + tn T ≤ 12) : f_X2_words Fu sa ns = some (nI (A.wn + tw T)) := by
  have e1 : ns = nI (A.ns + tn T) := h.rns
  have e2 : sa (A.ns + tn T) = nI (A.wn + tw T) := by
    have := h.rsa (show A.ns + tn T ≤ (addT A T).ns from Nat.le_refl _)
    rw [this, ad_st, if_neg (by omega), Nat.add_sub_cancel_left, h2]
  rw [e1]
  unfold f_X2_words
  rw [ix_nIs (by omega) (by omega), gd_true, nI_clamps (by omega), e2]
theorem addStory_s {T : TT} (h : RV (addT A T) se le he sa fa ge ns nf sp bo fi) (h2 : te T (tn T) = tw T) (hb : tn T = 0 → tw T = 0) (h12 : A.ns + tn T < 12) :
    ∃ sa' fa' ge', f_X2_addStory Fu sa fa ge ns nf = some (sa', fa', ge', nI (A.ns + tn T + 1), A.nf + nI (tn T + 1)) ∧ RV (addT A (tst 47 T)) se le he sa' fa' ge' (nI (A.ns + tn T + 1)) (A.nf + nI (tn T + 1)) sp bo fi := by
  have e1 : ns = nI (A.ns + tn T) := h.rns
  have e0 : nf = A.nf + nI (tn T) := h.rnf
  have e2 : sa (A.ns + tn T) = nI (A.wn + tw T) := by
    have := h.rsa (show A.ns + tn T ≤ (addT A T).ns from Nat.le_refl _)
    rw [this, ad_st]
    by_cases c : tn T = 0
    · rw [if_pos (by omega), c, hb c]; rfl
    · rw [if_neg (by omega), Nat.add_sub_cancel_left, h2]
  have e3 : A.nf + nI (tn T) + nI 1 = A.nf + nI (tn T + 1) := by rw [Int32.add_assoc, nI_add]
  have ewn : (addT A (tst 47 T)).wn = (addT A T).wn := by
    show (addT A (tst 47 T)).st (A.ns + tn (tst 47 T)) = (addT A T).st (A.ns + tn T)
    rw [tst_sl]
    show (if A.ns + (tn T + 1) ≤ A.ns then A.st (A.ns + (tn T + 1)) else A.wn + upN (te T) (tn T + 1) (tw T) (A.ns + (tn T + 1) - A.ns)) = (addT A T).st (A.ns + tn T)
    rw [if_neg (by omega), Nat.add_sub_cancel_left, upN_eq, ad_st]
    by_cases c : tn T = 0
    · rw [if_pos (by omega), c, hb c]; rfl
    · rw [if_neg (by omega), Nat.add_sub_cancel_left, h2]
  refine ⟨upd sa (A.ns + tn T + 1) (nI (A.wn + tw T)), upd fa (A.ns + tn T) nf, upd ge (A.ns + tn T) (nI 0), ?_, ?_⟩
  · rw [e1]
    unfold f_X2_addStory
    rw [ix_nIs (by omega) (by omega), gd_true, gd_true, nI_add, ix_nIs (by omega) (by omega), gd_true, ix_nIs (by omega) (by omega), gd_true, nm_eq, nI_clamps (by omega), nI_clamps (by omega), e2, e0, e3]
  · refine ⟨h.1, fun p hp => ?_, fun p hp => ?_, fun k hk => ?_, fun k hk => ?_, fun k hk => ?_, ?_, ?_, h.rsp, h.rbo, h.rfi⟩
    · rw [ewn] at hp
      have := h.rle hp
      rw [this, tst_sl]
      rfl
    · rw [ewn] at hp
      have := h.rhe hp
      rw [this, tst_sl]
      rfl
    · rw [tst_sl] at hk ⊢
      have hk : k ≤ A.ns + (tn T + 1) := hk
      show _ = nI (if k ≤ A.ns then A.st k else A.wn + upN (te T) (tn T + 1) (tw T) (k - A.ns))
      by_cases c : k = A.ns + tn T + 1
      · rw [c, upd_eq, if_neg (by omega), show A.ns + tn T + 1 - A.ns = tn T + 1 by omega, upN_eq]
      · rw [upd_ne c]
        have := h.rsa (show k ≤ (addT A T).ns from (by show k ≤ A.ns + tn T; omega))
        rw [this, ad_st]
        by_cases c2 : k ≤ A.ns
        · rw [if_pos c2, if_pos c2]
        · rw [if_neg c2, if_neg c2, upN_ne (by omega)]
    · rw [tst_sl] at hk ⊢
      have hk : k < A.ns + (tn T + 1) := hk
      show _ = (if k < A.ns then A.fa k else A.nf + nI (k - A.ns))
      by_cases c : k = A.ns + tn T
      · rw [c, upd_eq, if_neg (by omega), e0, Nat.add_sub_cancel_left]
      · rw [upd_ne c]
        exact h.rfa (show k < (addT A T).ns from (by show k < A.ns + tn T; omega))
    · rw [tst_sl] at hk ⊢
      have hk : k < A.ns + (tn T + 1) := hk
      show _ = (if k < A.ns then A.ge k else nI 0)
      by_cases c : k = A.ns + tn T
      · rw [c, upd_eq, if_neg (by omega)]
      · rw [upd_ne c]
        exact h.rge (show k < (addT A T).ns from (by show k < A.ns + tn T; omega))
    · rw [tst_sl]; rfl
    · rw [tst_sl]; rfl
theorem addWord_s {T : TT} {c : Nat} (hc : isL c) (h : RV (addT A T) se le he sa fa ge ns nf sp bo fi) (h1 : 1 ≤ tn T) (h2 : te T (tn T) = tw T) (h12 : A.ns + tn T ≤ 12) (h150 : A.wn + tw T < 150) :
    ∃ le' he' sa', f_X2_addWord Fu le he sa ns (nI c - nI 97) = some (le', he', sa') ∧ RV (addT A (tst c T)) se le' he' sa' fa ge ns nf sp bo fi := by
  have e1 : ns = nI (A.ns + tn T) := h.rns
  have ew := words_x (Fu := Fu) h h1 h2 h12
  have wn1 := ad_wn (A := A) h1 h2
  have wn2 : (addT A (tst c T)).wn = A.wn + (tw T + 1) := by
    rw [tst_L hc]
    show (addT A _).st (A.ns + tn T) = _
    show (if A.ns + tn T ≤ A.ns then A.st (A.ns + tn T) else A.wn + upN (te T) (tn T) (tw T + 1) (A.ns + tn T - A.ns)) = _
    rw [if_neg (by omega), Nat.add_sub_cancel_left, upN_eq]
  refine ⟨upd le (A.wn + tw T) (nI (c - 97)), upd he (A.wn + tw T) (nI 0), upd sa (A.ns + tn T) (nI (A.wn + tw T + 1)), ?_, ?_⟩
  · unfold f_X2_addWord
    rw [ew, bd1_s, ix_nIs (by omega) (by omega), gd_true, gd_true, e1, ix_nIs (by omega) (by omega), gd_true, nI_clamps (by omega), nI_clamps (by omega), pk_subs (by omega), nI_add]
  · refine ⟨h.1, fun p hp => ?_, fun p hp => ?_, fun k hk => ?_, ?_, ?_, ?_, ?_, h.rsp, h.rbo, h.rfi⟩
    · rw [wn2] at hp
      rw [tst_L hc]
      show _ = nI (if p < A.wn then A.le p else upN (tl T) (tw T) (c - 97) (p - A.wn))
      by_cases d : p = A.wn + tw T
      · rw [d, upd_eq, if_neg (by omega), Nat.add_sub_cancel_left, upN_eq]
      · rw [upd_ne d, h.rle (show p < (addT A T).wn by rw [wn1]; omega), ad_le]
        by_cases d2 : p < A.wn
        · rw [if_pos d2, if_pos d2]
        · rw [if_neg d2, if_neg d2, upN_ne (by omega)]
    · rw [wn2] at hp
      rw [tst_L hc]
      show _ = nI (if p < A.wn then A.he p else upN (th T) (tw T) 0 (p - A.wn))
      by_cases d : p = A.wn + tw T
      · rw [d, upd_eq, if_neg (by omega), Nat.add_sub_cancel_left, upN_eq]
      · rw [upd_ne d, h.rhe (show p < (addT A T).wn by rw [wn1]; omega), ad_he]
        by_cases d2 : p < A.wn
        · rw [if_pos d2, if_pos d2]
        · rw [if_neg d2, if_neg d2, upN_ne (by omega)]
    · rw [tst_L hc] at hk ⊢
      have hk : k ≤ A.ns + tn T := hk
      show _ = nI (if k ≤ A.ns then A.st k else A.wn + upN (te T) (tn T) (tw T + 1) (k - A.ns))
      by_cases d : k = A.ns + tn T
      · rw [d, upd_eq, if_neg (by omega), Nat.add_sub_cancel_left, upN_eq]
        congr 1
      · rw [upd_ne d, h.rsa (show k ≤ (addT A T).ns from hk), ad_st]
        by_cases d2 : k ≤ A.ns
        · rw [if_pos d2, if_pos d2]
        · rw [if_neg d2, if_neg d2, upN_ne (by omega)]
    · rw [tst_L hc]; exact h.2.2.2.2.1
    · rw [tst_L hc]; exact h.2.2.2.2.2.1
    · rw [tst_L hc]; exact h.rns
    · rw [tst_L hc]; exact h.rnf
theorem addDigit_s {T : TT} {c : Nat} (hc : 48 ≤ c ∧ c ≤ 57) (h : RV (addT A T) se le he sa fa ge ns nf sp bo fi) (h1 : 1 ≤ tn T) (h2 : te T (tn T) = tw T) (h0 : 0 < tw T) (h12 : A.ns + tn T ≤ 12) (h150 : A.wn + tw T ≤ 150) :
    ∃ he', f_X2_addDigit Fu he sa ns (nI c - nI 48) = some he' ∧ RV (addT A (tst c T)) se le he' sa fa ge ns nf sp bo fi := by
  have ew := words_x (Fu := Fu) h h1 h2 h12
  have wn1 := ad_wn (A := A) h1 h2
  have wn2 : (addT A (tst c T)).wn = A.wn + tw T := by rw [tst_d hc]; exact wn1
  have eh : he (A.wn + tw T - 1) = nI (th T (tw T - 1)) := by
    rw [h.rhe (show A.wn + tw T - 1 < (addT A T).wn by rw [wn1]; omega), ad_he, if_neg (by omega), show A.wn + tw T - 1 - A.wn = tw T - 1 by omega]
  refine ⟨upd he (A.wn + tw T - 1) (nI (th T (tw T - 1) * 10 + (c - 48))), ?_, ?_⟩
  · unfold f_X2_addDigit
    rw [ew, bd1_s, pk_subs (by omega), ix_nIs (by omega) (by omega), gd_true, gd_true, nI_clamps (by omega), eh, pk_mul, pk_subs (by omega), nI_add, nm_eq]
  · refine ⟨h.1, fun p hp => ?_, fun p hp => ?_, ?_, ?_, ?_, ?_, ?_, h.rsp, h.rbo, h.rfi⟩
    · rw [wn2] at hp
      rw [tst_d hc]
      exact h.rle (show p < (addT A T).wn by rw [wn1]; omega)
    · rw [wn2] at hp
      rw [tst_d hc]
      show _ = nI (if p < A.wn then A.he p else upN (th T) (tw T - 1) (th T (tw T - 1) * 10 + (c - 48)) (p - A.wn))
      by_cases d : p = A.wn + tw T - 1
      · rw [d, upd_eq, if_neg (by omega), show A.wn + tw T - 1 - A.wn = tw T - 1 by omega, upN_eq]
      · rw [upd_ne d, h.rhe (show p < (addT A T).wn by rw [wn1]; omega), ad_he]
        by_cases d2 : p < A.wn
        · rw [if_pos d2, if_pos d2]
        · rw [if_neg d2, if_neg d2, upN_ne (by omega)]
    · rw [tst_d hc]; exact h.2.2.2.1
    · rw [tst_d hc]; exact h.2.2.2.2.1
    · rw [tst_d hc]; exact h.2.2.2.2.2.1
    · rw [tst_d hc]; exact h.rns
    · rw [tst_d hc]; exact h.rnf
end WT
