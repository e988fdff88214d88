/-! PURE: set -/
def Sh.setSe (A : Sh) (g : FN) : Sh := Sh.mk g A.ns A.st A.le A.he A.fa A.ge A.nf A.sp A.bo A.fi
section ST
variable {Fu M : Nat} {A : Sh} {se le he sa fa ge : Ar} {ns nf sp bo fi : Int32} {s : Ar} {hs : Nat → Sh} {o z : Nat} {hv : Nat → SV} {be : Ar}
theorem sim_set (hF : 20000000 ≤ Fu) (hW : WF A) (hM : A.sp ≤ M) (h : RV A se le he sa fa ge ns nf sp bo fi) (g : RS A s) (hH : HR M hs o z hv be) (p q : Int32) :
    ∃ r B hs' o' z' hv' be' se' s', WF B ∧ B.sp ≤ M + 12 ∧ RV B se' le he sa fa ge ns nf sp bo fi ∧ RS B s' ∧ HR M hs' o' z' hv' be' ∧
      f_X3_set Fu se le he sa fa ge ns nf sp bo fi hv (nI o) (nI z) p q = some (r, se', hv', nI o', nI z') ∧ f_X4_set Fu s be (nI z) p q = some (r, s', be', nI z') := by
  unfold f_X3_set f_X4_set
  rw [nm_eq, nm_eq, isWithin_s, in4_s, bd1_s, bd1_s]
  by_cases hb : nI 0 ≤ p ∧ p ≤ nI 2
  · rw [if_pos hb, if_neg one_ne, if_neg one_ne]
    obtain ⟨k, hk1, hk2, rfl⟩ := rng hb (by omega) (by omega)
    obtain ⟨hs', o', z', hv', be', q1, q2, q3⟩ := rec_sim hF hW hM h g hH
    have ekey : ∃ lo hi : Nat, lo ≤ hi ∧ hi ≤ 99 ∧ (k = 0 → 10 ≤ lo ∧ hi ≤ 99) ∧ (k = 1 → hi ≤ 4) ∧ (k = 2 → hi ≤ 20) ∧ (if k = 0 then nI 10 else nI 0) = nI lo ∧ (if k = 0 then nI 99 else if k = 1 then nI 4 else nI 20) = nI hi ∧ (if nI k = 0 then nI 10 else nI 0) = nI lo ∧ (if nI k = 0 then nI 99 else if nI k = nI 1 then nI 4 else nI 20) = nI hi := by
      have hk : k = 0 ∨ k = 1 ∨ k = 2 := by omega
      rcases hk with rfl | rfl | rfl
      · exact ⟨10, 99, by omega, by omega, fun _ => by omega, fun z => by omega, fun z => by omega, by decide, by decide, by decide, by decide⟩
      · exact ⟨0, 4, by omega, by omega, fun z => by omega, fun _ => by omega, fun z => by omega, by decide, by decide, by decide, by decide⟩
      · exact ⟨0, 20, by omega, by omega, fun z => by omega, fun z => by omega, fun _ => by omega, by decide, by decide, by decide, by decide⟩
    obtain ⟨lo, hi, e1, e2, e3, e4, e5, e6, e7, e8, e9⟩ := ekey
    rw [ix_nIs (by omega) (by omega), gd_true, nI_clamps (by omega), e6, e7, e8, e9, isWithin_s, in4_s, bd1_s, bd1_s]
    by_cases hc : nI lo ≤ q ∧ q ≤ nI hi
    · rw [if_pos hc, if_neg one_ne, if_neg one_ne]
      obtain ⟨v, hv1, hv2, rfl⟩ := rng hc (by omega) e1
      have hS := hW.2.1
      refine ⟨nI (A.se k), A.setSe (upN A.se k v), hs', o', z', hv', be', upd se k (nI v), upd s k (nI v), ⟨hW.1, ⟨?_, ?_, ?_, ?_⟩, hW.2.2⟩, ?_, ⟨fun i hi => ?_, h.2⟩, ⟨fun i hi => ?_, ?_, ?_, ?_, ?_, ?_, ?_, fun j hj => ?_, fun j hj => ?_, fun j hj => ?_, fun j hj => ?_, fun j hj => ?_⟩, q1, ?_, ?_⟩
      · show 10 ≤ upN A.se k v 0
        by_cases c : k = 0
        · rw [c, upN_eq]; have := e3 c; omega
        · rw [upN_ne (by omega)]; exact hS.1
      · show upN A.se k v 0 ≤ 99
        by_cases c : k = 0
        · rw [c, upN_eq]; have := e3 c; omega
        · rw [upN_ne (by omega)]; exact hS.2.1
      · show upN A.se k v 1 ≤ 4
        by_cases c : k = 1
        · rw [c, upN_eq]; have := e4 c; omega
        · rw [upN_ne (by omega)]; exact hS.2.2.1
      · show upN A.se k v 2 ≤ 20
        by_cases c : k = 2
        · rw [c, upN_eq]; have := e5 c; omega
        · rw [upN_ne (by omega)]; exact hS.2.2.2
      · show A.sp ≤ M + 12
        omega
      · show upd se k (nI v) i = nI (upN A.se k v i)
        by_cases c : i = k
        · rw [c, upd_eq, upN_eq]
        · rw [upd_ne c, upN_ne c]; exact h.rse hi
      · show upd s k (nI v) i = nI (upN A.se k v i)
        by_cases c : i = k
        · rw [c, upd_eq, upN_eq]
        · rw [upd_ne c, upN_ne c]; exact g.rse hi
      · rw [upd_ne (by omega)]; exact g.rns
      · rw [upd_ne (by omega)]; exact g.rwn
      · rw [upd_ne (by omega)]; exact g.rnf
      · rw [upd_ne (by omega)]; exact g.rsp
      · rw [upd_ne (by omega)]; exact g.rbo
      · rw [upd_ne (by omega)]; exact g.rfi
      · rw [upd_ne (by omega)]; exact g.rlo hj
      · rw [upd_ne (by omega)]; exact g.rfa hj
      · rw [upd_ne (by omega)]; exact g.rge hj
      · rw [upd_ne (by omega)]; exact g.rle hj
      · rw [upd_ne (by omega)]; exact g.rhe hj
      · rw [q2, bd3_s, h.rse (show k < 3 by omega)]
      · rw [q3, bd2_s, nI_add, Nat.zero_add, ix_nIs (by omega) (by omega), gd_true, nm_eq, gd_true, nI_clamps (by omega), g.rse (show k < 3 by omega)]
    · rw [if_neg hc, if_pos zero_eq, if_pos zero_eq]
      exact ⟨-2, A, hs, o, z, hv, be, se, s, hW, by omega, h, g, hH, rfl, rfl⟩
  · rw [if_neg hb, if_pos zero_eq, if_pos zero_eq]
    exact ⟨-2, A, hs, o, z, hv, be, se, s, hW, by omega, h, g, hH, rfl, rfl⟩
end ST
