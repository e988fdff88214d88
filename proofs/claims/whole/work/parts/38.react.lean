/-! PURE: one reaction, both sides -/
def Sh.setCt (A : Sh) (sp : Nat) (bo fi : Int32) : Sh := Sh.mk A.se A.ns A.st A.le A.he A.fa A.ge A.nf sp bo fi
def zeroA (A : Sh) (p : Nat) : Sh := A.setHe (fun q => if q = p then 0 else A.he q)
def brA (A : Sh) (K p : Nat) : Sh := if p = A.st K then A.setCt A.sp (A.bo + nI 1) A.fi else if A.ns < 12 then (splitA A K p).setCt (A.sp + 1) A.bo A.fi else A.setCt A.sp A.bo (A.fi + nI 1)
def reactA (A : Sh) (p : Nat) : Sh :=
  let K := A.so p
  let B := brA (zeroA A p) K p
  let C := if A.st K < p then warmA B (p - 1) (A.se 1) else B
  if p + 1 < A.st (K + 1) then warmA C (p + 1) (A.se 1) else C
theorem WF.zero {A : Sh} (hW : WF A) (p : Nat) : WF (zeroA A p) := hW.he (fun q hq => by
  show (if q = p then 0 else A.he q) ≤ 999
  by_cases h : q = p
  · rw [if_pos h]; omega
  · rw [if_neg h]; exact (hW.2.2 q hq).2)
theorem WF.setCt {A : Sh} (hW : WF A) (sp : Nat) (bo fi : Int32) : WF (A.setCt sp bo fi) := hW
theorem br_wn {A : Sh} {K p : Nat} (hK : K < A.ns) : (brA A K p).wn = A.wn := by
  unfold brA
  by_cases c1 : p = A.st K
  · rw [if_pos c1]; rfl
  · rw [if_neg c1]
    by_cases c2 : A.ns < 12
    · rw [if_pos c2]; exact split_wn hK
    · rw [if_neg c2]; rfl
theorem br_se {A : Sh} {K p : Nat} : (brA A K p).se = A.se := by
  unfold brA
  by_cases c1 : p = A.st K
  · rw [if_pos c1]; rfl
  · rw [if_neg c1]
    by_cases c2 : A.ns < 12
    · rw [if_pos c2]; rfl
    · rw [if_neg c2]; rfl
theorem br_he {A : Sh} {K p : Nat} : (brA A K p).he = A.he := by
  unfold brA
  by_cases c1 : p = A.st K
  · rw [if_pos c1]; rfl
  · rw [if_neg c1]
    by_cases c2 : A.ns < 12
    · rw [if_pos c2]; rfl
    · rw [if_neg c2]; rfl
theorem WF.br {A : Sh} (hW : WF A) {K p : Nat} (hK : K < A.ns) (h1 : A.st K ≤ p) (h2 : p < A.st (K + 1)) : WF (brA A K p) := by
  unfold brA
  by_cases c1 : p = A.st K
  · rw [if_pos c1]; exact hW
  · rw [if_neg c1]
    by_cases c2 : A.ns < 12
    · rw [if_pos c2]; exact hW.split hK (by omega) h2 c2
    · rw [if_neg c2]; exact hW
theorem WF.react {A : Sh} (hW : WF A) {p : Nat} (hp : p < A.wn) : WF (reactA A p) := by
  obtain ⟨h1, h2, h3⟩ := hW.so hp
  have hB : WF (brA (zeroA A p) (A.so p) p) := (hW.zero p).br h1 h2 h3
  unfold reactA
  show WF (if p + 1 < A.st (A.so p + 1) then warmA (if A.st (A.so p) < p then warmA (brA (zeroA A p) (A.so p) p) (p - 1) (A.se 1) else brA (zeroA A p) (A.so p) p) (p + 1) (A.se 1) else (if A.st (A.so p) < p then warmA (brA (zeroA A p) (A.so p) p) (p - 1) (A.se 1) else brA (zeroA A p) (A.so p) p))
  have hC : WF (if A.st (A.so p) < p then warmA (brA (zeroA A p) (A.so p) p) (p - 1) (A.se 1) else brA (zeroA A p) (A.so p) p) := by
    by_cases c : A.st (A.so p) < p
    · rw [if_pos c]; exact hB.warm _ _
    · rw [if_neg c]; exact hB
  by_cases c : p + 1 < A.st (A.so p + 1)
  · rw [if_pos c]; exact hC.warm _ _
  · rw [if_neg c]; exact hC
theorem react_wn {A : Sh} (hW : WF A) {p : Nat} (hp : p < A.wn) : (reactA A p).wn = A.wn := by
  obtain ⟨h1, h2, h3⟩ := hW.so hp
  have hB : (brA (zeroA A p) (A.so p) p).wn = A.wn := br_wn h1
  unfold reactA
  show (if p + 1 < A.st (A.so p + 1) then warmA (if A.st (A.so p) < p then warmA (brA (zeroA A p) (A.so p) p) (p - 1) (A.se 1) else brA (zeroA A p) (A.so p) p) (p + 1) (A.se 1) else (if A.st (A.so p) < p then warmA (brA (zeroA A p) (A.so p) p) (p - 1) (A.se 1) else brA (zeroA A p) (A.so p) p)).wn = A.wn
  have hC : (if A.st (A.so p) < p then warmA (brA (zeroA A p) (A.so p) p) (p - 1) (A.se 1) else brA (zeroA A p) (A.so p) p).wn = A.wn := by
    by_cases c : A.st (A.so p) < p
    · rw [if_pos c]; exact hB
    · rw [if_neg c]; exact hB
  by_cases c : p + 1 < A.st (A.so p + 1)
  · rw [if_pos c]; exact hC
  · rw [if_neg c]; exact hC
section RCV
variable {Fu : Nat} {A : Sh} {se le he sa fa ge : Ar} {ns nf sp bo fi : Int32} {s : Ar}
theorem RV.setCt (h : RV A se le he sa fa ge ns nf sp bo fi) (sp' : Nat) (bo' fi' : Int32) : RV (A.setCt sp' bo' fi') se le he sa fa ge ns nf (nI sp') bo' fi' := ⟨h.1, h.2.1, h.2.2.1, h.2.2.2.1, h.2.2.2.2.1, h.2.2.2.2.2.1, h.2.2.2.2.2.2.1, h.2.2.2.2.2.2.2.1, rfl, rfl, rfl⟩
theorem reactAt_s (hF : 20000000 ≤ Fu) (hW : WF A) (h : RV A se le he sa fa ge ns nf sp bo fi) {p : Nat} (hp : p < A.wn) : ∃ he' sa' fa' ge' ns' sp' bo' fi', f_X2_reactAt Fu se he sa fa ge ns sp bo fi (nI p) = some (he', sa', fa', ge', ns', sp', bo', fi') ∧ RV (reactA A p) se le he' sa' fa' ge' ns' nf sp' bo' fi' := by
  obtain ⟨hK, hk1, hk2⟩ := hW.so hp
  unfold reactA
  show ∃ he' sa' fa' ge' ns' sp' bo' fi', _ ∧ RV (if p + 1 < A.st (A.so p + 1) then warmA (if A.st (A.so p) < p then warmA (brA (zeroA A p) (A.so p) p) (p - 1) (A.se 1) else brA (zeroA A p) (A.so p) p) (p + 1) (A.se 1) else (if A.st (A.so p) < p then warmA (brA (zeroA A p) (A.so p) p) (p - 1) (A.se 1) else brA (zeroA A p) (A.so p) p)) se le he' sa' fa' ge' ns' nf sp' bo' fi'
  generalize A.so p = K at hK hk1 hk2
  have hw := hW.w
  have hw' : A.st A.ns ≤ 150 := hW.w
  have hn := hW.n
  have hm2 := hW.1.le (show K + 1 ≤ A.ns by omega) (Nat.le_refl _)
  have hs := hW.2.1.2.2.1
  have es : f_X2_storyAt Fu sa ns (nI p) = some (nI K) := by
    rw [h.rns]
    exact storyAt_s hF hW.1 (fun k hk => h.rsa hk) hK hk1 hk2
  have e1 := h.rsa (show K ≤ A.ns by omega)
  have e2 := h.rsa (show K + 1 ≤ A.ns by omega)
  have e3 := h.rse (show 1 < 3 by omega)
  have e4 := h.rns
  have hZ : RV (zeroA A p) se le (upd he p (nI 0)) sa fa ge ns nf sp bo fi := h.setHe (fun q hq => by
    unfold upd
    by_cases hqp : q = p
    · rw [if_pos hqp, if_pos hqp]
    · rw [if_neg hqp, if_neg hqp]; exact h.rhe hq)
  have hWZ := hW.zero p
  have hWB : WF (brA (zeroA A p) K p) := hWZ.br hK hk1 hk2
  have hwB : (brA (zeroA A p) K p).wn = A.wn := br_wn hK
  -- what follows the branch
  have tail : ∀ (sa' fa' ge' : Ar) (ns' sp' bo' fi' : Int32), RV (brA (zeroA A p) K p) se le (upd he p (nI 0)) sa' fa' ge' ns' nf sp' bo' fi' → ∃ he',
      (gd (ix (nI p) 150) (jn (fun (q_heats_25 : Ar) => jn (fun (q_heats_30 : Ar) => some (q_heats_30, sa', fa', ge', ns', sp', bo', fi')) (fun j31 => if nI (A.st (K + 1)) ≤ (nI p + nI 1) then j31 q_heats_25 else bd1 (f_X2_warm Fu q_heats_25 (nI p + nI 1) (se 1)) (fun q_heats_28 => j31 q_heats_28)))
        (fun j26 => if nI p ≤ nI (A.st K) then j26 (upd he (nI p).toNatClampNeg (nI 0)) else bd1 (f_X2_warm Fu (upd he (nI p).toNatClampNeg (nI 0)) (nI p - nI 1) (se 1)) (fun q_heats_23 => j26 q_heats_23)))) = some (he', sa', fa', ge', ns', sp', bo', fi') ∧
      RV (if p + 1 < A.st (K + 1) then warmA (if A.st K < p then warmA (brA (zeroA A p) K p) (p - 1) (A.se 1) else brA (zeroA A p) K p) (p + 1) (A.se 1) else (if A.st K < p then warmA (brA (zeroA A p) K p) (p - 1) (A.se 1) else brA (zeroA A p) K p)) se le he' sa' fa' ge' ns' nf sp' bo' fi' := by
    intro sa' fa' ge' ns' sp' bo' fi' hB
    have hpp : A.st K < p → p - 1 < (brA (zeroA A p) K p).wn := fun c => by rw [hwB]; omega
    have hpq : p + 1 < A.st (K + 1) → p + 1 < A.wn := fun c => by
      have : A.st A.ns = A.wn := rfl
      omega
    by_cases c1 : A.st K < p
    · obtain ⟨h1, w1, r1⟩ := warm_s (Fu := Fu) hWB hB (hpp c1) (show A.se 1 ≤ 1000 by omega)
      by_cases c2 : p + 1 < A.st (K + 1)
      · obtain ⟨h2, w2, r2⟩ := warm_s (Fu := Fu) (hWB.warm (p - 1) (A.se 1)) r1 (show p + 1 < (brA (zeroA A p) K p).wn by rw [hwB]; exact hpq c2) (show A.se 1 ≤ 1000 by omega)
        refine ⟨h2, ?_, ?_⟩
        · rw [← e3] at w1 w2
          have n1 : ¬ p ≤ A.st K := by omega
          have n2 : ¬ A.st (K + 1) ≤ p + 1 := by omega
          simp (disch := omega) only [gd_true, nm_eq, jn_eq, bd1_s, bd2_s, bd3_s, bd4_s, bd5_s, bd6_s, bd7_s, bd8_s, bd9_s, bd10_s, bd11_s, bd12_s, nI_add, pk_mul, pk_subs, nI_m1s, ix_nIs, nI_clamps, nI_les, nI_lts, nI_eqs, bz_0, bz_1, nI_zero, eq_self, if_true, if_false, w1, w2, if_neg n1, if_neg n2]
        · rw [if_pos c2, if_pos c1]; exact r2
      · refine ⟨h1, ?_, ?_⟩
        · rw [← e3] at w1
          have n1 : ¬ p ≤ A.st K := by omega
          have n2 : A.st (K + 1) ≤ p + 1 := by omega
          simp (disch := omega) only [gd_true, nm_eq, jn_eq, bd1_s, bd2_s, bd3_s, bd4_s, bd5_s, bd6_s, bd7_s, bd8_s, bd9_s, bd10_s, bd11_s, bd12_s, nI_add, pk_mul, pk_subs, nI_m1s, ix_nIs, nI_clamps, nI_les, nI_lts, nI_eqs, bz_0, bz_1, nI_zero, eq_self, if_true, if_false, w1, if_neg n1, if_pos n2]
        · rw [if_neg c2, if_pos c1]; exact r1
    · by_cases c2 : p + 1 < A.st (K + 1)
      · obtain ⟨h2, w2, r2⟩ := warm_s (Fu := Fu) hWB hB (show p + 1 < (brA (zeroA A p) K p).wn by rw [hwB]; exact hpq c2) (show A.se 1 ≤ 1000 by omega)
        refine ⟨h2, ?_, ?_⟩
        · rw [← e3] at w2
          have n1 : p ≤ A.st K := by omega
          have n2 : ¬ A.st (K + 1) ≤ p + 1 := by omega
          simp (disch := omega) only [gd_true, nm_eq, jn_eq, bd1_s, bd2_s, bd3_s, bd4_s, bd5_s, bd6_s, bd7_s, bd8_s, bd9_s, bd10_s, bd11_s, bd12_s, nI_add, pk_mul, pk_subs, nI_m1s, ix_nIs, nI_clamps, nI_les, nI_lts, nI_eqs, bz_0, bz_1, nI_zero, eq_self, if_true, if_false, w2, if_pos n1, if_neg n2]
        · rw [if_pos c2, if_neg c1]; exact r2
      · refine ⟨upd he p (nI 0), ?_, ?_⟩
        · have n1 : p ≤ A.st K := by omega
          have n2 : A.st (K + 1) ≤ p + 1 := by omega
          simp (disch := omega) only [gd_true, nm_eq, jn_eq, bd1_s, bd2_s, bd3_s, bd4_s, bd5_s, bd6_s, bd7_s, bd8_s, bd9_s, bd10_s, bd11_s, bd12_s, nI_add, pk_mul, pk_subs, nI_m1s, ix_nIs, nI_clamps, nI_les, nI_lts, nI_eqs, bz_0, bz_1, nI_zero, eq_self, if_true, if_false, if_pos n1, if_pos n2]
        · rw [if_neg c2, if_neg c1]; exact hB
  unfold f_X2_reactAt
  rw [es, bd1_s, ix_nIs (show K < 13 by omega) (by omega), gd_true, nI_add, ix_nIs (show K + 1 < 13 by omega) (by omega), gd_true, nI_clamps (show K + 1 < 2147483648 by omega), nI_clamps (show K < 2147483648 by omega), e1, e2, nm_eq, jn_eq]
  by_cases c1 : p = A.st K
  · have hB : RV (brA (zeroA A p) K p) se le (upd he p (nI 0)) sa fa ge ns nf sp (bo + nI 1) fi := by
      have := hZ.setCt A.sp (A.bo + nI 1) A.fi
      unfold brA
      rw [if_pos (show p = (zeroA A p).st K from c1), h.rsp, h.rbo, h.rfi]
      exact this
    obtain ⟨he', t1, t2⟩ := tail _ _ _ _ _ _ _ hB
    refine ⟨he', _, _, _, _, _, _, _, ?_, t2⟩
    rw [if_pos (by rw [c1])]
    exact t1
  · rw [if_neg (show ¬ nI p = nI (A.st K) by rw [nI_eqs (by omega) (by omega)]; exact c1)]
    by_cases c2 : A.ns < 12
    · obtain ⟨sa', fa', ge', q1, q2⟩ := split_s (Fu := Fu) hWZ hZ (K := K) (p := p) hK hp c2
      have hB : RV (brA (zeroA A p) K p) se le (upd he p (nI 0)) sa' fa' ge' (nI (A.ns + 1)) nf (sp + nI 1) bo fi := by
        have := q2.setCt (A.sp + 1) A.bo A.fi
        unfold brA
        rw [if_neg (show ¬ p = (zeroA A p).st K from c1), if_pos (show (zeroA A p).ns < 12 from c2), h.rsp, h.rbo, h.rfi, nI_add]
        exact this
      obtain ⟨he', t1, t2⟩ := tail _ _ _ _ _ _ _ hB
      refine ⟨he', _, _, _, _, _, _, _, ?_, t2⟩
      rw [if_neg (show ¬ nI 12 ≤ ns by rw [e4, nI_les (by omega) (by omega)]; omega), q1, bd4_s]
      exact t1
    · have hB : RV (brA (zeroA A p) K p) se le (upd he p (nI 0)) sa fa ge ns nf sp bo (fi + nI 1) := by
        have := hZ.setCt A.sp A.bo (A.fi + nI 1)
        unfold brA
        rw [if_neg (show ¬ p = (zeroA A p).st K from c1), if_neg (show ¬ (zeroA A p).ns < 12 from c2), h.rsp, h.rbo, h.rfi]
        exact this
      obtain ⟨he', t1, t2⟩ := tail _ _ _ _ _ _ _ hB
      refine ⟨he', _, _, _, _, _, _, _, ?_, t2⟩
      rw [if_pos (show nI 12 ≤ ns by rw [e4, nI_les (by omega) (by omega)]; omega)]
      exact t1
theorem RS.ct (h : RS A s) (hW : WF A) (sp' : Nat) (bo' fi' : Int32) {s' : Ar} (h0 : ∀ j, j ≠ 6 → j ≠ 7 → j ≠ 8 → s' j = s j) (h6 : s' 6 = nI sp') (h7 : s' 7 = bo') (h8 : s' 8 = fi') : RS (A.setCt sp' bo' fi') s' :=
  ⟨fun i hi => by rw [h0 i (by omega) (by omega) (by omega)]; exact h.rse hi, by rw [h0 3 (by omega) (by omega) (by omega)]; exact h.rns, by rw [h0 4 (by omega) (by omega) (by omega)]; exact h.rwn, by rw [h0 5 (by omega) (by omega) (by omega)]; exact h.rnf, h6, h7, h8,
    fun k (hk : k < A.ns) => by rw [h0 (9 + k) (by omega) (by omega) (by omega)]; exact h.rlo hk, fun k (hk : k < A.ns) => by rw [h0 (21 + k) (by omega) (by omega) (by omega)]; exact h.rfa hk, fun k (hk : k < A.ns) => by rw [h0 (33 + k) (by omega) (by omega) (by omega)]; exact h.rge hk, fun p (hp : p < A.wn) => by rw [h0 (45 + p) (by omega) (by omega) (by omega)]; exact h.rle hp, fun p (hp : p < A.wn) => by rw [h0 (195 + p) (by omega) (by omega) (by omega)]; exact h.rhe hp⟩
theorem upd_ne {f : Ar} {a b : Nat} {x : Int32} (h : b ≠ a) : upd f a x b = f b := by unfold upd; rw [if_neg h]
theorem upd_eq {f : Ar} {a : Nat} {x : Int32} : upd f a x a = x := by unfold upd; rw [if_pos rfl]
theorem reactOne_s (hF : 20000000 ≤ Fu) (hW : WF A) (h : RS A s) {p : Nat} (hp : p < A.wn) : ∃ s', f_X4_reactOne Fu s (nI p) = some s' ∧ RS (reactA A p) s' := by
  obtain ⟨hK, hk1, hk2⟩ := hW.so hp
  unfold reactA
  show ∃ s', _ ∧ RS (if p + 1 < A.st (A.so p + 1) then warmA (if A.st (A.so p) < p then warmA (brA (zeroA A p) (A.so p) p) (p - 1) (A.se 1) else brA (zeroA A p) (A.so p) p) (p + 1) (A.se 1) else (if A.st (A.so p) < p then warmA (brA (zeroA A p) (A.so p) p) (p - 1) (A.se 1) else brA (zeroA A p) (A.so p) p)) s'
  generalize A.so p = K at hK hk1 hk2
  have hw := hW.w
  have hw' : A.st A.ns ≤ 150 := hW.w
  have hn := hW.n
  have hm2 := hW.1.le (show K + 1 ≤ A.ns by omega) (Nat.le_refl _)
  have hs := hW.2.1.2.2.1
  have es := storyOf_s hF hW.1 (fun k hk => h.rlo hk) hK hk1 hk2
  have ef := first_r hF hW h (show K ≤ A.ns by omega)
  have e1 := h.rlo hK
  have hZ : RS (zeroA A p) (upd s (195 + p) (nI 0)) := h.setHe hW (fun j hj => upd_ne (by omega)) (fun q hq => by
    by_cases hqp : q = p
    · subst hqp; rw [upd_eq, if_pos rfl]
    · rw [upd_ne (by omega), if_neg hqp]; exact h.rhe hq)
  have hWZ := hW.zero p
  have hWB : WF (brA (zeroA A p) K p) := hWZ.br hK hk1 hk2
  have hwB : (brA (zeroA A p) K p).wn = A.wn := br_wn hK
  have hsB : (brA (zeroA A p) K p).se = A.se := br_se
  have tail : ∀ (s1 : Ar), RS (brA (zeroA A p) K p) s1 → ∃ s',
      (jn (fun (q_s_21 : Ar) => jn (fun (q_s_26 : Ar) => some (q_s_26)) (fun j27 => if (if p - A.st K = A.st (K + 1) - A.st K - 1 then nI 1 else nI 0) = 0 then bd1 (f_X4_warm Fu q_s_21 (nI p + nI 1) (q_s_21 1)) (fun q_s_24 => j27 q_s_24) else j27 q_s_21))
        (fun j22 => if nI (p - A.st K) ≤ 0 then j22 s1 else bd1 (f_X4_warm Fu s1 (nI p - nI 1) (s1 1)) (fun q_s_19 => j22 q_s_19))) = some s' ∧
      RS (if p + 1 < A.st (K + 1) then warmA (if A.st K < p then warmA (brA (zeroA A p) K p) (p - 1) (A.se 1) else brA (zeroA A p) K p) (p + 1) (A.se 1) else (if A.st K < p then warmA (brA (zeroA A p) K p) (p - 1) (A.se 1) else brA (zeroA A p) K p)) s' := by
    intro s1 hB
    have e3 := hB.rse (show 1 < 3 by omega)
    rw [hsB] at e3
    have hpp : A.st K < p → p - 1 < (brA (zeroA A p) K p).wn := fun c => by rw [hwB]; omega
    have hpq : p + 1 < A.st (K + 1) → p + 1 < A.wn := fun c => by
      have : A.st A.ns = A.wn := rfl
      omega
    by_cases c1 : A.st K < p
    · obtain ⟨h1, w1, r1⟩ := warm4_s (Fu := Fu) hWB hB (hpp c1) (show A.se 1 ≤ 1000 by omega)
      have n1 : ¬ p - A.st K ≤ 0 := by omega
      have e4 := r1.rse (show 1 < 3 by omega)
      have e4 : h1 1 = nI (A.se 1) := by rw [e4]; show nI ((brA (zeroA A p) K p).se 1) = _; rw [hsB]
      by_cases c2 : p + 1 < A.st (K + 1)
      · obtain ⟨h2, w2, r2⟩ := warm4_s (Fu := Fu) (hWB.warm (p - 1) (A.se 1)) r1 (show p + 1 < (brA (zeroA A p) K p).wn by rw [hwB]; exact hpq c2) (show A.se 1 ≤ 1000 by omega)
        refine ⟨h2, ?_, ?_⟩
        · have n2 : ¬ p - A.st K = A.st (K + 1) - A.st K - 1 := by omega
          simp (disch := omega) only [gd_true, nm_eq, jn_eq, bd1_s, bd2_s, bd3_s, bd4_s, bd5_s, bd6_s, bd7_s, bd8_s, bd9_s, bd10_s, bd11_s, bd12_s, nI_add, pk_mul, pk_subs, nI_m1s, ix_nIs, nI_clamps, nI_les, nI_lts, nI_eqs, bz_0, bz_1, nI_zero, eq_self, if_true, if_false, e3, e4, w1, w2, if_neg n1, if_neg n2]
        · rw [if_pos c2, if_pos c1]; exact r2
      · refine ⟨h1, ?_, ?_⟩
        · have n2 : p - A.st K = A.st (K + 1) - A.st K - 1 := by omega
          simp (disch := omega) only [gd_true, nm_eq, jn_eq, bd1_s, bd2_s, bd3_s, bd4_s, bd5_s, bd6_s, bd7_s, bd8_s, bd9_s, bd10_s, bd11_s, bd12_s, nI_add, pk_mul, pk_subs, nI_m1s, ix_nIs, nI_clamps, nI_les, nI_lts, nI_eqs, bz_0, bz_1, nI_zero, eq_self, if_true, if_false, e3, w1, if_neg n1, if_pos n2, if_neg (show ¬ (1 : Nat) = 0 by decide)]
        · rw [if_neg c2, if_pos c1]; exact r1
    · have n1 : p - A.st K ≤ 0 := by omega
      by_cases c2 : p + 1 < A.st (K + 1)
      · obtain ⟨h2, w2, r2⟩ := warm4_s (Fu := Fu) hWB hB (show p + 1 < (brA (zeroA A p) K p).wn by rw [hwB]; exact hpq c2) (show A.se 1 ≤ 1000 by omega)
        refine ⟨h2, ?_, ?_⟩
        · have n2 : ¬ p - A.st K = A.st (K + 1) - A.st K - 1 := by omega
          simp (disch := omega) only [gd_true, nm_eq, jn_eq, bd1_s, bd2_s, bd3_s, bd4_s, bd5_s, bd6_s, bd7_s, bd8_s, bd9_s, bd10_s, bd11_s, bd12_s, nI_add, pk_mul, pk_subs, nI_m1s, ix_nIs, nI_clamps, nI_les, nI_lts, nI_eqs, bz_0, bz_1, nI_zero, eq_self, if_true, if_false, e3, w2, if_pos n1, if_neg n2]
        · rw [if_pos c2, if_neg c1]; exact r2
      · refine ⟨s1, ?_, ?_⟩
        · have n2 : p - A.st K = A.st (K + 1) - A.st K - 1 := by omega
          simp (disch := omega) only [gd_true, nm_eq, jn_eq, bd1_s, bd2_s, bd3_s, bd4_s, bd5_s, bd6_s, bd7_s, bd8_s, bd9_s, bd10_s, bd11_s, bd12_s, nI_add, pk_mul, pk_subs, nI_m1s, ix_nIs, nI_clamps, nI_les, nI_lts, nI_eqs, bz_0, bz_1, nI_zero, eq_self, if_true, if_false, if_pos n1, if_pos n2, if_neg (show ¬ (1 : Nat) = 0 by decide)]
        · rw [if_neg c2, if_neg c1]; exact hB
  have c3 : upd s (195 + p) (nI 0) 3 = nI A.ns := by rw [upd_ne (by omega)]; exact h.rns
  have c6 : upd s (195 + p) (nI 0) 6 = nI A.sp := by rw [upd_ne (by omega)]; exact h.rsp
  have c7 : upd s (195 + p) (nI 0) 7 = A.bo := by rw [upd_ne (by omega)]; exact h.rbo
  have c8 : upd s (195 + p) (nI 0) 8 = A.fi := by rw [upd_ne (by omega)]; exact h.rfi
  have ei : (nI p - nI (A.st K) = nI (A.st (K + 1) - A.st K) - nI 1) = (p - A.st K = A.st (K + 1) - A.st K - 1) := by
    rw [pk_subs hk1, pk_subs (by omega), nI_eqs (by omega) (by omega)]
  unfold f_X4_reactOne
  rw [es, bd1_s, ef, bd1_s, nI_add, ix_nIs (show 9 + K < 345 by omega) (by omega), gd_true, nI_clamps (show 9 + K < 2147483648 by omega), e1, nm_eq, nI_add, ix_nIs (show 195 + p < 345 by omega) (by omega), gd_true, jn_eq, nI_clamps (show 195 + p < 2147483648 by omega)]
  simp only [ei]
  rw [pk_subs hk1]
  generalize hz : upd s (195 + p) (nI 0) = z at hZ c3 c6 c7 c8
  by_cases c1 : p = A.st K
  · have hB : RS (brA (zeroA A p) K p) (upd z 7 (A.bo + nI 1)) := by
      unfold brA
      rw [if_pos (show p = (zeroA A p).st K from c1)]
      exact hZ.ct hWZ A.sp (A.bo + nI 1) A.fi (fun j a b c => upd_ne b) (by rw [upd_ne (by omega)]; exact c6) upd_eq (by rw [upd_ne (by omega)]; exact c8)
    obtain ⟨s', t1, t2⟩ := tail _ hB
    refine ⟨s', ?_, t2⟩
    rw [if_pos (show nI (p - A.st K) = 0 by rw [c1, Nat.sub_self]; exact nI_0), c7, nm_eq]
    exact t1
  · have n1 : ¬ nI (p - A.st K) = 0 := by
      rw [nI_zero, nI_eqs (by omega) (by omega)]
      omega
    rw [if_neg n1, c3]
    by_cases c2 : A.ns < 12
    · have hZ2 : RS ((zeroA A p).setCt (A.sp + 1) A.bo A.fi) (upd z 6 (nI (A.sp + 1))) :=
        hZ.ct hWZ (A.sp + 1) A.bo A.fi (fun j a b c => upd_ne a) upd_eq (by rw [upd_ne (by omega)]; exact c7) (by rw [upd_ne (by omega)]; exact c8)
      obtain ⟨s2, q1, q2⟩ := split4_s hF (A := (zeroA A p).setCt (A.sp + 1) A.bo A.fi) hWZ hZ2 (K := K) (p := p) hK (show A.st K < p by omega) hk2 c2
      have hB : RS (brA (zeroA A p) K p) s2 := by
        unfold brA
        rw [if_neg (show ¬ p = (zeroA A p).st K from c1), if_pos (show (zeroA A p).ns < 12 from c2)]
        exact q2
      obtain ⟨s', t1, t2⟩ := tail _ hB
      refine ⟨s', ?_, t2⟩
      have q1 : f_X4_split Fu (upd z 6 (nI (A.sp + 1))) (nI K) (nI (p - A.st K)) = some s2 := q1
      rw [if_neg (show ¬ nI 12 ≤ nI A.ns by rw [nI_les (by omega) (by omega)]; omega), c6, nI_add, nm_eq, q1, bd1_s]
      exact t1
    · have hB : RS (brA (zeroA A p) K p) (upd z 8 (A.fi + nI 1)) := by
        unfold brA
        rw [if_neg (show ¬ p = (zeroA A p).st K from c1), if_neg (show ¬ (zeroA A p).ns < 12 from c2)]
        exact hZ.ct hWZ A.sp A.bo (A.fi + nI 1) (fun j a b c => upd_ne c) (by rw [upd_ne (by omega)]; exact c6) (by rw [upd_ne (by omega)]; exact c7) upd_eq
      obtain ⟨s', t1, t2⟩ := tail _ hB
      refine ⟨s', ?_, t2⟩
      rw [if_pos (show nI 12 ≤ nI A.ns by rw [nI_les (by omega) (by omega)]; omega), c8, nm_eq]
      exact t1
end RCV
