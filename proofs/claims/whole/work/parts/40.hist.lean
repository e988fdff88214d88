/-! PURE: copies, the history, the slots -/
theorem cpy_step (f g : Ar) (sp dp i : Nat) : upd (va_cpy f g sp dp i) (dp + i) (f (sp + i)) = va_cpy f g sp dp (i + 1) := by
  funext k
  unfold upd va_cpy
  by_cases h : k = dp + i
  · subst h
    rw [if_pos rfl, if_pos (by omega), show dp + i - dp = i by omega]
  · rw [if_neg h]
    by_cases h2 : dp ≤ k ∧ k < dp + i
    · rw [if_pos h2, if_pos (by omega)]
    · rw [if_neg h2, if_neg (by omega)]
theorem cpy_0 (f g : Ar) (sp dp : Nat) : va_cpy f g sp dp 0 = g := by
  funext k
  unfold va_cpy
  rw [if_neg (by omega)]
theorem cpy_in {f g : Ar} {sp dp n j : Nat} (h : j < n) : va_cpy f g sp dp n (dp + j) = f (sp + j) := by
  unfold va_cpy
  rw [if_pos (by omega), show dp + j - dp = j by omega]
theorem cpy_out {f g : Ar} {sp dp n k : Nat} (h : k < dp ∨ dp + n ≤ k) : va_cpy f g sp dp n k = g k := by
  unfold va_cpy
  rw [if_neg (by omega)]
theorem RS.congr {A : Sh} {s s' : Ar} (hW : WF A) (h : RS A s) (e : ∀ j, j < 345 → s' j = s j) : RS A s' := by
  have hn := hW.n
  have hw := hW.w
  exact ⟨fun i hi => by rw [e i (by omega)]; exact h.rse hi, by rw [e 3 (by omega)]; exact h.rns, by rw [e 4 (by omega)]; exact h.rwn, by rw [e 5 (by omega)]; exact h.rnf, by rw [e 6 (by omega)]; exact h.rsp, by rw [e 7 (by omega)]; exact h.rbo, by rw [e 8 (by omega)]; exact h.rfi,
    fun k hk => by rw [e (9 + k) (by omega)]; exact h.rlo hk, fun k hk => by rw [e (21 + k) (by omega)]; exact h.rfa hk, fun k hk => by rw [e (33 + k) (by omega)]; exact h.rge hk, fun p hp => by rw [e (45 + p) (by omega)]; exact h.rle hp, fun p hp => by rw [e (195 + p) (by omega)]; exact h.rhe hp⟩
section CPY
variable {Fu : Nat} {A : Sh} {se le he sa fa ge : Ar} {ns nf sp bo fi : Int32} {s : Ar}
theorem copyFrom_s (hW : WF A) (h : RV A se le he sa fa ge ns nf sp bo fi) (a1 a2 a3 a4 a5 a6 : Ar) (b1 b2 b3 b4 b5 : Int32) : ∃ se' le' he' sa' fa' ge', f_X2_copyFrom Fu a1 a2 a3 a4 a5 a6 b1 b2 b3 b4 b5 se le he sa fa ge ns nf sp bo fi = some (se', le', he', sa', fa', ge', ns, nf, sp, bo, fi) ∧ RV A se' le' he' sa' fa' ge' ns nf sp bo fi := by
  have hn := hW.n
  have hw := hW.w
  have e1 := words_r (Fu := Fu) hW h
  have c1 := cpok_s (n0 := 3) (n1 := 3) (a := 0) (b := 0) (c := 3) (by omega) (by omega) (by omega) (by omega)
  have c2 := cpok_s (n0 := 150) (n1 := 150) (a := 0) (b := 0) (c := A.wn) (by omega) (by omega) (by omega) (by omega)
  have c3 := cpok_s (n0 := 13) (n1 := 13) (a := 0) (b := 0) (c := A.ns + 1) (by omega) (by omega) (by omega) (by omega)
  have c4 := cpok_s (n0 := 12) (n1 := 12) (a := 0) (b := 0) (c := A.ns) (by omega) (by omega) (by omega) (by omega)
  have key : ∀ (f g : Ar) (n k : Nat), n < 1000000 → k < n → cpA f g (nI 0) (nI 0) (nI n) k = f k := fun f g n k h1 h2 => by
    rw [cpA_pt (by omega) (by omega) h1, if_pos (by omega)]
    congr 1
    omega
  refine ⟨cpA se a1 (nI 0) (nI 0) (nI 3), cpA le a2 (nI 0) (nI 0) (nI A.wn), cpA he a3 (nI 0) (nI 0) (nI A.wn), cpA sa a4 (nI 0) (nI 0) (nI (A.ns + 1)), cpA fa a5 (nI 0) (nI 0) (nI A.ns), cpA ge a6 (nI 0) (nI 0) (nI A.ns), ?_, ?_⟩
  · unfold f_X2_copyFrom
    rw [e1, bd1_s, c1, gd_true, c2, gd_true, gd_true, h.rns, nI_add, c3, gd_true, c4, gd_true, gd_true]
  · exact ⟨fun i hi => by rw [key _ _ _ _ (by omega) hi]; exact h.rse hi, fun p hp => by rw [key _ _ _ _ (by omega) hp]; exact h.rle hp, fun p hp => by rw [key _ _ _ _ (by omega) hp]; exact h.rhe hp, fun k hk => by rw [key _ _ _ _ (by omega) (by omega)]; exact h.rsa hk, fun k hk => by rw [key _ _ _ _ (by omega) hk]; exact h.rfa hk, fun k hk => by rw [key _ _ _ _ (by omega) hk]; exact h.rge hk, h.2.2.2.2.2.2⟩
end CPY
/-- a shelf of a pool -/
def RVs (v : SV) (A : Sh) : Prop := RV A (sv_settings v) (sv_letters v) (sv_heats v) (sv_starts v) (sv_families v) (sv_generations v) (sv_stories v) (sv_nextFamily v) (sv_splits v) (sv_boilings v) (sv_fizzles v)
/-- the history: z states, the oldest at o of the ring, and at 0 of the reference's row -/
def HR (M : Nat) (hs : Nat → Sh) (o z : Nat) (hv : Nat → SV) (be : Ar) : Prop := o < 6 ∧ z ≤ 6 ∧ ∀ j, j < z → WF (hs j) ∧ (hs j).sp ≤ M ∧ RVs (hv ((o + j) % 6)) (hs j) ∧ RS (hs j) (fun k => be (345 * j + k))
theorem know_L52 (Fu : Nat) (k : Ar → Option (Ar × Int32)) (s be : Ar) {z : Nat} (hz : z < 6) : ∀ (fu i : Nat), i ≤ 345 → 345 - i < fu → f_X4_know_L52 Fu k s (nI z) fu (nI i) (va_cpy s be 0 (345 * z) i) = k (va_cpy s be 0 (345 * z) 345) := by
  intro fu
  induction fu with
  | zero => intro i h1 h2; omega
  | succ fu ih =>
    intro i h1 h2
    rw [f_X4_know_L52_s]
    by_cases hh : 345 ≤ i
    · have e : i = 345 := by omega
      subst e
      simp (disch := omega) only [gd_true, nm_eq, jn_eq, bd1_s, bd2_s, bd3_s, bd4_s, bd5_s, bd6_s, bd7_s, bd8_s, bd9_s, bd10_s, bd11_s, bd12_s, nI_add, pk_mul, pk_subs, nI_m1s, ix_nIs, nI_clamps, nI_les, nI_lts, nI_eqs, bz_0, bz_1, nI_zero, eq_self, if_true, if_false, if_pos, if_neg]
    · rw [← ih (i + 1) (by omega) (by omega), ← cpy_step, Nat.zero_add]
      simp (disch := omega) only [gd_true, nm_eq, jn_eq, bd1_s, bd2_s, bd3_s, bd4_s, bd5_s, bd6_s, bd7_s, bd8_s, bd9_s, bd10_s, bd11_s, bd12_s, nI_add, pk_mul, pk_subs, nI_m1s, ix_nIs, nI_clamps, nI_les, nI_lts, nI_eqs, bz_0, bz_1, nI_zero, eq_self, if_true, if_false, if_neg hh]
theorem know_L11 (Fu : Nat) (k : Ar → Option (Ar × Int32)) (be : Ar) : ∀ (fu i : Nat), i ≤ 1725 → 1725 - i < fu → f_X4_know_L11 Fu k fu (nI i) (va_cpy be be 345 0 i) = k (va_cpy be be 345 0 1725) := by
  intro fu
  induction fu with
  | zero => intro i h1 h2; omega
  | succ fu ih =>
    intro i h1 h2
    rw [f_X4_know_L11_s]
    by_cases hh : 1725 ≤ i
    · have e : i = 1725 := by omega
      subst e
      simp (disch := omega) only [gd_true, nm_eq, jn_eq, bd1_s, bd2_s, bd3_s, bd4_s, bd5_s, bd6_s, bd7_s, bd8_s, bd9_s, bd10_s, bd11_s, bd12_s, nI_add, pk_mul, pk_subs, nI_m1s, ix_nIs, nI_clamps, nI_les, nI_lts, nI_eqs, bz_0, bz_1, nI_zero, eq_self, if_true, if_false, if_pos, if_neg]
    · have e1 : va_cpy be be 345 0 i (345 + i) = be (345 + i) := cpy_out (by omega)
      rw [← ih (i + 1) (by omega) (by omega), ← cpy_step, Nat.zero_add]
      simp (disch := omega) only [gd_true, nm_eq, jn_eq, bd1_s, bd2_s, bd3_s, bd4_s, bd5_s, bd6_s, bd7_s, bd8_s, bd9_s, bd10_s, bd11_s, bd12_s, nI_add, pk_mul, pk_subs, nI_m1s, ix_nIs, nI_clamps, nI_les, nI_lts, nI_eqs, bz_0, bz_1, nI_zero, eq_self, if_true, if_false, if_neg hh, e1]
theorem know_s {Fu : Nat} (hF : 20000000 ≤ Fu) (s be : Ar) {z : Nat} (hz : z ≤ 6) : f_X4_know Fu s be (nI z) = some (if z < 6 then va_cpy s be 0 (345 * z) 345 else va_cpy s (va_cpy be be 345 0 1725) 0 1725 345, nI (if z < 6 then z + 1 else 6)) := by
  unfold f_X4_know
  rw [jn_eq]
  have l52 : ∀ (b : Ar) (w : Nat), w < 6 → (jn (fun (q_before_18 : Ar) => some (q_before_18, nI w + nI 1)) (fun k_52 => f_X4_know_L52 Fu k_52 s (nI w) Fu (nI 0) b)) = some (va_cpy s b 0 (345 * w) 345, nI (w + 1)) := fun b w hw => by
    have := know_L52 Fu (fun (q_before_18 : Ar) => some (q_before_18, nI w + nI 1)) s b hw Fu 0 (Nat.zero_le _) (by omega)
    rw [cpy_0] at this
    rw [jn_eq, this, nI_add]
  by_cases h : z < 6
  · rw [if_neg (show ¬ nI z = nI 6 by rw [nI_eqs (by omega) (by omega)]; omega), if_pos h, if_pos h]
    exact l52 be z h
  · have e : z = 6 := by omega
    subst e
    have l11 := know_L11 Fu (fun (q_before_8 : Ar) => jn (fun (q_before_18 : Ar) => some (q_before_18, nI 5 + nI 1)) (fun k_52 => f_X4_know_L52 Fu k_52 s (nI 5) Fu (nI 0) q_before_8)) be Fu 0 (Nat.zero_le _) (by omega)
    rw [cpy_0] at l11
    rw [if_pos rfl, if_neg h, if_neg h, jn_eq, pk_subs (show 1 ≤ 6 by omega), show 6 - 1 = 5 by omega, l11, l52 _ 5 (by omega)]
theorem record_s {Fu : Nat} {A : Sh} {se le he sa fa ge : Ar} {ns nf sp bo fi : Int32} (hW : WF A) (h : RV A se le he sa fa ge ns nf sp bo fi) (hv : Nat → SV) {o z : Nat} (ho : o < 6) (hz : z ≤ 6) : ∃ v, RVs v A ∧ f_X0_record Fu hv (nI o) (nI z) se le he sa fa ge ns nf sp bo fi = some (va_up hv ((o + z) % 6) v, nI (if z < 6 then o else (o + 1) % 6), nI (if z < 6 then z + 1 else 6)) := by
  obtain ⟨se', le', he', sa', fa', ge', e1, e2⟩ := copyFrom_s (Fu := Fu) hW h (sv_settings (hv ((o + z) % 6))) (sv_letters (hv ((o + z) % 6))) (sv_heats (hv ((o + z) % 6))) (sv_starts (hv ((o + z) % 6))) (sv_families (hv ((o + z) % 6))) (sv_generations (hv ((o + z) % 6))) (sv_stories (hv ((o + z) % 6))) (sv_nextFamily (hv ((o + z) % 6))) (sv_splits (hv ((o + z) % 6))) (sv_boilings (hv ((o + z) % 6))) (sv_fizzles (hv ((o + z) % 6)))
  refine ⟨mkSV se' le' he' sa' fa' ge' (sv_tally (hv ((o + z) % 6))) ns nf sp bo fi, e2, ?_⟩
  unfold f_X0_record
  rw [nI_add, pk_rem (show o + z < 2 ^ 31 by omega) (show 0 < 6 by omega) (by omega), ix_nIs (by omega) (by omega), gd_true, nm_eq, nI_clamps (by omega), e1, bd11_s, nm_eq, jn_eq]
  by_cases hc : z < 6
  · rw [if_pos hc, if_pos hc, if_neg (show ¬ nI 6 ≤ nI z by rw [nI_les (by omega) (by omega)]; omega), nI_add]
  · have e : z = 6 := by omega
    subst e
    rw [if_neg hc, if_neg hc, if_pos (show nI 6 ≤ nI 6 by decide), nI_add, pk_rem (show o + 1 < 2 ^ 31 by omega) (show 0 < 6 by omega) (by omega)]
/-- a change is recorded, on both sides -/
theorem rec_sim {Fu M : Nat} (hF : 20000000 ≤ Fu) {A : Sh} {se le he sa fa ge : Ar} {ns nf sp bo fi : Int32} {s : Ar} (hW : WF A) (hM : A.sp ≤ M) (h : RV A se le he sa fa ge ns nf sp bo fi) (g : RS A s) {hs : Nat → Sh} {o z : Nat} {hv : Nat → SV} {be : Ar} (hH : HR M hs o z hv be) :
    ∃ hs' o' z' hv' be', HR M hs' o' z' hv' be' ∧ f_X0_record Fu hv (nI o) (nI z) se le he sa fa ge ns nf sp bo fi = some (hv', nI o', nI z') ∧ f_X4_know Fu s be (nI z) = some (be', nI z') := by
  obtain ⟨ho, hz, hj⟩ := hH
  obtain ⟨v, hv1, hv2⟩ := record_s (Fu := Fu) hW h hv ho hz
  by_cases hc : z < 6
  · rw [if_pos hc, if_pos hc] at hv2
    have hk := know_s hF s be hz
    rw [if_pos hc, if_pos hc] at hk
    refine ⟨fun j => if j = z then A else hs j, o, z + 1, _, _, ⟨ho, by omega, fun j hjz => ?_⟩, hv2, hk⟩
    by_cases hjz2 : j = z
    · subst hjz2
      dsimp only
      rw [if_pos rfl, va_up_self]
      exact ⟨hW, hM, hv1, g.congr hW (fun i hi => by rw [cpy_in hi, Nat.zero_add])⟩
    · dsimp only
      rw [if_neg hjz2, va_up_ne _ _ (by omega)]
      obtain ⟨w1, w2, w3, w4⟩ := hj j (by omega)
      exact ⟨w1, w2, w3, w4.congr w1 (fun i hi => cpy_out (by omega))⟩
  · have e : z = 6 := by omega
    subst e
    rw [if_neg hc, if_neg hc] at hv2
    have hk := know_s hF s be hz
    rw [if_neg hc, if_neg hc] at hk
    refine ⟨fun j => if j = 5 then A else hs (j + 1), (o + 1) % 6, 6, _, _, ⟨by omega, by omega, fun j hjz => ?_⟩, hv2, hk⟩
    by_cases hj5 : j = 5
    · subst hj5
      dsimp only
      rw [if_pos rfl, show ((o + 1) % 6 + 5) % 6 = (o + 6) % 6 by omega, va_up_self]
      exact ⟨hW, hM, hv1, g.congr hW (fun i hi => by rw [show 345 * 5 + i = 1725 + i by omega, cpy_in hi, Nat.zero_add])⟩
    · dsimp only
      rw [if_neg hj5, va_up_ne _ _ (by omega), show ((o + 1) % 6 + j) % 6 = (o + (j + 1)) % 6 by omega]
      obtain ⟨w1, w2, w3, w4⟩ := hj (j + 1) (by omega)
      refine ⟨w1, w2, w3, w4.congr w1 (fun i hi => ?_)⟩
      rw [cpy_out (by omega), show 345 * j + i = 0 + (345 * j + i) by omega, cpy_in (by omega)]
      congr 1
      omega
theorem undo_L (Fu : Nat) (k : Ar → Option (Int32 × Ar × Int32)) (s be : Ar) {z : Nat} (h0 : 0 < z) (hz : z ≤ 6) : ∀ (fu i : Nat), i ≤ 345 → 345 - i < fu → f_X4_undo_L22 Fu k be (nI z) fu (nI i) (va_cpy be s (345 * (z - 1)) 0 i) = k (va_cpy be s (345 * (z - 1)) 0 345) := by
  intro fu
  induction fu with
  | zero => intro i h1 h2; omega
  | succ fu ih =>
    intro i h1 h2
    rw [f_X4_undo_L22_s]
    by_cases hh : 345 ≤ i
    · have e : i = 345 := by omega
      subst e
      simp (disch := omega) only [gd_true, nm_eq, jn_eq, bd1_s, bd2_s, bd3_s, bd4_s, bd5_s, bd6_s, bd7_s, bd8_s, bd9_s, bd10_s, bd11_s, bd12_s, nI_add, pk_mul, pk_subs, nI_m1s, ix_nIs, nI_clamps, nI_les, nI_lts, nI_eqs, bz_0, bz_1, nI_zero, eq_self, if_true, if_false, if_pos, if_neg]
    · rw [← ih (i + 1) (by omega) (by omega), ← cpy_step, Nat.zero_add]
      simp (disch := omega) only [gd_true, nm_eq, jn_eq, bd1_s, bd2_s, bd3_s, bd4_s, bd5_s, bd6_s, bd7_s, bd8_s, bd9_s, bd10_s, bd11_s, bd12_s, nI_add, pk_mul, pk_subs, nI_m1s, ix_nIs, nI_clamps, nI_les, nI_lts, nI_eqs, bz_0, bz_1, nI_zero, eq_self, if_true, if_false, if_neg hh]
theorem HR.less {M : Nat} {hs : Nat → Sh} {o z : Nat} {hv : Nat → SV} {be : Ar} (h : HR M hs o z hv be) : HR M hs o (z - 1) hv be := ⟨h.1, by have := h.2.1; omega, fun j hj => h.2.2 j (by omega)⟩
theorem HR.more {M M' : Nat} {hs : Nat → Sh} {o z : Nat} {hv : Nat → SV} {be : Ar} (h : HR M hs o z hv be) (hM : M ≤ M') : HR M' hs o z hv be := ⟨h.1, h.2.1, fun j hj => by
  obtain ⟨a, b, c, d⟩ := h.2.2 j hj
  exact ⟨a, by omega, c, d⟩⟩
theorem sim_undo {Fu M : Nat} (hF : 20000000 ≤ Fu) {A : Sh} {se le he sa fa ge : Ar} {ns nf sp bo fi : Int32} {s : Ar} (hW : WF A) (hM : A.sp ≤ M) (h : RV A se le he sa fa ge ns nf sp bo fi) (g : RS A s) {hs : Nat → Sh} {o z : Nat} {hv : Nat → SV} {be : Ar} (hH : HR M hs o z hv be) :
    ∃ r B z' se' le' he' sa' fa' ge' ns' nf' sp' bo' fi' s', WF B ∧ B.sp ≤ M ∧ RV B se' le' he' sa' fa' ge' ns' nf' sp' bo' fi' ∧ RS B s' ∧ HR M hs o z' hv be ∧
      f_X3_undo Fu se le he sa fa ge ns nf sp bo fi hv (nI o) (nI z) = some (r, se', le', he', sa', fa', ge', ns', nf', sp', bo', fi', nI z') ∧ f_X4_undo Fu s be (nI z) = some (r, s', nI z') := by
  unfold f_X3_undo f_X4_undo
  by_cases h0 : z = 0
  · subst h0
    refine ⟨-5, A, 0, se, le, he, sa, fa, ge, ns, nf, sp, bo, fi, s, hW, hM, h, g, hH, ?_, ?_⟩
    · rw [if_pos nI_0]
    · rw [if_pos nI_0]
  · have hz := hH.2.1
    have ho := hH.1
    have n0 : ¬ nI z = 0 := by rw [nI_zero, nI_eqs (by omega) (by omega)]; exact h0
    obtain ⟨w1, w2, w3, w4⟩ := hH.2.2 (z - 1) (by omega)
    obtain ⟨se', le', he', sa', fa', ge', e1, e2⟩ := copyFrom_s (Fu := Fu) w1 w3 se le he sa fa ge ns nf sp bo fi
    refine ⟨nI (z - 1), hs (z - 1), z - 1, se', le', he', sa', fa', ge', _, _, _, _, _, va_cpy be s (345 * (z - 1)) 0 345, w1, w2, e2, ?_, hH.less, ?_, ?_⟩
    · exact w4.congr w1 (fun i hi => by
        have := cpy_in (f := be) (g := s) (sp := 345 * (z - 1)) (dp := 0) hi
        rwa [Nat.zero_add] at this)
    · rw [if_neg n0]
      unfold f_X0_takeBack
      rw [pk_subs (by omega), nI_add, pk_rem (show o + (z - 1) < 2 ^ 31 by omega) (show 0 < 6 by omega) (by omega), ix_nIs (by omega) (by omega), gd_true, nm_eq, nI_clamps (by omega), e1, bd11_s, bd12_s]
    · have := undo_L Fu (fun (q_s_8 : Ar) => some (nI z - nI 1, q_s_8, nI z - nI 1)) s be (show 0 < z by omega) hz Fu 0 (Nat.zero_le _) (by omega)
      rw [cpy_0] at this
      rw [if_neg n0, jn_eq, this, pk_subs (by omega)]
/-- the slots -/
def SR (M : Nat) (ss : Nat → Sh) (sv : Nat → SV) (sa4 : Ar) (vd sd : Ar) : Prop := ∀ j, j < 2 → (vd j = nI 0 ∧ sd j = nI 0) ∨ (vd j = nI 1 ∧ sd j = nI 1 ∧ WF (ss j) ∧ (ss j).sp ≤ M ∧ RVs (sv j) (ss j) ∧ RS (ss j) (fun k => sa4 (345 * j + k)))
theorem SR.more {M M' : Nat} {ss : Nat → Sh} {sv : Nat → SV} {sa4 vd sd : Ar} (h : SR M ss sv sa4 vd sd) (hM : M ≤ M') : SR M' ss sv sa4 vd sd := fun j hj => by
  rcases h j hj with a | ⟨a, b, c, d, e⟩
  · exact Or.inl a
  · exact Or.inr ⟨a, b, c, by omega, e⟩
theorem save_L (Fu : Nat) (k : Ar → Option (Int32 × Ar × Ar)) (s sl : Ar) {j : Nat} (hj : j < 2) : ∀ (fu i : Nat), i ≤ 345 → 345 - i < fu → f_X4_save_L14 Fu k s (nI j) fu (nI i) (va_cpy s sl 0 (345 * j) i) = k (va_cpy s sl 0 (345 * j) 345) := by
  intro fu
  induction fu with
  | zero => intro i h1 h2; omega
  | succ fu ih =>
    intro i h1 h2
    rw [f_X4_save_L14_s]
    by_cases hh : 345 ≤ i
    · have e : i = 345 := by omega
      subst e
      simp (disch := omega) only [gd_true, nm_eq, jn_eq, bd1_s, bd2_s, bd3_s, bd4_s, bd5_s, bd6_s, bd7_s, bd8_s, bd9_s, bd10_s, bd11_s, bd12_s, nI_add, pk_mul, pk_subs, nI_m1s, ix_nIs, nI_clamps, nI_les, nI_lts, nI_eqs, bz_0, bz_1, nI_zero, eq_self, if_true, if_false, if_pos, if_neg]
    · rw [← ih (i + 1) (by omega) (by omega), ← cpy_step, Nat.zero_add]
      simp (disch := omega) only [gd_true, nm_eq, jn_eq, bd1_s, bd2_s, bd3_s, bd4_s, bd5_s, bd6_s, bd7_s, bd8_s, bd9_s, bd10_s, bd11_s, bd12_s, nI_add, pk_mul, pk_subs, nI_m1s, ix_nIs, nI_clamps, nI_les, nI_lts, nI_eqs, bz_0, bz_1, nI_zero, eq_self, if_true, if_false, if_neg hh]
theorem sim_save {Fu M : Nat} (hF : 20000000 ≤ Fu) {A : Sh} {se le he sa fa ge : Ar} {ns nf sp bo fi : Int32} {s : Ar} (hW : WF A) (hM : A.sp ≤ M) (h : RV A se le he sa fa ge ns nf sp bo fi) (g : RS A s) {ss : Nat → Sh} {sv : Nat → SV} {sl vd sd : Ar} (hS : SR M ss sv sl vd sd) (p : Int32) :
    ∃ r ss' sv' sl' vd' sd', SR M ss' sv' sl' vd' sd' ∧ f_X3_save Fu vd se le he sa fa ge ns nf sp bo fi sv p = some (r, vd', sv') ∧ f_X4_save Fu s sl sd p = some (r, sl', sd') := by
  unfold f_X3_save f_X4_save
  rw [isWithin_s, in4_s, within_n (n := 1) (by omega), bd1_s, bd1_s]
  by_cases hq : isS (1 + 1) p = true
  · rw [if_pos hq, if_neg one_ne, if_neg one_ne]
    obtain ⟨j, hj, rfl⟩ := isS_t hq (by omega)
    have hj : j < 2 := hj
    obtain ⟨se', le', he', sa', fa', ge', e1, e2⟩ := copyFrom_s (Fu := Fu) hW h (sv_settings (sv j)) (sv_letters (sv j)) (sv_heats (sv j)) (sv_starts (sv j)) (sv_families (sv j)) (sv_generations (sv j)) (sv_stories (sv j)) (sv_nextFamily (sv j)) (sv_splits (sv j)) (sv_boilings (sv j)) (sv_fizzles (sv j))
    have hL := save_L Fu (fun (q_slots_10 : Ar) => gd (ix (nI j) 2) (some (s 3, q_slots_10, upd sd (nI j).toNatClampNeg (nI 1)))) s sl hj Fu 0 (Nat.zero_le _) (by omega)
    rw [cpy_0] at hL
    refine ⟨nI A.ns, fun i => if i = j then A else ss i, va_up sv j (mkSV se' le' he' sa' fa' ge' (sv_tally (sv j)) ns nf sp bo fi), va_cpy s sl 0 (345 * j) 345, upd vd j (nI 1), upd sd j (nI 1), fun i hi => ?_, ?_, ?_⟩
    · by_cases hij : i = j
      · subst hij
        refine Or.inr ⟨upd_eq, upd_eq, ?_⟩
        dsimp only
        rw [if_pos rfl, va_up_self]
        exact ⟨hW, hM, e2, g.congr hW (fun k hk => by rw [cpy_in hk, Nat.zero_add])⟩
      · rw [upd_ne hij, upd_ne hij]
        rcases hS i hi with a | ⟨a, b, c, d, e, f⟩
        · exact Or.inl a
        · refine Or.inr ⟨a, b, ?_⟩
          dsimp only
          rw [if_neg hij, va_up_ne _ _ hij]
          exact ⟨c, d, e, f.congr c (fun k hk => cpy_out (by omega))⟩
    · rw [ix_nIs hj (by omega), gd_true, nm_eq, nI_clamps (by omega), e1, bd11_s, nm_eq, gd_true, h.rns]
    · rw [jn_eq, hL, ix_nIs hj (by omega), gd_true, nI_clamps (by omega), g.rns]
  · rw [if_neg hq, if_pos zero_eq, if_pos zero_eq]
    exact ⟨-2, ss, sv, sl, vd, sd, hS, rfl, rfl⟩
theorem restore_L (Fu : Nat) (k : Ar → Option (Int32 × Ar × Ar × Int32)) (s sl : Ar) {j : Nat} (hj : j < 2) : ∀ (fu i : Nat), i ≤ 345 → 345 - i < fu → f_X4_restore_L30 Fu k sl (nI j) fu (nI i) (va_cpy sl s (345 * j) 0 i) = k (va_cpy sl s (345 * j) 0 345) := by
  intro fu
  induction fu with
  | zero => intro i h1 h2; omega
  | succ fu ih =>
    intro i h1 h2
    rw [f_X4_restore_L30_s]
    by_cases hh : 345 ≤ i
    · have e : i = 345 := by omega
      subst e
      simp (disch := omega) only [gd_true, nm_eq, jn_eq, bd1_s, bd2_s, bd3_s, bd4_s, bd5_s, bd6_s, bd7_s, bd8_s, bd9_s, bd10_s, bd11_s, bd12_s, nI_add, pk_mul, pk_subs, nI_m1s, ix_nIs, nI_clamps, nI_les, nI_lts, nI_eqs, bz_0, bz_1, nI_zero, eq_self, if_true, if_false, if_pos, if_neg]
    · rw [← ih (i + 1) (by omega) (by omega), ← cpy_step, Nat.zero_add]
      simp (disch := omega) only [gd_true, nm_eq, jn_eq, bd1_s, bd2_s, bd3_s, bd4_s, bd5_s, bd6_s, bd7_s, bd8_s, bd9_s, bd10_s, bd11_s, bd12_s, nI_add, pk_mul, pk_subs, nI_m1s, ix_nIs, nI_clamps, nI_les, nI_lts, nI_eqs, bz_0, bz_1, nI_zero, eq_self, if_true, if_false, if_neg hh]
theorem sim_restore {Fu M : Nat} (hF : 20000000 ≤ Fu) {A : Sh} {se le he sa fa ge : Ar} {ns nf sp bo fi : Int32} {s : Ar} (hW : WF A) (hM : A.sp ≤ M) (h : RV A se le he sa fa ge ns nf sp bo fi) (g : RS A s) {hs : Nat → Sh} {o z : Nat} {hv : Nat → SV} {be : Ar} (hH : HR M hs o z hv be) {ss : Nat → Sh} {sv : Nat → SV} {sl vd sd : Ar} (hS : SR M ss sv sl vd sd) (p : Int32) :
    ∃ r B hs' o' z' hv' be' se' le' he' sa' fa' ge' ns' nf' sp' bo' fi' s', WF B ∧ B.sp ≤ M ∧ RV B se' le' he' sa' fa' ge' ns' nf' sp' bo' fi' ∧ RS B s' ∧ HR M hs' o' z' hv' be' ∧
      f_X3_restore Fu vd se le he sa fa ge ns nf sp bo fi hv (nI o) (nI z) sv p = some (r, se', le', he', sa', fa', ge', ns', nf', sp', bo', fi', hv', nI o', nI z') ∧ f_X4_restore Fu s be (nI z) sl sd p = some (r, s', be', nI z') := by
  unfold f_X3_restore f_X4_restore
  rw [isWithin_s, in4_s, within_n (n := 1) (by omega), bd1_s, bd1_s]
  by_cases hq : isS (1 + 1) p = true
  · rw [if_pos hq, if_neg one_ne, if_neg one_ne]
    obtain ⟨j, hj, rfl⟩ := isS_t hq (by omega)
    have hj : j < 2 := hj
    rw [ix_nIs hj (by omega), gd_true, gd_true, nI_clamps (by omega)]
    rcases hS j hj with ⟨a, b⟩ | ⟨a, b, c, d, e, f⟩
    · refine ⟨-5, A, hs, o, z, hv, be, se, le, he, sa, fa, ge, ns, nf, sp, bo, fi, s, hW, hM, h, g, hH, ?_, ?_⟩
      · rw [a, if_pos nI_0]
      · rw [b, if_pos nI_0]
    · obtain ⟨hs', o', z', hv', be', q1, q2, q3⟩ := rec_sim hF hW hM h g hH
      obtain ⟨se', le', he', sa', fa', ge', e1, e2⟩ := copyFrom_s (Fu := Fu) c e se le he sa fa ge ns nf sp bo fi
      have hL := restore_L Fu (fun (q_s_15 : Ar) => some (q_s_15 3, q_s_15, be', nI z')) s sl hj Fu 0 (Nat.zero_le _) (by omega)
      rw [cpy_0] at hL
      have hB : RS (ss j) (va_cpy sl s (345 * j) 0 345) := f.congr c (fun i hi => by
        have := cpy_in (f := sl) (g := s) (sp := 345 * j) (dp := 0) hi
        rwa [Nat.zero_add] at this)
      refine ⟨nI (ss j).ns, ss j, hs', o', z', hv', be', se', le', he', sa', fa', ge', _, _, _, _, _, va_cpy sl s (345 * j) 0 345, c, d, e2, hB, q1, ?_, ?_⟩
      · rw [a, if_neg one_ne, q2, bd3_s, gd_true, nm_eq, e1, bd11_s, RV.rns e]
      · rw [b, if_neg one_ne, q3, bd2_s, jn_eq, hL, hB.rns]
  · rw [if_neg hq, if_pos zero_eq, if_pos zero_eq]
    exact ⟨-2, A, hs, o, z, hv, be, se, le, he, sa, fa, ge, ns, nf, sp, bo, fi, s, hW, hM, h, g, hH, rfl, rfl⟩
