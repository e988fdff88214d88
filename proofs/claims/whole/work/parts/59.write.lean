/-! PURE: the reference writes what it has read; write -/
section WR
variable {Fu M n : Nat} {A : Sh} {se le he sa fa ge : Ar} {ns nf sp bo fi : Int32} {s : Ar} {hs : Nat → Sh} {o z : Nat} {hv : Nat → SV} {be cs pd : Ar}
abbrev KW : Type := Ar → Option (Int32 × Ar × Ar × Int32 × Int32 × Int32 × Int32 × Ar × Ar × Ar × Int32 × Int32)
/-- the reference's row when x new stories have their places -/
def w63 (N : Nat) (nf : Int32) (s : Ar) (x : Nat) : Ar := fun i => if 9 + N ≤ i ∧ i < 9 + N + x then nI 0 else if 21 + N ≤ i ∧ i < 21 + N + x then nf + nI (i - 21 - N) else if 33 + N ≤ i ∧ i < 33 + N + x then nI 0 else if i = 5 then nf + nI x else s i
theorem w63_0 (N : Nat) (nf : Int32) (s : Ar) (h : s 5 = nf) : w63 N nf s 0 = s := by
  funext i
  unfold w63
  rw [if_neg (by omega), if_neg (by omega), if_neg (by omega)]
  by_cases c : i = 5
  · rw [if_pos c, c, h, zero_eq, Int32.add_zero]
  · rw [if_neg c]
theorem w63_s (N : Nat) (nf : Int32) (s : Ar) (x : Nat) (h : N + x < 12) : upd (upd (upd (upd (w63 N nf s x) (9 + N + x) (nI 0)) (21 + N + x) (nf + nI x)) (33 + N + x) (nI 0)) 5 (nf + nI (x + 1)) = w63 N nf s (x + 1) := by
  funext i
  unfold upd w63
  by_cases c5 : i = 5
  · rw [if_pos c5, if_neg (by omega), if_neg (by omega), if_neg (by omega), if_pos c5]
  · rw [if_neg c5]
    by_cases c1 : i = 33 + N + x
    · rw [if_pos c1, if_neg (by omega), if_neg (by omega), if_pos (by omega)]
    · rw [if_neg c1]
      by_cases c2 : i = 21 + N + x
      · rw [if_pos c2, if_neg (by omega), if_pos (by omega), show i - 21 - N = x by omega]
      · rw [if_neg c2]
        by_cases c3 : i = 9 + N + x
        · rw [if_pos c3, if_pos (by omega)]
        · rw [if_neg c3, if_neg c5]
          by_cases d1 : 9 + N ≤ i ∧ i < 9 + N + x
          · rw [if_pos d1, if_pos (by omega)]
          · rw [if_neg d1, if_neg (show ¬ (9 + N ≤ i ∧ i < 9 + N + (x + 1)) by omega)]
            by_cases d2 : 21 + N ≤ i ∧ i < 21 + N + x
            · rw [if_pos d2, if_pos (by omega)]
            · rw [if_neg d2, if_neg (show ¬ (21 + N ≤ i ∧ i < 21 + N + (x + 1)) by omega)]
              by_cases d3 : 33 + N ≤ i ∧ i < 33 + N + x
              · rw [if_pos d3, if_pos (by omega)]
              · rw [if_neg d3, if_neg (show ¬ (33 + N ≤ i ∧ i < 33 + N + (x + 1)) by omega), if_neg c5]
theorem write4_L63 (Fu : Nat) (k : KW) {N m : Nat} (hm : N + m ≤ 12) (h3 : s 3 = nI N) (nf : Int32) : ∀ (fu x : Nat), x ≤ m → m - x < fu → f_X4_write_L63 Fu k s (nI m) fu (nI x) (w63 N nf s x) = k (w63 N nf s m) := by
  intro fu
  induction fu with
  | zero => intro x h1 h2; omega
  | succ fu ih =>
    intro x h1 h2
    rw [f_X4_write_L63_s]
    by_cases hh : m ≤ x
    · have e : x = m := by omega
      subst e
      rw [if_pos (show nI x ≤ nI x by rw [nI_les (by omega) (by omega)]; omega)]
    · have v5 : upd (w63 N nf s x) (9 + N + x) (nI 0) 5 = nf + nI x := by
        rw [upd_ne (by omega)]
        unfold w63
        rw [if_neg (by omega), if_neg (by omega), if_neg (by omega), if_pos rfl]
      have v5' : upd (upd (upd (w63 N nf s x) (9 + N + x) (nI 0)) (21 + N + x) (nf + nI x)) (33 + N + x) (nI 0) 5 = nf + nI x := by
        rw [upd_ne (by omega), upd_ne (by omega), v5]
      rw [← ih (x + 1) (by omega) (by omega), ← w63_s N nf s x (by omega), if_neg (by rw [nI_les (by omega) (by omega)]; exact hh), h3]
      simp (disch := omega) only [nI_add, ix_nIs, gd_true, nm_eq, nI_clamps, v5, v5', Int32.add_assoc]
/-- how long the told story k is when x words have been written -/
def lnT (T : TT) (x k : Nat) : Nat := min x (te T (k + 1)) - min x (te T k)
theorem te_mono {T : TT} {q : Nat} (h : TI T q) (hq : q ≠ 0) {j : Nat} : ∀ (d : Nat), j + d ≤ tn T → te T j ≤ te T (j + d) := by
  obtain ⟨h1, h2, h3, h4, h5, h6, h7, h8, h9⟩ := h
  intro d
  induction d with
  | zero => intro _; exact Nat.le_refl _
  | succ d ih =>
    intro hd
    have := ih (by omega)
    by_cases c : j + d + 1 = tn T
    · have l := h6 hq
      rw [show tn T - 1 = j + d by omega, ← h2] at l
      rw [← Nat.add_assoc, c]
      omega
    · have := h4 (j + d) (by omega)
      rw [← Nat.add_assoc]
      omega
theorem lnT_s {T : TT} {q x k : Nat} (h : TI T q) (hq : q ≠ 0) (hx : x < tw T) (hk : k < tn T) : lnT T (x + 1) k = if k = ts T x then lnT T x k + 1 else lnT T x k := by
  obtain ⟨a1, a2, a3, a4, a5⟩ := h.2.2.2.2.2.2.1 x hx
  unfold lnT
  by_cases c : k = ts T x
  · rw [if_pos c, c, Nat.min_eq_left a5, Nat.min_eq_left (Nat.le_of_lt a5), Nat.min_eq_right (show te T (ts T x) ≤ x + 1 by omega), Nat.min_eq_right a4]
    omega
  · rw [if_neg c]
    by_cases d : k < ts T x
    · have m1 := te_mono h hq (j := k + 1) (ts T x - (k + 1)) (by omega)
      have m2 := te_mono h hq (j := k) 1 (by omega)
      rw [show k + 1 + (ts T x - (k + 1)) = ts T x by omega] at m1
      rw [Nat.min_eq_right (show te T (k + 1) ≤ x + 1 by omega), Nat.min_eq_right (show te T (k + 1) ≤ x by omega), Nat.min_eq_right (show te T k ≤ x + 1 by omega), Nat.min_eq_right (show te T k ≤ x by omega)]
    · have m1 := te_mono h hq (j := ts T x + 1) (k - (ts T x + 1)) (by omega)
      have m2 := te_mono h hq (j := k) 1 (by omega)
      rw [show ts T x + 1 + (k - (ts T x + 1)) = k by omega] at m1
      rw [Nat.min_eq_left (show x + 1 ≤ te T (k + 1) by omega), Nat.min_eq_left (show x ≤ te T (k + 1) by omega), Nat.min_eq_left (show x + 1 ≤ te T k by omega), Nat.min_eq_left (show x ≤ te T k by omega)]
      omega
/-- the reference's row when x words have been written -/
def w130 (N W : Nat) (T : TT) (s : Ar) (x : Nat) : Ar := fun i => if 45 + W ≤ i ∧ i < 45 + W + x then nI (tl T (i - 45 - W)) else if 195 + W ≤ i ∧ i < 195 + W + x then nI (th T (i - 195 - W)) else if 9 + N ≤ i ∧ i < 9 + N + tn T then nI (lnT T x (i - 9 - N)) else s i
theorem w130_s {N W q x : Nat} {T : TT} {s : Ar} (h : TI T q) (hq : q ≠ 0) (hx : x < tw T) (h12 : N + tn T ≤ 12) (h150 : W + tw T ≤ 150) :
    upd (upd (upd (w130 N W T s x) (45 + W + x) (nI (tl T x))) (195 + W + x) (nI (th T x))) (9 + N + ts T x) (nI (lnT T x (ts T x) + 1)) = w130 N W T s (x + 1) := by
  obtain ⟨a1, a2, a3, a4, a5⟩ := h.2.2.2.2.2.2.1 x hx
  funext i
  unfold upd w130
  by_cases c1 : i = 9 + N + ts T x
  · rw [if_pos c1, if_neg (by omega), if_neg (by omega), if_pos (by omega), show i - 9 - N = ts T x by omega, lnT_s h hq hx a3, if_pos rfl]
  · rw [if_neg c1]
    by_cases c2 : i = 195 + W + x
    · rw [if_pos c2, if_neg (by omega), if_pos (by omega), show i - 195 - W = x by omega]
    · rw [if_neg c2]
      by_cases c3 : i = 45 + W + x
      · rw [if_pos c3, if_pos (by omega), show i - 45 - W = x by omega]
      · rw [if_neg c3]
        by_cases d1 : 45 + W ≤ i ∧ i < 45 + W + x
        · rw [if_pos d1, if_pos (by omega)]
        · rw [if_neg d1, if_neg (show ¬ (45 + W ≤ i ∧ i < 45 + W + (x + 1)) by omega)]
          by_cases d2 : 195 + W ≤ i ∧ i < 195 + W + x
          · rw [if_pos d2, if_pos (by omega)]
          · rw [if_neg d2, if_neg (show ¬ (195 + W ≤ i ∧ i < 195 + W + (x + 1)) by omega)]
            by_cases d3 : 9 + N ≤ i ∧ i < 9 + N + tn T
            · rw [if_pos d3, if_pos d3, lnT_s h hq hx (show i - 9 - N < tn T by omega), if_neg (by omega)]
            · rw [if_neg d3, if_neg d3]
theorem write4_L130 (Fu : Nat) (k : KW) {N W q : Nat} {T : TT} {s0 s1 b1 b2 b3 : Ar} (h : TI T q) (hq : q ≠ 0) (h60 : tw T ≤ 60) (h12 : N + tn T ≤ 12) (h150 : W + tw T ≤ 150) (hb : AG T b1 b2 b3) (h3 : s0 3 = nI N) (h4 : s1 4 = nI W) : ∀ (fu x : Nat), x ≤ tw T → tw T - x < fu → f_X4_write_L130 Fu k s0 b1 b2 b3 (nI (tw T)) fu (nI x) (w130 N W T s1 x) = k (w130 N W T s1 (tw T)) := by
  intro fu
  induction fu with
  | zero => intro x g1 g2; omega
  | succ fu ih =>
    intro x g1 g2
    rw [f_X4_write_L130_s]
    by_cases hh : tw T ≤ x
    · have e : x = tw T := by omega
      rw [e, if_pos (show nI (tw T) ≤ nI (tw T) by rw [nI_les (by omega) (by omega)]; omega)]
    · obtain ⟨a1, a2, a3, a4, a5⟩ := h.2.2.2.2.2.2.1 x (by omega)
      obtain ⟨e1, e2, e3⟩ := hb x (by show x < tw T; omega)
      have e1 : b1 x = nI (tl T x) := e1
      have e2 : b2 x = nI (th T x) := e2
      have e3 : b3 x = nI (ts T x) := e3
      have v4 : w130 N W T s1 x 4 = nI W := by
        unfold w130
        rw [if_neg (by omega), if_neg (by omega), if_neg (by omega), h4]
      have v4' : ∀ v : Int32, upd (w130 N W T s1 x) (45 + W + x) v 4 = nI W := fun v => by rw [upd_ne (by omega), v4]
      have vl : ∀ u v : Int32, upd (upd (w130 N W T s1 x) (45 + W + x) u) (195 + W + x) v (9 + N + ts T x) = nI (lnT T x (ts T x)) := fun u v => by
        rw [upd_ne (by omega), upd_ne (by omega)]
        unfold w130
        rw [if_neg (by omega), if_neg (by omega), if_pos (by omega), show 9 + N + ts T x - 9 - N = ts T x by omega]
      rw [← ih (x + 1) (by omega) (by omega), ← w130_s h hq (by omega) h12 h150, if_neg (by rw [nI_les (by omega) (by omega)]; exact hh), h3]
      simp (disch := omega) only [nI_add, ix_nIs, gd_true, nm_eq, nI_clamps, v4, v4', vl, e1, e2, e3]
theorem RS.write {T : TT} {q : Nat} (g : RS A s) (hW : WF A) (h : TI T q) (hq : q ≠ 0) (h12 : A.ns + tn T ≤ 12) (h150 : A.wn + tw T ≤ 150) : RS (addT A T) (upd (upd (w130 A.ns A.wn T (w63 A.ns A.nf s (tn T)) (tw T)) 3 (nI (A.ns + tn T))) 4 (nI (A.wn + tw T))) := by
  have hT := h
  obtain ⟨h1, h2, h3, h4, h5, h6, h7, h8, h9⟩ := h
  have ew := ad_wn (A := A) h3 h2
  have low : ∀ i, i < 9 → i ≠ 3 → i ≠ 4 → (upd (upd (w130 A.ns A.wn T (w63 A.ns A.nf s (tn T)) (tw T)) 3 (nI (A.ns + tn T))) 4 (nI (A.wn + tw T))) i = if i = 5 then A.nf + nI (tn T) else s i := by
    intro i c1 c2 c3
    rw [upd_ne c3, upd_ne c2]
    unfold w130 w63
    rw [if_neg (by omega), if_neg (by omega), if_neg (by omega), if_neg (by omega), if_neg (by omega), if_neg (by omega)]
  have hi : ∀ i, 9 ≤ i → (upd (upd (w130 A.ns A.wn T (w63 A.ns A.nf s (tn T)) (tw T)) 3 (nI (A.ns + tn T))) 4 (nI (A.wn + tw T))) i = w130 A.ns A.wn T (w63 A.ns A.nf s (tn T)) (tw T) i := fun i c => by rw [upd_ne (by omega), upd_ne (by omega)]
  have hn := hW.n
  refine ⟨fun i c => ?_, ?_, ?_, ?_, ?_, ?_, ?_, fun k hk => ?_, fun k hk => ?_, fun k hk => ?_, fun p hp => ?_, fun p hp => ?_⟩
  · rw [low i (by omega) (by omega) (by omega), if_neg (by omega)]; exact g.rse c
  · rw [upd_ne (by omega), upd_eq]; rfl
  · rw [upd_eq, ew]
  · rw [low 5 (by omega) (by omega) (by omega), if_pos rfl]; rfl
  · rw [low 6 (by omega) (by omega) (by omega), if_neg (by omega)]; exact g.rsp
  · rw [low 7 (by omega) (by omega) (by omega), if_neg (by omega)]; exact g.rbo
  · rw [low 8 (by omega) (by omega) (by omega), if_neg (by omega)]; exact g.rfi
  · have hk : k < A.ns + tn T := hk
    rw [hi _ (by omega)]
    unfold w130 w63
    rw [if_neg (by omega), if_neg (by omega), ad_st, ad_st]
    by_cases c : k < A.ns
    · rw [if_neg (by omega), if_neg (by omega), if_neg (by omega), if_neg (by omega), if_neg (by omega), if_pos (show k + 1 ≤ A.ns from c), if_pos (by omega)]
      exact g.rlo c
    · rw [if_pos (by omega), if_neg (show ¬ k + 1 ≤ A.ns from c), show 9 + k - 9 - A.ns = k - A.ns by omega]
      unfold lnT
      have m1 := te_mono hT hq (j := k - A.ns + 1) (tn T - (k - A.ns + 1)) (by omega)
      have m0 := te_mono hT hq (j := k - A.ns) 1 (by omega)
      rw [show k - A.ns + 1 + (tn T - (k - A.ns + 1)) = tn T by omega, h2] at m1
      rw [Nat.min_eq_right m1, Nat.min_eq_right (by omega), show k + 1 - A.ns = k - A.ns + 1 by omega]
      by_cases d : k ≤ A.ns
      · have e : k = A.ns := by omega
        rw [if_pos d, e, Nat.sub_self, h1]
        show nI (te T (0 + 1) - 0) = nI (A.wn + te T (0 + 1) - A.wn)
        rw [Nat.add_sub_cancel_left, Nat.sub_zero]
      · rw [if_neg d, Nat.add_sub_add_left]
  · have hk : k < A.ns + tn T := hk
    rw [hi _ (by omega), ad_fa]
    unfold w130 w63
    rw [if_neg (by omega), if_neg (by omega), if_neg (by omega), if_neg (by omega)]
    by_cases c : k < A.ns
    · rw [if_neg (by omega), if_neg (by omega), if_neg (by omega), if_pos c]
      exact g.rfa c
    · rw [if_pos (by omega), if_neg c, show 21 + k - 21 - A.ns = k - A.ns by omega]
  · have hk : k < A.ns + tn T := hk
    rw [hi _ (by omega), ad_ge]
    unfold w130 w63
    rw [if_neg (by omega), if_neg (by omega), if_neg (by omega), if_neg (by omega), if_neg (by omega)]
    by_cases c : k < A.ns
    · rw [if_neg (by omega), if_neg (by omega), if_pos c]
      exact g.rge c
    · rw [if_pos (by omega), if_neg c]
  · rw [ew] at hp
    rw [hi _ (by omega), ad_le]
    unfold w130 w63
    by_cases c : p < A.wn
    · rw [if_neg (by omega), if_neg (by omega), if_neg (by omega), if_neg (by omega), if_neg (by omega), if_neg (by omega), if_neg (by omega), if_pos c]
      exact g.rle c
    · rw [if_pos (by omega), if_neg c, show 45 + p - 45 - A.wn = p - A.wn by omega]
  · rw [ew] at hp
    rw [hi _ (by omega), ad_he]
    unfold w130 w63
    by_cases c : p < A.wn
    · rw [if_neg (by omega), if_neg (by omega), if_neg (by omega), if_neg (by omega), if_neg (by omega), if_neg (by omega), if_neg (by omega), if_pos c]
      exact g.rhe c
    · rw [if_neg (by omega), if_pos (by omega), if_neg c, show 195 + p - 195 - A.wn = p - A.wn by omega]
theorem sim_write (hF : 100000000 ≤ Fu) (hW : WF A) (hM : A.sp ≤ M) (h : RV A se le he sa fa ge ns nf sp bo fi) (g : RS A s) (hH : HR M hs o z hv be) (hP : PR n cs pd) (p0 w0 : Int32) (a1 a2 a3 : Ar) (x0 y0 : Int32) :
    ∃ r B hs' o' z' hv' be' n' le' he' sa' fa' ge' ns' nf' sp' bo' fi' s' pl wr b1 b2 b3 tw' tn', WF B ∧ B.sp ≤ M + 12 ∧ RV B se le' he' sa' fa' ge' ns' nf' sp' bo' fi' ∧ RS B s' ∧ HR M hs' o' z' hv' be' ∧ PR n' cs pd ∧
      f_X3_write Fu cs (nI n) se le he sa fa ge ns nf sp bo fi hv (nI o) (nI z) = some (r, nI n', le', he', sa', fa', ge', ns', nf', sp', bo', fi', hv', nI o', nI z') ∧
      f_X4_write Fu s be (nI z) pd (nI n) p0 w0 a1 a2 a3 x0 y0 = some (r, s', be', nI z', nI n', pl, wr, b1, b2, b3, tw', tn') := by
  have hn := hP.1
  have hF2 : 20000000 ≤ Fu := by omega
  obtain ⟨h1, h2, h3⟩ := hP.ch
  obtain ⟨r0, q1, q2⟩ := ff_s hF2 hn h1 h3
  obtain ⟨pl, wr, b1, b2, b3, tw', tn', e1, e2⟩ := rp_s hF2 hP p0 w0 a1 a2 a3 x0 y0
  unfold f_X3_write f_X4_write
  rw [q2, e2, bd1_s, bd7_s]
  have An := hW.n
  have Aw := hW.w
  rcases e1 with ⟨u1, u0, u2⟩ | ⟨u1, u2, u3, u4, rfl, rfl⟩
  · rw [u1, if_neg one_ne, q1.det u2, if_neg u0]
    exact ⟨-3, A, hs, o, z, hv, be, n, le, he, sa, fa, ge, ns, nf, sp, bo, fi, s, pl, nI 1, b1, b2, b3, tw', tn', hW, by omega, h, g, hH, hP, rfl, rfl⟩
  · have ti := TI_i (chA cs) n u2
    have tl60 := tpl_le (chA cs) n
    have E := RS.write (T := tpl (chA cs) n) g hW ti u3
    rw [u1, if_pos zero_eq, q1.det (Or.inr (Or.inr ⟨u2, u3, rfl⟩)), if_pos rfl, stories_s hF2 hP, words4_s hF2 hP, bd1_s, g.rns, g.rwn, h.rns, nI_add]
    have rw' := words_r (Fu := Fu) hW h
    rw [h.rns] at rw'
    by_cases c1 : nI 12 < nI (A.ns + (tpl (chA cs) n).2.1)
    · rw [if_pos c1, if_pos c1]
      exact ⟨-4, A, hs, o, z, hv, be, n, le, he, sa, fa, ge, nI A.ns, nf, sp, bo, fi, s, pl, nI 0, b1, b2, b3, _, _, hW, by omega, by rw [← h.rns]; exact h, g, hH, hP, rfl, rfl⟩
    · rw [if_neg c1, if_neg c1, rw', bd1_s, bd1_s, nI_add]
      rw [nI_lts (by omega) (by omega)] at c1
      by_cases c2 : nI (A.wn + (tpl (chA cs) n).1) ≤ nI 150
      · rw [if_pos c2, if_pos c2]
        rw [nI_les (by omega) (by omega)] at c2
        have c1' : A.ns + tn (tpl (chA cs) n) ≤ 12 := by show A.ns + (tpl (chA cs) n).2.1 ≤ 12; omega
        have h' := h
        rw [h.rns] at h'
        obtain ⟨hs', o', z', hv', be', r1, r2, r3⟩ := rec_sim hF2 hW hM h' g hH
        obtain ⟨le', he', sa', fa', ge', ns', nf', v1, v2⟩ := writeTo_s hF2 hP u2 h' hW c1' c2
        have E := E c1' c2
        obtain ⟨B, m, he2, sa2, fa2, ge2, ns2, sp2, bo2, fi2, s2, y1, y2, y3, y4, y5, y6, y7⟩ := react_sim hF (WF.add hW ti u3 c1' c2) v1 E
        have K63 : ∀ k : KW, f_X4_write_L63 Fu k s (nI (tpl (chA cs) n).2.1) Fu (nI 0) s = k (w63 A.ns A.nf s (tn (tpl (chA cs) n))) := fun k => by
          have := write4_L63 (s := s) (N := A.ns) (m := (tpl (chA cs) n).2.1) Fu k (by omega) g.rns A.nf Fu 0 (Nat.zero_le _) (by omega)
          rw [w63_0 _ _ _ g.rnf] at this
          exact this
        have z4 : w63 A.ns A.nf s (tn (tpl (chA cs) n)) 4 = nI A.wn := by
          unfold w63
          rw [if_neg (by omega), if_neg (by omega), if_neg (by omega), if_neg (by omega)]
          exact g.rwn
        have z0 : w130 A.ns A.wn (tpl (chA cs) n) (w63 A.ns A.nf s (tn (tpl (chA cs) n))) 0 = w63 A.ns A.nf s (tn (tpl (chA cs) n)) := by
          funext i
          unfold w130
          rw [if_neg (by omega), if_neg (by omega)]
          by_cases d : 9 + A.ns ≤ i ∧ i < 9 + A.ns + tn (tpl (chA cs) n)
          · rw [if_pos d]
            unfold lnT w63
            rw [if_pos d, Nat.zero_min, Nat.zero_min]
          · rw [if_neg d]
        have K130 : ∀ k : KW, f_X4_write_L130 Fu k s b1 b2 b3 (nI (tpl (chA cs) n).1) Fu (nI 0) (w63 A.ns A.nf s (tn (tpl (chA cs) n))) = k (w130 A.ns A.wn (tpl (chA cs) n) (w63 A.ns A.nf s (tn (tpl (chA cs) n))) (tw (tpl (chA cs) n))) := fun k => by
          have := write4_L130 (s0 := s) (s1 := w63 A.ns A.nf s (tn (tpl (chA cs) n))) Fu k ti u3 (show tw (tpl (chA cs) n) ≤ 60 by show (tpl (chA cs) n).1 ≤ 60; omega) c1' c2 u4 g.rns z4 Fu 0 (Nat.zero_le _) (by show (tpl (chA cs) n).1 - 0 < Fu; omega)
          rw [z0] at this
          exact this
        have s3 : w130 A.ns A.wn (tpl (chA cs) n) (w63 A.ns A.nf s (tn (tpl (chA cs) n))) (tw (tpl (chA cs) n)) 3 = nI A.ns := by
          unfold w130 w63
          rw [if_neg (by omega), if_neg (by omega), if_neg (by omega), if_neg (by omega), if_neg (by omega), if_neg (by omega), if_neg (by omega)]
          exact g.rns
        have s4 : w130 A.ns A.wn (tpl (chA cs) n) (w63 A.ns A.nf s (tn (tpl (chA cs) n))) (tw (tpl (chA cs) n)) 4 = nI A.wn := by
          unfold w130
          rw [if_neg (by omega), if_neg (by omega), if_neg (by omega)]
          exact z4
        have E2 : upd (upd (w130 A.ns A.wn (tpl (chA cs) n) (w63 A.ns A.nf s (tn (tpl (chA cs) n))) (tw (tpl (chA cs) n))) 3 (nI A.ns + nI (tpl (chA cs) n).2.1)) 4 (nI A.wn + nI (tpl (chA cs) n).1) = upd (upd (w130 A.ns A.wn (tpl (chA cs) n) (w63 A.ns A.nf s (tn (tpl (chA cs) n))) (tw (tpl (chA cs) n))) 3 (nI (A.ns + tn (tpl (chA cs) n)))) 4 (nI (A.wn + tw (tpl (chA cs) n))) := by
          rw [nI_add, nI_add]; rfl
        refine ⟨nI B.ns, B, hs', o', z', hv', be', 0, le', he2, sa2, fa2, ge2, ns2, nf', sp2, bo2, fi2, s2, pl, nI 0, b1, b2, b3, nI (tpl (chA cs) n).1, nI (tpl (chA cs) n).2.1, y3.1, ?_, y4, y5, r1, PR.wipe _ _, ?_, ?_⟩
        · have := y3.sp
          have e : (addT A (tpl (chA cs) n)).sp = A.sp := rfl
          omega
        · rw [r2, bd3_s, v2, bd7_s, y6, bd9_s, y4.rns]
        · rw [r3, bd2_s, jn_eq, K63, jn_eq, K130, nm_eq, s3, upd_ne (show (4 : Nat) ≠ 3 by omega), s4, E2, y7, bd2_s, y5.rns]
      · rw [if_neg c2, if_neg c2]
        exact ⟨-4, A, hs, o, z, hv, be, n, le, he, sa, fa, ge, nI A.ns, nf, sp, bo, fi, s, pl, nI 0, b1, b2, b3, _, _, hW, by omega, by rw [← h.rns]; exact h, g, hH, hP, rfl, rfl⟩
end WR
