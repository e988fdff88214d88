/-! PURE: fuse -/
theorem upF_0 (s : Ar) {n m : Nat} : upF s n m (m - 1) = s := by
  funext j
  unfold upF
  rw [if_neg (by omega)]
theorem inF_0 (s l h : Ar) (v : Nat) : inF s l h v 0 = s := by
  funext j
  unfold inF
  rw [if_neg (by omega), if_neg (by omega)]
theorem jmax_le (a b : Int32) : nI 1 + jmax a b = (if a ≤ b then b else a) + nI 1 := by
  rw [Int32.add_comm]
  congr 1
  unfold jmax
  by_cases h : a < b
  · rw [if_pos h, if_pos (Int32.le_of_lt h)]
  · rw [if_neg h]
    by_cases h2 : a ≤ b
    · rw [if_pos h2]
      rw [Int32.lt_iff_toInt_lt] at h
      rw [Int32.le_iff_toInt_le] at h2
      exact Int32.toInt_inj.mp (by omega)
    · rw [if_neg h2]
def tgt (a b : Nat) : Nat := if a ≤ b then a else a - 1
theorem tgt_s {a b : Nat} (ha : a < 1000) (hb : b < 1000) : (if nI a ≤ nI b then nI a else nI a - nI 1) = nI (tgt a b) := by
  unfold tgt
  by_cases h : a ≤ b
  · rw [if_pos h, if_pos (by rw [nI_les (by omega) (by omega)]; exact h)]
  · rw [if_neg h, if_neg (by rw [nI_les (by omega) (by omega)]; exact h), pk_subs (by omega)]
def fuseD (A : Sh) (a b : Nat) : Sh := insA (removeA A b) (tgt a b) (A.sz b) (fun j => A.le (A.st b + j)) (fun j => A.he (A.st b + j)) (nI 1 + jmax (A.ge a) (A.ge b))
def fuseE (A : Sh) (a b : Nat) : Sh := warmA (warmA (fuseD A a b) ((removeA A b).st (tgt a b + 1) - 1) (A.se 1)) ((removeA A b).st (tgt a b + 1)) (A.se 1)
section FU
variable {Fu M : Nat} {A : Sh} {se le he sa fa ge : Ar} {ns nf sp bo fi : Int32} {s : Ar} {hs : Nat → Sh} {o z : Nat} {hv : Nat → SV} {be : Ar}
theorem fuse_facts (hW : WF A) {a b : Nat} (ha : a < A.ns) (hb : b < A.ns) (hab : a ≠ b) : WF (removeA A b) ∧ tgt a b < (removeA A b).ns ∧ (removeA A b).wn + A.sz b = A.wn ∧ 0 < A.sz b ∧ WF (fuseD A a b) ∧ (fuseD A a b).wn = A.wn ∧ 0 < (removeA A b).st (tgt a b + 1) ∧ (removeA A b).st (tgt a b + 1) < A.wn := by
  obtain ⟨z1, z2, z3⟩ := hW.sz hb
  have hw := hW.w
  have w1 := hW.remove hb
  have e1 := rm_wn hW hb
  have ht : tgt a b < (removeA A b).ns := by
    rw [rm_ns]
    unfold tgt
    by_cases h : a ≤ b
    · rw [if_pos h]; omega
    · rw [if_neg h]; omega
  obtain ⟨y1, y2, y3⟩ := w1.sz ht
  have e2 : (fuseD A a b).wn = A.wn := by
    unfold fuseD
    rw [in_wn ht]
    omega
  refine ⟨w1, ht, by omega, z1, ?_, e2, by omega, by omega⟩
  unfold fuseD
  exact w1.ins ht (by omega) (fun j hj => hW.2.2 _ (by omega))
theorem fuse_V (hF : 20000000 ≤ Fu) (hW : WF A) (h : RV A se le he sa fa ge ns nf sp bo fi) {ose ole ohe osa ofa oge : Ar} {ons onf osp obo ofi : Int32} (o : RV A ose ole ohe osa ofa oge ons onf osp obo ofi) {a b : Nat} (ha : a < A.ns) (hb : b < A.ns) (hab : a ≠ b) :
    ∃ le1 he1 sa1 fa1 ge1 le2 he2 sa2 he3 he4, f_X2_remove Fu le he sa fa ge ns (nI b) = some (le1, he1, sa1, fa1, ge1, nI (A.ns - 1)) ∧ sa1 (tgt a b + 1) = nI ((removeA A b).st (tgt a b + 1)) ∧ f_X2_append Fu le1 he1 sa1 (nI (A.ns - 1)) ole ohe osa (nI (tgt a b)) (nI b) = some (le2, he2, sa2) ∧ f_X2_warm Fu he2 (nI ((removeA A b).st (tgt a b + 1) - 1)) (nI (A.se 1)) = some he3 ∧ f_X2_warm Fu he3 (nI ((removeA A b).st (tgt a b + 1))) (nI (A.se 1)) = some he4 ∧
      RV (fuseE A a b) se le2 he4 sa2 fa1 (upd ge1 (tgt a b) (nI 1 + jmax (A.ge a) (A.ge b))) (nI (A.ns - 1)) nf sp bo fi := by
  obtain ⟨w1, ht, e1, e2, w2, e3, e4, e5⟩ := fuse_facts hW ha hb hab
  have hw := hW.w
  have hse := hW.2.1.2.2.1
  obtain ⟨le1, he1, sa1, fa1, ge1, r1, r2⟩ := remove_s hF hW h hb
  obtain ⟨le2, he2, sa2, r3, r4⟩ := append_s hF hW w1 r2 o ht hb (by omega) (nI 1 + jmax (A.ge a) (A.ge b))
  have r4' : RV (fuseD A a b) se le2 he2 sa2 fa1 (upd ge1 (tgt a b) (nI 1 + jmax (A.ge a) (A.ge b))) (nI (A.ns - 1)) nf sp bo fi := r4
  obtain ⟨he3, r5, r6⟩ := warm_s (Fu := Fu) w2 r4' (p := (removeA A b).st (tgt a b + 1) - 1) (by omega) (show A.se 1 ≤ 1000 by omega)
  obtain ⟨he4, r7, r8⟩ := warm_s (Fu := Fu) (w2.warm _ _) r6 (p := (removeA A b).st (tgt a b + 1)) (show _ < (fuseD A a b).wn by omega) (show A.se 1 ≤ 1000 by omega)
  exact ⟨le1, he1, sa1, fa1, ge1, le2, he2, sa2, he3, he4, r1, r2.rsa (by omega), r3, r5, r7, r8⟩
theorem sim_fuse (hF : 100000000 ≤ Fu) (hW : WF A) (hM : A.sp ≤ M) (h : RV A se le he sa fa ge ns nf sp bo fi) (g : RS A s) (hH : HR M hs o z hv be) (t ql qh : Ar) (a1 a2 a3 a4 a5 a6 : Ar) (b1 b2 b3 b4 b5 : Int32) (p q : Int32) :
    ∃ r B hs' o' z' hv' be' le' he' sa' fa' ge' t' ns' sp' bo' fi' c1 c2 c3 c4 c5 c6 d1 d2 d3 d4 d5 s' ql' qh', WF B ∧ B.sp ≤ M + 12 ∧ RV B se le' he' sa' fa' ge' ns' nf sp' bo' fi' ∧ RS B s' ∧ HR M hs' o' z' hv' be' ∧
      f_X3_fuse Fu se le he sa fa ge t ns nf sp bo fi a1 a2 a3 a4 a5 a6 b1 b2 b3 b4 b5 hv (nI o) (nI z) p q = some (r, le', he', sa', fa', ge', t', ns', sp', bo', fi', c1, c2, c3, c4, c5, c6, d1, d2, d3, d4, d5, hv', nI o', nI z') ∧ f_X4_fuse Fu s be (nI z) ql qh p q = some (r, s', be', nI z', ql', qh') := by
  have hn := hW.n
  have x1 := hasStory_s Fu p (show A.ns < 1000000 by omega)
  have x2 := isStory_s Fu p g.rns (show A.ns < 1000000 by omega)
  have x3 := hasStory_s Fu q (show A.ns < 1000000 by omega)
  have x4 := isStory_s Fu q g.rns (show A.ns < 1000000 by omega)
  rw [← h.rns] at x1 x3
  unfold f_X3_fuse f_X4_fuse
  rw [x1, x2, bd1_s, bd1_s]
  by_cases hp : isS A.ns p = true
  · rw [if_pos hp, if_neg one_ne, if_neg one_ne, x3, x4, bd1_s, bd1_s]
    by_cases hq : isS A.ns q = true
    · rw [if_pos hq, if_neg one_ne, if_neg one_ne]
      obtain ⟨a, ha, rfl⟩ := isS_t hp (by omega)
      obtain ⟨b, hb, rfl⟩ := isS_t hq (by omega)
      by_cases hab : a = b
      · subst hab
        rw [if_pos rfl, if_pos rfl]
        exact ⟨-2, A, hs, o, z, hv, be, le, he, sa, fa, ge, t, ns, sp, bo, fi, a1, a2, a3, a4, a5, a6, b1, b2, b3, b4, b5, s, ql, qh, hW, by omega, h, g, hH, rfl, rfl⟩
      · have hne : ¬ nI a = nI b := by rw [nI_eqs (by omega) (by omega)]; exact hab
        obtain ⟨t1, y1⟩ := themeOf_s (Fu := Fu) (by omega) hW h t ha
        obtain ⟨t2, y2⟩ := themeOf_s (Fu := Fu) (by omega) hW h t1 hb
        have y3 := theme_s (Fu := Fu) (by omega) hW g ha
        have y4 := theme_s (Fu := Fu) (by omega) hW g hb
        rw [if_neg hne, if_neg hne, y1, bd2_s, y2, bd2_s, y3, bd1_s, y4, bd1_s]
        by_cases hth : nI (thR (taR A a)) = nI (thR (taR A b))
        · rw [if_pos hth, if_pos hth]
          obtain ⟨w1, ht, e1, e2, w2, e3, e4, e5⟩ := fuse_facts hW ha hb hab
          have hw := hW.w
          have hse := hW.2.1.2.2.1
          have hB := w1.n
          obtain ⟨z1, z2, z3⟩ := w1.sz ht
          have k1 := h.rse (show 1 < 3 by omega)
          have k2 := tgt_s (a := a) (b := b) (by omega) (by omega)
          obtain ⟨hs', o', z', hv', be', q1, q2, q3⟩ := rec_sim (by omega : 20000000 ≤ Fu) hW hM h g hH
          obtain ⟨se0, le0, he0, sa0, fa0, ge0, cp, oo⟩ := copyFrom_s (Fu := Fu) hW h a1 a2 a3 a4 a5 a6 b1 b2 b3 b4 b5
          obtain ⟨le1, he1, sa1, fa1, ge1, le2, he2, sa2, he3, he4, r1, r2, r3, r4, r5, r6⟩ := fuse_V (Fu := Fu) (by omega) hW h oo ha hb hab
          have j1 := oo.rge ha
          have j2 := oo.rge hb
          obtain ⟨s1, s2, v1, v2, v3⟩ := remove4_s (Fu := Fu) (by omega) hW g hb
          have f1 := first_r (Fu := Fu) (by omega) hW g (show b ≤ A.ns by omega)
          have f2 := first_r (Fu := Fu) (by omega) w1 v3 (show tgt a b ≤ (removeA A b).ns by omega)
          have f3 : s (9 + b) = nI (A.sz b) := g.rlo hb
          have f4 := g.rge ha
          have f5 := g.rge hb
          have f6 : s2 (9 + tgt a b) = nI ((removeA A b).sz (tgt a b)) := v3.rlo ht
          have f7 := v3.rwn
          have m59 : ∀ k, f_X4_fuse_L59 Fu k s (nI b) (nI (A.sz b)) Fu (nI 0) ql qh = k (exF s ql (45 + A.st b) (A.sz b)) (exF s qh (195 + A.st b) (A.sz b)) := fun k => by
            obtain ⟨u1, u2, u3⟩ := hW.sz hb
            have := fuse_L59 Fu k s ql qh (n := A.sz b) (a := A.st b) (by omega) f1 Fu 0 (Nat.zero_le _) (by omega)
            rw [exF_0, exF_0] at this
            exact this
          have m220 : ∀ k, f_X4_fuse_L220 Fu k (nI (A.sz b)) (nI ((removeA A b).st (tgt a b + 1))) Fu (nI ((removeA A b).wn - 1)) s2 = k (upF s2 (A.sz b) (removeA A b).wn ((removeA A b).st (tgt a b + 1) - 1)) := fun k => by
            have := fuse_L220 Fu k s2 (n := A.sz b) (m := (removeA A b).wn) (v := (removeA A b).st (tgt a b + 1)) (by omega) e4 Fu ((removeA A b).wn - 1) (by omega) (by omega) (by omega)
            rw [upF_0] at this
            exact this
          have m282 : ∀ k, f_X4_fuse_L282 Fu k (nI (A.sz b)) (exF s ql (45 + A.st b) (A.sz b)) (exF s qh (195 + A.st b) (A.sz b)) (nI ((removeA A b).st (tgt a b + 1))) Fu (nI 0) (upF s2 (A.sz b) (removeA A b).wn ((removeA A b).st (tgt a b + 1) - 1)) = k (inF (upF s2 (A.sz b) (removeA A b).wn ((removeA A b).st (tgt a b + 1) - 1)) (exF s ql (45 + A.st b) (A.sz b)) (exF s qh (195 + A.st b) (A.sz b)) ((removeA A b).st (tgt a b + 1)) (A.sz b)) := fun k => by
            have := fuse_L282 Fu k (upF s2 (A.sz b) (removeA A b).wn ((removeA A b).st (tgt a b + 1) - 1)) (exF s ql (45 + A.st b) (A.sz b)) (exF s qh (195 + A.st b) (A.sz b)) (n := A.sz b) (v := (removeA A b).st (tgt a b + 1)) (by omega) Fu 0 (Nat.zero_le _) (by omega)
            rw [inF_0] at this
            exact this
          have iS := ins4_s w1 v3 ht (n := A.sz b) (by omega) (fl := fun j => A.le (A.st b + j)) (fh := fun j => A.he (A.st b + j)) (l := exF s ql (45 + A.st b) (A.sz b)) (h := exF s qh (195 + A.st b) (A.sz b)) (fun j hj => by
            obtain ⟨u1, u2, u3⟩ := hW.sz hb
            unfold exF; rw [if_pos hj, Nat.add_assoc]; exact g.rle (by omega)) (fun j hj => by
            obtain ⟨u1, u2, u3⟩ := hW.sz hb
            unfold exF; rw [if_pos hj, Nat.add_assoc]; exact g.rhe (by omega)) (nI 1 + jmax (A.ge a) (A.ge b))
          have i4 : inF (upF s2 (A.sz b) (removeA A b).wn ((removeA A b).st (tgt a b + 1) - 1)) (exF s ql (45 + A.st b) (A.sz b)) (exF s qh (195 + A.st b) (A.sz b)) ((removeA A b).st (tgt a b + 1)) (A.sz b) 4 = nI (removeA A b).wn := by
            unfold inF upF
            rw [if_neg (by omega), if_neg (by omega), if_neg (by omega)]
            exact f7
          have i9 : inF (upF s2 (A.sz b) (removeA A b).wn ((removeA A b).st (tgt a b + 1) - 1)) (exF s ql (45 + A.st b) (A.sz b)) (exF s qh (195 + A.st b) (A.sz b)) ((removeA A b).st (tgt a b + 1)) (A.sz b) (9 + tgt a b) = nI ((removeA A b).sz (tgt a b)) := by
            unfold inF upF
            rw [if_neg (by omega), if_neg (by omega), if_neg (by omega)]
            exact f6
          generalize inF (upF s2 (A.sz b) (removeA A b).wn ((removeA A b).st (tgt a b + 1) - 1)) (exF s ql (45 + A.st b) (A.sz b)) (exF s qh (195 + A.st b) (A.sz b)) ((removeA A b).st (tgt a b + 1)) (A.sz b) = S at m282 iS i4 i9
          generalize exF s ql (45 + A.st b) (A.sz b) = X at m59 m282
          generalize exF s qh (195 + A.st b) (A.sz b) = Y at m59 m282
          have iS' : RS (fuseD A a b) (upd (upd (upd S 4 (nI ((removeA A b).wn + A.sz b))) (9 + tgt a b) (nI ((removeA A b).sz (tgt a b) + A.sz b))) (33 + tgt a b) (nI 1 + jmax (A.ge a) (A.ge b))) := iS
          obtain ⟨s3, v4, v5⟩ := warm4_s (Fu := Fu) w2 iS' (p := (removeA A b).st (tgt a b + 1) - 1) (by omega) (show A.se 1 ≤ 1000 by omega)
          obtain ⟨s4, v6, v7⟩ := warm4_s (Fu := Fu) (w2.warm _ _) v5 (p := (removeA A b).st (tgt a b + 1)) (show _ < (fuseD A a b).wn by omega) (show A.se 1 ≤ 1000 by omega)
          have l1 := iS'.rse (show 1 < 3 by omega)
          have l1' : (upd (upd (upd S 4 (nI ((removeA A b).wn + A.sz b))) (9 + tgt a b) (nI ((removeA A b).sz (tgt a b) + A.sz b))) (33 + tgt a b) (nI 1 + jmax (A.ge a) (A.ge b))) 1 = nI (A.se 1) := l1
          have l2 := v5.rse (show 1 < 3 by omega)
          have l2' : s3 1 = nI (A.se 1) := l2
          obtain ⟨B, n, he', sa', fa', ge', ns', sp', bo', fi', s', u1, u2, u3, u4, u5, u6, u7⟩ := react_sim hF ((w2.warm _ _).warm _ _) r6 v7
          refine ⟨nI n, B, hs', o', z', hv', be', le2, he', sa', fa', ge', t2, ns', sp', bo', fi', se0, le0, he0, sa0, fa0, ge0, ns, nf, sp, bo, fi, s', X, Y, u3.1, ?_, u4, u5, q1, ?_, ?_⟩
          · have := u3.sp
            have e : (fuseE A a b).sp = A.sp := rfl
            have : B.sp ≤ (fuseE A a b).sp + 12 := this
            omega
          · rw [q2, bd3_s, cp, bd11_s, r1, bd6_s, nm_eq, k2, nI_add, ix_nIs (by omega) (by omega), gd_true, nm_eq, nI_clamps (show tgt a b + 1 < 2147483648 by omega), r2, r3, bd3_s, ix_nIs (by omega) (by omega), gd_true, ix_nIs (by omega) (by omega), gd_true, ix_nIs (by omega) (by omega), gd_true, nm_eq, nI_clamps (by omega), nI_clamps (by omega), nI_clamps (by omega), j1, j2, k1, pk_subs (by omega), r4, bd1_s, r5, bd1_s, u6, bd9_s]
          · have jl := jmax_le (A.ge a) (A.ge b)
            rw [q3, bd2_s, nI_add, ix_nIs (by omega) (by omega), gd_true, nm_eq, nI_clamps (by omega), f3, jn_eq, m59, nI_add, nI_add, ix_nIs (by omega) (by omega), gd_true, ix_nIs (by omega) (by omega), gd_true, jn_eq, nI_clamps (by omega), nI_clamps (by omega), f4, f5, gd_true, gd_true]
            by_cases c : A.ge a ≤ A.ge b
            · rw [if_pos c] at jl
              rw [if_pos c]
              dsimp only
              rw [f1, bd1_s, v1, bd1_s, v2, bd1_s, nm_eq, k2, f2, bd1_s, nI_add, ix_nIs (by omega) (by omega), gd_true, nm_eq, nI_clamps (by omega), f6, nI_add, nI_add, z2, jn_eq, f7, pk_subs (show 1 ≤ (removeA A b).wn by omega), m220, jn_eq, m282, gd_true, gd_true, nm_eq, nI_clamps (by omega), ix_nIs (by omega) (by omega), gd_true, i4, upd_ne (by omega), i9, nI_add, nI_add, ← jl, l1', pk_subs (by omega), v4, bd1_s, l2', v6, bd1_s, u7, bd2_s]
            · rw [if_neg c] at jl
              rw [if_neg c]
              dsimp only
              rw [f1, bd1_s, v1, bd1_s, v2, bd1_s, nm_eq, k2, f2, bd1_s, nI_add, ix_nIs (by omega) (by omega), gd_true, nm_eq, nI_clamps (by omega), f6, nI_add, nI_add, z2, jn_eq, f7, pk_subs (show 1 ≤ (removeA A b).wn by omega), m220, jn_eq, m282, gd_true, gd_true, nm_eq, nI_clamps (by omega), ix_nIs (by omega) (by omega), gd_true, i4, upd_ne (by omega), i9, nI_add, nI_add, ← jl, l1', pk_subs (by omega), v4, bd1_s, l2', v6, bd1_s, u7, bd2_s]
        · rw [if_neg hth, if_neg hth]
          exact ⟨-5, A, hs, o, z, hv, be, le, he, sa, fa, ge, t2, ns, sp, bo, fi, a1, a2, a3, a4, a5, a6, b1, b2, b3, b4, b5, s, ql, qh, hW, by omega, h, g, hH, rfl, rfl⟩
    · rw [if_neg hq, if_pos zero_eq, if_pos zero_eq]
      exact ⟨-1, A, hs, o, z, hv, be, le, he, sa, fa, ge, t, ns, sp, bo, fi, a1, a2, a3, a4, a5, a6, b1, b2, b3, b4, b5, s, ql, qh, hW, by omega, h, g, hH, rfl, rfl⟩
  · rw [if_neg hp, if_pos zero_eq, if_pos zero_eq]
    exact ⟨-1, A, hs, o, z, hv, be, le, he, sa, fa, ge, t, ns, sp, bo, fi, a1, a2, a3, a4, a5, a6, b1, b2, b3, b4, b5, s, ql, qh, hW, by omega, h, g, hH, rfl, rfl⟩
end FU
