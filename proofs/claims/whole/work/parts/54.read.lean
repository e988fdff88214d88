/-! PURE: the reference reads the pad -/
def AG (T : TT) (a1 a2 a3 : Ar) : Prop := ∀ w, w < T.1 → a1 w = nI (T.2.2.1 w) ∧ a2 w = nI (T.2.2.2.1 w) ∧ a3 w = nI (T.2.2.2.2.1 w)
def WD (ch : FN) (n i : Nat) : Prop := (i = n ∧ ps ch i = 0) ∨ (i < n ∧ (isL (ch i) ∨ ps ch (i + 1) = 4))
theorem nxt_L {q c : Nat} (h : isL c) : nxt q c = 1 := by unfold nxt; rw [if_pos h]
theorem nxt_sl {q : Nat} (h : q ≠ 0) : nxt q 47 = 0 := by unfold nxt; rw [if_neg (by omega), if_neg h, if_pos rfl]
theorem nxt_d1 {c : Nat} (h : 49 ≤ c ∧ c ≤ 57) : nxt 1 c = 2 := by unfold nxt; rw [if_neg (by omega), if_neg (by omega), if_neg (by omega), if_pos ⟨rfl, h⟩]
theorem nxt_d2 {c : Nat} (h : 48 ≤ c ∧ c ≤ 57) : nxt 2 c = 3 := by unfold nxt; rw [if_neg (by omega), if_neg (by omega), if_neg (by omega), if_neg (by omega), if_pos ⟨rfl, h⟩]
theorem nxt_0 {c : Nat} (h : ¬ isL c) : nxt 0 c = 4 := by unfold nxt; rw [if_neg h, if_pos rfl]
theorem nxt_1 {c : Nat} (h : ¬ isL c) (h2 : c ≠ 47) (h3 : ¬ (49 ≤ c ∧ c ≤ 57)) : nxt 1 c = 4 := by unfold nxt; rw [if_neg h, if_neg (by omega), if_neg h2, if_neg (fun z => h3 z.2), if_neg (by omega)]
theorem nxt_2 {c : Nat} (h : ¬ isL c) (h2 : c ≠ 47) (h3 : ¬ (48 ≤ c ∧ c ≤ 57)) : nxt 2 c = 4 := by unfold nxt; rw [if_neg h, if_neg (by omega), if_neg h2, if_neg (by omega), if_neg (fun z => h3 z.2)]
theorem nxt_3 {c : Nat} (h : ¬ isL c) (h2 : c ≠ 47) : nxt 3 c = 4 := by unfold nxt; rw [if_neg h, if_neg (by omega), if_neg h2, if_neg (by omega), if_neg (by omega)]
theorem tst_L {c : Nat} (h : isL c) (T : TT) : tst c T = (T.1 + 1, T.2.1, upN T.2.2.1 T.1 (c - 97), upN T.2.2.2.1 T.1 0, upN T.2.2.2.2.1 T.1 (T.2.1 - 1), upN T.2.2.2.2.2 T.2.1 (T.1 + 1)) := by
  unfold tst
  rw [if_neg (by omega), if_pos h]
theorem tst_d {c : Nat} (h : 48 ≤ c ∧ c ≤ 57) (T : TT) : tst c T = (T.1, T.2.1, T.2.2.1, upN T.2.2.2.1 (T.1 - 1) (T.2.2.2.1 (T.1 - 1) * 10 + (c - 48)), T.2.2.2.2.1, T.2.2.2.2.2) := by
  unfold tst
  rw [if_neg (by omega), if_neg (by omega)]
theorem tst_sl (T : TT) : tst 47 T = (T.1, T.2.1 + 1, T.2.2.1, T.2.2.2.1, T.2.2.2.2.1, upN T.2.2.2.2.2 (T.2.1 + 1) T.1) := by
  unfold tst
  rw [if_pos rfl]
abbrev KP : Type := Int32 → Int32 → Ar → Ar → Ar → Int32 → Int32 → Option (Int32 × Int32 × Ar × Ar × Ar × Int32 × Int32)
section RP
variable {Fu n : Nat} {ch : FN} {cs pd : Ar}
theorem rp_L (hn : n ≤ 60) (hpd : ∀ j, j < n → pd j = nI (ch j)) (hb : ∀ j, j < n → 33 ≤ ch j ∧ ch j ≤ 126) : ∀ (fu i : Nat) (a1 a2 a3 : Ar), i ≤ n → gdp ch i → WD ch n i → AG (tpl ch i) a1 a2 a3 → n - i + 2 ≤ fu →
    ∃ pl wr b1 b2 b3 tw tn, ((wr = nI 1 ∧ ¬ pl = -6 ∧ FS ch n pl) ∨ (wr = nI 0 ∧ gdp ch n ∧ ps ch n ≠ 0 ∧ AG (tpl ch n) b1 b2 b3 ∧ tw = nI (tpl ch n).1 ∧ tn = nI (tpl ch n).2.1)) ∧
      ∀ k : KP, f_X4_readPad_L22 Fu k pd (nI n) fu (nI 1) (nI i) (nI 0) a1 a2 a3 (nI (tpl ch i).1) (nI (tpl ch i).2.1) = k pl wr b1 b2 b3 tw tn := by
  intro fu
  induction fu with
  | zero => intro i a1 a2 a3 h1 h2 h3 h4 h5; omega
  | succ fu ih =>
    intro i a1 a2 a3 h1 h2 h3 h4 h5
    obtain ⟨t1, t2, t3⟩ := tpl_le ch i
    obtain ⟨f1, rfl⟩ : ∃ f1, fu = f1 + 1 := ⟨fu - 1, by omega⟩
    have stop : ∀ (k : KP) (pl wr : Int32) (b1 b2 b3 : Ar) (tw tn : Int32), f_X4_readPad_L22 Fu k pd (nI n) (f1 + 1) (nI 0) pl wr b1 b2 b3 tw tn = k pl wr b1 b2 b3 tw tn := fun k pl wr b1 b2 b3 tw tn => by
      rw [f_X4_readPad_L22_s, if_pos zero_eq]
    by_cases hL : i < n ∧ 97 ≤ ch i ∧ ch i ≤ 122
    · have sy := sign_y (Fu := Fu) hn hpd hb (lo := 97) (hi := 122) (by omega) (by omega) hL
      have hl : isL (ch i) := hL.2
      have p1 : ps ch (i + 1) = 1 := nxt_L hl
      have g1 : gdp ch (i + 1) := gdp_s h2 (by rw [p1]; omega)
      have T1 : tpl ch (i + 1) = _ := tst_L hl (tpl ch i)
      have bi := hb i hL.1
      -- what follows the word
      have tail : ∀ (j h : Nat), i < j → j ≤ n → gdp ch j → ps ch j ≠ 0 → (j < n → ch j ≠ 47 → isL (ch j) ∨ ps ch (j + 1) = 4) → (tpl ch j).1 = (tpl ch i).1 + 1 → (tpl ch j).2.1 = (tpl ch i).2.1 → AG (tpl ch j) (upd a1 (tpl ch i).1 (nI (ch i) - nI 97)) (upd a2 (tpl ch i).1 (nI h)) (upd a3 (tpl ch i).1 (nI (tpl ch i).2.1 - nI 1)) →
          ∃ pl wr b1 b2 b3 tw tn, ((wr = nI 1 ∧ ¬ pl = -6 ∧ FS ch n pl) ∨ (wr = nI 0 ∧ gdp ch n ∧ ps ch n ≠ 0 ∧ AG (tpl ch n) b1 b2 b3 ∧ tw = nI (tpl ch n).1 ∧ tn = nI (tpl ch n).2.1)) ∧
          ∀ k : KP, (gd (ix (nI (tpl ch i).1) 61) (
            nm ((upd a1 (nI (tpl ch i).1).toNatClampNeg (nI (ch i) - (nI 97)))) (fun (q38 : Ar) =>
            gd (ix (nI (tpl ch i).1) 61) (
            gd (ix (nI (tpl ch i).1) 61) (
            nm ((upd a3 (nI (tpl ch i).1).toNatClampNeg (nI (tpl ch i).2.1 - (nI 1)))) (fun (q41 : Ar) =>
            bd1 (f_X4_isNext Fu pd (nI n) (nI j) (nI 0) (nI 47) (nI 47)) (fun r42 =>
            jn (fun (v52 : Int32) (p53 : Int32) (w54 : Int32) (n55 : Int32) =>
              f_X4_readPad_L22 Fu k pd (nI n) (f1 + 1) v52 p53 w54 q38 (upd a2 (nI (tpl ch i).1).toNatClampNeg (nI h)) q41 (nI (tpl ch i).1 + (nI 1)) n55)
              (fun j56 =>
              if r42 = 0 then
                nm (if nI 0 = 0 then (if nI n ≤ nI j then (nI 0) else nI 1) else nI 0) (fun v47 =>
                j56 v47 (nI j) (nI 0) (nI (tpl ch i).2.1))
              else
                bd3 (f_X4_sign Fu pd (nI n) (nI j) (nI 0) (nI 47) (nI 47)) (fun r48 p49 w50 =>
                j56 (nI 1) p49 w50 (nI (tpl ch i).2.1 + (nI 1))))))))))) = k pl wr b1 b2 b3 tw tn := by
        intro j h j1 j2 j3 j4 j5 j6 j7 j8
        have nx := isNext_s (Fu := Fu) (i := j) (lo := 47) (hi := 47) hn hpd hb (by omega) (by omega) (by omega)
        rw [nx, ix_nIs (by omega) (by omega), nI_clamps (by omega)]
        simp only [gd_true, nm_eq, bd1_s, nI_add]
        rw [← j6, ← j7]
        by_cases c1 : j < n ∧ 47 ≤ ch j ∧ ch j ≤ 47
        · have sl : ch j = 47 := by omega
          have s2 := sign_y (Fu := Fu) hn hpd hb (lo := 47) (hi := 47) (by omega) (by omega) c1
          have q0 : ps ch (j + 1) = 0 := by rw [ps_s, sl]; exact nxt_sl j4
          have TJ : tpl ch (j + 1) = ((tpl ch j).1, (tpl ch j).2.1 + 1, (tpl ch j).2.2.1, (tpl ch j).2.2.2.1, (tpl ch j).2.2.2.2.1, upN (tpl ch j).2.2.2.2.2 ((tpl ch j).2.1 + 1) (tpl ch j).1) := by rw [tpl_s, sl, tst_sl]
          obtain ⟨pl, wr, b1, b2, b3, tw, tn, e1, e2⟩ := ih (j + 1) (upd a1 ((tpl ch j).1 - 1) (nI (ch i) - nI 97)) (upd a2 ((tpl ch j).1 - 1) (nI h)) (upd a3 ((tpl ch j).1 - 1) (nI (tpl ch j).2.1 - nI 1)) (by omega) (gdp_s j3 (by rw [q0]; omega)) (by
            by_cases d : j + 1 = n
            · exact Or.inl ⟨d, q0⟩
            · refine Or.inr ⟨by omega, ?_⟩
              by_cases d2 : isL (ch (j + 1))
              · exact Or.inl d2
              · exact Or.inr (by rw [ps_s, q0]; exact nxt_0 d2)) (by
            rw [TJ]
            intro w hw
            have := j8 w hw
            rw [j6, Nat.add_sub_cancel, j7]
            exact this) (by omega)
          refine ⟨pl, wr, b1, b2, b3, tw, tn, e1, fun k => ?_⟩
          rw [← e2 k, TJ, if_pos c1, jn_eq, if_neg one_ne, s2, bd3_s, j6, Nat.add_sub_cancel, j7]
        · rw [if_neg c1]
          by_cases c2 : n ≤ j
          · have e : j = n := by omega
            subst e
            refine ⟨nI j, nI 0, upd a1 (tpl ch i).1 (nI (ch i) - nI 97), upd a2 (tpl ch i).1 (nI h), upd a3 (tpl ch i).1 (nI (tpl ch i).2.1 - nI 1), nI (tpl ch j).1, nI (tpl ch j).2.1, Or.inr ⟨rfl, j3, j4, j8, rfl, rfl⟩, fun k => ?_⟩
            rw [jn_eq, if_pos zero_eq, if_pos zero_eq, if_pos (show nI j ≤ nI j by rw [nI_les (by omega) (by omega)]; omega)]
            dsimp only
            rw [stop, j7]
          · obtain ⟨pl, wr, b1, b2, b3, tw, tn, e1, e2⟩ := ih j (upd a1 (tpl ch i).1 (nI (ch i) - nI 97)) (upd a2 (tpl ch i).1 (nI h)) (upd a3 (tpl ch i).1 (nI (tpl ch i).2.1 - nI 1)) j2 j3 (Or.inr ⟨by omega, j5 (by omega) (by omega)⟩) j8 (by omega)
            refine ⟨pl, wr, b1, b2, b3, tw, tn, e1, fun k => ?_⟩
            rw [← e2 k, jn_eq, if_pos zero_eq, if_pos zero_eq, if_neg (show ¬ nI n ≤ nI j by rw [nI_les (by omega) (by omega)]; exact c2)]
            dsimp only
            rw [j7]
      have n1 := isNext_s (Fu := Fu) (i := i + 1) (lo := 49) (hi := 57) hn hpd hb (by omega) (by omega) (by omega)
      have k1 : nI (ch i) - nI 97 = nI (ch i - 97) := pk_subs (by omega)
      have k2 : nI (tpl ch i).2.1 - nI 1 = nI ((tpl ch i).2.1 - 1) := pk_subs (by omega)
      have ag : ∀ (T : TT) (h : Nat), T.1 = (tpl ch i).1 + 1 → T.2.2.1 = upN (tpl ch i).2.2.1 (tpl ch i).1 (ch i - 97) → (T.2.2.2.1 (tpl ch i).1 = h ∧ ∀ w, w < (tpl ch i).1 → T.2.2.2.1 w = (tpl ch i).2.2.2.1 w) → T.2.2.2.2.1 = upN (tpl ch i).2.2.2.2.1 (tpl ch i).1 ((tpl ch i).2.1 - 1) → AG T (upd a1 (tpl ch i).1 (nI (ch i) - nI 97)) (upd a2 (tpl ch i).1 (nI h)) (upd a3 (tpl ch i).1 (nI (tpl ch i).2.1 - nI 1)) := by
        intro T h e1 e2 e3 e4 w hw
        rw [e1] at hw
        rw [e2, e4, k1, k2]
        by_cases d : w = (tpl ch i).1
        · rw [d, upd_eq, upd_eq, upd_eq, upN_eq, upN_eq, e3.1]
          exact ⟨rfl, rfl, rfl⟩
        · rw [upd_ne d, upd_ne d, upd_ne d, upN_ne d, upN_ne d, e3.2 w (by omega)]
          exact h4 w (by omega)
      by_cases c1 : i + 1 < n ∧ 49 ≤ ch (i + 1) ∧ ch (i + 1) ≤ 57
      · have s2 := sign_y (Fu := Fu) hn hpd hb (lo := 49) (hi := 57) (by omega) (by omega) c1
        have p2 : ps ch (i + 2) = 2 := by rw [ps_s, p1]; exact nxt_d1 c1.2
        have g2 : gdp ch (i + 2) := gdp_s g1 (by rw [p2]; omega)
        have T2 := (congrArg (tst (ch (i + 1))) T1).trans (tst_d (show 48 ≤ ch (i + 1) ∧ ch (i + 1) ≤ 57 by omega) _)
        rw [← tpl_s] at T2
        have n2 := isNext_s (Fu := Fu) (i := i + 2) (lo := 48) (hi := 57) hn hpd hb (by omega) (by omega) (by omega)
        have kd : nI (ch (i + 1)) - nI 48 = nI (ch (i + 1) - 48) := pk_subs (by omega)
        have kpos : ¬ nI (ch (i + 1) - 48) ≤ 0 := by rw [nI_zero, nI_les (by omega) (by omega)]; omega
        by_cases c2 : i + 2 < n ∧ 48 ≤ ch (i + 2) ∧ ch (i + 2) ≤ 57
        · have s3 := sign_y (Fu := Fu) hn hpd hb (lo := 48) (hi := 57) (by omega) (by omega) c2
          have p3 : ps ch (i + 3) = 3 := by rw [ps_s, p2]; exact nxt_d2 c2.2
          have g3 : gdp ch (i + 3) := gdp_s g2 (by rw [p3]; omega)
          have T3 := (congrArg (tst (ch (i + 2))) T2).trans (tst_d c2.2 _)
          rw [← tpl_s] at T3
          obtain ⟨pl, wr, b1, b2, b3, tw, tn, e1, e2⟩ := tail (i + 3) (10 * (ch (i + 1) - 48) + ch (i + 2) - 48) (by omega) (by omega) g3 (by rw [p3]; omega) (fun q1 q2 => by
            by_cases d : isL (ch (i + 3))
            · exact Or.inl d
            · exact Or.inr (by rw [ps_s, p3]; exact nxt_3 d q2)) (by rw [T3]) (by rw [T3]) (ag _ _ (by rw [T3]) (by rw [T3]) (by
            rw [T3]
            dsimp only
            rw [Nat.add_sub_cancel, upN_eq, upN_eq, upN_eq]
            exact ⟨by omega, fun w hw => by rw [upN_ne (by omega), upN_ne (by omega), upN_ne (by omega)]⟩) (by rw [T3]))
          refine ⟨pl, wr, b1, b2, b3, tw, tn, e1, fun k => ?_⟩
          have kk : nI 10 * nI (ch (i + 1) - 48) + nI (ch (i + 2)) - nI 48 = nI (10 * (ch (i + 1) - 48) + ch (i + 2) - 48) := by
            rw [pk_mul, nI_add, pk_subs (by omega)]
          rw [← e2 k, f_X4_readPad_L22_s, if_neg one_ne, sy, bd3_s, n1, bd1_s, if_pos c1, jn_eq, if_neg one_ne, s2, bd3_s]
          dsimp only
          rw [jn_eq, kd, if_neg kpos, n2, bd1_s, if_pos c2, if_neg one_ne, s3, bd3_s, kk]
        · obtain ⟨pl, wr, b1, b2, b3, tw, tn, e1, e2⟩ := tail (i + 2) (ch (i + 1) - 48) (by omega) (by omega) g2 (by rw [p2]; omega) (fun q1 q2 => by
            by_cases d : isL (ch (i + 2))
            · exact Or.inl d
            · exact Or.inr (by rw [ps_s, p2]; exact nxt_2 d q2 (fun z => c2 ⟨q1, z⟩))) (by rw [T2]) (by rw [T2]) (ag _ _ (by rw [T2]) (by rw [T2]) (by
            rw [T2]
            dsimp only
            rw [Nat.add_sub_cancel, upN_eq, upN_eq]
            exact ⟨by omega, fun w hw => by rw [upN_ne (by omega), upN_ne (by omega)]⟩) (by rw [T2]))
          refine ⟨pl, wr, b1, b2, b3, tw, tn, e1, fun k => ?_⟩
          rw [← e2 k, f_X4_readPad_L22_s, if_neg one_ne, sy, bd3_s, n1, bd1_s, if_pos c1, jn_eq, if_neg one_ne, s2, bd3_s]
          dsimp only
          rw [jn_eq, kd, if_neg kpos, n2, bd1_s, if_neg c2, if_pos zero_eq]
      · obtain ⟨pl, wr, b1, b2, b3, tw, tn, e1, e2⟩ := tail (i + 1) 0 (by omega) (by omega) g1 (by rw [p1]; omega) (fun q1 q2 => by
          by_cases d : isL (ch (i + 1))
          · exact Or.inl d
          · exact Or.inr (by rw [ps_s, p1]; exact nxt_1 d q2 (fun z => c1 ⟨q1, z⟩))) (by rw [T1]) (by rw [T1]) (ag _ _ (by rw [T1]) (by rw [T1]) (by
          rw [T1]
          dsimp only
          rw [upN_eq]
          exact ⟨rfl, fun w hw => by rw [upN_ne (by omega)]⟩) (by rw [T1]))
        refine ⟨pl, wr, b1, b2, b3, tw, tn, e1, fun k => ?_⟩
        rw [← e2 k, f_X4_readPad_L22_s, if_neg one_ne, sy, bd3_s, n1, bd1_s, if_neg c1, jn_eq, if_pos zero_eq]
        dsimp only
        rw [jn_eq, if_pos (show nI 0 ≤ 0 by decide)]
    · obtain ⟨v, sn⟩ := sign_n (Fu := Fu) (i := i) hn hpd hb (lo := 97) (hi := 122) (by omega) (by omega) (by omega) hL
      refine ⟨nI i, nI 1, upd a1 (tpl ch i).1 (v - nI 97), upd a2 (tpl ch i).1 (nI 0), upd a3 (tpl ch i).1 (nI (tpl ch i).2.1 - nI 1), nI ((tpl ch i).1 + 1), nI (tpl ch i).2.1, Or.inl ⟨rfl, nI_ne6 (by omega), ?_⟩, fun k => ?_⟩
      · rcases h3 with ⟨e1, e2⟩ | ⟨e1, e2 | e2⟩
        · subst e1
          exact Or.inr (Or.inl ⟨h2, e2, rfl⟩)
        · exact absurd ⟨e1, e2⟩ hL
        · exact Or.inl ⟨i, e1, h2, e2, rfl⟩
      · rw [f_X4_readPad_L22_s, if_neg one_ne, sn, bd3_s, isNext_w, bd1_s, jn_eq, if_pos zero_eq]
        dsimp only
        rw [jn_eq, if_pos (show nI 0 ≤ 0 by decide)]
        dsimp only
        rw [ix_nIs (by omega) (by omega), gd_true, nm_eq, gd_true, gd_true, nm_eq, isNext_w, bd1_s, jn_eq, if_pos zero_eq, if_neg one_ne, nm_eq]
        dsimp only
        rw [stop, nI_clamps (by omega), nI_add]
end RP
