/-! PURE: the pad; put, wipe -/
def Lp (p : Int64) (t : Nat) : Int64 := lushr p (nI 8 * nI t)
def Dp (p : Int64) (t : Nat) : Int32 := ((Lp p t) &&& (lN 255)).toInt32
theorem lu_n (x : Int64) (y : Int32) (k : Nat) (hk : k < 64) (hy : y.toInt64.toUInt64 &&& Int64.toUInt64 63 = UInt64.ofNat k) : (lushr x y).toUInt64.toNat = x.toUInt64.toNat >>> k := by
  show (x.toUInt64 >>> (y.toInt64.toUInt64 &&& Int64.toUInt64 63)).toNat = _
  rw [hy, UInt64.toNat_shiftRight]
  congr 1
  show (BitVec.ofNat 64 k).toNat % 64 = k
  rw [BitVec.toNat_ofNat]
  omega
theorem i64_ext {x y : Int64} (h : x.toUInt64.toNat = y.toUInt64.toNat) : x = y := by
  cases x
  cases y
  congr 1
  exact UInt64.toNat_inj.mp h
theorem sh_t (t : Nat) (ht : t < 8) : (nI 8 * nI t).toInt64.toUInt64 &&& Int64.toUInt64 63 = UInt64.ofNat (8 * t) := by
  rcases (show t = 0 ∨ t = 1 ∨ t = 2 ∨ t = 3 ∨ t = 4 ∨ t = 5 ∨ t = 6 ∨ t = 7 by omega) with rfl | rfl | rfl | rfl | rfl | rfl | rfl | rfl <;> decide
theorem Lp_n (p : Int64) (t : Nat) (ht : t < 8) : (Lp p t).toUInt64.toNat = p.toUInt64.toNat >>> (8 * t) := lu_n p _ (8 * t) (by omega) (sh_t t ht)
theorem Lp_0 (p : Int64) : Lp p 0 = p := i64_ext (by rw [Lp_n p 0 (by omega)]; rfl)
theorem Lp_s (p : Int64) (t : Nat) (ht : t + 1 < 8) : lushr (Lp p t) (nI 8) = Lp p (t + 1) := i64_ext (by
  rw [Lp_n p (t + 1) ht, lu_n (Lp p t) (nI 8) 8 (by omega) (by decide), Lp_n p t (by omega), ← Nat.shiftRight_add, show 8 * (t + 1) = 8 * t + 8 by omega])
theorem lcmp_0 {x : Int64} (h : lg_cmp x (lN 0) = 0) : x = lN 0 := by
  unfold lg_cmp at h
  by_cases c : x > lN 0
  · rw [if_pos c] at h; exact absurd h (by decide)
  · rw [if_neg c] at h
    by_cases d : x = lN 0
    · exact d
    · rw [if_neg d] at h; exact absurd h (by decide)
theorem Lp_end (p : Int64) (t : Nat) (ht : t + 1 < 8) (h : lg_cmp (Lp p t) (lN 0) = 0) : lg_cmp (Lp p (t + 1)) (lN 0) = 0 := by
  have e := lcmp_0 h
  rw [← Lp_s p t ht, e]
  decide
def okc (p : Int64) (t : Nat) : Prop := nI 33 ≤ Dp p t ∧ Dp p t ≤ nI 126
section PU
variable {Fu : Nat}
theorem put_w (k : Int32 → Int32 → Option (Int32 × Ar × Int32)) (p : Int64) : ∀ (fu t a : Nat), 8 - t < fu → t ≤ 8 → ∃ c, f_X4_put_L8 Fu k p fu (nI a) (nI 1) (nI t) = k (nI c) (nI 1) := by
  intro fu
  induction fu with
  | zero => intro t a h; omega
  | succ fu ih =>
    intro t a h ht
    rw [f_X4_put_L8_s]
    by_cases hh : 8 ≤ t
    · rw [if_pos (by rw [nI_les (by omega) (by omega)]; exact hh)]
      exact ⟨a, rfl⟩
    · rw [if_neg (by rw [nI_les (by omega) (by omega)]; exact hh), nm_eq, nm_eq, jn_eq, if_neg one_ne]
      dsimp only
      rw [nm_eq, nI_add]
      generalize (if nI t ≤ 0 then nI 0 else if lg_cmp (lushr p (nI 8 * nI t)) (lN 0) = 0 then nI 1 else nI 0) = v
      by_cases c : v = 0
      · rw [if_pos c, nI_add]; exact ih (t + 1) (a + 1) (by omega) (by omega)
      · rw [if_neg c, nI_add]; exact ih (t + 1) (a + 0) (by omega) (by omega)
theorem put_e (k : Int32 → Int32 → Option (Int32 × Ar × Int32)) (p : Int64) : ∀ (fu t a : Nat), 8 - t < fu → t ≤ 8 → 0 < t → (t < 8 → lg_cmp (Lp p t) (lN 0) = 0) → f_X4_put_L8 Fu k p fu (nI a) (nI 0) (nI t) = k (nI a) (nI 0) := by
  intro fu
  induction fu with
  | zero => intro t a h; omega
  | succ fu ih =>
    intro t a h ht h0 he
    rw [f_X4_put_L8_s]
    by_cases hh : 8 ≤ t
    · rw [if_pos (by rw [nI_les (by omega) (by omega)]; exact hh)]
    · have he' : lg_cmp (lushr p (nI 8 * nI t)) (lN 0) = 0 := he (by omega)
      rw [if_neg (by rw [nI_les (by omega) (by omega)]; exact hh), nm_eq, nm_eq, jn_eq, if_pos zero_eq, if_neg (show ¬ nI t ≤ 0 by rw [nI_zero, nI_les (by omega) (by omega)]; omega), if_pos he', if_neg one_ne, if_neg one_ne]
      dsimp only
      rw [nm_eq, nI_add, nI_add]
      exact ih (t + 1) (a + 0) (by omega) (by omega) (by omega) (fun q => Lp_end p t q (he (by omega)))
theorem put_L (k : Int32 → Int32 → Option (Int32 × Ar × Int32)) (p : Int64) : ∀ (fu t : Nat) (x : Int64), 8 - t < fu → t ≤ 8 → (t < 8 → x = Lp p t) → (∀ c, c < t → okc p c) →
    (∃ c, f_X1_charactersIn_L5 Fu fu x (nI t) = some (nI 0) ∧ f_X4_put_L8 Fu k p fu (nI t) (nI 0) (nI t) = k (nI c) (nI 1)) ∨ (∃ c, 0 < c ∧ c ≤ 8 ∧ (∀ d, d < c → okc p d) ∧ f_X1_charactersIn_L5 Fu fu x (nI t) = some (nI c) ∧ f_X4_put_L8 Fu k p fu (nI t) (nI 0) (nI t) = k (nI c) (nI 0)) := by
  intro fu
  induction fu with
  | zero => intro t x h; omega
  | succ fu ih =>
    intro t x h ht hx hc
    rw [f_X1_charactersIn_L5_s]
    by_cases hh : 8 ≤ t
    · have e : t = 8 := by omega
      subst e
      right
      refine ⟨8, by omega, by omega, hc, ?_, ?_⟩
      · rw [if_pos (by decide)]
      · rw [f_X4_put_L8_s, if_pos (by decide)]
    · have hx' := hx (by omega)
      subst hx'
      rw [if_neg (by rw [nI_les (by omega) (by omega)]; exact hh)]
      by_cases he : lg_cmp (Lp p t) (lN 0) = 0
      · rw [if_pos he]
        by_cases t0 : t = 0
        · subst t0
          left
          have e := lcmp_0 he
          rw [Lp_0] at e
          subst e
          have ev : (if nI 0 ≤ 0 then nI 0 else if lg_cmp (lushr (lN 0) (nI 8 * nI 0)) (lN 0) = 0 then nI 1 else nI 0) = nI 0 := if_pos (by decide)
          have ed : (if nI 33 ≤ ((lushr (lN 0) (nI 8 * nI 0)) &&& (lN 255)).toInt32 ∧ ((lushr (lN 0) (nI 8 * nI 0)) &&& (lN 255)).toInt32 ≤ nI 126 then nI 1 else nI 0) = nI 0 := if_neg (by decide)
          rw [f_X4_put_L8_s, if_neg (show ¬ nI 8 ≤ nI 0 by decide), nm_eq, nm_eq, ev, jn_eq, if_pos zero_eq, if_pos zero_eq, in4_s, ed, bd1_s, if_pos zero_eq]
          dsimp only
          rw [nm_eq, if_pos zero_eq, nI_add]
          obtain ⟨c, q⟩ := put_w (Fu := Fu) k (lN 0) fu (0 + 1) (0 + 1) (by omega) (by omega)
          exact ⟨c, rfl, q⟩
        · right
          exact ⟨t, by omega, by omega, hc, rfl, put_e k p (fu + 1) t t (by omega) ht (by omega) (fun _ => he)⟩
      · rw [if_neg he, isWithin_s, bd1_s]
        have eD : ((Lp p t) &&& (lN 255)).toInt32 = Dp p t := rfl
        have eD2 : ((lushr p (nI 8 * nI t)) &&& (lN 255)).toInt32 = Dp p t := rfl
        rw [eD]
        have ref : f_X4_put_L8 Fu k p (fu + 1) (nI t) (nI 0) (nI t) = f_X4_put_L8 Fu k p fu (nI (t + 1)) (if nI 33 ≤ Dp p t ∧ Dp p t ≤ nI 126 then nI 0 else nI 1) (nI (t + 1)) := by
          have ev : (if nI t ≤ 0 then nI 0 else if lg_cmp (lushr p (nI 8 * nI t)) (lN 0) = 0 then nI 1 else nI 0) = nI 0 := by
            by_cases q : nI t ≤ 0
            · rw [if_pos q]
            · have : ¬ lg_cmp (lushr p (nI 8 * nI t)) (lN 0) = 0 := he
              rw [if_neg q, if_neg this]
          rw [f_X4_put_L8_s, if_neg (by rw [nI_les (by omega) (by omega)]; exact hh), eD2, nm_eq, nm_eq, ev, jn_eq, if_pos zero_eq, if_pos zero_eq, in4_s, bd1_s]
          by_cases c : nI 33 ≤ Dp p t ∧ Dp p t ≤ nI 126
          · rw [if_pos c, if_neg one_ne]
            dsimp only
            rw [nm_eq, if_pos zero_eq, nI_add, if_pos c]
          · rw [if_neg c, if_pos zero_eq]
            dsimp only
            rw [nm_eq, if_pos zero_eq, nI_add, if_neg c]
        rw [ref]
        by_cases c : nI 33 ≤ Dp p t ∧ Dp p t ≤ nI 126
        · rw [if_pos c, if_neg one_ne, if_pos c, nI_add]
          exact ih (t + 1) _ (by omega) (by omega) (fun q => Lp_s p t q) (fun d hd => by
            by_cases e : d = t
            · subst e; exact c
            · exact hc d (by omega))
        · rw [if_neg c, if_pos zero_eq, if_neg c]
          left
          obtain ⟨d, q⟩ := put_w (Fu := Fu) k p fu (t + 1) (t + 1) (by omega) (by omega)
          exact ⟨d, rfl, q⟩
/-- the pad on both sides -/
def PR (n : Nat) (cs pd : Ar) : Prop := n ≤ 60 ∧ ∀ j, j < n → ∃ c, 33 ≤ c ∧ c ≤ 126 ∧ cs j = nI c ∧ pd j = nI c
theorem i2c_s {c : Nat} (h : c < 65536) : i2c (nI c) = nI c := by
  apply Int32.toInt_inj.mp
  have e1 : (nI c).toUInt32.toNat = c := by
    show (nI c).toBitVec.toNat = c
    show (BitVec.ofNat 32 c).toNat = c
    rw [BitVec.toNat_ofNat, Nat.mod_eq_of_lt (by omega)]
  have e2 : ((nI c).toUInt32 % 65536) = (nI c).toUInt32 := by
    apply UInt32.toNat_inj.mp
    rw [UInt32.toNat_mod, e1]
    exact Nat.mod_eq_of_lt h
  show (((nI c).toUInt32 % 65536).toInt32).toInt = _
  rw [e2]
  rfl
theorem okc_n {p : Int64} {t : Nat} (h : okc p t) : ∃ c, 33 ≤ c ∧ c ≤ 126 ∧ Dp p t = nI c := rng h (by omega) (by omega)
theorem add_L (k : Ar → Int32 → Option (Ar × Int32)) (p : Int64) {n : Nat} : ∀ (fu r l : Nat) (cs : Ar), r < fu → l + r ≤ 60 → r ≤ 8 → (∀ d, d < r → okc p d) → ∃ cs', (∀ j, j < l → cs' j = cs j) ∧ (∀ d, d < r → cs' (l + r - 1 - d) = Dp p d) ∧ f_X1_add_L5 Fu k p fu (cI r) cs (nI l) = k cs' (nI (l + r)) := by
  intro fu
  induction fu with
  | zero => intro r l cs h; omega
  | succ fu ih =>
    intro r l cs h hl hr ho
    rw [f_X1_add_L5_s]
    by_cases r0 : r = 0
    · subst r0
      rw [cI_0, if_pos (by decide)]
      exact ⟨cs, fun j hj => rfl, fun d hd => absurd hd (Nat.not_lt_zero _), rfl⟩
    · obtain ⟨m, rfl⟩ : ∃ m, r = m + 1 := ⟨r - 1, by omega⟩
      obtain ⟨c, c1, c2, c3⟩ := okc_n (ho m (by omega))
      have eD2 : ((lushr p (nI 8 * nI m)) &&& (lN 255)).toInt32 = Dp p m := rfl
      obtain ⟨cs', q1, q2, q3⟩ := ih m (l + 1) (upd cs l (nI c)) (by omega) (by omega) (by omega) (fun d hd => ho d (by omega))
      refine ⟨cs', fun j hj => ?_, fun d hd => ?_, ?_⟩
      · rw [q1 j (by omega), upd_ne (by omega)]
      · by_cases e : d = m
        · subst e
          rw [show l + (d + 1) - 1 - d = l by omega, q1 l (by omega), upd_eq, c3]
        · have := q2 d (by omega)
          rw [show l + (m + 1) - 1 - d = l + 1 + m - 1 - d by omega]
          exact this
      · rw [cI_s, if_neg (show ¬ nI m < 0 from nI_pos (by omega)), ix_nIs (by omega) (by omega), gd_true, nm_eq, eD2, c3, i2c_s (by omega), nI_clamps (by omega), cI_m1 m (by omega), nI_add, q3]
        congr 2
        omega
theorem put126_L (k : Ar → Option (Int32 × Ar × Int32)) (p : Int64) {n c : Nat} (hn : n + c ≤ 60) (hc : c ≤ 8) : ∀ (fu t : Nat) (pd : Ar), t ≤ c → c - t < fu → ∃ pd', (∀ j, j < n → pd' j = pd j) ∧ (∀ d, t ≤ d → d < c → pd' (n + c - 1 - d) = Dp p d) ∧ (∀ j, n + c ≤ j + t → pd' j = pd j) ∧ f_X4_put_L126 Fu k (nI n) p (nI c) fu (nI t) pd = k pd' := by
  intro fu
  induction fu with
  | zero => intro t pd h1 h2; omega
  | succ fu ih =>
    intro t pd h1 h2
    rw [f_X4_put_L126_s]
    by_cases hh : c ≤ t
    · rw [if_pos (by rw [nI_les (by omega) (by omega)]; exact hh)]
      exact ⟨pd, fun j hj => rfl, fun d a b => by omega, fun j hj => rfl, rfl⟩
    · have eD2 : ((lushr p (nI 8 * nI t)) &&& (lN 255)).toInt32 = Dp p t := rfl
      obtain ⟨pd', q1, q2, q3, q4⟩ := ih (t + 1) (upd pd (n + c - 1 - t) (Dp p t)) (by omega) (by omega)
      refine ⟨pd', fun j hj => ?_, fun d a b => ?_, fun j hj => ?_, ?_⟩
      · rw [q1 j hj, upd_ne (by omega)]
      · by_cases e : d = t
        · subst e
          rw [q3 _ (by omega), upd_eq]
        · exact q2 d (by omega) b
      · rw [q3 j (by omega), upd_ne (by omega)]
      · rw [if_neg (by rw [nI_les (by omega) (by omega)]; exact hh), nI_add, pk_subs (by omega), pk_subs (by omega), ix_nIs (by omega) (by omega), gd_true, nm_eq, eD2, nI_clamps (by omega), nI_add, q4]
theorem sim_put (hF : 20000000 ≤ Fu) {n : Nat} {cs pd : Ar} (hP : PR n cs pd) (p : Int64) : ∃ r n' cs' pd', PR n' cs' pd' ∧ f_X3_put Fu cs (nI n) p = some (r, cs', nI n') ∧ f_X4_put Fu pd (nI n) p = some (r, pd', nI n') := by
  have hn := hP.1
  unfold f_X3_put f_X4_put f_X1_charactersIn
  rw [jn_eq]
  rcases put_L (Fu := Fu) (fun v18 v19 => if v19 = 0 then if nI n + v18 ≤ nI 60 then jn (fun q27 => some (nI n + v18, q27, nI n + v18)) (fun k126 => f_X4_put_L126 Fu k126 (nI n) p v18 Fu (nI 0) pd) else some (-4, pd, nI n) else some (-2, pd, nI n)) p Fu 0 p (by omega) (by omega) (fun _ => (Lp_0 p).symm) (fun c hc => absurd hc (Nat.not_lt_zero _)) with ⟨c, q1, q2⟩ | ⟨c, c1, c2, c3, q1, q2⟩
  · rw [q1, bd1_s, if_pos zero_eq]
    refine ⟨-2, n, cs, pd, hP, rfl, ?_⟩
    refine Eq.trans q2 ?_
    rw [if_neg one_ne]
  · rw [q1, bd1_s, if_neg (show ¬ nI c = 0 by rw [nI_zero, nI_eqs (by omega) (by omega)]; omega), nI_add]
    by_cases hc : n + c ≤ 60
    · rw [if_pos (by rw [nI_les (by omega) (by omega)]; exact hc)]
      obtain ⟨cs', a1, a2, a3⟩ := add_L (Fu := Fu) (fun q7 q8 => some (q7, q8)) p (n := n) Fu c n cs (by omega) hc c2 c3
      obtain ⟨pd', b1, b2, b3, b4⟩ := put126_L (Fu := Fu) (fun q27 => some (nI (n + c), q27, nI (n + c))) p (n := n) (c := c) hc c2 Fu 0 pd (Nat.zero_le _) (by omega)
      refine ⟨nI (n + c), n + c, cs', pd', ⟨hc, fun j hj => ?_⟩, ?_, ?_⟩
      · by_cases e : j < n
        · obtain ⟨x, x1, x2, x3, x4⟩ := hP.2 j e
          exact ⟨x, x1, x2, by rw [a1 j e]; exact x3, by rw [b1 j e]; exact x4⟩
        · obtain ⟨x, x1, x2, x3⟩ := okc_n (c3 (n + c - 1 - j) (by omega))
          have y1 := a2 (n + c - 1 - j) (by omega)
          have y2 := b2 (n + c - 1 - j) (Nat.zero_le _) (by omega)
          rw [show n + c - 1 - (n + c - 1 - j) = j by omega] at y1 y2
          exact ⟨x, x1, x2, by rw [y1, x3], by rw [y2, x3]⟩
      · have ec : nI c - nI 1 = cI c := by
          rw [pk_subs (by omega)]
          unfold cI
          rw [if_neg (by omega)]
        unfold f_X1_add
        rw [jn_eq, ec, a3, bd2_s]
      · refine Eq.trans q2 ?_
        rw [if_pos zero_eq, nI_add, if_pos (by rw [nI_les (by omega) (by omega)]; exact hc), jn_eq]
        exact b4
    · rw [if_neg (by rw [nI_les (by omega) (by omega)]; exact hc)]
      refine ⟨-4, n, cs, pd, hP, rfl, ?_⟩
      refine Eq.trans q2 ?_
      rw [if_pos zero_eq, nI_add, if_neg (by rw [nI_les (by omega) (by omega)]; exact hc)]
theorem PR.wipe (cs pd : Ar) : PR 0 cs pd := ⟨Nat.zero_le _, fun j hj => absurd hj (Nat.not_lt_zero _)⟩
end PU
