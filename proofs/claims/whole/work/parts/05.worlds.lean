/-! the worlds: cells of each class, by program -/
def SV : Type := Ar × Ar × Ar × Ar × Ar × Ar × Ar × Int32 × Int32 × Int32 × Int32 × Int32
def mkSV (settings : Ar) (letters : Ar) (heats : Ar) (starts : Ar) (families : Ar) (generations : Ar) (tally : Ar) (stories : Int32) (nextFamily : Int32) (splits : Int32) (boilings : Int32) (fizzles : Int32) : SV := (settings, letters, heats, starts, families, generations, tally, stories, nextFamily, splits, boilings, fizzles)
def sv_settings (v : SV) : Ar := v.1
def sv_letters (v : SV) : Ar := v.2.1
def sv_heats (v : SV) : Ar := v.2.2.1
def sv_starts (v : SV) : Ar := v.2.2.2.1
def sv_families (v : SV) : Ar := v.2.2.2.2.1
def sv_generations (v : SV) : Ar := v.2.2.2.2.2.1
def sv_tally (v : SV) : Ar := v.2.2.2.2.2.2.1
def sv_stories (v : SV) : Int32 := v.2.2.2.2.2.2.2.1
def sv_nextFamily (v : SV) : Int32 := v.2.2.2.2.2.2.2.2.1
def sv_splits (v : SV) : Int32 := v.2.2.2.2.2.2.2.2.2.1
def sv_boilings (v : SV) : Int32 := v.2.2.2.2.2.2.2.2.2.2.1
def sv_fizzles (v : SV) : Int32 := v.2.2.2.2.2.2.2.2.2.2.2
def w_X1 (y : Nat → ClassId) (a : Nat → Nat) (x_characters : Ar) (x_length : Int32) : va_W := [(a 0, .inr (1, [.ref (a 1), .int x_length])), (a 1, .inl (y 2, 60, .inl x_characters))]
def w_X2 (y : Nat → ClassId) (a : Nat → Nat) (x_settings : Ar) (x_letters : Ar) (x_heats : Ar) (x_starts : Ar) (x_families : Ar) (x_generations : Ar) (x_tally : Ar) (x_stories : Int32) (x_nextFamily : Int32) (x_splits : Int32) (x_boilings : Int32) (x_fizzles : Int32) : va_W := [(a 0, .inr (2, [.ref (a 1), .ref (a 2), .ref (a 3), .ref (a 4), .ref (a 5), .ref (a 6), .ref (a 7), .int x_stories, .int x_nextFamily, .int x_splits, .int x_boilings, .int x_fizzles])), (a 1, .inl (y 0, 3, .inl x_settings)), (a 2, .inl (y 0, 150, .inl x_letters)), (a 3, .inl (y 0, 150, .inl x_heats)), (a 4, .inl (y 0, 13, .inl x_starts)), (a 5, .inl (y 0, 12, .inl x_families)), (a 6, .inl (y 0, 12, .inl x_generations)), (a 7, .inl (y 0, 26, .inl x_tally))]
def w_X4 (y : Nat → ClassId) (a : Nat → Nat) (x_s : Ar) (x_aside : Ar) (x_before : Ar) (x_known : Int32) (x_slots : Ar) (x_isSaved : Ar) (x_pad : Ar) (x_length : Int32) (x_letters : Ar) (x_heats : Ar) (x_reactions : Int32) (x_newSplits : Int32) (x_storiesThen : Int32) (x_heatThen : Int32) (x_place : Int32) (x_isWrong : Int32) (x_toldLetter : Ar) (x_toldHeat : Ar) (x_toldStory : Ar) (x_toldWords : Int32) (x_toldStories : Int32) : va_W := [(a 0, .inr (4, [.ref (a 1), .ref (a 2), .ref (a 3), .int x_known, .ref (a 4), .ref (a 5), .ref (a 6), .int x_length, .ref (a 7), .ref (a 8), .int x_reactions, .int x_newSplits, .int x_storiesThen, .int x_heatThen, .int x_place, .int x_isWrong, .ref (a 9), .ref (a 10), .ref (a 11), .int x_toldWords, .int x_toldStories])), (a 1, .inl (y 0, 345, .inl x_s)), (a 2, .inl (y 0, 345, .inl x_aside)), (a 3, .inl (y 0, 2070, .inl x_before)), (a 4, .inl (y 0, 690, .inl x_slots)), (a 5, .inl (y 1, 2, .inl x_isSaved)), (a 6, .inl (y 0, 60, .inl x_pad)), (a 7, .inl (y 0, 150, .inl x_letters)), (a 8, .inl (y 0, 150, .inl x_heats)), (a 9, .inl (y 0, 61, .inl x_toldLetter)), (a 10, .inl (y 0, 61, .inl x_toldHeat)), (a 11, .inl (y 0, 61, .inl x_toldStory))]
def w_X3 (y : Nat → ClassId) (a pa na ta ha : Nat → Nat) (sl : Nat) (x_saved : Ar) (x_runs : Ar) (x_themes : Ar) (x_storyHeats : Ar) : va_W := [(a 0, .inr (3, [.ref (na 0), .ref (ta 0), .ref (ha 0), .ref (sl), .ref (a 1), .ref (pa 0), .ref (a 2), .ref (a 3), .ref (a 4)])), (a 1, .inl (y 1, 2, .inl x_saved)), (a 2, .inl (y 0, 150, .inl x_runs)), (a 3, .inl (y 0, 12, .inl x_themes)), (a 4, .inl (y 0, 12, .inl x_storyHeats))]
def w_sv (y : Nat → ClassId) (a : Nat → Nat) (v : SV) : va_W := w_X2 y a (sv_settings v) (sv_letters v) (sv_heats v) (sv_starts v) (sv_families v) (sv_generations v) (sv_tally v) (sv_stories v) (sv_nextFamily v) (sv_splits v) (sv_boilings v) (sv_fizzles v)
/-! pools of shelves: one is taken out, and put back -/
theorem va_D.iff {A : Nat → Prop} {ws : va_W} : va_D A ws ↔ (ws.map Prod.fst).Nodup ∧ ∀ q ∈ ws, A q.1 := by
  constructor
  · intro h
    refine ⟨?_, fun q hq => ?_⟩
    · rw [List.Nodup, List.pairwise_iff_getElem]
      intro i j hi hj hij
      simp only [List.length_map] at hi hj
      simp only [List.getElem_map]
      intro e
      have := h.1 i j ws[i] ws[j] (List.getElem?_eq_getElem hi) (List.getElem?_eq_getElem hj) e
      omega
    · obtain ⟨k, hk⟩ := List.getElem?_of_mem hq
      exact h.2 k q hk
  · intro h
    refine ⟨fun i j p q hi hj e => ?_, fun k q hk => h.2 q (List.mem_of_getElem? hk)⟩
    obtain ⟨hi1, hi2⟩ := List.getElem?_eq_some_iff.mp hi
    obtain ⟨hj1, hj2⟩ := List.getElem?_eq_some_iff.mp hj
    have hn := h.1
    rw [List.Nodup, List.pairwise_iff_getElem] at hn
    rcases Nat.lt_trichotomy i j with hlt | heq | hgt
    · have := hn i j (by simpa using hi1) (by simpa using hj1) hlt
      rw [List.getElem_map, List.getElem_map, hi2, hj2] at this
      exact absurd e this
    · exact heq
    · have := hn j i (by simpa using hj1) (by simpa using hi1) hgt
      rw [List.getElem_map, List.getElem_map, hi2, hj2] at this
      exact absurd e.symm this
theorem GG.perm {D : va_G} {A : Nat → Prop} {H0 H : Heap} {ws ws' : va_W} {locs : List Loc} (hp : ws.Perm ws') (hG : GG D A H0 ws H locs) : GG D A H0 ws' H locs := by
  refine ⟨va_P.of (fun q hq => hG.1.mem (hp.mem_iff.mpr hq)), va_D.iff.mpr ?_, hG.2.2⟩
  have h := va_D.iff.mp hG.2.1
  exact ⟨(hp.map Prod.fst).nodup_iff.mp h.1, fun q hq => h.2 q (hp.mem_iff.mpr hq)⟩
def poolS (y : Nat → ClassId) (ad : Nat → Nat → Nat) (v : Nat → SV) (N : Nat) : va_W := (List.range N).flatMap (fun j => w_sv y (ad j) (v j))
def poolX (y : Nat → ClassId) (ad : Nat → Nat → Nat) (v : Nat → SV) (N k : Nat) : va_W := ((List.range N).filter (fun j => !(j == k))).flatMap (fun j => w_sv y (ad j) (v j))
theorem pool_perm (y : Nat → ClassId) (ad : Nat → Nat → Nat) (v : Nat → SV) {k : Nat} : ∀ {N : Nat}, k < N → (poolS y ad v N).Perm (w_sv y (ad k) (v k) ++ poolX y ad v N k) := by
  intro N
  induction N with
  | zero => intro h; omega
  | succ N ih =>
    intro h
    have e1 : poolS y ad v (N + 1) = poolS y ad v N ++ w_sv y (ad N) (v N) := by
      simp only [poolS, List.range_succ, List.flatMap_append, List.flatMap_cons, List.flatMap_nil, List.append_nil]
    by_cases hk : k = N
    · subst hk
      have e2 : poolX y ad v (k + 1) k = poolS y ad v k := by
        simp only [poolX, poolS, List.range_succ, List.filter_append, List.filter_cons, List.filter_nil, beq_self_eq_true, Bool.not_true, Bool.false_eq_true, if_false, List.append_nil]
        congr 1
        apply List.filter_eq_self.mpr
        intro j hj
        have := List.mem_range.mp hj
        simp
        omega
      rw [e1, e2]
      exact List.perm_append_comm
    · have e2 : poolX y ad v (N + 1) k = poolX y ad v N k ++ w_sv y (ad N) (v N) := by
        have : (!(N == k)) = true := by simp; omega
        simp only [poolX, List.range_succ, List.filter_append, List.filter_cons, List.filter_nil, this, if_true, List.flatMap_append, List.flatMap_cons, List.flatMap_nil, List.append_nil]
      rw [e1, e2, ← List.append_assoc]
      exact (ih (by omega)).append_right _
theorem poolX_up (y : Nat → ClassId) (ad : Nat → Nat → Nat) (v : Nat → SV) (N k : Nat) (x : SV) : poolX y ad (va_up v k x) N k = poolX y ad v N k := by
  unfold poolX
  have key : ∀ (l : List Nat), (∀ j ∈ l, j ≠ k) → l.flatMap (fun j => w_sv y (ad j) (va_up v k x j)) = l.flatMap (fun j => w_sv y (ad j) (v j)) := by
    intro l
    induction l with
    | nil => intro _; rfl
    | cons a l ih =>
      intro hl
      rw [List.flatMap_cons, List.flatMap_cons, ih (fun j hj => hl j (List.mem_cons_of_mem _ hj)), va_up_ne _ _ (hl a List.mem_cons_self)]
  refine key _ (fun j hj => ?_)
  have := (List.mem_filter.mp hj).2
  simpa using this
theorem GG.popen {D : va_G} {A : Nat → Prop} {H0 H : Heap} {locs : List Loc} {y : Nat → ClassId} {N k : Nat} (hk : k < N) (pre post : va_W) (ad : Nat → Nat → Nat) (v : Nat → SV) (hG : GG D A H0 (pre ++ (poolS y ad v N ++ post)) H locs) : GG D A H0 (w_sv y (ad k) (v k) ++ (pre ++ (post ++ poolX y ad v N k))) H locs := by
  refine hG.perm ?_
  have h1 := pool_perm y ad v hk
  have h2 : (pre ++ (poolS y ad v N ++ post)).Perm (pre ++ ((w_sv y (ad k) (v k) ++ poolX y ad v N k) ++ post)) := (h1.append_right post).append_left pre
  refine h2.trans ?_
  have h3 : (pre ++ ((w_sv y (ad k) (v k) ++ poolX y ad v N k) ++ post)).Perm (pre ++ (w_sv y (ad k) (v k) ++ (post ++ poolX y ad v N k))) := by
    refine List.Perm.append_left pre ?_
    rw [List.append_assoc]
    exact List.Perm.append_left _ List.perm_append_comm
  refine h3.trans ?_
  rw [← List.append_assoc, ← List.append_assoc (w_sv y (ad k) (v k))]
  exact List.Perm.append_right _ List.perm_append_comm
theorem GG.pclose {D : va_G} {A : Nat → Prop} {H0 H : Heap} {locs : List Loc} {y : Nat → ClassId} {N k : Nat} (hk : k < N) (pre post : va_W) (ad : Nat → Nat → Nat) (v : Nat → SV) (x : SV) (hG : GG D A H0 (w_sv y (ad k) x ++ (pre ++ (post ++ poolX y ad v N k))) H locs) : GG D A H0 (pre ++ (poolS y ad (va_up v k x) N ++ post)) H locs := by
  have h1 := pool_perm y ad (va_up v k x) hk
  rw [poolX_up, va_up_self] at h1
  refine hG.perm (List.Perm.symm ?_)
  have h2 : (pre ++ (poolS y ad (va_up v k x) N ++ post)).Perm (pre ++ ((w_sv y (ad k) x ++ poolX y ad v N k) ++ post)) := (h1.append_right post).append_left pre
  refine h2.trans ?_
  have h3 : (pre ++ ((w_sv y (ad k) x ++ poolX y ad v N k) ++ post)).Perm (pre ++ (w_sv y (ad k) x ++ (post ++ poolX y ad v N k))) := by
    refine List.Perm.append_left pre ?_
    rw [List.append_assoc]
    exact List.Perm.append_left _ List.perm_append_comm
  refine h3.trans ?_
  rw [← List.append_assoc, ← List.append_assoc (w_sv y (ad k) x)]
  exact List.Perm.append_right _ List.perm_append_comm
/-- History: the object, its row, six shelves; the slots: the row, two shelves -/
def w_X0 (y : Nat → ClassId) (ha : Nat → Nat) (hsb : Nat → Nat → Nat) (x_v : Nat → SV) (x_oldest x_size : Int32) : va_W := (ha 0, .inr (0, [.ref (ha 1), .int x_oldest, .int x_size])) :: (ha 1, .inl (y 3, 6, .inr (.inr (.inr (.inr (fun k => some (hsb k 0))))))) :: poolS y hsb x_v 6
def w_SL (y : Nat → ClassId) (sl : Nat) (ssb : Nat → Nat → Nat) (x_v : Nat → SV) : va_W := (sl, .inl (y 3, 2, .inr (.inr (.inr (.inr (fun k => some (ssb k 0))))))) :: poolS y ssb x_v 2
theorem va_up_id {α : Type} (v : Nat → α) (k : Nat) : va_up v k (v k) = v := by
  funext j
  unfold va_up
  by_cases h : j = k
  · rw [if_pos h, h]
  · rw [if_neg h]
theorem GG.pclose0 {D : va_G} {A : Nat → Prop} {H0 H : Heap} {locs : List Loc} {y : Nat → ClassId} {N k : Nat} (hk : k < N) (pre post : va_W) (ad : Nat → Nat → Nat) (v : Nat → SV) (hG : GG D A H0 (w_sv y (ad k) (v k) ++ (pre ++ (post ++ poolX y ad v N k))) H locs) : GG D A H0 (pre ++ (poolS y ad v N ++ post)) H locs := by
  have h := GG.pclose hk pre post ad v (v k) hG
  rwa [va_up_id] at h
def h_X0 (y : Nat → ClassId) (ha : Nat → Nat) (hsb : Nat → Nat → Nat) (x_oldest x_size : Int32) : va_W := [(ha 0, .inr (0, [.ref (ha 1), .int x_oldest, .int x_size])), (ha 1, .inl (y 3, 6, .inr (.inr (.inr (.inr (fun k => some (hsb k 0)))))))]
def h_SL (y : Nat → ClassId) (sl : Nat) (ssb : Nat → Nat → Nat) : va_W := [(sl, .inl (y 3, 2, .inr (.inr (.inr (.inr (fun k => some (ssb k 0)))))))]

