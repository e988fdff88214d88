def f_X2_words (Fu : Nat) (q_starts : Ar) (q_stories : Int32) : Option Int32 :=
  gd (ix q_stories 13) (
  some (q_starts (q_stories).toNatClampNeg))
def f_X2_copyFrom (Fu : Nat) (q_settings : Ar) (q_letters : Ar) (q_heats : Ar) (q_starts : Ar) (q_families : Ar) (q_generations : Ar) (q_stories : Int32) (q_nextFamily : Int32) (q_splits : Int32) (q_boilings : Int32) (q_fizzles : Int32) (o_settings : Ar) (o_letters : Ar) (o_heats : Ar) (o_starts : Ar) (o_families : Ar) (o_generations : Ar) (o_stories : Int32) (o_nextFamily : Int32) (o_splits : Int32) (o_boilings : Int32) (o_fizzles : Int32) : Option (Ar × Ar × Ar × Ar × Ar × Ar × Int32 × Int32 × Int32 × Int32 × Int32) :=
  bd1 (f_X2_words Fu o_starts o_stories) (fun r1 =>
  gd (cpok 3 3 (nI 0) (nI 0) (nI 3)) (
  gd (cpok 150 150 (nI 0) (nI 0) r1) (
  gd (cpok 150 150 (nI 0) (nI 0) r1) (
  gd (cpok 13 13 (nI 0) (nI 0) (o_stories + (nI 1))) (
  gd (cpok 12 12 (nI 0) (nI 0) o_stories) (
  gd (cpok 12 12 (nI 0) (nI 0) o_stories) (
  some (cpA o_settings q_settings (nI 0) (nI 0) (nI 3), cpA o_letters q_letters (nI 0) (nI 0) r1, cpA o_heats q_heats (nI 0) (nI 0) r1, cpA o_starts q_starts (nI 0) (nI 0) (o_stories + (nI 1)), cpA o_families q_families (nI 0) (nI 0) o_stories, cpA o_generations q_generations (nI 0) (nI 0) o_stories, o_stories, o_nextFamily, o_splits, o_boilings, o_fizzles))))))))
def f_X0_record (Fu : Nat) (h_v : (Nat → SV)) (h_oldest : Int32) (h_size : Int32) (o_settings : Ar) (o_letters : Ar) (o_heats : Ar) (o_starts : Ar) (o_families : Ar) (o_generations : Ar) (o_stories : Int32) (o_nextFamily : Int32) (o_splits : Int32) (o_boilings : Int32) (o_fizzles : Int32) : Option ((Nat → SV) × Int32 × Int32) :=
  gd (ix ((h_oldest + h_size) - (h_oldest + h_size) / (nI 6) * (nI 6)) 6) (
  nm (((h_oldest + h_size) - (h_oldest + h_size) / (nI 6) * (nI 6)).toNatClampNeg) (fun i2 =>
  bd11 (f_X2_copyFrom Fu (sv_settings (h_v i2)) (sv_letters (h_v i2)) (sv_heats (h_v i2)) (sv_starts (h_v i2)) (sv_families (h_v i2)) (sv_generations (h_v i2)) (sv_stories (h_v i2)) (sv_nextFamily (h_v i2)) (sv_splits (h_v i2)) (sv_boilings (h_v i2)) (sv_fizzles (h_v i2)) o_settings o_letters o_heats o_starts o_families o_generations o_stories o_nextFamily o_splits o_boilings o_fizzles) (fun z_settings_3 z_letters_4 z_heats_5 z_starts_6 z_families_7 z_generations_8 z_stories_9 z_nextFamily_10 z_splits_11 z_boilings_12 z_fizzles_13 =>
  nm ((va_up h_v i2 (mkSV z_settings_3 z_letters_4 z_heats_5 z_starts_6 z_families_7 z_generations_8 (sv_tally (h_v i2)) z_stories_9 z_nextFamily_10 z_splits_11 z_boilings_12 z_fizzles_13))) (fun (h_v_15 : (Nat → SV)) =>
  jn (fun (h_oldest_17 : Int32) (h_size_18 : Int32) =>
    some (h_v_15, h_oldest_17, h_size_18))
    (fun j19 =>
    if (nI 6) ≤ h_size then
      j19 ((h_oldest + (nI 1)) - (h_oldest + (nI 1)) / (nI 6) * (nI 6)) h_size
    else
      j19 h_oldest (h_size + (nI 1)))))))
def f_X0_takeBack (Fu : Nat) (h_v : (Nat → SV)) (h_oldest : Int32) (h_size : Int32) (o_settings : Ar) (o_letters : Ar) (o_heats : Ar) (o_starts : Ar) (o_families : Ar) (o_generations : Ar) (o_stories : Int32) (o_nextFamily : Int32) (o_splits : Int32) (o_boilings : Int32) (o_fizzles : Int32) : Option (Int32 × Ar × Ar × Ar × Ar × Ar × Ar × Int32 × Int32 × Int32 × Int32 × Int32) :=
  gd (ix ((h_oldest + (h_size - (nI 1))) - (h_oldest + (h_size - (nI 1))) / (nI 6) * (nI 6)) 6) (
  nm (((h_oldest + (h_size - (nI 1))) - (h_oldest + (h_size - (nI 1))) / (nI 6) * (nI 6)).toNatClampNeg) (fun i2 =>
  bd11 (f_X2_copyFrom Fu o_settings o_letters o_heats o_starts o_families o_generations o_stories o_nextFamily o_splits o_boilings o_fizzles (sv_settings (h_v i2)) (sv_letters (h_v i2)) (sv_heats (h_v i2)) (sv_starts (h_v i2)) (sv_families (h_v i2)) (sv_generations (h_v i2)) (sv_stories (h_v i2)) (sv_nextFamily (h_v i2)) (sv_splits (h_v i2)) (sv_boilings (h_v i2)) (sv_fizzles (h_v i2))) (fun o_settings_3 o_letters_4 o_heats_5 o_starts_6 o_families_7 o_generations_8 o_stories_9 o_nextFamily_10 o_splits_11 o_boilings_12 o_fizzles_13 =>
  some (h_size - (nI 1), o_settings_3, o_letters_4, o_heats_5, o_starts_6, o_families_7, o_generations_8, o_stories_9, o_nextFamily_10, o_splits_11, o_boilings_12, o_fizzles_13))))
def f_X3_isWithin (Fu : Nat) (p0 : Int32) (p1 : Int32) (p2 : Int32) : Option Int32 :=
  nm (if p0 < p1 then (nI 0) else (if p2 < p0 then (nI 0) else nI 1)) (fun v3 =>
  gd (bz v3) (some (v3)))
def f_X1_charactersIn_L5 (Fu : Nat) : Nat → Int64 → Int32 → Option Int32
  | 0, _, _ => none
  | fu + 1, x1, x2 =>
    if (nI 8) ≤ x2 then
      some (x2)
    else
      if (lg_cmp x1 (lN 0)) = 0 then
        some (x2)
      else
        bd1 (f_X3_isWithin Fu (((x1 &&& (lN 255))).toInt32) (nI 33) (nI 126)) (fun r5 =>
        if r5 = 0 then
          some (nI 0)
        else
          f_X1_charactersIn_L5 Fu fu (lushr x1 (nI 8)) (x2 + (nI 1)))
theorem f_X1_charactersIn_L5_s (Fu : Nat) (fu : Nat) (x1 : Int64) (x2 : Int32) : f_X1_charactersIn_L5 Fu (fu + 1) x1 x2 =
    if (nI 8) ≤ x2 then
      some (x2)
    else
      if (lg_cmp x1 (lN 0)) = 0 then
        some (x2)
      else
        bd1 (f_X3_isWithin Fu (((x1 &&& (lN 255))).toInt32) (nI 33) (nI 126)) (fun r5 =>
        if r5 = 0 then
          some (nI 0)
        else
          f_X1_charactersIn_L5 Fu fu (lushr x1 (nI 8)) (x2 + (nI 1))) := rfl
def f_X1_charactersIn (Fu : Nat) (p0 : Int64) : Option Int32 :=
  f_X1_charactersIn_L5 Fu Fu p0 (nI 0)
def f_X1_add_L5 (Fu : Nat) (k_5 : Ar → Int32 → Option (Ar × Int32)) (p1 : Int64) : Nat → Int32 → Ar → Int32 → Option (Ar × Int32)
  | 0, _, _, _ => none
  | fu + 1, x1, q_characters_2, q_length_3 =>
    if x1 < 0 then
      k_5 q_characters_2 q_length_3
    else
      gd (ix q_length_3 60) (
      nm ((upd q_characters_2 (q_length_3).toNatClampNeg (i2c ((((lushr p1 ((nI 8) * x1)) &&& (lN 255))).toInt32)))) (fun (q_characters_6 : Ar) =>
      f_X1_add_L5 Fu k_5 p1 fu (x1 + (-1)) q_characters_6 (q_length_3 + (nI 1))))
theorem f_X1_add_L5_s (Fu : Nat) (k_5 : Ar → Int32 → Option (Ar × Int32)) (p1 : Int64) (fu : Nat) (x1 : Int32) (q_characters_2 : Ar) (q_length_3 : Int32) : f_X1_add_L5 Fu k_5 p1 (fu + 1) x1 q_characters_2 q_length_3 =
    if x1 < 0 then
      k_5 q_characters_2 q_length_3
    else
      gd (ix q_length_3 60) (
      nm ((upd q_characters_2 (q_length_3).toNatClampNeg (i2c ((((lushr p1 ((nI 8) * x1)) &&& (lN 255))).toInt32)))) (fun (q_characters_6 : Ar) =>
      f_X1_add_L5 Fu k_5 p1 fu (x1 + (-1)) q_characters_6 (q_length_3 + (nI 1)))) := rfl
def f_X1_add (Fu : Nat) (q_characters : Ar) (q_length : Int32) (p1 : Int64) (p3 : Int32) : Option (Ar × Int32) :=
  jn (fun (q_characters_7 : Ar) (q_length_8 : Int32) =>
    some (q_characters_7, q_length_8))
    (fun k_5 => f_X1_add_L5 Fu k_5 p1 Fu (p3 - (nI 1)) q_characters q_length)
def f_X1_isWord (Fu : Nat) (p0 : Int32) : Option Int32 :=
  bd1 (f_X3_isWithin Fu p0 (nI 97) (nI 122)) (fun r1 =>
  gd (bz r1) (some (r1)))
def f_X1_placeBehind (Fu : Nat) (p0 : Int32) (p1 : Int32) : Option Int32 :=
  bd1 (f_X1_isWord Fu p1) (fun r1 =>
  if r1 = 0 then
    if p0 = 0 then
      some (nI 4)
    else
      if p1 = (nI 47) then
        some (nI 0)
      else
        if p0 = (nI 1) then
          bd1 (f_X3_isWithin Fu p1 (nI 49) (nI 57)) (fun r11 =>
          if r11 = 0 then
            if p0 = (nI 2) then
              bd1 (f_X3_isWithin Fu p1 (nI 48) (nI 57)) (fun r15 =>
              if r15 = 0 then
                some (nI 4)
              else
                some (nI 3))
            else
              some (nI 4)
          else
            some (nI 2))
        else
          if p0 = (nI 2) then
            bd1 (f_X3_isWithin Fu p1 (nI 48) (nI 57)) (fun r8 =>
            if r8 = 0 then
              some (nI 4)
            else
              some (nI 3))
          else
            some (nI 4)
  else
    some (nI 1))
def f_X1_firstFault_L4 (Fu : Nat) (q_characters : Ar) (q_length : Int32) : Nat → Int32 → Int32 → Option Int32
  | 0, _, _ => none
  | fu + 1, x1, x2 =>
    if q_length ≤ x2 then
      nm (if x1 = 0 then q_length else -6) (fun v5 =>
      some (v5))
    else
      gd (ix x2 60) (
      bd1 (f_X1_placeBehind Fu x1 (q_characters (x2).toNatClampNeg)) (fun r7 =>
      if r7 = (nI 4) then
        some (x2)
      else
        f_X1_firstFault_L4 Fu q_characters q_length fu r7 (x2 + (nI 1))))
theorem f_X1_firstFault_L4_s (Fu : Nat) (q_characters : Ar) (q_length : Int32) (fu : Nat) (x1 : Int32) (x2 : Int32) : f_X1_firstFault_L4 Fu q_characters q_length (fu + 1) x1 x2 =
    if q_length ≤ x2 then
      nm (if x1 = 0 then q_length else -6) (fun v5 =>
      some (v5))
    else
      gd (ix x2 60) (
      bd1 (f_X1_placeBehind Fu x1 (q_characters (x2).toNatClampNeg)) (fun r7 =>
      if r7 = (nI 4) then
        some (x2)
      else
        f_X1_firstFault_L4 Fu q_characters q_length fu r7 (x2 + (nI 1)))) := rfl
def f_X1_firstFault (Fu : Nat) (q_characters : Ar) (q_length : Int32) : Option Int32 :=
  f_X1_firstFault_L4 Fu q_characters q_length Fu (nI 0) (nI 0)
def f_X1_storiesIn_L4 (Fu : Nat) (k_4 : Int32 → Option Int32) (q_characters : Ar) (q_length : Int32) : Nat → Int32 → Int32 → Option Int32
  | 0, _, _ => none
  | fu + 1, x1, x2 =>
    if q_length ≤ x2 then
      k_4 x1
    else
      gd (ix x2 60) (
      nm (if (q_characters (x2).toNatClampNeg) = (nI 47) then (nI 1) else nI 0) (fun v6 =>
      f_X1_storiesIn_L4 Fu k_4 q_characters q_length fu (x1 + v6) (x2 + (nI 1))))
theorem f_X1_storiesIn_L4_s (Fu : Nat) (k_4 : Int32 → Option Int32) (q_characters : Ar) (q_length : Int32) (fu : Nat) (x1 : Int32) (x2 : Int32) : f_X1_storiesIn_L4 Fu k_4 q_characters q_length (fu + 1) x1 x2 =
    if q_length ≤ x2 then
      k_4 x1
    else
      gd (ix x2 60) (
      nm (if (q_characters (x2).toNatClampNeg) = (nI 47) then (nI 1) else nI 0) (fun v6 =>
      f_X1_storiesIn_L4 Fu k_4 q_characters q_length fu (x1 + v6) (x2 + (nI 1)))) := rfl
def f_X1_storiesIn (Fu : Nat) (q_characters : Ar) (q_length : Int32) : Option Int32 :=
  jn (fun (v7 : Int32) =>
    some (v7))
    (fun k_4 => f_X1_storiesIn_L4 Fu k_4 q_characters q_length Fu (nI 1) (nI 0))
def f_X1_wordsIn_L4 (Fu : Nat) (k_4 : Int32 → Option Int32) (q_characters : Ar) (q_length : Int32) : Nat → Int32 → Int32 → Option Int32
  | 0, _, _ => none
  | fu + 1, x1, x2 =>
    if q_length ≤ x2 then
      k_4 x1
    else
      gd (ix x2 60) (
      bd1 (f_X1_isWord Fu (q_characters (x2).toNatClampNeg)) (fun r5 =>
      nm (if r5 = 0 then (nI 0) else nI 1) (fun v8 =>
      f_X1_wordsIn_L4 Fu k_4 q_characters q_length fu (x1 + v8) (x2 + (nI 1)))))
theorem f_X1_wordsIn_L4_s (Fu : Nat) (k_4 : Int32 → Option Int32) (q_characters : Ar) (q_length : Int32) (fu : Nat) (x1 : Int32) (x2 : Int32) : f_X1_wordsIn_L4 Fu k_4 q_characters q_length (fu + 1) x1 x2 =
    if q_length ≤ x2 then
      k_4 x1
    else
      gd (ix x2 60) (
      bd1 (f_X1_isWord Fu (q_characters (x2).toNatClampNeg)) (fun r5 =>
      nm (if r5 = 0 then (nI 0) else nI 1) (fun v8 =>
      f_X1_wordsIn_L4 Fu k_4 q_characters q_length fu (x1 + v8) (x2 + (nI 1))))) := rfl
def f_X1_wordsIn (Fu : Nat) (q_characters : Ar) (q_length : Int32) : Option Int32 :=
  jn (fun (v9 : Int32) =>
    some (v9))
    (fun k_4 => f_X1_wordsIn_L4 Fu k_4 q_characters q_length Fu (nI 0) (nI 0))
def f_X2_addStory (Fu : Nat) (q_starts : Ar) (q_families : Ar) (q_generations : Ar) (q_stories : Int32) (q_nextFamily : Int32) : Option (Ar × Ar × Ar × Int32 × Int32) :=
  gd (ix q_stories 12) (
  gd (ix q_stories 12) (
  gd (ix q_stories 13) (
  gd (ix (q_stories + (nI 1)) 13) (
  nm ((upd q_starts (q_stories + (nI 1)).toNatClampNeg (q_starts (q_stories).toNatClampNeg))) (fun (q_starts_5 : Ar) =>
  some (q_starts_5, upd q_families (q_stories).toNatClampNeg q_nextFamily, upd q_generations (q_stories).toNatClampNeg (nI 0), q_stories + (nI 1), q_nextFamily + (nI 1)))))))
def f_X2_addWord (Fu : Nat) (q_letters : Ar) (q_heats : Ar) (q_starts : Ar) (q_stories : Int32) (p1 : Int32) : Option (Ar × Ar × Ar) :=
  bd1 (f_X2_words Fu q_starts q_stories) (fun r1 =>
  gd (ix r1 150) (
  gd (ix r1 150) (
  gd (ix q_stories 13) (
  some (upd q_letters (r1).toNatClampNeg p1, upd q_heats (r1).toNatClampNeg (nI 0), upd q_starts (q_stories).toNatClampNeg (r1 + (nI 1)))))))
def f_X2_addDigit (Fu : Nat) (q_heats : Ar) (q_starts : Ar) (q_stories : Int32) (p1 : Int32) : Option Ar :=
  bd1 (f_X2_words Fu q_starts q_stories) (fun r1 =>
  gd (ix (r1 - (nI 1)) 150) (
  gd (ix (r1 - (nI 1)) 150) (
  nm ((upd q_heats (r1 - (nI 1)).toNatClampNeg (((q_heats (r1 - (nI 1)).toNatClampNeg) * (nI 10)) + p1))) (fun (q_heats_5 : Ar) =>
  some (q_heats_5)))))
def f_X1_writeTo_L6 (Fu : Nat) (k_6 : Ar → Ar → Ar → Ar → Ar → Int32 → Int32 → Option (Ar × Ar × Ar × Ar × Ar × Int32 × Int32)) (q_characters : Ar) (q_length : Int32) : Nat → Int32 → Ar → Ar → Ar → Ar → Ar → Int32 → Int32 → Option (Ar × Ar × Ar × Ar × Ar × Int32 × Int32)
  | 0, _, _, _, _, _, _, _, _ => none
  | fu + 1, x7, o_letters_8, o_heats_9, o_starts_10, o_families_11, o_generations_12, o_stories_13, o_nextFamily_14 =>
    if q_length ≤ x7 then
      k_6 o_letters_8 o_heats_9 o_starts_10 o_families_11 o_generations_12 o_stories_13 o_nextFamily_14
    else
      gd (ix x7 60) (
      nm ((q_characters (x7).toNatClampNeg)) (fun v17 =>
      jn (fun (o_letters_34 : Ar) (o_heats_35 : Ar) (o_starts_36 : Ar) (o_families_37 : Ar) (o_generations_38 : Ar) (o_stories_39 : Int32) (o_nextFamily_40 : Int32) =>
        f_X1_writeTo_L6 Fu k_6 q_characters q_length fu (x7 + (nI 1)) o_letters_34 o_heats_35 o_starts_36 o_families_37 o_generations_38 o_stories_39 o_nextFamily_40)
        (fun j41 =>
        if v17 = (nI 47) then
          bd5 (f_X2_addStory Fu o_starts_10 o_families_11 o_generations_12 o_stories_13 o_nextFamily_14) (fun o_starts_28 o_families_29 o_generations_30 o_stories_31 o_nextFamily_32 =>
          j41 o_letters_8 o_heats_9 o_starts_28 o_families_29 o_generations_30 o_stories_31 o_nextFamily_32)
        else
          bd1 (f_X1_isWord Fu v17) (fun r19 =>
          if r19 = 0 then
            bd1 (f_X2_addDigit Fu o_heats_9 o_starts_10 o_stories_13 (v17 - (nI 48))) (fun o_heats_22 =>
            j41 o_letters_8 o_heats_22 o_starts_10 o_families_11 o_generations_12 o_stories_13 o_nextFamily_14)
          else
            bd3 (f_X2_addWord Fu o_letters_8 o_heats_9 o_starts_10 o_stories_13 (v17 - (nI 97))) (fun o_letters_24 o_heats_25 o_starts_26 =>
            j41 o_letters_24 o_heats_25 o_starts_26 o_families_11 o_generations_12 o_stories_13 o_nextFamily_14)))))
theorem f_X1_writeTo_L6_s (Fu : Nat) (k_6 : Ar → Ar → Ar → Ar → Ar → Int32 → Int32 → Option (Ar × Ar × Ar × Ar × Ar × Int32 × Int32)) (q_characters : Ar) (q_length : Int32) (fu : Nat) (x7 : Int32) (o_letters_8 : Ar) (o_heats_9 : Ar) (o_starts_10 : Ar) (o_families_11 : Ar) (o_generations_12 : Ar) (o_stories_13 : Int32) (o_nextFamily_14 : Int32) : f_X1_writeTo_L6 Fu k_6 q_characters q_length (fu + 1) x7 o_letters_8 o_heats_9 o_starts_10 o_families_11 o_generations_12 o_stories_13 o_nextFamily_14 =
    if q_length ≤ x7 then
      k_6 o_letters_8 o_heats_9 o_starts_10 o_families_11 o_generations_12 o_stories_13 o_nextFamily_14
    else
      gd (ix x7 60) (
      nm ((q_characters (x7).toNatClampNeg)) (fun v17 =>
      jn (fun (o_letters_34 : Ar) (o_heats_35 : Ar) (o_starts_36 : Ar) (o_families_37 : Ar) (o_generations_38 : Ar) (o_stories_39 : Int32) (o_nextFamily_40 : Int32) =>
        f_X1_writeTo_L6 Fu k_6 q_characters q_length fu (x7 + (nI 1)) o_letters_34 o_heats_35 o_starts_36 o_families_37 o_generations_38 o_stories_39 o_nextFamily_40)
        (fun j41 =>
        if v17 = (nI 47) then
          bd5 (f_X2_addStory Fu o_starts_10 o_families_11 o_generations_12 o_stories_13 o_nextFamily_14) (fun o_starts_28 o_families_29 o_generations_30 o_stories_31 o_nextFamily_32 =>
          j41 o_letters_8 o_heats_9 o_starts_28 o_families_29 o_generations_30 o_stories_31 o_nextFamily_32)
        else
          bd1 (f_X1_isWord Fu v17) (fun r19 =>
          if r19 = 0 then
            bd1 (f_X2_addDigit Fu o_heats_9 o_starts_10 o_stories_13 (v17 - (nI 48))) (fun o_heats_22 =>
            j41 o_letters_8 o_heats_22 o_starts_10 o_families_11 o_generations_12 o_stories_13 o_nextFamily_14)
          else
            bd3 (f_X2_addWord Fu o_letters_8 o_heats_9 o_starts_10 o_stories_13 (v17 - (nI 97))) (fun o_letters_24 o_heats_25 o_starts_26 =>
            j41 o_letters_24 o_heats_25 o_starts_26 o_families_11 o_generations_12 o_stories_13 o_nextFamily_14))))) := rfl
def f_X1_writeTo (Fu : Nat) (q_characters : Ar) (q_length : Int32) (o_letters : Ar) (o_heats : Ar) (o_starts : Ar) (o_families : Ar) (o_generations : Ar) (o_stories : Int32) (o_nextFamily : Int32) : Option (Ar × Ar × Ar × Ar × Ar × Int32 × Int32) :=
  bd5 (f_X2_addStory Fu o_starts o_families o_generations o_stories o_nextFamily) (fun o_starts_1 o_families_2 o_generations_3 o_stories_4 o_nextFamily_5 =>
  jn (fun (o_letters_42 : Ar) (o_heats_43 : Ar) (o_starts_44 : Ar) (o_families_45 : Ar) (o_generations_46 : Ar) (o_stories_47 : Int32) (o_nextFamily_48 : Int32) =>
    some (o_letters_42, o_heats_43, o_starts_44, o_families_45, o_generations_46, o_stories_47, o_nextFamily_48))
    (fun k_6 => f_X1_writeTo_L6 Fu k_6 q_characters q_length Fu (nI 0) o_letters o_heats o_starts_1 o_families_2 o_generations_3 o_stories_4 o_nextFamily_5))
def f_X2_hasStory (Fu : Nat) (q_stories : Int32) (p1 : Int32) : Option Int32 :=
  bd1 (f_X3_isWithin Fu p1 (nI 0) (q_stories - (nI 1))) (fun r1 =>
  gd (bz r1) (some (r1)))
def f_X2_sizeOf (Fu : Nat) (q_starts : Ar) (p1 : Int32) : Option Int32 :=
  gd (ix (p1 + (nI 1)) 13) (
  gd (ix p1 13) (
  some ((q_starts (p1 + (nI 1)).toNatClampNeg) - (q_starts (p1).toNatClampNeg))))
def f_X2_hasWord (Fu : Nat) (q_starts : Ar) (q_stories : Int32) (p1 : Int32) (p2 : Int32) : Option Int32 :=
  bd1 (f_X2_hasStory Fu q_stories p1) (fun r1 =>
  jn (fun (v9 : Int32) =>
    gd (bz v9) (some (v9)))
    (fun j10 =>
    if r1 = 0 then
      j10 (nI 0)
    else
      bd1 (f_X2_sizeOf Fu q_starts p1) (fun r4 =>
      bd1 (f_X3_isWithin Fu p2 (nI 0) (r4 - (nI 1))) (fun r6 =>
      if r6 = 0 then
        j10 (nI 0)
      else
        j10 (nI 1)))))
def f_X2_storyAt_L2 (Fu : Nat) (k_2 : Int32 → Option Int32) (q_starts : Ar) (q_stories : Int32) (p1 : Int32) : Nat → Int32 → Option Int32
  | 0, _ => none
  | fu + 1, x1 =>
    if q_stories ≤ (x1 + (nI 1)) then
      k_2 x1
    else
      gd (ix (x1 + (nI 1)) 13) (
      if p1 < (q_starts (x1 + (nI 1)).toNatClampNeg) then
        k_2 x1
      else
        f_X2_storyAt_L2 Fu k_2 q_starts q_stories p1 fu (x1 + (nI 1)))
theorem f_X2_storyAt_L2_s (Fu : Nat) (k_2 : Int32 → Option Int32) (q_starts : Ar) (q_stories : Int32) (p1 : Int32) (fu : Nat) (x1 : Int32) : f_X2_storyAt_L2 Fu k_2 q_starts q_stories p1 (fu + 1) x1 =
    if q_stories ≤ (x1 + (nI 1)) then
      k_2 x1
    else
      gd (ix (x1 + (nI 1)) 13) (
      if p1 < (q_starts (x1 + (nI 1)).toNatClampNeg) then
        k_2 x1
      else
        f_X2_storyAt_L2 Fu k_2 q_starts q_stories p1 fu (x1 + (nI 1))) := rfl
def f_X2_storyAt (Fu : Nat) (q_starts : Ar) (q_stories : Int32) (p1 : Int32) : Option Int32 :=
  jn (fun (v5 : Int32) =>
    some (v5))
    (fun k_2 => f_X2_storyAt_L2 Fu k_2 q_starts q_stories p1 Fu (nI 0))
def f_X2_placeOf (Fu : Nat) (q_starts : Ar) (q_stories : Int32) (p1 : Int32) : Option Int32 :=
  bd1 (f_X2_storyAt Fu q_starts q_stories p1) (fun r1 =>
  gd (ix r1 13) (
  some (p1 - (q_starts (r1).toNatClampNeg))))
def f_X2_warm (Fu : Nat) (q_heats : Ar) (p1 : Int32) (p2 : Int32) : Option Ar :=
  gd (ix p1 150) (
  gd (ix p1 150) (
  nm ((upd q_heats (p1).toNatClampNeg (jmin (nI 999) ((q_heats (p1).toNatClampNeg) + p2)))) (fun (q_heats_3 : Ar) =>
  some (q_heats_3))))
def f_X2_remove_L101 (Fu : Nat) (k_101 : Ar → Option (Ar × Ar × Ar × Ar × Ar × Int32)) (q_starts : Ar) (q_stories : Int32) (p1 : Int32) (v3 : Int32) : Nat → Int32 → Ar → Option (Ar × Ar × Ar × Ar × Ar × Int32)
  | 0, _, _ => none
  | fu + 1, x14, q_starts_15 =>
    if q_stories ≤ x14 then
      k_101 q_starts_15
    else
      gd (ix (x14 + (nI 1)) 13) (
      gd (ix x14 13) (
      nm ((upd q_starts_15 (x14).toNatClampNeg ((q_starts_15 (x14 + (nI 1)).toNatClampNeg) - (v3 - (q_starts (p1).toNatClampNeg))))) (fun (q_starts_19 : Ar) =>
      f_X2_remove_L101 Fu k_101 q_starts q_stories p1 v3 fu (x14 + (nI 1)) q_starts_19)))
theorem f_X2_remove_L101_s (Fu : Nat) (k_101 : Ar → Option (Ar × Ar × Ar × Ar × Ar × Int32)) (q_starts : Ar) (q_stories : Int32) (p1 : Int32) (v3 : Int32) (fu : Nat) (x14 : Int32) (q_starts_15 : Ar) : f_X2_remove_L101 Fu k_101 q_starts q_stories p1 v3 (fu + 1) x14 q_starts_15 =
    if q_stories ≤ x14 then
      k_101 q_starts_15
    else
      gd (ix (x14 + (nI 1)) 13) (
      gd (ix x14 13) (
      nm ((upd q_starts_15 (x14).toNatClampNeg ((q_starts_15 (x14 + (nI 1)).toNatClampNeg) - (v3 - (q_starts (p1).toNatClampNeg))))) (fun (q_starts_19 : Ar) =>
      f_X2_remove_L101 Fu k_101 q_starts q_stories p1 v3 fu (x14 + (nI 1)) q_starts_19))) := rfl
def f_X2_remove (Fu : Nat) (q_letters : Ar) (q_heats : Ar) (q_starts : Ar) (q_families : Ar) (q_generations : Ar) (q_stories : Int32) (p1 : Int32) : Option (Ar × Ar × Ar × Ar × Ar × Int32) :=
  gd (ix p1 13) (
  gd (ix (p1 + (nI 1)) 13) (
  nm ((q_starts (p1 + (nI 1)).toNatClampNeg)) (fun v3 =>
  bd1 (f_X2_words Fu q_starts q_stories) (fun r4 =>
  gd (cpok 150 150 v3 (q_starts (p1).toNatClampNeg) (r4 - v3)) (
  nm ((cpA q_letters q_letters v3 (q_starts (p1).toNatClampNeg) (r4 - v3))) (fun (q_letters_7 : Ar) =>
  gd (cpok 150 150 v3 (q_starts (p1).toNatClampNeg) (r4 - v3)) (
  nm ((cpA q_heats q_heats v3 (q_starts (p1).toNatClampNeg) (r4 - v3))) (fun (q_heats_9 : Ar) =>
  gd (cpok 12 12 (p1 + (nI 1)) p1 ((q_stories - (nI 1)) - p1)) (
  nm ((cpA q_families q_families (p1 + (nI 1)) p1 ((q_stories - (nI 1)) - p1))) (fun (q_families_11 : Ar) =>
  gd (cpok 12 12 (p1 + (nI 1)) p1 ((q_stories - (nI 1)) - p1)) (
  nm ((cpA q_generations q_generations (p1 + (nI 1)) p1 ((q_stories - (nI 1)) - p1))) (fun (q_generations_13 : Ar) =>
  jn (fun (q_starts_20 : Ar) =>
    some (q_letters_7, q_heats_9, q_starts_20, q_families_11, q_generations_13, q_stories - (nI 1)))
    (fun k_101 => f_X2_remove_L101 Fu k_101 q_starts q_stories p1 v3 Fu p1 q_starts)))))))))))))
def f_X2_append_L113 (Fu : Nat) (k_113 : Ar → Option (Ar × Ar × Ar)) (q_stories : Int32) (r4 : Int32) : Nat → Int32 → Ar → Option (Ar × Ar × Ar)
  | 0, _, _ => none
  | fu + 1, x14, q_starts_15 =>
    if q_stories < x14 then
      k_113 q_starts_15
    else
      gd (ix x14 13) (
      gd (ix x14 13) (
      nm ((upd q_starts_15 (x14).toNatClampNeg ((q_starts_15 (x14).toNatClampNeg) + r4))) (fun (q_starts_19 : Ar) =>
      f_X2_append_L113 Fu k_113 q_stories r4 fu (x14 + (nI 1)) q_starts_19)))
theorem f_X2_append_L113_s (Fu : Nat) (k_113 : Ar → Option (Ar × Ar × Ar)) (q_stories : Int32) (r4 : Int32) (fu : Nat) (x14 : Int32) (q_starts_15 : Ar) : f_X2_append_L113 Fu k_113 q_stories r4 (fu + 1) x14 q_starts_15 =
    if q_stories < x14 then
      k_113 q_starts_15
    else
      gd (ix x14 13) (
      gd (ix x14 13) (
      nm ((upd q_starts_15 (x14).toNatClampNeg ((q_starts_15 (x14).toNatClampNeg) + r4))) (fun (q_starts_19 : Ar) =>
      f_X2_append_L113 Fu k_113 q_stories r4 fu (x14 + (nI 1)) q_starts_19))) := rfl
def f_X2_append (Fu : Nat) (q_letters : Ar) (q_heats : Ar) (q_starts : Ar) (q_stories : Int32) (o_letters : Ar) (o_heats : Ar) (o_starts : Ar) (p1 : Int32) (p3 : Int32) : Option (Ar × Ar × Ar) :=
  gd (ix (p1 + (nI 1)) 13) (
  nm ((q_starts (p1 + (nI 1)).toNatClampNeg)) (fun v2 =>
  gd (ix p3 13) (
  bd1 (f_X2_sizeOf Fu o_starts p3) (fun r4 =>
  bd1 (f_X2_words Fu q_starts q_stories) (fun r6 =>
  gd (cpok 150 150 v2 (v2 + r4) (r6 - v2)) (
  gd (cpok 150 150 v2 (v2 + r4) (r6 - v2)) (
  gd (cpok 150 150 (o_starts (p3).toNatClampNeg) v2 r4) (
  nm ((cpA o_letters (cpA q_letters q_letters v2 (v2 + r4) (r6 - v2)) (o_starts (p3).toNatClampNeg) v2 r4)) (fun (q_letters_11 : Ar) =>
  gd (cpok 150 150 (o_starts (p3).toNatClampNeg) v2 r4) (
  nm ((cpA o_heats (cpA q_heats q_heats v2 (v2 + r4) (r6 - v2)) (o_starts (p3).toNatClampNeg) v2 r4)) (fun (q_heats_13 : Ar) =>
  jn (fun (q_starts_20 : Ar) =>
    some (q_letters_11, q_heats_13, q_starts_20))
    (fun k_113 => f_X2_append_L113 Fu k_113 q_stories r4 Fu (p1 + (nI 1)) q_starts))))))))))))
def f_X2_isCalm_L2 (Fu : Nat) (q_settings : Ar) (q_heats : Ar) (q_starts : Ar) (q_stories : Int32) : Nat → Int32 → Option Int32
  | 0, _ => none
  | fu + 1, x1 =>
    bd1 (f_X2_words Fu q_starts q_stories) (fun r2 =>
    if r2 ≤ x1 then
      some (nI 1)
    else
      gd (ix x1 150) (
      if (q_heats (x1).toNatClampNeg) < (q_settings 0) then
        f_X2_isCalm_L2 Fu q_settings q_heats q_starts q_stories fu (x1 + (nI 1))
      else
        some (nI 0)))
theorem f_X2_isCalm_L2_s (Fu : Nat) (q_settings : Ar) (q_heats : Ar) (q_starts : Ar) (q_stories : Int32) (fu : Nat) (x1 : Int32) : f_X2_isCalm_L2 Fu q_settings q_heats q_starts q_stories (fu + 1) x1 =
    bd1 (f_X2_words Fu q_starts q_stories) (fun r2 =>
    if r2 ≤ x1 then
      some (nI 1)
    else
      gd (ix x1 150) (
      if (q_heats (x1).toNatClampNeg) < (q_settings 0) then
        f_X2_isCalm_L2 Fu q_settings q_heats q_starts q_stories fu (x1 + (nI 1))
      else
        some (nI 0))) := rfl
def f_X2_isCalm (Fu : Nat) (q_settings : Ar) (q_heats : Ar) (q_starts : Ar) (q_stories : Int32) : Option Int32 :=
  f_X2_isCalm_L2 Fu q_settings q_heats q_starts q_stories Fu (nI 0)
def f_X2_split (Fu : Nat) (q_starts : Ar) (q_families : Ar) (q_generations : Ar) (q_stories : Int32) (p1 : Int32) (p2 : Int32) : Option (Ar × Ar × Ar × Int32) :=
  gd (cpok 13 13 (p1 + (nI 1)) (p1 + (nI 2)) (q_stories - p1)) (
  nm ((cpA q_starts q_starts (p1 + (nI 1)) (p1 + (nI 2)) (q_stories - p1))) (fun (q_starts_2 : Ar) =>
  gd (ix (p1 + (nI 1)) 13) (
  gd (cpok 12 12 p1 (p1 + (nI 1)) (q_stories - p1)) (
  nm ((cpA q_families q_families p1 (p1 + (nI 1)) (q_stories - p1))) (fun (q_families_5 : Ar) =>
  gd (cpok 12 12 p1 (p1 + (nI 1)) (q_stories - p1)) (
  nm ((cpA q_generations q_generations p1 (p1 + (nI 1)) (q_stories - p1))) (fun (q_generations_7 : Ar) =>
  gd (ix (p1 + (nI 1)) 12) (
  gd (ix (p1 + (nI 1)) 12) (
  nm ((upd q_generations_7 (p1 + (nI 1)).toNatClampNeg ((q_generations_7 (p1 + (nI 1)).toNatClampNeg) + (nI 1)))) (fun (q_generations_10 : Ar) =>
  some (upd q_starts_2 (p1 + (nI 1)).toNatClampNeg p2, q_families_5, q_generations_10, q_stories + (nI 1))))))))))))
def f_X2_reactAt (Fu : Nat) (q_settings : Ar) (q_heats : Ar) (q_starts : Ar) (q_families : Ar) (q_generations : Ar) (q_stories : Int32) (q_splits : Int32) (q_boilings : Int32) (q_fizzles : Int32) (p1 : Int32) : Option (Ar × Ar × Ar × Ar × Int32 × Int32 × Int32 × Int32) :=
  bd1 (f_X2_storyAt Fu q_starts q_stories p1) (fun r1 =>
  gd (ix r1 13) (
  gd (ix (r1 + (nI 1)) 13) (
  nm ((q_starts (r1 + (nI 1)).toNatClampNeg)) (fun v5 =>
  jn (fun (q_starts_13 : Ar) (q_families_14 : Ar) (q_generations_15 : Ar) (q_stories_16 : Int32) (q_splits_17 : Int32) (q_boilings_18 : Int32) (q_fizzles_19 : Int32) =>
    gd (ix p1 150) (
    jn (fun (q_heats_25 : Ar) =>
      jn (fun (q_heats_30 : Ar) =>
        some (q_heats_30, q_starts_13, q_families_14, q_generations_15, q_stories_16, q_splits_17, q_boilings_18, q_fizzles_19))
        (fun j31 =>
        if v5 ≤ (p1 + (nI 1)) then
          j31 q_heats_25
        else
          bd1 (f_X2_warm Fu q_heats_25 (p1 + (nI 1)) (q_settings 1)) (fun q_heats_28 =>
          j31 q_heats_28)))
      (fun j26 =>
      if p1 ≤ (q_starts (r1).toNatClampNeg) then
        j26 (upd q_heats (p1).toNatClampNeg (nI 0))
      else
        bd1 (f_X2_warm Fu (upd q_heats (p1).toNatClampNeg (nI 0)) (p1 - (nI 1)) (q_settings 1)) (fun q_heats_23 =>
        j26 q_heats_23))))
    (fun j20 =>
    if p1 = (q_starts (r1).toNatClampNeg) then
      j20 q_starts q_families q_generations q_stories q_splits (q_boilings + (nI 1)) q_fizzles
    else
      if (nI 12) ≤ q_stories then
        j20 q_starts q_families q_generations q_stories q_splits q_boilings (q_fizzles + (nI 1))
      else
        bd4 (f_X2_split Fu q_starts q_families q_generations q_stories r1 p1) (fun q_starts_8 q_families_9 q_generations_10 q_stories_11 =>
        j20 q_starts_8 q_families_9 q_generations_10 q_stories_11 (q_splits + (nI 1)) q_boilings q_fizzles))))))
def f_X2_react_L6 (Fu : Nat) (k_6 : Int32 → Ar → Ar → Ar → Ar → Int32 → Int32 → Int32 → Int32 → Option (Int32 × Ar × Ar × Ar × Ar × Int32 × Int32 × Int32 × Int32)) (q_settings : Ar) : Nat → Int32 → Int32 → Int32 → Ar → Ar → Ar → Ar → Int32 → Int32 → Int32 → Int32 → Option (Int32 × Ar × Ar × Ar × Ar × Int32 × Int32 × Int32 × Int32)
  | 0, _, _, _, _, _, _, _, _, _, _, _ => none
  | fu + 1, x1, x2, x3, q_heats_4, q_starts_5, q_families_6, q_generations_7, q_stories_8, q_splits_9, q_boilings_10, q_fizzles_11 =>
    if (nI 1000000) ≤ x3 then
      k_6 x1 q_heats_4 q_starts_5 q_families_6 q_generations_7 q_stories_8 q_splits_9 q_boilings_10 q_fizzles_11
    else
      bd1 (f_X2_words Fu q_starts_5 q_stories_8) (fun r13 =>
      if r13 ≤ x2 then
        k_6 x1 q_heats_4 q_starts_5 q_families_6 q_generations_7 q_stories_8 q_splits_9 q_boilings_10 q_fizzles_11
      else
        gd (ix x2 150) (
        jn (fun (v27 : Int32) (v28 : Int32) (q_heats_29 : Ar) (q_starts_30 : Ar) (q_families_31 : Ar) (q_generations_32 : Ar) (q_stories_33 : Int32) (q_splits_34 : Int32) (q_boilings_35 : Int32) (q_fizzles_36 : Int32) =>
          f_X2_react_L6 Fu k_6 q_settings fu v27 v28 (x3 + (nI 1)) q_heats_29 q_starts_30 q_families_31 q_generations_32 q_stories_33 q_splits_34 q_boilings_35 q_fizzles_36)
          (fun j37 =>
          if (q_settings 0) ≤ (q_heats_4 (x2).toNatClampNeg) then
            bd8 (f_X2_reactAt Fu q_settings q_heats_4 q_starts_5 q_families_6 q_generations_7 q_stories_8 q_splits_9 q_boilings_10 q_fizzles_11 x2) (fun q_heats_18 q_starts_19 q_families_20 q_generations_21 q_stories_22 q_splits_23 q_boilings_24 q_fizzles_25 =>
            j37 (x1 + (nI 1)) (jmax (nI 0) (x2 - (nI 1))) q_heats_18 q_starts_19 q_families_20 q_generations_21 q_stories_22 q_splits_23 q_boilings_24 q_fizzles_25)
          else
            j37 x1 (x2 + (nI 1)) q_heats_4 q_starts_5 q_families_6 q_generations_7 q_stories_8 q_splits_9 q_boilings_10 q_fizzles_11)))
theorem f_X2_react_L6_s (Fu : Nat) (k_6 : Int32 → Ar → Ar → Ar → Ar → Int32 → Int32 → Int32 → Int32 → Option (Int32 × Ar × Ar × Ar × Ar × Int32 × Int32 × Int32 × Int32)) (q_settings : Ar) (fu : Nat) (x1 : Int32) (x2 : Int32) (x3 : Int32) (q_heats_4 : Ar) (q_starts_5 : Ar) (q_families_6 : Ar) (q_generations_7 : Ar) (q_stories_8 : Int32) (q_splits_9 : Int32) (q_boilings_10 : Int32) (q_fizzles_11 : Int32) : f_X2_react_L6 Fu k_6 q_settings (fu + 1) x1 x2 x3 q_heats_4 q_starts_5 q_families_6 q_generations_7 q_stories_8 q_splits_9 q_boilings_10 q_fizzles_11 =
    if (nI 1000000) ≤ x3 then
      k_6 x1 q_heats_4 q_starts_5 q_families_6 q_generations_7 q_stories_8 q_splits_9 q_boilings_10 q_fizzles_11
    else
      bd1 (f_X2_words Fu q_starts_5 q_stories_8) (fun r13 =>
      if r13 ≤ x2 then
        k_6 x1 q_heats_4 q_starts_5 q_families_6 q_generations_7 q_stories_8 q_splits_9 q_boilings_10 q_fizzles_11
      else
        gd (ix x2 150) (
        jn (fun (v27 : Int32) (v28 : Int32) (q_heats_29 : Ar) (q_starts_30 : Ar) (q_families_31 : Ar) (q_generations_32 : Ar) (q_stories_33 : Int32) (q_splits_34 : Int32) (q_boilings_35 : Int32) (q_fizzles_36 : Int32) =>
          f_X2_react_L6 Fu k_6 q_settings fu v27 v28 (x3 + (nI 1)) q_heats_29 q_starts_30 q_families_31 q_generations_32 q_stories_33 q_splits_34 q_boilings_35 q_fizzles_36)
          (fun j37 =>
          if (q_settings 0) ≤ (q_heats_4 (x2).toNatClampNeg) then
            bd8 (f_X2_reactAt Fu q_settings q_heats_4 q_starts_5 q_families_6 q_generations_7 q_stories_8 q_splits_9 q_boilings_10 q_fizzles_11 x2) (fun q_heats_18 q_starts_19 q_families_20 q_generations_21 q_stories_22 q_splits_23 q_boilings_24 q_fizzles_25 =>
            j37 (x1 + (nI 1)) (jmax (nI 0) (x2 - (nI 1))) q_heats_18 q_starts_19 q_families_20 q_generations_21 q_stories_22 q_splits_23 q_boilings_24 q_fizzles_25)
          else
            j37 x1 (x2 + (nI 1)) q_heats_4 q_starts_5 q_families_6 q_generations_7 q_stories_8 q_splits_9 q_boilings_10 q_fizzles_11))) := rfl
def f_X2_react (Fu : Nat) (q_settings : Ar) (q_heats : Ar) (q_starts : Ar) (q_families : Ar) (q_generations : Ar) (q_stories : Int32) (q_splits : Int32) (q_boilings : Int32) (q_fizzles : Int32) : Option (Int32 × Ar × Ar × Ar × Ar × Int32 × Int32 × Int32 × Int32) :=
  jn (fun (v38 : Int32) (q_heats_39 : Ar) (q_starts_40 : Ar) (q_families_41 : Ar) (q_generations_42 : Ar) (q_stories_43 : Int32) (q_splits_44 : Int32) (q_boilings_45 : Int32) (q_fizzles_46 : Int32) =>
    some (v38, q_heats_39, q_starts_40, q_families_41, q_generations_42, q_stories_43, q_splits_44, q_boilings_45, q_fizzles_46))
    (fun k_6 => f_X2_react_L6 Fu k_6 q_settings Fu (nI 0) (nI 0) (nI 0) q_heats q_starts q_families q_generations q_stories q_splits q_boilings q_fizzles)
def f_X2_heatBetween_L5 (Fu : Nat) (k_5 : Int32 → Option Int32) (q_heats : Ar) (p2 : Int32) : Nat → Int32 → Int32 → Option Int32
  | 0, _, _ => none
  | fu + 1, x1, x2 =>
    if p2 ≤ x2 then
      k_5 x1
    else
      gd (ix x2 150) (
      nm ((x1 + (q_heats (x2).toNatClampNeg))) (fun v5 =>
      f_X2_heatBetween_L5 Fu k_5 q_heats p2 fu v5 (x2 + (nI 1))))
theorem f_X2_heatBetween_L5_s (Fu : Nat) (k_5 : Int32 → Option Int32) (q_heats : Ar) (p2 : Int32) (fu : Nat) (x1 : Int32) (x2 : Int32) : f_X2_heatBetween_L5 Fu k_5 q_heats p2 (fu + 1) x1 x2 =
    if p2 ≤ x2 then
      k_5 x1
    else
      gd (ix x2 150) (
      nm ((x1 + (q_heats (x2).toNatClampNeg))) (fun v5 =>
      f_X2_heatBetween_L5 Fu k_5 q_heats p2 fu v5 (x2 + (nI 1)))) := rfl
def f_X2_heatBetween (Fu : Nat) (q_heats : Ar) (p1 : Int32) (p2 : Int32) : Option Int32 :=
  jn (fun (v6 : Int32) =>
    some (v6))
    (fun k_5 => f_X2_heatBetween_L5 Fu k_5 q_heats p2 Fu (nI 0) p1)
def f_X2_heatOf (Fu : Nat) (q_heats : Ar) (q_starts : Ar) (p1 : Int32) : Option Int32 :=
  gd (ix p1 13) (
  gd (ix (p1 + (nI 1)) 13) (
  bd1 (f_X2_heatBetween Fu q_heats (q_starts (p1).toNatClampNeg) (q_starts (p1 + (nI 1)).toNatClampNeg)) (fun r3 =>
  some (r3))))
def f_X2_heatOfAll (Fu : Nat) (q_heats : Ar) (q_starts : Ar) (q_stories : Int32) : Option Int32 :=
  bd1 (f_X2_words Fu q_starts q_stories) (fun r1 =>
  bd1 (f_X2_heatBetween Fu q_heats (nI 0) r1) (fun r3 =>
  some (r3)))
def f_X2_timesBetween_L6 (Fu : Nat) (k_6 : Int32 → Option Int32) (q_letters : Ar) (p2 : Int32) (p3 : Int32) : Nat → Int32 → Int32 → Option Int32
  | 0, _, _ => none
  | fu + 1, x1, x2 =>
    if p2 ≤ x2 then
      k_6 x1
    else
      gd (ix x2 150) (
      nm (if (q_letters (x2).toNatClampNeg) = p3 then (nI 1) else nI 0) (fun v6 =>
      f_X2_timesBetween_L6 Fu k_6 q_letters p2 p3 fu (x1 + v6) (x2 + (nI 1))))
theorem f_X2_timesBetween_L6_s (Fu : Nat) (k_6 : Int32 → Option Int32) (q_letters : Ar) (p2 : Int32) (p3 : Int32) (fu : Nat) (x1 : Int32) (x2 : Int32) : f_X2_timesBetween_L6 Fu k_6 q_letters p2 p3 (fu + 1) x1 x2 =
    if p2 ≤ x2 then
      k_6 x1
    else
      gd (ix x2 150) (
      nm (if (q_letters (x2).toNatClampNeg) = p3 then (nI 1) else nI 0) (fun v6 =>
      f_X2_timesBetween_L6 Fu k_6 q_letters p2 p3 fu (x1 + v6) (x2 + (nI 1)))) := rfl
def f_X2_timesBetween (Fu : Nat) (q_letters : Ar) (p1 : Int32) (p2 : Int32) (p3 : Int32) : Option Int32 :=
  jn (fun (v7 : Int32) =>
    some (v7))
    (fun k_6 => f_X2_timesBetween_L6 Fu k_6 q_letters p2 p3 Fu (nI 0) p1)
def f_X2_timesIn (Fu : Nat) (q_letters : Ar) (q_starts : Ar) (p1 : Int32) (p2 : Int32) : Option Int32 :=
  gd (ix p1 13) (
  gd (ix (p1 + (nI 1)) 13) (
  bd1 (f_X2_timesBetween Fu q_letters (q_starts (p1).toNatClampNeg) (q_starts (p1 + (nI 1)).toNatClampNeg) p2) (fun r3 =>
  some (r3))))
def f_X2_timesInAll (Fu : Nat) (q_letters : Ar) (q_starts : Ar) (q_stories : Int32) (p1 : Int32) : Option Int32 :=
  bd1 (f_X2_words Fu q_starts q_stories) (fun r1 =>
  bd1 (f_X2_timesBetween Fu q_letters (nI 0) r1 p1) (fun r3 =>
  some (r3)))
def f_X2_tallyOf_L15 (Fu : Nat) (k_15 : Ar → Option Ar) (q_letters : Ar) (q_starts : Ar) (p1 : Int32) : Nat → Int32 → Ar → Option Ar
  | 0, _, _ => none
  | fu + 1, x2, q_tally_3 =>
    gd (ix (p1 + (nI 1)) 13) (
    if (q_starts (p1 + (nI 1)).toNatClampNeg) ≤ x2 then
      k_15 q_tally_3
    else
      gd (ix x2 150) (
      gd (ix (q_letters (x2).toNatClampNeg) 26) (
      gd (ix (q_letters (x2).toNatClampNeg) 26) (
      nm ((upd q_tally_3 (q_letters (x2).toNatClampNeg).toNatClampNeg ((q_tally_3 (q_letters (x2).toNatClampNeg).toNatClampNeg) + (nI 1)))) (fun (q_tally_9 : Ar) =>
      f_X2_tallyOf_L15 Fu k_15 q_letters q_starts p1 fu (x2 + (nI 1)) q_tally_9)))))
theorem f_X2_tallyOf_L15_s (Fu : Nat) (k_15 : Ar → Option Ar) (q_letters : Ar) (q_starts : Ar) (p1 : Int32) (fu : Nat) (x2 : Int32) (q_tally_3 : Ar) : f_X2_tallyOf_L15 Fu k_15 q_letters q_starts p1 (fu + 1) x2 q_tally_3 =
    gd (ix (p1 + (nI 1)) 13) (
    if (q_starts (p1 + (nI 1)).toNatClampNeg) ≤ x2 then
      k_15 q_tally_3
    else
      gd (ix x2 150) (
      gd (ix (q_letters (x2).toNatClampNeg) 26) (
      gd (ix (q_letters (x2).toNatClampNeg) 26) (
      nm ((upd q_tally_3 (q_letters (x2).toNatClampNeg).toNatClampNeg ((q_tally_3 (q_letters (x2).toNatClampNeg).toNatClampNeg) + (nI 1)))) (fun (q_tally_9 : Ar) =>
      f_X2_tallyOf_L15 Fu k_15 q_letters q_starts p1 fu (x2 + (nI 1)) q_tally_9))))) := rfl
def f_X2_tallyOf (Fu : Nat) (q_letters : Ar) (q_starts : Ar) (q_tally : Ar) (p1 : Int32) : Option Ar :=
  gd (ix p1 13) (
  jn (fun (q_tally_10 : Ar) =>
    some (q_tally_10))
    (fun k_15 => f_X2_tallyOf_L15 Fu k_15 q_letters q_starts p1 Fu (q_starts (p1).toNatClampNeg) (fun _ => (nI 0))))
def f_X2_themeOf_L9 (Fu : Nat) (k_9 : Int32 → Option (Int32 × Ar)) (q_tally_1 : Ar) : Nat → Int32 → Int32 → Option (Int32 × Ar)
  | 0, _, _ => none
  | fu + 1, x3, x4 =>
    if (nI 26) ≤ x4 then
      k_9 x3
    else
      gd (ix x4 26) (
      gd (ix x3 26) (
      nm (if (q_tally_1 (x4).toNatClampNeg) ≤ (q_tally_1 (x3).toNatClampNeg) then x3 else x4) (fun v9 =>
      f_X2_themeOf_L9 Fu k_9 q_tally_1 fu v9 (x4 + (nI 1)))))
theorem f_X2_themeOf_L9_s (Fu : Nat) (k_9 : Int32 → Option (Int32 × Ar)) (q_tally_1 : Ar) (fu : Nat) (x3 : Int32) (x4 : Int32) : f_X2_themeOf_L9 Fu k_9 q_tally_1 (fu + 1) x3 x4 =
    if (nI 26) ≤ x4 then
      k_9 x3
    else
      gd (ix x4 26) (
      gd (ix x3 26) (
      nm (if (q_tally_1 (x4).toNatClampNeg) ≤ (q_tally_1 (x3).toNatClampNeg) then x3 else x4) (fun v9 =>
      f_X2_themeOf_L9 Fu k_9 q_tally_1 fu v9 (x4 + (nI 1))))) := rfl
def f_X2_themeOf (Fu : Nat) (q_letters : Ar) (q_starts : Ar) (q_tally : Ar) (p1 : Int32) : Option (Int32 × Ar) :=
  bd1 (f_X2_tallyOf Fu q_letters q_starts q_tally p1) (fun q_tally_1 =>
  jn (fun (v10 : Int32) =>
    some (v10, q_tally_1))
    (fun k_9 => f_X2_themeOf_L9 Fu k_9 q_tally_1 Fu (nI 0) (nI 1)))
def f_X2_unlikeLettersOf_L9 (Fu : Nat) (k_9 : Int32 → Option (Int32 × Ar)) (q_tally_1 : Ar) : Nat → Int32 → Int32 → Option (Int32 × Ar)
  | 0, _, _ => none
  | fu + 1, x3, x4 =>
    if (nI 26) ≤ x4 then
      k_9 x3
    else
      gd (ix x4 26) (
      nm (if (q_tally_1 (x4).toNatClampNeg) ≤ 0 then (nI 0) else nI 1) (fun v8 =>
      f_X2_unlikeLettersOf_L9 Fu k_9 q_tally_1 fu (x3 + v8) (x4 + (nI 1))))
theorem f_X2_unlikeLettersOf_L9_s (Fu : Nat) (k_9 : Int32 → Option (Int32 × Ar)) (q_tally_1 : Ar) (fu : Nat) (x3 : Int32) (x4 : Int32) : f_X2_unlikeLettersOf_L9 Fu k_9 q_tally_1 (fu + 1) x3 x4 =
    if (nI 26) ≤ x4 then
      k_9 x3
    else
      gd (ix x4 26) (
      nm (if (q_tally_1 (x4).toNatClampNeg) ≤ 0 then (nI 0) else nI 1) (fun v8 =>
      f_X2_unlikeLettersOf_L9 Fu k_9 q_tally_1 fu (x3 + v8) (x4 + (nI 1)))) := rfl
def f_X2_unlikeLettersOf (Fu : Nat) (q_letters : Ar) (q_starts : Ar) (q_tally : Ar) (p1 : Int32) : Option (Int32 × Ar) :=
  bd1 (f_X2_tallyOf Fu q_letters q_starts q_tally p1) (fun q_tally_1 =>
  jn (fun (v9 : Int32) =>
    some (v9, q_tally_1))
    (fun k_9 => f_X2_unlikeLettersOf_L9 Fu k_9 q_tally_1 Fu (nI 0) (nI 0)))
def f_X2_hottestOf_L14 (Fu : Nat) (k_14 : Int32 → Option Int32) (q_heats : Ar) (q_starts : Ar) (p1 : Int32) : Nat → Int32 → Int32 → Option Int32
  | 0, _, _ => none
  | fu + 1, x3, x4 =>
    gd (ix (p1 + (nI 1)) 13) (
    if (q_starts (p1 + (nI 1)).toNatClampNeg) ≤ x4 then
      k_14 x3
    else
      gd (ix x4 150) (
      gd (ix x3 150) (
      nm (if (q_heats (x4).toNatClampNeg) ≤ (q_heats (x3).toNatClampNeg) then x3 else x4) (fun v10 =>
      f_X2_hottestOf_L14 Fu k_14 q_heats q_starts p1 fu v10 (x4 + (nI 1))))))
theorem f_X2_hottestOf_L14_s (Fu : Nat) (k_14 : Int32 → Option Int32) (q_heats : Ar) (q_starts : Ar) (p1 : Int32) (fu : Nat) (x3 : Int32) (x4 : Int32) : f_X2_hottestOf_L14 Fu k_14 q_heats q_starts p1 (fu + 1) x3 x4 =
    gd (ix (p1 + (nI 1)) 13) (
    if (q_starts (p1 + (nI 1)).toNatClampNeg) ≤ x4 then
      k_14 x3
    else
      gd (ix x4 150) (
      gd (ix x3 150) (
      nm (if (q_heats (x4).toNatClampNeg) ≤ (q_heats (x3).toNatClampNeg) then x3 else x4) (fun v10 =>
      f_X2_hottestOf_L14 Fu k_14 q_heats q_starts p1 fu v10 (x4 + (nI 1)))))) := rfl
def f_X2_hottestOf (Fu : Nat) (q_heats : Ar) (q_starts : Ar) (p1 : Int32) : Option Int32 :=
  gd (ix p1 13) (
  gd (ix p1 13) (
  jn (fun (v11 : Int32) =>
    gd (ix p1 13) (
    some (v11 - (q_starts (p1).toNatClampNeg))))
    (fun k_14 => f_X2_hottestOf_L14 Fu k_14 q_heats q_starts p1 Fu (q_starts (p1).toNatClampNeg) (q_starts (p1).toNatClampNeg))))
def f_X2_readsFromBothEnds_L13 (Fu : Nat) (q_letters : Ar) (q_starts : Ar) (p1 : Int32) (v2 : Int32) : Nat → Int32 → Option Int32
  | 0, _ => none
  | fu + 1, x3 =>
    bd1 (f_X2_sizeOf Fu q_starts p1) (fun r4 =>
    if (r4 / (nI 2)) ≤ x3 then
      some (nI 1)
    else
      gd (ix p1 13) (
      gd (ix ((q_starts (p1).toNatClampNeg) + x3) 150) (
      gd (ix (v2 - x3) 150) (
      if (q_letters ((q_starts (p1).toNatClampNeg) + x3).toNatClampNeg) = (q_letters (v2 - x3).toNatClampNeg) then
        f_X2_readsFromBothEnds_L13 Fu q_letters q_starts p1 v2 fu (x3 + (nI 1))
      else
        some (nI 0)))))
theorem f_X2_readsFromBothEnds_L13_s (Fu : Nat) (q_letters : Ar) (q_starts : Ar) (p1 : Int32) (v2 : Int32) (fu : Nat) (x3 : Int32) : f_X2_readsFromBothEnds_L13 Fu q_letters q_starts p1 v2 (fu + 1) x3 =
    bd1 (f_X2_sizeOf Fu q_starts p1) (fun r4 =>
    if (r4 / (nI 2)) ≤ x3 then
      some (nI 1)
    else
      gd (ix p1 13) (
      gd (ix ((q_starts (p1).toNatClampNeg) + x3) 150) (
      gd (ix (v2 - x3) 150) (
      if (q_letters ((q_starts (p1).toNatClampNeg) + x3).toNatClampNeg) = (q_letters (v2 - x3).toNatClampNeg) then
        f_X2_readsFromBothEnds_L13 Fu q_letters q_starts p1 v2 fu (x3 + (nI 1))
      else
        some (nI 0))))) := rfl
def f_X2_readsFromBothEnds (Fu : Nat) (q_letters : Ar) (q_starts : Ar) (p1 : Int32) : Option Int32 :=
  gd (ix (p1 + (nI 1)) 13) (
  nm (((q_starts (p1 + (nI 1)).toNatClampNeg) - (nI 1))) (fun v2 =>
  f_X2_readsFromBothEnds_L13 Fu q_letters q_starts p1 v2 Fu (nI 0)))
def f_X2_isFirstOfFamily_L2 (Fu : Nat) (q_families : Ar) (p1 : Int32) : Nat → Int32 → Option Int32
  | 0, _ => none
  | fu + 1, x1 =>
    if p1 ≤ x1 then
      some (nI 1)
    else
      gd (ix x1 12) (
      gd (ix p1 12) (
      if (q_families (x1).toNatClampNeg) = (q_families (p1).toNatClampNeg) then
        some (nI 0)
      else
        f_X2_isFirstOfFamily_L2 Fu q_families p1 fu (x1 + (nI 1))))
theorem f_X2_isFirstOfFamily_L2_s (Fu : Nat) (q_families : Ar) (p1 : Int32) (fu : Nat) (x1 : Int32) : f_X2_isFirstOfFamily_L2 Fu q_families p1 (fu + 1) x1 =
    if p1 ≤ x1 then
      some (nI 1)
    else
      gd (ix x1 12) (
      gd (ix p1 12) (
      if (q_families (x1).toNatClampNeg) = (q_families (p1).toNatClampNeg) then
        some (nI 0)
      else
        f_X2_isFirstOfFamily_L2 Fu q_families p1 fu (x1 + (nI 1)))) := rfl
def f_X2_isFirstOfFamily (Fu : Nat) (q_families : Ar) (p1 : Int32) : Option Int32 :=
  f_X2_isFirstOfFamily_L2 Fu q_families p1 Fu (nI 0)
def f_X2_unlikeFamilies_L4 (Fu : Nat) (k_4 : Int32 → Option Int32) (q_families : Ar) (q_stories : Int32) : Nat → Int32 → Int32 → Option Int32
  | 0, _, _ => none
  | fu + 1, x1, x2 =>
    if q_stories ≤ x2 then
      k_4 x1
    else
      bd1 (f_X2_isFirstOfFamily Fu q_families x2) (fun r4 =>
      nm (if r4 = 0 then (nI 0) else nI 1) (fun v7 =>
      f_X2_unlikeFamilies_L4 Fu k_4 q_families q_stories fu (x1 + v7) (x2 + (nI 1))))
theorem f_X2_unlikeFamilies_L4_s (Fu : Nat) (k_4 : Int32 → Option Int32) (q_families : Ar) (q_stories : Int32) (fu : Nat) (x1 : Int32) (x2 : Int32) : f_X2_unlikeFamilies_L4 Fu k_4 q_families q_stories (fu + 1) x1 x2 =
    if q_stories ≤ x2 then
      k_4 x1
    else
      bd1 (f_X2_isFirstOfFamily Fu q_families x2) (fun r4 =>
      nm (if r4 = 0 then (nI 0) else nI 1) (fun v7 =>
      f_X2_unlikeFamilies_L4 Fu k_4 q_families q_stories fu (x1 + v7) (x2 + (nI 1)))) := rfl
def f_X2_unlikeFamilies (Fu : Nat) (q_families : Ar) (q_stories : Int32) : Option Int32 :=
  jn (fun (v8 : Int32) =>
    some (v8))
    (fun k_4 => f_X2_unlikeFamilies_L4 Fu k_4 q_families q_stories Fu (nI 0) (nI 0))
def f_X2_greatestGeneration_L5 (Fu : Nat) (k_5 : Int32 → Option Int32) (q_generations : Ar) (q_stories : Int32) : Nat → Int32 → Int32 → Option Int32
  | 0, _, _ => none
  | fu + 1, x1, x2 =>
    if q_stories ≤ x2 then
      k_5 x1
    else
      gd (ix x2 12) (
      nm ((jmax x1 (q_generations (x2).toNatClampNeg))) (fun v5 =>
      f_X2_greatestGeneration_L5 Fu k_5 q_generations q_stories fu v5 (x2 + (nI 1))))
theorem f_X2_greatestGeneration_L5_s (Fu : Nat) (k_5 : Int32 → Option Int32) (q_generations : Ar) (q_stories : Int32) (fu : Nat) (x1 : Int32) (x2 : Int32) : f_X2_greatestGeneration_L5 Fu k_5 q_generations q_stories (fu + 1) x1 x2 =
    if q_stories ≤ x2 then
      k_5 x1
    else
      gd (ix x2 12) (
      nm ((jmax x1 (q_generations (x2).toNatClampNeg))) (fun v5 =>
      f_X2_greatestGeneration_L5 Fu k_5 q_generations q_stories fu v5 (x2 + (nI 1)))) := rfl
def f_X2_greatestGeneration (Fu : Nat) (q_generations : Ar) (q_stories : Int32) : Option Int32 :=
  jn (fun (v6 : Int32) =>
    some (v6))
    (fun k_5 => f_X2_greatestGeneration_L5 Fu k_5 q_generations q_stories Fu (-6) (nI 0))
def f_X2_storiesWith_L4 (Fu : Nat) (k_4 : Int32 → Option Int32) (q_letters : Ar) (q_starts : Ar) (q_stories : Int32) (p1 : Int32) : Nat → Int32 → Int32 → Option Int32
  | 0, _, _ => none
  | fu + 1, x1, x2 =>
    if q_stories ≤ x2 then
      k_4 x1
    else
      bd1 (f_X2_timesIn Fu q_letters q_starts x2 p1) (fun r4 =>
      nm (if r4 ≤ 0 then (nI 0) else nI 1) (fun v7 =>
      f_X2_storiesWith_L4 Fu k_4 q_letters q_starts q_stories p1 fu (x1 + v7) (x2 + (nI 1))))
theorem f_X2_storiesWith_L4_s (Fu : Nat) (k_4 : Int32 → Option Int32) (q_letters : Ar) (q_starts : Ar) (q_stories : Int32) (p1 : Int32) (fu : Nat) (x1 : Int32) (x2 : Int32) : f_X2_storiesWith_L4 Fu k_4 q_letters q_starts q_stories p1 (fu + 1) x1 x2 =
    if q_stories ≤ x2 then
      k_4 x1
    else
      bd1 (f_X2_timesIn Fu q_letters q_starts x2 p1) (fun r4 =>
      nm (if r4 ≤ 0 then (nI 0) else nI 1) (fun v7 =>
      f_X2_storiesWith_L4 Fu k_4 q_letters q_starts q_stories p1 fu (x1 + v7) (x2 + (nI 1)))) := rfl
def f_X2_storiesWith (Fu : Nat) (q_letters : Ar) (q_starts : Ar) (q_stories : Int32) (p1 : Int32) : Option Int32 :=
  jn (fun (v8 : Int32) =>
    some (v8))
    (fun k_4 => f_X2_storiesWith_L4 Fu k_4 q_letters q_starts q_stories p1 Fu (nI 0) (nI 0))
def f_X2_storiesOfTheme_L4 (Fu : Nat) (k_4 : Int32 → Ar → Option (Int32 × Ar)) (q_letters : Ar) (q_starts : Ar) (q_stories : Int32) (p1 : Int32) : Nat → Int32 → Int32 → Ar → Option (Int32 × Ar)
  | 0, _, _, _ => none
  | fu + 1, x1, x2, q_tally_3 =>
    if q_stories ≤ x2 then
      k_4 x1 q_tally_3
    else
      bd2 (f_X2_themeOf Fu q_letters q_starts q_tally_3 x2) (fun r5 q_tally_6 =>
      nm (if r5 = p1 then (nI 1) else nI 0) (fun v9 =>
      f_X2_storiesOfTheme_L4 Fu k_4 q_letters q_starts q_stories p1 fu (x1 + v9) (x2 + (nI 1)) q_tally_6))
theorem f_X2_storiesOfTheme_L4_s (Fu : Nat) (k_4 : Int32 → Ar → Option (Int32 × Ar)) (q_letters : Ar) (q_starts : Ar) (q_stories : Int32) (p1 : Int32) (fu : Nat) (x1 : Int32) (x2 : Int32) (q_tally_3 : Ar) : f_X2_storiesOfTheme_L4 Fu k_4 q_letters q_starts q_stories p1 (fu + 1) x1 x2 q_tally_3 =
    if q_stories ≤ x2 then
      k_4 x1 q_tally_3
    else
      bd2 (f_X2_themeOf Fu q_letters q_starts q_tally_3 x2) (fun r5 q_tally_6 =>
      nm (if r5 = p1 then (nI 1) else nI 0) (fun v9 =>
      f_X2_storiesOfTheme_L4 Fu k_4 q_letters q_starts q_stories p1 fu (x1 + v9) (x2 + (nI 1)) q_tally_6)) := rfl
def f_X2_storiesOfTheme (Fu : Nat) (q_letters : Ar) (q_starts : Ar) (q_tally : Ar) (q_stories : Int32) (p1 : Int32) : Option (Int32 × Ar) :=
  jn (fun (v10 : Int32) (q_tally_11 : Ar) =>
    some (v10, q_tally_11))
    (fun k_4 => f_X2_storiesOfTheme_L4 Fu k_4 q_letters q_starts q_stories p1 Fu (nI 0) (nI 0) q_tally)
def f_X2_heatOfLetter_L4 (Fu : Nat) (k_4 : Int32 → Option Int32) (q_letters : Ar) (q_heats : Ar) (q_starts : Ar) (q_stories : Int32) (p1 : Int32) : Nat → Int32 → Int32 → Option Int32
  | 0, _, _ => none
  | fu + 1, x1, x2 =>
    bd1 (f_X2_words Fu q_starts q_stories) (fun r3 =>
    if r3 ≤ x2 then
      k_4 x1
    else
      gd (ix x2 150) (
      jn (fun (v9 : Int32) =>
        f_X2_heatOfLetter_L4 Fu k_4 q_letters q_heats q_starts q_stories p1 fu (x1 + v9) (x2 + (nI 1)))
        (fun j10 =>
        if (q_letters (x2).toNatClampNeg) = p1 then
          gd (ix x2 150) (
          j10 (q_heats (x2).toNatClampNeg))
        else
          j10 (nI 0))))
theorem f_X2_heatOfLetter_L4_s (Fu : Nat) (k_4 : Int32 → Option Int32) (q_letters : Ar) (q_heats : Ar) (q_starts : Ar) (q_stories : Int32) (p1 : Int32) (fu : Nat) (x1 : Int32) (x2 : Int32) : f_X2_heatOfLetter_L4 Fu k_4 q_letters q_heats q_starts q_stories p1 (fu + 1) x1 x2 =
    bd1 (f_X2_words Fu q_starts q_stories) (fun r3 =>
    if r3 ≤ x2 then
      k_4 x1
    else
      gd (ix x2 150) (
      jn (fun (v9 : Int32) =>
        f_X2_heatOfLetter_L4 Fu k_4 q_letters q_heats q_starts q_stories p1 fu (x1 + v9) (x2 + (nI 1)))
        (fun j10 =>
        if (q_letters (x2).toNatClampNeg) = p1 then
          gd (ix x2 150) (
          j10 (q_heats (x2).toNatClampNeg))
        else
          j10 (nI 0)))) := rfl
def f_X2_heatOfLetter (Fu : Nat) (q_letters : Ar) (q_heats : Ar) (q_starts : Ar) (q_stories : Int32) (p1 : Int32) : Option Int32 :=
  jn (fun (v11 : Int32) =>
    some (v11))
    (fun k_4 => f_X2_heatOfLetter_L4 Fu k_4 q_letters q_heats q_starts q_stories p1 Fu (nI 0) (nI 0))
def f_X2_isPair (Fu : Nat) (q_letters : Ar) (q_starts : Ar) (q_stories : Int32) (p1 : Int32) (p2 : Int32) (p3 : Int32) : Option Int32 :=
  gd (ix p1 150) (
  jn (fun (v10 : Int32) =>
    gd (bz v10) (some (v10)))
    (fun j11 =>
    if (q_letters (p1).toNatClampNeg) = p2 then
      gd (ix (p1 + (nI 1)) 150) (
      if (q_letters (p1 + (nI 1)).toNatClampNeg) = p3 then
        bd1 (f_X2_storyAt Fu q_starts q_stories p1) (fun r5 =>
        bd1 (f_X2_storyAt Fu q_starts q_stories (p1 + (nI 1))) (fun r7 =>
        if r5 = r7 then
          j11 (nI 1)
        else
          j11 (nI 0)))
      else
        j11 (nI 0))
    else
      j11 (nI 0)))
def f_X3_write (Fu : Nat) (p_characters : Ar) (p_length : Int32) (n_settings : Ar) (n_letters : Ar) (n_heats : Ar) (n_starts : Ar) (n_families : Ar) (n_generations : Ar) (n_stories : Int32) (n_nextFamily : Int32) (n_splits : Int32) (n_boilings : Int32) (n_fizzles : Int32) (h_v : (Nat → SV)) (h_oldest : Int32) (h_size : Int32) : Option (Int32 × Int32 × Ar × Ar × Ar × Ar × Ar × Int32 × Int32 × Int32 × Int32 × Int32 × (Nat → SV) × Int32 × Int32) :=
  bd1 (f_X1_firstFault Fu p_characters p_length) (fun r1 =>
  if r1 = (-6) then
    bd1 (f_X1_storiesIn Fu p_characters p_length) (fun r4 =>
    if (nI 12) < (n_stories + r4) then
      some (-4, p_length, n_letters, n_heats, n_starts, n_families, n_generations, n_stories, n_nextFamily, n_splits, n_boilings, n_fizzles, h_v, h_oldest, h_size)
    else
      bd1 (f_X2_words Fu n_starts n_stories) (fun r7 =>
      bd1 (f_X1_wordsIn Fu p_characters p_length) (fun r9 =>
      if (r7 + r9) ≤ (nI 150) then
        bd3 (f_X0_record Fu h_v h_oldest h_size n_settings n_letters n_heats n_starts n_families n_generations n_stories n_nextFamily n_splits n_boilings n_fizzles) (fun h_v_12 h_oldest_13 h_size_14 =>
        bd7 (f_X1_writeTo Fu p_characters p_length n_letters n_heats n_starts n_families n_generations n_stories n_nextFamily) (fun n_letters_16 n_heats_17 n_starts_18 n_families_19 n_generations_20 n_stories_21 n_nextFamily_22 =>
        bd9 (f_X2_react Fu n_settings n_heats_17 n_starts_18 n_families_19 n_generations_20 n_stories_21 n_splits n_boilings n_fizzles) (fun r24 n_heats_25 n_starts_26 n_families_27 n_generations_28 n_stories_29 n_splits_30 n_boilings_31 n_fizzles_32 =>
        some (n_stories_29, nI 0, n_letters_16, n_heats_25, n_starts_26, n_families_27, n_generations_28, n_stories_29, n_nextFamily_22, n_splits_30, n_boilings_31, n_fizzles_32, h_v_12, h_oldest_13, h_size_14))))
      else
        some (-4, p_length, n_letters, n_heats, n_starts, n_families, n_generations, n_stories, n_nextFamily, n_splits, n_boilings, n_fizzles, h_v, h_oldest, h_size))))
  else
    some (-3, p_length, n_letters, n_heats, n_starts, n_families, n_generations, n_stories, n_nextFamily, n_splits, n_boilings, n_fizzles, h_v, h_oldest, h_size))
def f_X3_heat (Fu : Nat) (n_settings : Ar) (n_letters : Ar) (n_heats : Ar) (n_starts : Ar) (n_families : Ar) (n_generations : Ar) (n_stories : Int32) (n_nextFamily : Int32) (n_splits : Int32) (n_boilings : Int32) (n_fizzles : Int32) (h_v : (Nat → SV)) (h_oldest : Int32) (h_size : Int32) (p1 : Int32) (p2 : Int32) (p3 : Int32) : Option (Int32 × Ar × Ar × Ar × Ar × Int32 × Int32 × Int32 × Int32 × (Nat → SV) × Int32 × Int32) :=
  bd1 (f_X2_hasWord Fu n_starts n_stories p1 p2) (fun r1 =>
  if r1 = 0 then
    some (-1, n_heats, n_starts, n_families, n_generations, n_stories, n_splits, n_boilings, n_fizzles, h_v, h_oldest, h_size)
  else
    bd1 (f_X3_isWithin Fu p3 (nI 1) (nI 500)) (fun r4 =>
    if r4 = 0 then
      some (-2, n_heats, n_starts, n_families, n_generations, n_stories, n_splits, n_boilings, n_fizzles, h_v, h_oldest, h_size)
    else
      bd3 (f_X0_record Fu h_v h_oldest h_size n_settings n_letters n_heats n_starts n_families n_generations n_stories n_nextFamily n_splits n_boilings n_fizzles) (fun h_v_7 h_oldest_8 h_size_9 =>
      gd (ix p1 13) (
      bd1 (f_X2_warm Fu n_heats ((n_starts (p1).toNatClampNeg) + p2) p3) (fun n_heats_12 =>
      bd9 (f_X2_react Fu n_settings n_heats_12 n_starts n_families n_generations n_stories n_splits n_boilings n_fizzles) (fun r14 n_heats_15 n_starts_16 n_families_17 n_generations_18 n_stories_19 n_splits_20 n_boilings_21 n_fizzles_22 =>
      some (r14, n_heats_15, n_starts_16, n_families_17, n_generations_18, n_stories_19, n_splits_20, n_boilings_21, n_fizzles_22, h_v_7, h_oldest_8, h_size_9)))))))
def f_X3_read_L47 (Fu : Nat) (k_47 : Ar → Option (Int32 × Ar × Ar × Ar × Ar × Int32 × Int32 × Int32 × Int32 × (Nat → SV) × Int32 × Int32)) (n_starts : Ar) (p1 : Int32) (p2 : Int32) : Nat → Int32 → Ar → Option (Int32 × Ar × Ar × Ar × Ar × Int32 × Int32 × Int32 × Int32 × (Nat → SV) × Int32 × Int32)
  | 0, _, _ => none
  | fu + 1, x12, n_heats_13 =>
    gd (ix (p1 + (nI 1)) 13) (
    if (n_starts (p1 + (nI 1)).toNatClampNeg) ≤ x12 then
      k_47 n_heats_13
    else
      bd1 (f_X2_warm Fu n_heats_13 x12 p2) (fun n_heats_16 =>
      f_X3_read_L47 Fu k_47 n_starts p1 p2 fu (x12 + (nI 1)) n_heats_16))
theorem f_X3_read_L47_s (Fu : Nat) (k_47 : Ar → Option (Int32 × Ar × Ar × Ar × Ar × Int32 × Int32 × Int32 × Int32 × (Nat → SV) × Int32 × Int32)) (n_starts : Ar) (p1 : Int32) (p2 : Int32) (fu : Nat) (x12 : Int32) (n_heats_13 : Ar) : f_X3_read_L47 Fu k_47 n_starts p1 p2 (fu + 1) x12 n_heats_13 =
    gd (ix (p1 + (nI 1)) 13) (
    if (n_starts (p1 + (nI 1)).toNatClampNeg) ≤ x12 then
      k_47 n_heats_13
    else
      bd1 (f_X2_warm Fu n_heats_13 x12 p2) (fun n_heats_16 =>
      f_X3_read_L47 Fu k_47 n_starts p1 p2 fu (x12 + (nI 1)) n_heats_16)) := rfl
def f_X3_read (Fu : Nat) (n_settings : Ar) (n_letters : Ar) (n_heats : Ar) (n_starts : Ar) (n_families : Ar) (n_generations : Ar) (n_stories : Int32) (n_nextFamily : Int32) (n_splits : Int32) (n_boilings : Int32) (n_fizzles : Int32) (h_v : (Nat → SV)) (h_oldest : Int32) (h_size : Int32) (p1 : Int32) (p2 : Int32) : Option (Int32 × Ar × Ar × Ar × Ar × Int32 × Int32 × Int32 × Int32 × (Nat → SV) × Int32 × Int32) :=
  bd1 (f_X2_hasStory Fu n_stories p1) (fun r1 =>
  if r1 = 0 then
    some (-1, n_heats, n_starts, n_families, n_generations, n_stories, n_splits, n_boilings, n_fizzles, h_v, h_oldest, h_size)
  else
    bd1 (f_X3_isWithin Fu p2 (nI 1) (nI 50)) (fun r4 =>
    if r4 = 0 then
      some (-2, n_heats, n_starts, n_families, n_generations, n_stories, n_splits, n_boilings, n_fizzles, h_v, h_oldest, h_size)
    else
      bd3 (f_X0_record Fu h_v h_oldest h_size n_settings n_letters n_heats n_starts n_families n_generations n_stories n_nextFamily n_splits n_boilings n_fizzles) (fun h_v_7 h_oldest_8 h_size_9 =>
      gd (ix p1 13) (
      jn (fun (n_heats_18 : Ar) =>
        bd9 (f_X2_react Fu n_settings n_heats_18 n_starts n_families n_generations n_stories n_splits n_boilings n_fizzles) (fun r19 n_heats_20 n_starts_21 n_families_22 n_generations_23 n_stories_24 n_splits_25 n_boilings_26 n_fizzles_27 =>
        some (r19, n_heats_20, n_starts_21, n_families_22, n_generations_23, n_stories_24, n_splits_25, n_boilings_26, n_fizzles_27, h_v_7, h_oldest_8, h_size_9)))
        (fun k_47 => f_X3_read_L47 Fu k_47 n_starts p1 p2 Fu (n_starts (p1).toNatClampNeg) n_heats)))))
def f_X3_fuse (Fu : Nat) (n_settings : Ar) (n_letters : Ar) (n_heats : Ar) (n_starts : Ar) (n_families : Ar) (n_generations : Ar) (n_tally : Ar) (n_stories : Int32) (n_nextFamily : Int32) (n_splits : Int32) (n_boilings : Int32) (n_fizzles : Int32) (t_settings : Ar) (t_letters : Ar) (t_heats : Ar) (t_starts : Ar) (t_families : Ar) (t_generations : Ar) (t_stories : Int32) (t_nextFamily : Int32) (t_splits : Int32) (t_boilings : Int32) (t_fizzles : Int32) (h_v : (Nat → SV)) (h_oldest : Int32) (h_size : Int32) (p1 : Int32) (p2 : Int32) : Option (Int32 × Ar × Ar × Ar × Ar × Ar × Ar × Int32 × Int32 × Int32 × Int32 × Ar × Ar × Ar × Ar × Ar × Ar × Int32 × Int32 × Int32 × Int32 × Int32 × (Nat → SV) × Int32 × Int32) :=
  bd1 (f_X2_hasStory Fu n_stories p1) (fun r1 =>
  if r1 = 0 then
    some (-1, n_letters, n_heats, n_starts, n_families, n_generations, n_tally, n_stories, n_splits, n_boilings, n_fizzles, t_settings, t_letters, t_heats, t_starts, t_families, t_generations, t_stories, t_nextFamily, t_splits, t_boilings, t_fizzles, h_v, h_oldest, h_size)
  else
    bd1 (f_X2_hasStory Fu n_stories p2) (fun r4 =>
    if r4 = 0 then
      some (-1, n_letters, n_heats, n_starts, n_families, n_generations, n_tally, n_stories, n_splits, n_boilings, n_fizzles, t_settings, t_letters, t_heats, t_starts, t_families, t_generations, t_stories, t_nextFamily, t_splits, t_boilings, t_fizzles, h_v, h_oldest, h_size)
    else
      if p1 = p2 then
        some (-2, n_letters, n_heats, n_starts, n_families, n_generations, n_tally, n_stories, n_splits, n_boilings, n_fizzles, t_settings, t_letters, t_heats, t_starts, t_families, t_generations, t_stories, t_nextFamily, t_splits, t_boilings, t_fizzles, h_v, h_oldest, h_size)
      else
        bd2 (f_X2_themeOf Fu n_letters n_starts n_tally p1) (fun r8 n_tally_9 =>
        bd2 (f_X2_themeOf Fu n_letters n_starts n_tally_9 p2) (fun r11 n_tally_12 =>
        if r8 = r11 then
          bd3 (f_X0_record Fu h_v h_oldest h_size n_settings n_letters n_heats n_starts n_families n_generations n_stories n_nextFamily n_splits n_boilings n_fizzles) (fun h_v_15 h_oldest_16 h_size_17 =>
          bd11 (f_X2_copyFrom Fu t_settings t_letters t_heats t_starts t_families t_generations t_stories t_nextFamily t_splits t_boilings t_fizzles n_settings n_letters n_heats n_starts n_families n_generations n_stories n_nextFamily n_splits n_boilings n_fizzles) (fun t_settings_19 t_letters_20 t_heats_21 t_starts_22 t_families_23 t_generations_24 t_stories_25 t_nextFamily_26 t_splits_27 t_boilings_28 t_fizzles_29 =>
          bd6 (f_X2_remove Fu n_letters n_heats n_starts n_families n_generations n_stories p2) (fun n_letters_31 n_heats_32 n_starts_33 n_families_34 n_generations_35 n_stories_36 =>
          nm (if p1 ≤ p2 then p1 else p1 - (nI 1)) (fun v39 =>
          gd (ix (v39 + (nI 1)) 13) (
          nm ((n_starts_33 (v39 + (nI 1)).toNatClampNeg)) (fun v41 =>
          bd3 (f_X2_append Fu n_letters_31 n_heats_32 n_starts_33 n_stories_36 t_letters_20 t_heats_21 t_starts_22 v39 p2) (fun n_letters_42 n_heats_43 n_starts_44 =>
          gd (ix p1 12) (
          gd (ix p2 12) (
          gd (ix v39 12) (
          nm ((upd n_generations_35 (v39).toNatClampNeg ((nI 1) + (jmax (t_generations_24 (p1).toNatClampNeg) (t_generations_24 (p2).toNatClampNeg))))) (fun (n_generations_49 : Ar) =>
          bd1 (f_X2_warm Fu n_heats_43 (v41 - (nI 1)) (n_settings 1)) (fun n_heats_50 =>
          bd1 (f_X2_warm Fu n_heats_50 v41 (n_settings 1)) (fun n_heats_52 =>
          bd9 (f_X2_react Fu n_settings n_heats_52 n_starts_44 n_families_34 n_generations_49 n_stories_36 n_splits n_boilings n_fizzles) (fun r54 n_heats_55 n_starts_56 n_families_57 n_generations_58 n_stories_59 n_splits_60 n_boilings_61 n_fizzles_62 =>
          some (r54, n_letters_42, n_heats_55, n_starts_56, n_families_57, n_generations_58, n_tally_12, n_stories_59, n_splits_60, n_boilings_61, n_fizzles_62, t_settings_19, t_letters_20, t_heats_21, t_starts_22, t_families_23, t_generations_24, t_stories_25, t_nextFamily_26, t_splits_27, t_boilings_28, t_fizzles_29, h_v_15, h_oldest_16, h_size_17)))))))))))))))
        else
          some (-5, n_letters, n_heats, n_starts, n_families, n_generations, n_tally_12, n_stories, n_splits, n_boilings, n_fizzles, t_settings, t_letters, t_heats, t_starts, t_families, t_generations, t_stories, t_nextFamily, t_splits, t_boilings, t_fizzles, h_v, h_oldest, h_size)))))
def f_X3_pass_L38 (Fu : Nat) (k_38 : Ar → Option (Int32 × Ar × (Nat → SV) × Int32 × Int32)) (n_settings : Ar) (n_starts : Ar) (n_stories : Int32) (p1 : Int32) : Nat → Int32 → Ar → Option (Int32 × Ar × (Nat → SV) × Int32 × Int32)
  | 0, _, _ => none
  | fu + 1, x8, n_heats_9 =>
    bd1 (f_X2_words Fu n_starts n_stories) (fun r10 =>
    if r10 ≤ x8 then
      k_38 n_heats_9
    else
      gd (ix x8 150) (
      gd (ix x8 150) (
      nm ((upd n_heats_9 (x8).toNatClampNeg (jmax (nI 0) ((n_heats_9 (x8).toNatClampNeg) - (p1 * (n_settings 2)))))) (fun (n_heats_15 : Ar) =>
      f_X3_pass_L38 Fu k_38 n_settings n_starts n_stories p1 fu (x8 + (nI 1)) n_heats_15))))
theorem f_X3_pass_L38_s (Fu : Nat) (k_38 : Ar → Option (Int32 × Ar × (Nat → SV) × Int32 × Int32)) (n_settings : Ar) (n_starts : Ar) (n_stories : Int32) (p1 : Int32) (fu : Nat) (x8 : Int32) (n_heats_9 : Ar) : f_X3_pass_L38 Fu k_38 n_settings n_starts n_stories p1 (fu + 1) x8 n_heats_9 =
    bd1 (f_X2_words Fu n_starts n_stories) (fun r10 =>
    if r10 ≤ x8 then
      k_38 n_heats_9
    else
      gd (ix x8 150) (
      gd (ix x8 150) (
      nm ((upd n_heats_9 (x8).toNatClampNeg (jmax (nI 0) ((n_heats_9 (x8).toNatClampNeg) - (p1 * (n_settings 2)))))) (fun (n_heats_15 : Ar) =>
      f_X3_pass_L38 Fu k_38 n_settings n_starts n_stories p1 fu (x8 + (nI 1)) n_heats_15)))) := rfl
def f_X3_pass (Fu : Nat) (n_settings : Ar) (n_letters : Ar) (n_heats : Ar) (n_starts : Ar) (n_families : Ar) (n_generations : Ar) (n_stories : Int32) (n_nextFamily : Int32) (n_splits : Int32) (n_boilings : Int32) (n_fizzles : Int32) (h_v : (Nat → SV)) (h_oldest : Int32) (h_size : Int32) (p1 : Int32) : Option (Int32 × Ar × (Nat → SV) × Int32 × Int32) :=
  bd1 (f_X3_isWithin Fu p1 (nI 1) (nI 30)) (fun r1 =>
  if r1 = 0 then
    some (-2, n_heats, h_v, h_oldest, h_size)
  else
    bd3 (f_X0_record Fu h_v h_oldest h_size n_settings n_letters n_heats n_starts n_families n_generations n_stories n_nextFamily n_splits n_boilings n_fizzles) (fun h_v_4 h_oldest_5 h_size_6 =>
    jn (fun (n_heats_16 : Ar) =>
      bd1 (f_X2_heatOfAll Fu n_heats_16 n_starts n_stories) (fun r17 =>
      some (r17, n_heats_16, h_v_4, h_oldest_5, h_size_6)))
      (fun k_38 => f_X3_pass_L38 Fu k_38 n_settings n_starts n_stories p1 Fu (nI 0) n_heats)))
def f_X3_burn (Fu : Nat) (n_settings : Ar) (n_letters : Ar) (n_heats : Ar) (n_starts : Ar) (n_families : Ar) (n_generations : Ar) (n_stories : Int32) (n_nextFamily : Int32) (n_splits : Int32) (n_boilings : Int32) (n_fizzles : Int32) (h_v : (Nat → SV)) (h_oldest : Int32) (h_size : Int32) (p1 : Int32) : Option (Int32 × Ar × Ar × Ar × Ar × Ar × Int32 × (Nat → SV) × Int32 × Int32) :=
  bd1 (f_X2_hasStory Fu n_stories p1) (fun r1 =>
  if r1 = 0 then
    some (-1, n_letters, n_heats, n_starts, n_families, n_generations, n_stories, h_v, h_oldest, h_size)
  else
    bd3 (f_X0_record Fu h_v h_oldest h_size n_settings n_letters n_heats n_starts n_families n_generations n_stories n_nextFamily n_splits n_boilings n_fizzles) (fun h_v_4 h_oldest_5 h_size_6 =>
    bd1 (f_X2_sizeOf Fu n_starts p1) (fun r8 =>
    bd6 (f_X2_remove Fu n_letters n_heats n_starts n_families n_generations n_stories p1) (fun n_letters_10 n_heats_11 n_starts_12 n_families_13 n_generations_14 n_stories_15 =>
    some (r8, n_letters_10, n_heats_11, n_starts_12, n_families_13, n_generations_14, n_stories_15, h_v_4, h_oldest_5, h_size_6)))))
def f_X3_word (Fu : Nat) (n_letters : Ar) (n_heats : Ar) (n_starts : Ar) (n_stories : Int32) (p1 : Int32) (p2 : Int32) (p3 : Int32) : Option Int32 :=
  bd1 (f_X2_hasWord Fu n_starts n_stories p1 p2) (fun r1 =>
  if r1 = 0 then
    some (-1)
  else
    gd (ix p1 13) (
    nm (((n_starts (p1).toNatClampNeg) + p2)) (fun v5 =>
    nm (p3) (fun v6 =>
    if v6 = nI 0 then
      gd (ix v5 150) (
      some (n_letters (v5).toNatClampNeg))
    else
    if v6 = nI 1 then
      gd (ix v5 150) (
      some (n_heats (v5).toNatClampNeg))
    else
    if v6 = nI 2 then
      gd (ix v5 150) (
      bd1 (f_X2_timesIn Fu n_letters n_starts p1 (n_letters (v5).toNatClampNeg)) (fun r10 =>
      some (r10)))
    else
      some (-2)))))
def f_X3_story (Fu : Nat) (n_letters : Ar) (n_heats : Ar) (n_starts : Ar) (n_families : Ar) (n_generations : Ar) (n_tally : Ar) (n_stories : Int32) (p1 : Int32) (p2 : Int32) : Option (Int32 × Ar) :=
  bd1 (f_X2_hasStory Fu n_stories p1) (fun r1 =>
  if r1 = 0 then
    some (-1, n_tally)
  else
    nm (p2) (fun v4 =>
    if v4 = nI 0 then
      bd1 (f_X2_sizeOf Fu n_starts p1) (fun r5 =>
      some (r5, n_tally))
    else
    if v4 = nI 1 then
      bd1 (f_X2_heatOf Fu n_heats n_starts p1) (fun r7 =>
      some (r7, n_tally))
    else
    if v4 = nI 2 then
      bd2 (f_X2_themeOf Fu n_letters n_starts n_tally p1) (fun r9 n_tally_10 =>
      some (r9, n_tally_10))
    else
    if v4 = nI 3 then
      gd (ix p1 12) (
      some (n_families (p1).toNatClampNeg, n_tally))
    else
    if v4 = nI 4 then
      gd (ix p1 12) (
      some (n_generations (p1).toNatClampNeg, n_tally))
    else
    if v4 = nI 5 then
      bd1 (f_X2_hottestOf Fu n_heats n_starts p1) (fun r14 =>
      some (r14, n_tally))
    else
    if v4 = nI 6 then
      bd2 (f_X2_unlikeLettersOf Fu n_letters n_starts n_tally p1) (fun r16 n_tally_17 =>
      some (r16, n_tally_17))
    else
    if v4 = nI 7 then
      bd1 (f_X2_readsFromBothEnds Fu n_letters n_starts p1) (fun r19 =>
      nm (if r19 = 0 then (nI 0) else nI 1) (fun v22 =>
      some (v22, n_tally)))
    else
      some (-2, n_tally)))
def f_X3_count (Fu : Nat) (p_length : Int32) (n_settings : Ar) (n_heats : Ar) (n_starts : Ar) (n_families : Ar) (n_generations : Ar) (n_stories : Int32) (n_splits : Int32) (n_boilings : Int32) (n_fizzles : Int32) (h_size : Int32) (p1 : Int32) : Option Int32 :=
  nm (p1) (fun v1 =>
  if v1 = nI 0 then
    some (n_stories)
  else
  if v1 = nI 1 then
    bd1 (f_X2_words Fu n_starts n_stories) (fun r2 =>
    some (r2))
  else
  if v1 = nI 2 then
    bd1 (f_X2_heatOfAll Fu n_heats n_starts n_stories) (fun r4 =>
    some (r4))
  else
  if v1 = nI 3 then
    bd1 (f_X2_unlikeFamilies Fu n_families n_stories) (fun r6 =>
    some (r6))
  else
  if v1 = nI 4 then
    some (n_splits)
  else
  if v1 = nI 5 then
    some (n_boilings)
  else
  if v1 = nI 6 then
    some (n_fizzles)
  else
  if v1 = nI 7 then
    bd1 (f_X2_greatestGeneration Fu n_generations n_stories) (fun r8 =>
    some (r8))
  else
  if v1 = nI 8 then
    some (n_settings 0)
  else
  if v1 = nI 9 then
    some (n_settings 1)
  else
  if v1 = nI 10 then
    some (n_settings 2)
  else
  if v1 = nI 11 then
    some (p_length)
  else
  if v1 = nI 12 then
    some (h_size)
  else
    some (-2))
def f_X3_isLetter (Fu : Nat) (p0 : Int32) : Option Int32 :=
  bd1 (f_X3_isWithin Fu p0 (nI 0) (nI 25)) (fun r1 =>
  gd (bz r1) (some (r1)))
def f_X3_letter (Fu : Nat) (n_letters : Ar) (n_heats : Ar) (n_starts : Ar) (n_tally : Ar) (n_stories : Int32) (p1 : Int32) (p2 : Int32) : Option (Int32 × Ar) :=
  bd1 (f_X3_isLetter Fu p1) (fun r1 =>
  if r1 = 0 then
    some (-2, n_tally)
  else
    nm (p2) (fun v4 =>
    if v4 = nI 0 then
      bd1 (f_X2_timesInAll Fu n_letters n_starts n_stories p1) (fun r5 =>
      some (r5, n_tally))
    else
    if v4 = nI 1 then
      bd1 (f_X2_storiesWith Fu n_letters n_starts n_stories p1) (fun r7 =>
      some (r7, n_tally))
    else
    if v4 = nI 2 then
      bd2 (f_X2_storiesOfTheme Fu n_letters n_starts n_tally n_stories p1) (fun r9 n_tally_10 =>
      some (r9, n_tally_10))
    else
    if v4 = nI 3 then
      bd1 (f_X2_heatOfLetter Fu n_letters n_heats n_starts n_stories p1) (fun r12 =>
      some (r12, n_tally))
    else
      some (-2, n_tally)))
def f_X3_sideBySide_L36 (Fu : Nat) (k_36 : Int32 → Int32 → Option Int32) (n_letters : Ar) (n_starts : Ar) (n_stories : Int32) (p1 : Int32) (p2 : Int32) : Nat → Int32 → Int32 → Int32 → Option Int32
  | 0, _, _, _ => none
  | fu + 1, x10, x11, x12 =>
    bd1 (f_X2_words Fu n_starts n_stories) (fun r13 =>
    if r13 ≤ (x12 + (nI 1)) then
      k_36 x10 x11
    else
      bd1 (f_X2_isPair Fu n_letters n_starts n_stories x12 p1 p2) (fun r16 =>
      jn (fun (v21 : Int32) (v22 : Int32) =>
        f_X3_sideBySide_L36 Fu k_36 n_letters n_starts n_stories p1 p2 fu v21 v22 (x12 + (nI 1)))
        (fun j23 =>
        if r16 = 0 then
          j23 x10 x11
        else
          nm (if x10 = 0 then x12 else x11) (fun v20 =>
          j23 (x10 + (nI 1)) v20))))
theorem f_X3_sideBySide_L36_s (Fu : Nat) (k_36 : Int32 → Int32 → Option Int32) (n_letters : Ar) (n_starts : Ar) (n_stories : Int32) (p1 : Int32) (p2 : Int32) (fu : Nat) (x10 : Int32) (x11 : Int32) (x12 : Int32) : f_X3_sideBySide_L36 Fu k_36 n_letters n_starts n_stories p1 p2 (fu + 1) x10 x11 x12 =
    bd1 (f_X2_words Fu n_starts n_stories) (fun r13 =>
    if r13 ≤ (x12 + (nI 1)) then
      k_36 x10 x11
    else
      bd1 (f_X2_isPair Fu n_letters n_starts n_stories x12 p1 p2) (fun r16 =>
      jn (fun (v21 : Int32) (v22 : Int32) =>
        f_X3_sideBySide_L36 Fu k_36 n_letters n_starts n_stories p1 p2 fu v21 v22 (x12 + (nI 1)))
        (fun j23 =>
        if r16 = 0 then
          j23 x10 x11
        else
          nm (if x10 = 0 then x12 else x11) (fun v20 =>
          j23 (x10 + (nI 1)) v20)))) := rfl
def f_X3_sideBySide (Fu : Nat) (n_letters : Ar) (n_starts : Ar) (n_stories : Int32) (p1 : Int32) (p2 : Int32) (p3 : Int32) : Option Int32 :=
  bd1 (f_X3_isLetter Fu p1) (fun r1 =>
  if r1 = 0 then
    some (-2)
  else
    bd1 (f_X3_isLetter Fu p2) (fun r4 =>
    if r4 = 0 then
      some (-2)
    else
      bd1 (f_X3_isWithin Fu p3 (nI 0) (nI 2)) (fun r7 =>
      if r7 = 0 then
        some (-2)
      else
        jn (fun (v24 : Int32) (v25 : Int32) =>
          if p3 = 0 then
            some (v24)
          else
            if v24 = 0 then
              some (-6)
            else
              jn (fun (v33 : Int32) =>
                some (v33))
                (fun j34 =>
                if p3 = (nI 1) then
                  bd1 (f_X2_storyAt Fu n_starts n_stories v25) (fun r31 =>
                  j34 r31)
                else
                  bd1 (f_X2_placeOf Fu n_starts n_stories v25) (fun r29 =>
                  j34 r29)))
          (fun k_36 => f_X3_sideBySide_L36 Fu k_36 n_letters n_starts n_stories p1 p2 Fu (nI 0) (-6) (nI 0)))))
def f_X3_common_L88 (Fu : Nat) (k_88 : Int32 → Ar → Option (Int32 × Ar)) (n_letters : Ar) (n_starts : Ar) (p2 : Int32) (x12 : Int32) : Nat → Int32 → Int32 → Ar → Option (Int32 × Ar)
  | 0, _, _, _ => none
  | fu + 1, x16, x17, q_runs_18 =>
    if x17 < 0 then
      k_88 x16 q_runs_18
    else
      gd (ix x12 150) (
      gd (ix ((n_starts (p2).toNatClampNeg) + x17) 150) (
      nm (if (n_letters (x12).toNatClampNeg) = (n_letters ((n_starts (p2).toNatClampNeg) + x17).toNatClampNeg) then (nI 1) else nI 0) (fun v23 =>
      jn (fun (v26 : Int32) =>
        nm (if v23 = 0 then (nI 0) else v26 + (nI 1)) (fun v29 =>
        gd (ix x17 150) (
        gd (ix x17 150) (
        nm ((jmax x16 ((upd q_runs_18 (x17).toNatClampNeg v29) (x17).toNatClampNeg))) (fun v32 =>
        f_X3_common_L88 Fu k_88 n_letters n_starts p2 x12 fu v32 (x17 + (-1)) (upd q_runs_18 (x17).toNatClampNeg v29))))))
        (fun j27 =>
        if x17 ≤ 0 then
          j27 (nI 0)
        else
          gd (ix (x17 - (nI 1)) 150) (
          j27 (q_runs_18 (x17 - (nI 1)).toNatClampNeg))))))
theorem f_X3_common_L88_s (Fu : Nat) (k_88 : Int32 → Ar → Option (Int32 × Ar)) (n_letters : Ar) (n_starts : Ar) (p2 : Int32) (x12 : Int32) (fu : Nat) (x16 : Int32) (x17 : Int32) (q_runs_18 : Ar) : f_X3_common_L88 Fu k_88 n_letters n_starts p2 x12 (fu + 1) x16 x17 q_runs_18 =
    if x17 < 0 then
      k_88 x16 q_runs_18
    else
      gd (ix x12 150) (
      gd (ix ((n_starts (p2).toNatClampNeg) + x17) 150) (
      nm (if (n_letters (x12).toNatClampNeg) = (n_letters ((n_starts (p2).toNatClampNeg) + x17).toNatClampNeg) then (nI 1) else nI 0) (fun v23 =>
      jn (fun (v26 : Int32) =>
        nm (if v23 = 0 then (nI 0) else v26 + (nI 1)) (fun v29 =>
        gd (ix x17 150) (
        gd (ix x17 150) (
        nm ((jmax x16 ((upd q_runs_18 (x17).toNatClampNeg v29) (x17).toNatClampNeg))) (fun v32 =>
        f_X3_common_L88 Fu k_88 n_letters n_starts p2 x12 fu v32 (x17 + (-1)) (upd q_runs_18 (x17).toNatClampNeg v29))))))
        (fun j27 =>
        if x17 ≤ 0 then
          j27 (nI 0)
        else
          gd (ix (x17 - (nI 1)) 150) (
          j27 (q_runs_18 (x17 - (nI 1)).toNatClampNeg)))))) := rfl
def f_X3_common_L66 (Fu : Nat) (k_66 : Int32 → Ar → Option (Int32 × Ar)) (n_letters : Ar) (n_starts : Ar) (p1 : Int32) (p2 : Int32) (r8 : Int32) : Nat → Int32 → Int32 → Ar → Option (Int32 × Ar)
  | 0, _, _, _ => none
  | fu + 1, x11, x12, q_runs_13 =>
    gd (ix (p1 + (nI 1)) 13) (
    if (n_starts (p1 + (nI 1)).toNatClampNeg) ≤ x12 then
      k_66 x11 q_runs_13
    else
      jn (fun (v33 : Int32) (q_runs_34 : Ar) =>
        f_X3_common_L66 Fu k_66 n_letters n_starts p1 p2 r8 fu v33 (x12 + (nI 1)) q_runs_34)
        (fun k_88 => f_X3_common_L88 Fu k_88 n_letters n_starts p2 x12 Fu x11 (r8 - (nI 1)) q_runs_13))
theorem f_X3_common_L66_s (Fu : Nat) (k_66 : Int32 → Ar → Option (Int32 × Ar)) (n_letters : Ar) (n_starts : Ar) (p1 : Int32) (p2 : Int32) (r8 : Int32) (fu : Nat) (x11 : Int32) (x12 : Int32) (q_runs_13 : Ar) : f_X3_common_L66 Fu k_66 n_letters n_starts p1 p2 r8 (fu + 1) x11 x12 q_runs_13 =
    gd (ix (p1 + (nI 1)) 13) (
    if (n_starts (p1 + (nI 1)).toNatClampNeg) ≤ x12 then
      k_66 x11 q_runs_13
    else
      jn (fun (v33 : Int32) (q_runs_34 : Ar) =>
        f_X3_common_L66 Fu k_66 n_letters n_starts p1 p2 r8 fu v33 (x12 + (nI 1)) q_runs_34)
        (fun k_88 => f_X3_common_L88 Fu k_88 n_letters n_starts p2 x12 Fu x11 (r8 - (nI 1)) q_runs_13)) := rfl
def f_X3_common (Fu : Nat) (q_runs : Ar) (n_letters : Ar) (n_starts : Ar) (n_stories : Int32) (p1 : Int32) (p2 : Int32) : Option (Int32 × Ar) :=
  bd1 (f_X2_hasStory Fu n_stories p1) (fun r1 =>
  if r1 = 0 then
    some (-1, q_runs)
  else
    bd1 (f_X2_hasStory Fu n_stories p2) (fun r4 =>
    if r4 = 0 then
      some (-1, q_runs)
    else
      gd (ix p2 13) (
      bd1 (f_X2_sizeOf Fu n_starts p2) (fun r8 =>
      gd (ix p1 13) (
      jn (fun (v35 : Int32) (q_runs_36 : Ar) =>
        some (v35, q_runs_36))
        (fun k_66 => f_X3_common_L66 Fu k_66 n_letters n_starts p1 p2 r8 Fu (nI 0) (n_starts (p1).toNatClampNeg) (fun _ => (nI 0))))))))
def f_X3_tryHeating (Fu : Nat) (n_settings : Ar) (n_letters : Ar) (n_heats : Ar) (n_starts : Ar) (n_families : Ar) (n_generations : Ar) (n_stories : Int32) (n_nextFamily : Int32) (n_splits : Int32) (n_boilings : Int32) (n_fizzles : Int32) (t_settings : Ar) (t_letters : Ar) (t_heats : Ar) (t_starts : Ar) (t_families : Ar) (t_generations : Ar) (t_stories : Int32) (t_nextFamily : Int32) (t_splits : Int32) (t_boilings : Int32) (t_fizzles : Int32) (p1 : Int32) (p2 : Int32) : Option (Int32 × Ar × Ar × Ar × Ar × Ar × Ar × Int32 × Int32 × Int32 × Int32 × Int32) :=
  bd11 (f_X2_copyFrom Fu t_settings t_letters t_heats t_starts t_families t_generations t_stories t_nextFamily t_splits t_boilings t_fizzles n_settings n_letters n_heats n_starts n_families n_generations n_stories n_nextFamily n_splits n_boilings n_fizzles) (fun t_settings_1 t_letters_2 t_heats_3 t_starts_4 t_families_5 t_generations_6 t_stories_7 t_nextFamily_8 t_splits_9 t_boilings_10 t_fizzles_11 =>
  bd1 (f_X2_warm Fu t_heats_3 p1 p2) (fun t_heats_13 =>
  bd9 (f_X2_react Fu t_settings_1 t_heats_13 t_starts_4 t_families_5 t_generations_6 t_stories_7 t_splits_9 t_boilings_10 t_fizzles_11) (fun r15 t_heats_16 t_starts_17 t_families_18 t_generations_19 t_stories_20 t_splits_21 t_boilings_22 t_fizzles_23 =>
  some (r15, t_settings_1, t_letters_2, t_heats_16, t_starts_17, t_families_18, t_generations_19, t_stories_20, t_nextFamily_8, t_splits_21, t_boilings_22, t_fizzles_23))))
def f_X3_ifHeated (Fu : Nat) (n_settings : Ar) (n_letters : Ar) (n_heats : Ar) (n_starts : Ar) (n_families : Ar) (n_generations : Ar) (n_stories : Int32) (n_nextFamily : Int32) (n_splits : Int32) (n_boilings : Int32) (n_fizzles : Int32) (t_settings : Ar) (t_letters : Ar) (t_heats : Ar) (t_starts : Ar) (t_families : Ar) (t_generations : Ar) (t_stories : Int32) (t_nextFamily : Int32) (t_splits : Int32) (t_boilings : Int32) (t_fizzles : Int32) (p1 : Int32) (p2 : Int32) (p3 : Int32) (p4 : Int32) : Option (Int32 × Ar × Ar × Ar × Ar × Ar × Ar × Int32 × Int32 × Int32 × Int32 × Int32) :=
  bd1 (f_X2_hasWord Fu n_starts n_stories p1 p2) (fun r1 =>
  if r1 = 0 then
    some (-1, t_settings, t_letters, t_heats, t_starts, t_families, t_generations, t_stories, t_nextFamily, t_splits, t_boilings, t_fizzles)
  else
    bd1 (f_X3_isWithin Fu p3 (nI 1) (nI 500)) (fun r4 =>
    if r4 = 0 then
      some (-2, t_settings, t_letters, t_heats, t_starts, t_families, t_generations, t_stories, t_nextFamily, t_splits, t_boilings, t_fizzles)
    else
      bd1 (f_X3_isWithin Fu p4 (nI 0) (nI 3)) (fun r7 =>
      if r7 = 0 then
        some (-2, t_settings, t_letters, t_heats, t_starts, t_families, t_generations, t_stories, t_nextFamily, t_splits, t_boilings, t_fizzles)
      else
        gd (ix p1 13) (
        bd12 (f_X3_tryHeating Fu n_settings n_letters n_heats n_starts n_families n_generations n_stories n_nextFamily n_splits n_boilings n_fizzles t_settings t_letters t_heats t_starts t_families t_generations t_stories t_nextFamily t_splits t_boilings t_fizzles ((n_starts (p1).toNatClampNeg) + p2) p3) (fun r11 t_settings_12 t_letters_13 t_heats_14 t_starts_15 t_families_16 t_generations_17 t_stories_18 t_nextFamily_19 t_splits_20 t_boilings_21 t_fizzles_22 =>
        nm (p4) (fun v24 =>
        if v24 = nI 0 then
          some (r11, t_settings_12, t_letters_13, t_heats_14, t_starts_15, t_families_16, t_generations_17, t_stories_18, t_nextFamily_19, t_splits_20, t_boilings_21, t_fizzles_22)
        else
        if v24 = nI 1 then
          some (t_splits_20 - n_splits, t_settings_12, t_letters_13, t_heats_14, t_starts_15, t_families_16, t_generations_17, t_stories_18, t_nextFamily_19, t_splits_20, t_boilings_21, t_fizzles_22)
        else
        if v24 = nI 2 then
          some (t_stories_18, t_settings_12, t_letters_13, t_heats_14, t_starts_15, t_families_16, t_generations_17, t_stories_18, t_nextFamily_19, t_splits_20, t_boilings_21, t_fizzles_22)
        else
          bd1 (f_X2_heatOfAll Fu t_heats_14 t_starts_15 t_stories_18) (fun r25 =>
          some (r25, t_settings_12, t_letters_13, t_heats_14, t_starts_15, t_families_16, t_generations_17, t_stories_18, t_nextFamily_19, t_splits_20, t_boilings_21, t_fizzles_22))))))))
def f_X3_critical_L73 (Fu : Nat) (n_settings : Ar) (n_letters : Ar) (n_heats : Ar) (n_starts : Ar) (n_families : Ar) (n_generations : Ar) (n_stories : Int32) (n_nextFamily : Int32) (n_splits : Int32) (n_boilings : Int32) (n_fizzles : Int32) (v5 : Int32) (v7 : Int32) : Nat → Int32 → Ar → Ar → Ar → Ar → Ar → Ar → Int32 → Int32 → Int32 → Int32 → Int32 → Option (Int32 × Ar × Ar × Ar × Ar × Ar × Ar × Int32 × Int32 × Int32 × Int32 × Int32)
  | 0, _, _, _, _, _, _, _, _, _, _, _, _ => none
  | fu + 1, x12, t_settings_13, t_letters_14, t_heats_15, t_starts_16, t_families_17, t_generations_18, t_stories_19, t_nextFamily_20, t_splits_21, t_boilings_22, t_fizzles_23 =>
    if v7 < x12 then
      some (-6, t_settings_13, t_letters_14, t_heats_15, t_starts_16, t_families_17, t_generations_18, t_stories_19, t_nextFamily_20, t_splits_21, t_boilings_22, t_fizzles_23)
    else
      bd12 (f_X3_tryHeating Fu n_settings n_letters n_heats n_starts n_families n_generations n_stories n_nextFamily n_splits n_boilings n_fizzles t_settings_13 t_letters_14 t_heats_15 t_starts_16 t_families_17 t_generations_18 t_stories_19 t_nextFamily_20 t_splits_21 t_boilings_22 t_fizzles_23 v5 x12) (fun r25 t_settings_26 t_letters_27 t_heats_28 t_starts_29 t_families_30 t_generations_31 t_stories_32 t_nextFamily_33 t_splits_34 t_boilings_35 t_fizzles_36 =>
      if t_splits_34 ≤ n_splits then
        f_X3_critical_L73 Fu n_settings n_letters n_heats n_starts n_families n_generations n_stories n_nextFamily n_splits n_boilings n_fizzles v5 v7 fu (x12 + (nI 1)) t_settings_26 t_letters_27 t_heats_28 t_starts_29 t_families_30 t_generations_31 t_stories_32 t_nextFamily_33 t_splits_34 t_boilings_35 t_fizzles_36
      else
        some (x12, t_settings_26, t_letters_27, t_heats_28, t_starts_29, t_families_30, t_generations_31, t_stories_32, t_nextFamily_33, t_splits_34, t_boilings_35, t_fizzles_36))
theorem f_X3_critical_L73_s (Fu : Nat) (n_settings : Ar) (n_letters : Ar) (n_heats : Ar) (n_starts : Ar) (n_families : Ar) (n_generations : Ar) (n_stories : Int32) (n_nextFamily : Int32) (n_splits : Int32) (n_boilings : Int32) (n_fizzles : Int32) (v5 : Int32) (v7 : Int32) (fu : Nat) (x12 : Int32) (t_settings_13 : Ar) (t_letters_14 : Ar) (t_heats_15 : Ar) (t_starts_16 : Ar) (t_families_17 : Ar) (t_generations_18 : Ar) (t_stories_19 : Int32) (t_nextFamily_20 : Int32) (t_splits_21 : Int32) (t_boilings_22 : Int32) (t_fizzles_23 : Int32) : f_X3_critical_L73 Fu n_settings n_letters n_heats n_starts n_families n_generations n_stories n_nextFamily n_splits n_boilings n_fizzles v5 v7 (fu + 1) x12 t_settings_13 t_letters_14 t_heats_15 t_starts_16 t_families_17 t_generations_18 t_stories_19 t_nextFamily_20 t_splits_21 t_boilings_22 t_fizzles_23 =
    if v7 < x12 then
      some (-6, t_settings_13, t_letters_14, t_heats_15, t_starts_16, t_families_17, t_generations_18, t_stories_19, t_nextFamily_20, t_splits_21, t_boilings_22, t_fizzles_23)
    else
      bd12 (f_X3_tryHeating Fu n_settings n_letters n_heats n_starts n_families n_generations n_stories n_nextFamily n_splits n_boilings n_fizzles t_settings_13 t_letters_14 t_heats_15 t_starts_16 t_families_17 t_generations_18 t_stories_19 t_nextFamily_20 t_splits_21 t_boilings_22 t_fizzles_23 v5 x12) (fun r25 t_settings_26 t_letters_27 t_heats_28 t_starts_29 t_families_30 t_generations_31 t_stories_32 t_nextFamily_33 t_splits_34 t_boilings_35 t_fizzles_36 =>
      if t_splits_34 ≤ n_splits then
        f_X3_critical_L73 Fu n_settings n_letters n_heats n_starts n_families n_generations n_stories n_nextFamily n_splits n_boilings n_fizzles v5 v7 fu (x12 + (nI 1)) t_settings_26 t_letters_27 t_heats_28 t_starts_29 t_families_30 t_generations_31 t_stories_32 t_nextFamily_33 t_splits_34 t_boilings_35 t_fizzles_36
      else
        some (x12, t_settings_26, t_letters_27, t_heats_28, t_starts_29, t_families_30, t_generations_31, t_stories_32, t_nextFamily_33, t_splits_34, t_boilings_35, t_fizzles_36)) := rfl
def f_X3_critical (Fu : Nat) (n_settings : Ar) (n_letters : Ar) (n_heats : Ar) (n_starts : Ar) (n_families : Ar) (n_generations : Ar) (n_stories : Int32) (n_nextFamily : Int32) (n_splits : Int32) (n_boilings : Int32) (n_fizzles : Int32) (t_settings : Ar) (t_letters : Ar) (t_heats : Ar) (t_starts : Ar) (t_families : Ar) (t_generations : Ar) (t_stories : Int32) (t_nextFamily : Int32) (t_splits : Int32) (t_boilings : Int32) (t_fizzles : Int32) (p1 : Int32) (p2 : Int32) : Option (Int32 × Ar × Ar × Ar × Ar × Ar × Ar × Int32 × Int32 × Int32 × Int32 × Int32) :=
  bd1 (f_X2_hasWord Fu n_starts n_stories p1 p2) (fun r1 =>
  if r1 = 0 then
    some (-1, t_settings, t_letters, t_heats, t_starts, t_families, t_generations, t_stories, t_nextFamily, t_splits, t_boilings, t_fizzles)
  else
    gd (ix p1 13) (
    nm (((n_starts (p1).toNatClampNeg) + p2)) (fun v5 =>
    gd (ix v5 150) (
    nm ((jmax (nI 1) ((n_settings 0) - (n_heats (v5).toNatClampNeg)))) (fun v7 =>
    bd1 (f_X2_isCalm Fu n_settings n_heats n_starts n_stories) (fun r8 =>
    nm (if r8 = 0 then (nI 1) else v7) (fun v11 =>
    f_X3_critical_L73 Fu n_settings n_letters n_heats n_starts n_families n_generations n_stories n_nextFamily n_splits n_boilings n_fizzles v5 v7 Fu v11 t_settings t_letters t_heats t_starts t_families t_generations t_stories t_nextFamily t_splits t_boilings t_fizzles)))))))
def f_X3_touchiest_L53 (Fu : Nat) (k_53 : Int32 → Int32 → Ar → Ar → Ar → Ar → Ar → Ar → Int32 → Int32 → Int32 → Int32 → Int32 → Option (Int32 × Ar × Ar × Ar × Ar × Ar × Ar × Int32 × Int32 × Int32 × Int32 × Int32)) (n_settings : Ar) (n_letters : Ar) (n_heats : Ar) (n_starts : Ar) (n_families : Ar) (n_generations : Ar) (n_stories : Int32) (n_nextFamily : Int32) (n_splits : Int32) (n_boilings : Int32) (n_fizzles : Int32) (p1 : Int32) (r8 : Int32) : Nat → Int32 → Int32 → Int32 → Ar → Ar → Ar → Ar → Ar → Ar → Int32 → Int32 → Int32 → Int32 → Int32 → Option (Int32 × Ar × Ar × Ar × Ar × Ar × Ar × Int32 × Int32 × Int32 × Int32 × Int32)
  | 0, _, _, _, _, _, _, _, _, _, _, _, _, _, _ => none
  | fu + 1, x10, x11, x12, t_settings_13, t_letters_14, t_heats_15, t_starts_16, t_families_17, t_generations_18, t_stories_19, t_nextFamily_20, t_splits_21, t_boilings_22, t_fizzles_23 =>
    bd1 (f_X2_words Fu n_starts n_stories) (fun r24 =>
    if r24 ≤ x12 then
      k_53 x10 x11 t_settings_13 t_letters_14 t_heats_15 t_starts_16 t_families_17 t_generations_18 t_stories_19 t_nextFamily_20 t_splits_21 t_boilings_22 t_fizzles_23
    else
      jn (fun (v30 : Int32) =>
        jn (fun (v46 : Int32) (t_settings_47 : Ar) (t_letters_48 : Ar) (t_heats_49 : Ar) (t_starts_50 : Ar) (t_families_51 : Ar) (t_generations_52 : Ar) (t_stories_53 : Int32) (t_nextFamily_54 : Int32) (t_splits_55 : Int32) (t_boilings_56 : Int32) (t_fizzles_57 : Int32) =>
          nm (if v46 ≤ x11 then x10 else x12) (fun v60 =>
          nm (if v46 ≤ x11 then x11 else v46) (fun v61 =>
          f_X3_touchiest_L53 Fu k_53 n_settings n_letters n_heats n_starts n_families n_generations n_stories n_nextFamily n_splits n_boilings n_fizzles p1 r8 fu v60 v61 (x12 + (nI 1)) t_settings_47 t_letters_48 t_heats_49 t_starts_50 t_families_51 t_generations_52 t_stories_53 t_nextFamily_54 t_splits_55 t_boilings_56 t_fizzles_57)))
          (fun j58 =>
          if v30 = 0 then
            bd12 (f_X3_tryHeating Fu n_settings n_letters n_heats n_starts n_families n_generations n_stories n_nextFamily n_splits n_boilings n_fizzles t_settings_13 t_letters_14 t_heats_15 t_starts_16 t_families_17 t_generations_18 t_stories_19 t_nextFamily_20 t_splits_21 t_boilings_22 t_fizzles_23 x12 p1) (fun r33 t_settings_34 t_letters_35 t_heats_36 t_starts_37 t_families_38 t_generations_39 t_stories_40 t_nextFamily_41 t_splits_42 t_boilings_43 t_fizzles_44 =>
            j58 r33 t_settings_34 t_letters_35 t_heats_36 t_starts_37 t_families_38 t_generations_39 t_stories_40 t_nextFamily_41 t_splits_42 t_boilings_43 t_fizzles_44)
          else
            j58 (nI 0) t_settings_13 t_letters_14 t_heats_15 t_starts_16 t_families_17 t_generations_18 t_stories_19 t_nextFamily_20 t_splits_21 t_boilings_22 t_fizzles_23))
        (fun j31 =>
        if r8 = 0 then
          j31 (nI 0)
        else
          gd (ix x12 150) (
          if (n_settings 0) ≤ ((n_heats (x12).toNatClampNeg) + p1) then
            j31 (nI 0)
          else
            j31 (nI 1))))
theorem f_X3_touchiest_L53_s (Fu : Nat) (k_53 : Int32 → Int32 → Ar → Ar → Ar → Ar → Ar → Ar → Int32 → Int32 → Int32 → Int32 → Int32 → Option (Int32 × Ar × Ar × Ar × Ar × Ar × Ar × Int32 × Int32 × Int32 × Int32 × Int32)) (n_settings : Ar) (n_letters : Ar) (n_heats : Ar) (n_starts : Ar) (n_families : Ar) (n_generations : Ar) (n_stories : Int32) (n_nextFamily : Int32) (n_splits : Int32) (n_boilings : Int32) (n_fizzles : Int32) (p1 : Int32) (r8 : Int32) (fu : Nat) (x10 : Int32) (x11 : Int32) (x12 : Int32) (t_settings_13 : Ar) (t_letters_14 : Ar) (t_heats_15 : Ar) (t_starts_16 : Ar) (t_families_17 : Ar) (t_generations_18 : Ar) (t_stories_19 : Int32) (t_nextFamily_20 : Int32) (t_splits_21 : Int32) (t_boilings_22 : Int32) (t_fizzles_23 : Int32) : f_X3_touchiest_L53 Fu k_53 n_settings n_letters n_heats n_starts n_families n_generations n_stories n_nextFamily n_splits n_boilings n_fizzles p1 r8 (fu + 1) x10 x11 x12 t_settings_13 t_letters_14 t_heats_15 t_starts_16 t_families_17 t_generations_18 t_stories_19 t_nextFamily_20 t_splits_21 t_boilings_22 t_fizzles_23 =
    bd1 (f_X2_words Fu n_starts n_stories) (fun r24 =>
    if r24 ≤ x12 then
      k_53 x10 x11 t_settings_13 t_letters_14 t_heats_15 t_starts_16 t_families_17 t_generations_18 t_stories_19 t_nextFamily_20 t_splits_21 t_boilings_22 t_fizzles_23
    else
      jn (fun (v30 : Int32) =>
        jn (fun (v46 : Int32) (t_settings_47 : Ar) (t_letters_48 : Ar) (t_heats_49 : Ar) (t_starts_50 : Ar) (t_families_51 : Ar) (t_generations_52 : Ar) (t_stories_53 : Int32) (t_nextFamily_54 : Int32) (t_splits_55 : Int32) (t_boilings_56 : Int32) (t_fizzles_57 : Int32) =>
          nm (if v46 ≤ x11 then x10 else x12) (fun v60 =>
          nm (if v46 ≤ x11 then x11 else v46) (fun v61 =>
          f_X3_touchiest_L53 Fu k_53 n_settings n_letters n_heats n_starts n_families n_generations n_stories n_nextFamily n_splits n_boilings n_fizzles p1 r8 fu v60 v61 (x12 + (nI 1)) t_settings_47 t_letters_48 t_heats_49 t_starts_50 t_families_51 t_generations_52 t_stories_53 t_nextFamily_54 t_splits_55 t_boilings_56 t_fizzles_57)))
          (fun j58 =>
          if v30 = 0 then
            bd12 (f_X3_tryHeating Fu n_settings n_letters n_heats n_starts n_families n_generations n_stories n_nextFamily n_splits n_boilings n_fizzles t_settings_13 t_letters_14 t_heats_15 t_starts_16 t_families_17 t_generations_18 t_stories_19 t_nextFamily_20 t_splits_21 t_boilings_22 t_fizzles_23 x12 p1) (fun r33 t_settings_34 t_letters_35 t_heats_36 t_starts_37 t_families_38 t_generations_39 t_stories_40 t_nextFamily_41 t_splits_42 t_boilings_43 t_fizzles_44 =>
            j58 r33 t_settings_34 t_letters_35 t_heats_36 t_starts_37 t_families_38 t_generations_39 t_stories_40 t_nextFamily_41 t_splits_42 t_boilings_43 t_fizzles_44)
          else
            j58 (nI 0) t_settings_13 t_letters_14 t_heats_15 t_starts_16 t_families_17 t_generations_18 t_stories_19 t_nextFamily_20 t_splits_21 t_boilings_22 t_fizzles_23))
        (fun j31 =>
        if r8 = 0 then
          j31 (nI 0)
        else
          gd (ix x12 150) (
          if (n_settings 0) ≤ ((n_heats (x12).toNatClampNeg) + p1) then
            j31 (nI 0)
          else
            j31 (nI 1)))) := rfl
def f_X3_touchiest (Fu : Nat) (n_settings : Ar) (n_letters : Ar) (n_heats : Ar) (n_starts : Ar) (n_families : Ar) (n_generations : Ar) (n_stories : Int32) (n_nextFamily : Int32) (n_splits : Int32) (n_boilings : Int32) (n_fizzles : Int32) (t_settings : Ar) (t_letters : Ar) (t_heats : Ar) (t_starts : Ar) (t_families : Ar) (t_generations : Ar) (t_stories : Int32) (t_nextFamily : Int32) (t_splits : Int32) (t_boilings : Int32) (t_fizzles : Int32) (p1 : Int32) (p2 : Int32) : Option (Int32 × Ar × Ar × Ar × Ar × Ar × Ar × Int32 × Int32 × Int32 × Int32 × Int32) :=
  bd1 (f_X3_isWithin Fu p1 (nI 1) (nI 500)) (fun r1 =>
  if r1 = 0 then
    some (-2, t_settings, t_letters, t_heats, t_starts, t_families, t_generations, t_stories, t_nextFamily, t_splits, t_boilings, t_fizzles)
  else
    bd1 (f_X3_isWithin Fu p2 (nI 0) (nI 2)) (fun r4 =>
    if r4 = 0 then
      some (-2, t_settings, t_letters, t_heats, t_starts, t_families, t_generations, t_stories, t_nextFamily, t_splits, t_boilings, t_fizzles)
    else
      if n_stories = 0 then
        some (-6, t_settings, t_letters, t_heats, t_starts, t_families, t_generations, t_stories, t_nextFamily, t_splits, t_boilings, t_fizzles)
      else
        bd1 (f_X2_isCalm Fu n_settings n_heats n_starts n_stories) (fun r8 =>
        jn (fun (v62 : Int32) (v63 : Int32) (t_settings_64 : Ar) (t_letters_65 : Ar) (t_heats_66 : Ar) (t_starts_67 : Ar) (t_families_68 : Ar) (t_generations_69 : Ar) (t_stories_70 : Int32) (t_nextFamily_71 : Int32) (t_splits_72 : Int32) (t_boilings_73 : Int32) (t_fizzles_74 : Int32) =>
          nm (p2) (fun v75 =>
          if v75 = nI 0 then
            bd1 (f_X2_storyAt Fu n_starts n_stories v62) (fun r76 =>
            some (r76, t_settings_64, t_letters_65, t_heats_66, t_starts_67, t_families_68, t_generations_69, t_stories_70, t_nextFamily_71, t_splits_72, t_boilings_73, t_fizzles_74))
          else
          if v75 = nI 1 then
            bd1 (f_X2_placeOf Fu n_starts n_stories v62) (fun r78 =>
            some (r78, t_settings_64, t_letters_65, t_heats_66, t_starts_67, t_families_68, t_generations_69, t_stories_70, t_nextFamily_71, t_splits_72, t_boilings_73, t_fizzles_74))
          else
            some (v63, t_settings_64, t_letters_65, t_heats_66, t_starts_67, t_families_68, t_generations_69, t_stories_70, t_nextFamily_71, t_splits_72, t_boilings_73, t_fizzles_74)))
          (fun k_53 => f_X3_touchiest_L53 Fu k_53 n_settings n_letters n_heats n_starts n_families n_generations n_stories n_nextFamily n_splits n_boilings n_fizzles p1 r8 Fu (nI 0) (-1) (nI 0) t_settings t_letters t_heats t_starts t_families t_generations t_stories t_nextFamily t_splits t_boilings t_fizzles))))
def f_X3_coolestPair_L14 (Fu : Nat) (k_14 : Ar → Ar → Ar → Option (Int32 × Ar × Ar × Ar)) (n_letters : Ar) (n_heats : Ar) (n_starts : Ar) (n_stories : Int32) : Nat → Int32 → Ar → Ar → Ar → Option (Int32 × Ar × Ar × Ar)
  | 0, _, _, _, _ => none
  | fu + 1, x4, q_themes_5, q_storyHeats_6, n_tally_7 =>
    if n_stories ≤ x4 then
      k_14 q_themes_5 q_storyHeats_6 n_tally_7
    else
      bd2 (f_X2_themeOf Fu n_letters n_starts n_tally_7 x4) (fun r9 n_tally_10 =>
      gd (ix x4 12) (
      bd1 (f_X2_heatOf Fu n_heats n_starts x4) (fun r13 =>
      gd (ix x4 12) (
      f_X3_coolestPair_L14 Fu k_14 n_letters n_heats n_starts n_stories fu (x4 + (nI 1)) (upd q_themes_5 (x4).toNatClampNeg r9) (upd q_storyHeats_6 (x4).toNatClampNeg r13) n_tally_10))))
theorem f_X3_coolestPair_L14_s (Fu : Nat) (k_14 : Ar → Ar → Ar → Option (Int32 × Ar × Ar × Ar)) (n_letters : Ar) (n_heats : Ar) (n_starts : Ar) (n_stories : Int32) (fu : Nat) (x4 : Int32) (q_themes_5 : Ar) (q_storyHeats_6 : Ar) (n_tally_7 : Ar) : f_X3_coolestPair_L14 Fu k_14 n_letters n_heats n_starts n_stories (fu + 1) x4 q_themes_5 q_storyHeats_6 n_tally_7 =
    if n_stories ≤ x4 then
      k_14 q_themes_5 q_storyHeats_6 n_tally_7
    else
      bd2 (f_X2_themeOf Fu n_letters n_starts n_tally_7 x4) (fun r9 n_tally_10 =>
      gd (ix x4 12) (
      bd1 (f_X2_heatOf Fu n_heats n_starts x4) (fun r13 =>
      gd (ix x4 12) (
      f_X3_coolestPair_L14 Fu k_14 n_letters n_heats n_starts n_stories fu (x4 + (nI 1)) (upd q_themes_5 (x4).toNatClampNeg r9) (upd q_storyHeats_6 (x4).toNatClampNeg r13) n_tally_10)))) := rfl
def f_X3_coolestPair_L89 (Fu : Nat) (k_89 : Int32 → Int32 → Int32 → Option (Int32 × Ar × Ar × Ar)) (n_stories : Int32) (q_themes_16 : Ar) (q_storyHeats_17 : Ar) (x22 : Int32) : Nat → Int32 → Int32 → Int32 → Int32 → Option (Int32 × Ar × Ar × Ar)
  | 0, _, _, _, _ => none
  | fu + 1, x24, x25, x26, x27 =>
    if n_stories ≤ x27 then
      k_89 x24 x25 x26
    else
      gd (ix x22 12) (
      gd (ix x27 12) (
      nm (((q_storyHeats_17 (x22).toNatClampNeg) + (q_storyHeats_17 (x27).toNatClampNeg))) (fun v31 =>
      gd (ix x22 12) (
      gd (ix x27 12) (
      nm (if (q_themes_16 (x22).toNatClampNeg) = (q_themes_16 (x27).toNatClampNeg) then (if x24 = (-6) then x22 else (if x26 ≤ v31 then x24 else x22)) else x24) (fun v37 =>
      nm (if (q_themes_16 (x22).toNatClampNeg) = (q_themes_16 (x27).toNatClampNeg) then (if x24 = (-6) then x27 else (if x26 ≤ v31 then x25 else x27)) else x25) (fun v38 =>
      nm (if (q_themes_16 (x22).toNatClampNeg) = (q_themes_16 (x27).toNatClampNeg) then (if x24 = (-6) then v31 else (if x26 ≤ v31 then x26 else v31)) else x26) (fun v39 =>
      f_X3_coolestPair_L89 Fu k_89 n_stories q_themes_16 q_storyHeats_17 x22 fu v37 v38 v39 (x27 + (nI 1))))))))))
theorem f_X3_coolestPair_L89_s (Fu : Nat) (k_89 : Int32 → Int32 → Int32 → Option (Int32 × Ar × Ar × Ar)) (n_stories : Int32) (q_themes_16 : Ar) (q_storyHeats_17 : Ar) (x22 : Int32) (fu : Nat) (x24 : Int32) (x25 : Int32) (x26 : Int32) (x27 : Int32) : f_X3_coolestPair_L89 Fu k_89 n_stories q_themes_16 q_storyHeats_17 x22 (fu + 1) x24 x25 x26 x27 =
    if n_stories ≤ x27 then
      k_89 x24 x25 x26
    else
      gd (ix x22 12) (
      gd (ix x27 12) (
      nm (((q_storyHeats_17 (x22).toNatClampNeg) + (q_storyHeats_17 (x27).toNatClampNeg))) (fun v31 =>
      gd (ix x22 12) (
      gd (ix x27 12) (
      nm (if (q_themes_16 (x22).toNatClampNeg) = (q_themes_16 (x27).toNatClampNeg) then (if x24 = (-6) then x22 else (if x26 ≤ v31 then x24 else x22)) else x24) (fun v37 =>
      nm (if (q_themes_16 (x22).toNatClampNeg) = (q_themes_16 (x27).toNatClampNeg) then (if x24 = (-6) then x27 else (if x26 ≤ v31 then x25 else x27)) else x25) (fun v38 =>
      nm (if (q_themes_16 (x22).toNatClampNeg) = (q_themes_16 (x27).toNatClampNeg) then (if x24 = (-6) then v31 else (if x26 ≤ v31 then x26 else v31)) else x26) (fun v39 =>
      f_X3_coolestPair_L89 Fu k_89 n_stories q_themes_16 q_storyHeats_17 x22 fu v37 v38 v39 (x27 + (nI 1)))))))))) := rfl
def f_X3_coolestPair_L71 (Fu : Nat) (k_71 : Int32 → Int32 → Option (Int32 × Ar × Ar × Ar)) (n_stories : Int32) (q_themes_16 : Ar) (q_storyHeats_17 : Ar) : Nat → Int32 → Int32 → Int32 → Int32 → Option (Int32 × Ar × Ar × Ar)
  | 0, _, _, _, _ => none
  | fu + 1, x19, x20, x21, x22 =>
    if n_stories ≤ x22 then
      k_71 x19 x20
    else
      jn (fun (v40 : Int32) (v41 : Int32) (v42 : Int32) =>
        f_X3_coolestPair_L71 Fu k_71 n_stories q_themes_16 q_storyHeats_17 fu v40 v41 v42 (x22 + (nI 1)))
        (fun k_89 => f_X3_coolestPair_L89 Fu k_89 n_stories q_themes_16 q_storyHeats_17 x22 Fu x19 x20 x21 (x22 + (nI 1)))
theorem f_X3_coolestPair_L71_s (Fu : Nat) (k_71 : Int32 → Int32 → Option (Int32 × Ar × Ar × Ar)) (n_stories : Int32) (q_themes_16 : Ar) (q_storyHeats_17 : Ar) (fu : Nat) (x19 : Int32) (x20 : Int32) (x21 : Int32) (x22 : Int32) : f_X3_coolestPair_L71 Fu k_71 n_stories q_themes_16 q_storyHeats_17 (fu + 1) x19 x20 x21 x22 =
    if n_stories ≤ x22 then
      k_71 x19 x20
    else
      jn (fun (v40 : Int32) (v41 : Int32) (v42 : Int32) =>
        f_X3_coolestPair_L71 Fu k_71 n_stories q_themes_16 q_storyHeats_17 fu v40 v41 v42 (x22 + (nI 1)))
        (fun k_89 => f_X3_coolestPair_L89 Fu k_89 n_stories q_themes_16 q_storyHeats_17 x22 Fu x19 x20 x21 (x22 + (nI 1))) := rfl
def f_X3_coolestPair (Fu : Nat) (q_themes : Ar) (q_storyHeats : Ar) (n_letters : Ar) (n_heats : Ar) (n_starts : Ar) (n_tally : Ar) (n_stories : Int32) (p1 : Int32) : Option (Int32 × Ar × Ar × Ar) :=
  bd1 (f_X3_isWithin Fu p1 (nI 0) (nI 1)) (fun r1 =>
  if r1 = 0 then
    some (-2, q_themes, q_storyHeats, n_tally)
  else
    jn (fun (q_themes_16 : Ar) (q_storyHeats_17 : Ar) (n_tally_18 : Ar) =>
      jn (fun (v43 : Int32) (v44 : Int32) =>
        nm (if p1 = 0 then v43 else v44) (fun v46 =>
        some (v46, q_themes_16, q_storyHeats_17, n_tally_18)))
        (fun k_71 => f_X3_coolestPair_L71 Fu k_71 n_stories q_themes_16 q_storyHeats_17 Fu (-6) (-6) (nI 0) (nI 0)))
      (fun k_14 => f_X3_coolestPair_L14 Fu k_14 n_letters n_heats n_starts n_stories Fu (nI 0) q_themes q_storyHeats n_tally))
def f_X3_put (Fu : Nat) (p_characters : Ar) (p_length : Int32) (p1 : Int64) : Option (Int32 × Ar × Int32) :=
  bd1 (f_X1_charactersIn Fu p1) (fun r1 =>
  if r1 = 0 then
    some (-2, p_characters, p_length)
  else
    if (p_length + r1) ≤ (nI 60) then
      bd2 (f_X1_add Fu p_characters p_length p1 r1) (fun p_characters_5 p_length_6 =>
      some (p_length_6, p_characters_5, p_length_6))
    else
      some (-4, p_characters, p_length))
def f_X3_wipe (Fu : Nat) (p_length : Int32) : Option (Int32 × Int32) :=
  some (p_length, nI 0)
def f_X3_fault (Fu : Nat) (p_characters : Ar) (p_length : Int32) : Option Int32 :=
  bd1 (f_X1_firstFault Fu p_characters p_length) (fun r1 =>
  some (r1))
def f_X3_undo (Fu : Nat) (n_settings : Ar) (n_letters : Ar) (n_heats : Ar) (n_starts : Ar) (n_families : Ar) (n_generations : Ar) (n_stories : Int32) (n_nextFamily : Int32) (n_splits : Int32) (n_boilings : Int32) (n_fizzles : Int32) (h_v : (Nat → SV)) (h_oldest : Int32) (h_size : Int32) : Option (Int32 × Ar × Ar × Ar × Ar × Ar × Ar × Int32 × Int32 × Int32 × Int32 × Int32 × Int32) :=
  if h_size = 0 then
    some (-5, n_settings, n_letters, n_heats, n_starts, n_families, n_generations, n_stories, n_nextFamily, n_splits, n_boilings, n_fizzles, h_size)
  else
    bd12 (f_X0_takeBack Fu h_v h_oldest h_size n_settings n_letters n_heats n_starts n_families n_generations n_stories n_nextFamily n_splits n_boilings n_fizzles) (fun h_size_2 n_settings_3 n_letters_4 n_heats_5 n_starts_6 n_families_7 n_generations_8 n_stories_9 n_nextFamily_10 n_splits_11 n_boilings_12 n_fizzles_13 =>
    some (h_size_2, n_settings_3, n_letters_4, n_heats_5, n_starts_6, n_families_7, n_generations_8, n_stories_9, n_nextFamily_10, n_splits_11, n_boilings_12, n_fizzles_13, h_size_2))
def f_X3_save (Fu : Nat) (q_saved : Ar) (n_settings : Ar) (n_letters : Ar) (n_heats : Ar) (n_starts : Ar) (n_families : Ar) (n_generations : Ar) (n_stories : Int32) (n_nextFamily : Int32) (n_splits : Int32) (n_boilings : Int32) (n_fizzles : Int32) (s_v : (Nat → SV)) (p1 : Int32) : Option (Int32 × Ar × (Nat → SV)) :=
  bd1 (f_X3_isWithin Fu p1 (nI 0) (nI 1)) (fun r1 =>
  if r1 = 0 then
    some (-2, q_saved, s_v)
  else
    gd (ix p1 2) (
    nm ((p1).toNatClampNeg) (fun i5 =>
    bd11 (f_X2_copyFrom Fu (sv_settings (s_v i5)) (sv_letters (s_v i5)) (sv_heats (s_v i5)) (sv_starts (s_v i5)) (sv_families (s_v i5)) (sv_generations (s_v i5)) (sv_stories (s_v i5)) (sv_nextFamily (s_v i5)) (sv_splits (s_v i5)) (sv_boilings (s_v i5)) (sv_fizzles (s_v i5)) n_settings n_letters n_heats n_starts n_families n_generations n_stories n_nextFamily n_splits n_boilings n_fizzles) (fun z_settings_6 z_letters_7 z_heats_8 z_starts_9 z_families_10 z_generations_11 z_stories_12 z_nextFamily_13 z_splits_14 z_boilings_15 z_fizzles_16 =>
    nm ((va_up s_v i5 (mkSV z_settings_6 z_letters_7 z_heats_8 z_starts_9 z_families_10 z_generations_11 (sv_tally (s_v i5)) z_stories_12 z_nextFamily_13 z_splits_14 z_boilings_15 z_fizzles_16))) (fun (s_v_18 : (Nat → SV)) =>
    gd (ix p1 2) (
    some (n_stories, upd q_saved (p1).toNatClampNeg (nI 1), s_v_18)))))))
def f_X3_restore (Fu : Nat) (q_saved : Ar) (n_settings : Ar) (n_letters : Ar) (n_heats : Ar) (n_starts : Ar) (n_families : Ar) (n_generations : Ar) (n_stories : Int32) (n_nextFamily : Int32) (n_splits : Int32) (n_boilings : Int32) (n_fizzles : Int32) (h_v : (Nat → SV)) (h_oldest : Int32) (h_size : Int32) (s_v : (Nat → SV)) (p1 : Int32) : Option (Int32 × Ar × Ar × Ar × Ar × Ar × Ar × Int32 × Int32 × Int32 × Int32 × Int32 × (Nat → SV) × Int32 × Int32) :=
  bd1 (f_X3_isWithin Fu p1 (nI 0) (nI 1)) (fun r1 =>
  if r1 = 0 then
    some (-2, n_settings, n_letters, n_heats, n_starts, n_families, n_generations, n_stories, n_nextFamily, n_splits, n_boilings, n_fizzles, h_v, h_oldest, h_size)
  else
    gd (ix p1 2) (
    if (q_saved (p1).toNatClampNeg) = 0 then
      some (-5, n_settings, n_letters, n_heats, n_starts, n_families, n_generations, n_stories, n_nextFamily, n_splits, n_boilings, n_fizzles, h_v, h_oldest, h_size)
    else
      bd3 (f_X0_record Fu h_v h_oldest h_size n_settings n_letters n_heats n_starts n_families n_generations n_stories n_nextFamily n_splits n_boilings n_fizzles) (fun h_v_6 h_oldest_7 h_size_8 =>
      gd (ix p1 2) (
      nm ((p1).toNatClampNeg) (fun i11 =>
      bd11 (f_X2_copyFrom Fu n_settings n_letters n_heats n_starts n_families n_generations n_stories n_nextFamily n_splits n_boilings n_fizzles (sv_settings (s_v i11)) (sv_letters (s_v i11)) (sv_heats (s_v i11)) (sv_starts (s_v i11)) (sv_families (s_v i11)) (sv_generations (s_v i11)) (sv_stories (s_v i11)) (sv_nextFamily (s_v i11)) (sv_splits (s_v i11)) (sv_boilings (s_v i11)) (sv_fizzles (s_v i11))) (fun n_settings_12 n_letters_13 n_heats_14 n_starts_15 n_families_16 n_generations_17 n_stories_18 n_nextFamily_19 n_splits_20 n_boilings_21 n_fizzles_22 =>
      some (n_stories_18, n_settings_12, n_letters_13, n_heats_14, n_starts_15, n_families_16, n_generations_17, n_stories_18, n_nextFamily_19, n_splits_20, n_boilings_21, n_fizzles_22, h_v_6, h_oldest_7, h_size_8)))))))
def f_X4_in (Fu : Nat) (p0 : Int32) (p1 : Int32) (p2 : Int32) : Option Int32 :=
  nm (if p0 < p1 then (nI 0) else (if p2 < p0 then (nI 0) else nI 1)) (fun v3 =>
  gd (bz v3) (some (v3)))
def f_X4_isStory (Fu : Nat) (q_s : Ar) (p1 : Int32) : Option Int32 :=
  bd1 (f_X4_in Fu p1 (nI 0) ((q_s 3) - (nI 1))) (fun r1 =>
  gd (bz r1) (some (r1)))
def f_X4_isWord (Fu : Nat) (q_s : Ar) (p1 : Int32) (p2 : Int32) : Option Int32 :=
  bd1 (f_X4_isStory Fu q_s p1) (fun r1 =>
  jn (fun (v8 : Int32) =>
    gd (bz v8) (some (v8)))
    (fun j9 =>
    if r1 = 0 then
      j9 (nI 0)
    else
      gd (ix ((nI 9) + p1) 345) (
      bd1 (f_X4_in Fu p2 (nI 0) ((q_s ((nI 9) + p1).toNatClampNeg) - (nI 1))) (fun r5 =>
      if r5 = 0 then
        j9 (nI 0)
      else
        j9 (nI 1)))))
def f_X4_first_L4 (Fu : Nat) (k_4 : Int32 → Option Int32) (q_s : Ar) (p1 : Int32) : Nat → Int32 → Int32 → Option Int32
  | 0, _, _ => none
  | fu + 1, x1, x2 =>
    if p1 ≤ x2 then
      k_4 x1
    else
      gd (ix ((nI 9) + x2) 345) (
      nm ((x1 + (q_s ((nI 9) + x2).toNatClampNeg))) (fun v5 =>
      f_X4_first_L4 Fu k_4 q_s p1 fu v5 (x2 + (nI 1))))
theorem f_X4_first_L4_s (Fu : Nat) (k_4 : Int32 → Option Int32) (q_s : Ar) (p1 : Int32) (fu : Nat) (x1 : Int32) (x2 : Int32) : f_X4_first_L4 Fu k_4 q_s p1 (fu + 1) x1 x2 =
    if p1 ≤ x2 then
      k_4 x1
    else
      gd (ix ((nI 9) + x2) 345) (
      nm ((x1 + (q_s ((nI 9) + x2).toNatClampNeg))) (fun v5 =>
      f_X4_first_L4 Fu k_4 q_s p1 fu v5 (x2 + (nI 1)))) := rfl
def f_X4_first (Fu : Nat) (q_s : Ar) (p1 : Int32) : Option Int32 :=
  jn (fun (v6 : Int32) =>
    some (v6))
    (fun k_4 => f_X4_first_L4 Fu k_4 q_s p1 Fu (nI 0) (nI 0))
def f_X4_know_L52 (Fu : Nat) (k_52 : Ar → Option (Ar × Int32)) (q_s : Ar) (q_known_10 : Int32) : Nat → Int32 → Ar → Option (Ar × Int32)
  | 0, _, _ => none
  | fu + 1, x12, q_before_13 =>
    if (nI 345) ≤ x12 then
      k_52 q_before_13
    else
      gd (ix x12 345) (
      gd (ix (((nI 345) * q_known_10) + x12) 2070) (
      nm ((upd q_before_13 (((nI 345) * q_known_10) + x12).toNatClampNeg (q_s (x12).toNatClampNeg))) (fun (q_before_17 : Ar) =>
      f_X4_know_L52 Fu k_52 q_s q_known_10 fu (x12 + (nI 1)) q_before_17)))
theorem f_X4_know_L52_s (Fu : Nat) (k_52 : Ar → Option (Ar × Int32)) (q_s : Ar) (q_known_10 : Int32) (fu : Nat) (x12 : Int32) (q_before_13 : Ar) : f_X4_know_L52 Fu k_52 q_s q_known_10 (fu + 1) x12 q_before_13 =
    if (nI 345) ≤ x12 then
      k_52 q_before_13
    else
      gd (ix x12 345) (
      gd (ix (((nI 345) * q_known_10) + x12) 2070) (
      nm ((upd q_before_13 (((nI 345) * q_known_10) + x12).toNatClampNeg (q_s (x12).toNatClampNeg))) (fun (q_before_17 : Ar) =>
      f_X4_know_L52 Fu k_52 q_s q_known_10 fu (x12 + (nI 1)) q_before_17))) := rfl
def f_X4_know_L11 (Fu : Nat) (k_11 : Ar → Option (Ar × Int32)) : Nat → Int32 → Ar → Option (Ar × Int32)
  | 0, _, _ => none
  | fu + 1, x2, q_before_3 =>
    if (nI 1725) ≤ x2 then
      k_11 q_before_3
    else
      gd (ix ((nI 345) + x2) 2070) (
      gd (ix x2 2070) (
      nm ((upd q_before_3 (x2).toNatClampNeg (q_before_3 ((nI 345) + x2).toNatClampNeg))) (fun (q_before_7 : Ar) =>
      f_X4_know_L11 Fu k_11 fu (x2 + (nI 1)) q_before_7)))
theorem f_X4_know_L11_s (Fu : Nat) (k_11 : Ar → Option (Ar × Int32)) (fu : Nat) (x2 : Int32) (q_before_3 : Ar) : f_X4_know_L11 Fu k_11 (fu + 1) x2 q_before_3 =
    if (nI 1725) ≤ x2 then
      k_11 q_before_3
    else
      gd (ix ((nI 345) + x2) 2070) (
      gd (ix x2 2070) (
      nm ((upd q_before_3 (x2).toNatClampNeg (q_before_3 ((nI 345) + x2).toNatClampNeg))) (fun (q_before_7 : Ar) =>
      f_X4_know_L11 Fu k_11 fu (x2 + (nI 1)) q_before_7))) := rfl
def f_X4_know (Fu : Nat) (q_s : Ar) (q_before : Ar) (q_known : Int32) : Option (Ar × Int32) :=
  jn (fun (q_before_9 : Ar) (q_known_10 : Int32) =>
    jn (fun (q_before_18 : Ar) =>
      some (q_before_18, q_known_10 + (nI 1)))
      (fun k_52 => f_X4_know_L52 Fu k_52 q_s q_known_10 Fu (nI 0) q_before_9))
    (fun j11 =>
    if q_known = (nI 6) then
      jn (fun (q_before_8 : Ar) =>
        j11 q_before_8 (q_known - (nI 1)))
        (fun k_11 => f_X4_know_L11 Fu k_11 Fu (nI 0) q_before)
    else
      j11 q_before q_known)
def f_X4_putAside_L2 (Fu : Nat) (k_2 : Ar → Option Ar) (q_s : Ar) : Nat → Int32 → Ar → Option Ar
  | 0, _, _ => none
  | fu + 1, x1, q_aside_2 =>
    if (nI 345) ≤ x1 then
      k_2 q_aside_2
    else
      gd (ix x1 345) (
      gd (ix x1 345) (
      f_X4_putAside_L2 Fu k_2 q_s fu (x1 + (nI 1)) (upd q_aside_2 (x1).toNatClampNeg (q_s (x1).toNatClampNeg))))
theorem f_X4_putAside_L2_s (Fu : Nat) (k_2 : Ar → Option Ar) (q_s : Ar) (fu : Nat) (x1 : Int32) (q_aside_2 : Ar) : f_X4_putAside_L2 Fu k_2 q_s (fu + 1) x1 q_aside_2 =
    if (nI 345) ≤ x1 then
      k_2 q_aside_2
    else
      gd (ix x1 345) (
      gd (ix x1 345) (
      f_X4_putAside_L2 Fu k_2 q_s fu (x1 + (nI 1)) (upd q_aside_2 (x1).toNatClampNeg (q_s (x1).toNatClampNeg)))) := rfl
def f_X4_putAside (Fu : Nat) (q_s : Ar) (q_aside : Ar) : Option Ar :=
  jn (fun (q_aside_6 : Ar) =>
    some (q_aside_6))
    (fun k_2 => f_X4_putAside_L2 Fu k_2 q_s Fu (nI 0) q_aside)
def f_X4_putBack_L2 (Fu : Nat) (k_2 : Ar → Option Ar) (q_aside : Ar) : Nat → Int32 → Ar → Option Ar
  | 0, _, _ => none
  | fu + 1, x1, q_s_2 =>
    if (nI 345) ≤ x1 then
      k_2 q_s_2
    else
      gd (ix x1 345) (
      gd (ix x1 345) (
      f_X4_putBack_L2 Fu k_2 q_aside fu (x1 + (nI 1)) (upd q_s_2 (x1).toNatClampNeg (q_aside (x1).toNatClampNeg))))
theorem f_X4_putBack_L2_s (Fu : Nat) (k_2 : Ar → Option Ar) (q_aside : Ar) (fu : Nat) (x1 : Int32) (q_s_2 : Ar) : f_X4_putBack_L2 Fu k_2 q_aside (fu + 1) x1 q_s_2 =
    if (nI 345) ≤ x1 then
      k_2 q_s_2
    else
      gd (ix x1 345) (
      gd (ix x1 345) (
      f_X4_putBack_L2 Fu k_2 q_aside fu (x1 + (nI 1)) (upd q_s_2 (x1).toNatClampNeg (q_aside (x1).toNatClampNeg)))) := rfl
def f_X4_putBack (Fu : Nat) (q_s : Ar) (q_aside : Ar) : Option Ar :=
  jn (fun (q_s_6 : Ar) =>
    some (q_s_6))
    (fun k_2 => f_X4_putBack_L2 Fu k_2 q_aside Fu (nI 0) q_s)
def f_X4_warm (Fu : Nat) (q_s : Ar) (p1 : Int32) (p2 : Int32) : Option Ar :=
  gd (ix ((nI 195) + p1) 345) (
  nm (((q_s ((nI 195) + p1).toNatClampNeg) + p2)) (fun v2 =>
  nm (if v2 ≤ (nI 999) then v2 else nI 999) (fun v4 =>
  gd (ix ((nI 195) + p1) 345) (
  some (upd q_s ((nI 195) + p1).toNatClampNeg v4)))))
def f_X4_storyOf_L4 (Fu : Nat) (k_4 : Int32 → Option Int32) (q_s : Ar) : Nat → Int32 → Int32 → Option Int32
  | 0, _, _ => none
  | fu + 1, x1, x2 =>
    gd (ix ((nI 9) + x1) 345) (
    if x2 < (q_s ((nI 9) + x1).toNatClampNeg) then
      k_4 x1
    else
      gd (ix ((nI 9) + x1) 345) (
      nm ((x2 - (q_s ((nI 9) + x1).toNatClampNeg))) (fun v6 =>
      f_X4_storyOf_L4 Fu k_4 q_s fu (x1 + (nI 1)) v6)))
theorem f_X4_storyOf_L4_s (Fu : Nat) (k_4 : Int32 → Option Int32) (q_s : Ar) (fu : Nat) (x1 : Int32) (x2 : Int32) : f_X4_storyOf_L4 Fu k_4 q_s (fu + 1) x1 x2 =
    gd (ix ((nI 9) + x1) 345) (
    if x2 < (q_s ((nI 9) + x1).toNatClampNeg) then
      k_4 x1
    else
      gd (ix ((nI 9) + x1) 345) (
      nm ((x2 - (q_s ((nI 9) + x1).toNatClampNeg))) (fun v6 =>
      f_X4_storyOf_L4 Fu k_4 q_s fu (x1 + (nI 1)) v6))) := rfl
def f_X4_storyOf (Fu : Nat) (q_s : Ar) (p1 : Int32) : Option Int32 :=
  jn (fun (v7 : Int32) =>
    some (v7))
    (fun k_4 => f_X4_storyOf_L4 Fu k_4 q_s Fu (nI 0) p1)
def f_X4_split_L7 (Fu : Nat) (k_7 : Ar → Option Ar) (p1 : Int32) : Nat → Int32 → Ar → Option Ar
  | 0, _, _ => none
  | fu + 1, x1, q_s_2 =>
    if x1 ≤ (p1 + (nI 1)) then
      k_7 q_s_2
    else
      gd (ix (((nI 9) + x1) - (nI 1)) 345) (
      gd (ix ((nI 9) + x1) 345) (
      nm ((upd q_s_2 ((nI 9) + x1).toNatClampNeg (q_s_2 (((nI 9) + x1) - (nI 1)).toNatClampNeg))) (fun (q_s_6 : Ar) =>
      gd (ix (((nI 21) + x1) - (nI 1)) 345) (
      gd (ix ((nI 21) + x1) 345) (
      nm ((upd q_s_6 ((nI 21) + x1).toNatClampNeg (q_s_6 (((nI 21) + x1) - (nI 1)).toNatClampNeg))) (fun (q_s_9 : Ar) =>
      gd (ix (((nI 33) + x1) - (nI 1)) 345) (
      gd (ix ((nI 33) + x1) 345) (
      nm ((upd q_s_9 ((nI 33) + x1).toNatClampNeg (q_s_9 (((nI 33) + x1) - (nI 1)).toNatClampNeg))) (fun (q_s_12 : Ar) =>
      f_X4_split_L7 Fu k_7 p1 fu (x1 + (-1)) q_s_12)))))))))
theorem f_X4_split_L7_s (Fu : Nat) (k_7 : Ar → Option Ar) (p1 : Int32) (fu : Nat) (x1 : Int32) (q_s_2 : Ar) : f_X4_split_L7 Fu k_7 p1 (fu + 1) x1 q_s_2 =
    if x1 ≤ (p1 + (nI 1)) then
      k_7 q_s_2
    else
      gd (ix (((nI 9) + x1) - (nI 1)) 345) (
      gd (ix ((nI 9) + x1) 345) (
      nm ((upd q_s_2 ((nI 9) + x1).toNatClampNeg (q_s_2 (((nI 9) + x1) - (nI 1)).toNatClampNeg))) (fun (q_s_6 : Ar) =>
      gd (ix (((nI 21) + x1) - (nI 1)) 345) (
      gd (ix ((nI 21) + x1) 345) (
      nm ((upd q_s_6 ((nI 21) + x1).toNatClampNeg (q_s_6 (((nI 21) + x1) - (nI 1)).toNatClampNeg))) (fun (q_s_9 : Ar) =>
      gd (ix (((nI 33) + x1) - (nI 1)) 345) (
      gd (ix ((nI 33) + x1) 345) (
      nm ((upd q_s_9 ((nI 33) + x1).toNatClampNeg (q_s_9 (((nI 33) + x1) - (nI 1)).toNatClampNeg))) (fun (q_s_12 : Ar) =>
      f_X4_split_L7 Fu k_7 p1 fu (x1 + (-1)) q_s_12))))))))) := rfl
def f_X4_split (Fu : Nat) (q_s : Ar) (p1 : Int32) (p2 : Int32) : Option Ar :=
  jn (fun (q_s_13 : Ar) =>
    gd (ix ((nI 9) + p1) 345) (
    gd (ix (((nI 9) + p1) + (nI 1)) 345) (
    nm ((upd q_s_13 (((nI 9) + p1) + (nI 1)).toNatClampNeg ((q_s_13 ((nI 9) + p1).toNatClampNeg) - p2))) (fun (q_s_16 : Ar) =>
    gd (ix ((nI 9) + p1) 345) (
    gd (ix ((nI 21) + p1) 345) (
    gd (ix (((nI 21) + p1) + (nI 1)) 345) (
    nm ((upd (upd q_s_16 ((nI 9) + p1).toNatClampNeg p2) (((nI 21) + p1) + (nI 1)).toNatClampNeg ((upd q_s_16 ((nI 9) + p1).toNatClampNeg p2) ((nI 21) + p1).toNatClampNeg))) (fun (q_s_20 : Ar) =>
    gd (ix ((nI 33) + p1) 345) (
    gd (ix (((nI 33) + p1) + (nI 1)) 345) (
    nm ((upd q_s_20 (((nI 33) + p1) + (nI 1)).toNatClampNeg ((q_s_20 ((nI 33) + p1).toNatClampNeg) + (nI 1)))) (fun (q_s_23 : Ar) =>
    some (upd q_s_23 3 ((q_s_23 3) + (nI 1))))))))))))))
    (fun k_7 => f_X4_split_L7 Fu k_7 p1 Fu (q_s 3) q_s)
def f_X4_reactOne (Fu : Nat) (q_s : Ar) (p1 : Int32) : Option Ar :=
  bd1 (f_X4_storyOf Fu q_s p1) (fun r1 =>
  bd1 (f_X4_first Fu q_s r1) (fun r3 =>
  gd (ix ((nI 9) + r1) 345) (
  nm (if (p1 - r3) = ((q_s ((nI 9) + r1).toNatClampNeg) - (nI 1)) then (nI 1) else nI 0) (fun v7 =>
  gd (ix ((nI 195) + p1) 345) (
  jn (fun (q_s_16 : Ar) =>
    jn (fun (q_s_21 : Ar) =>
      jn (fun (q_s_26 : Ar) =>
        some (q_s_26))
        (fun j27 =>
        if v7 = 0 then
          bd1 (f_X4_warm Fu q_s_21 (p1 + (nI 1)) (q_s_21 1)) (fun q_s_24 =>
          j27 q_s_24)
        else
          j27 q_s_21))
      (fun j22 =>
      if (p1 - r3) ≤ 0 then
        j22 q_s_16
      else
        bd1 (f_X4_warm Fu q_s_16 (p1 - (nI 1)) (q_s_16 1)) (fun q_s_19 =>
        j22 q_s_19)))
    (fun j17 =>
    if (p1 - r3) = 0 then
      nm ((upd (upd q_s ((nI 195) + p1).toNatClampNeg (nI 0)) 7 (((upd q_s ((nI 195) + p1).toNatClampNeg (nI 0)) 7) + (nI 1)))) (fun (q_s_15 : Ar) =>
      j17 q_s_15)
    else
      if (nI 12) ≤ ((upd q_s ((nI 195) + p1).toNatClampNeg (nI 0)) 3) then
        nm ((upd (upd q_s ((nI 195) + p1).toNatClampNeg (nI 0)) 8 (((upd q_s ((nI 195) + p1).toNatClampNeg (nI 0)) 8) + (nI 1)))) (fun (q_s_11 : Ar) =>
        j17 q_s_11)
      else
        nm ((upd (upd q_s ((nI 195) + p1).toNatClampNeg (nI 0)) 6 (((upd q_s ((nI 195) + p1).toNatClampNeg (nI 0)) 6) + (nI 1)))) (fun (q_s_12 : Ar) =>
        bd1 (f_X4_split Fu q_s_12 r1 (p1 - r3)) (fun q_s_13 =>
        j17 q_s_13))))))))
def f_X4_react_L4 (Fu : Nat) (k_4 : Int32 → Ar → Option (Int32 × Ar)) : Nat → Int32 → Int32 → Ar → Option (Int32 × Ar)
  | 0, _, _, _ => none
  | fu + 1, x1, x2, q_s_3 =>
    if (q_s_3 4) ≤ x2 then
      k_4 x1 q_s_3
    else
      gd (ix ((nI 195) + x2) 345) (
      if (q_s_3 ((nI 195) + x2).toNatClampNeg) < (q_s_3 0) then
        f_X4_react_L4 Fu k_4 fu x1 (x2 + (nI 1)) q_s_3
      else
        bd1 (f_X4_reactOne Fu q_s_3 x2) (fun q_s_7 =>
        f_X4_react_L4 Fu k_4 fu (x1 + (nI 1)) (nI 0) q_s_7))
theorem f_X4_react_L4_s (Fu : Nat) (k_4 : Int32 → Ar → Option (Int32 × Ar)) (fu : Nat) (x1 : Int32) (x2 : Int32) (q_s_3 : Ar) : f_X4_react_L4 Fu k_4 (fu + 1) x1 x2 q_s_3 =
    if (q_s_3 4) ≤ x2 then
      k_4 x1 q_s_3
    else
      gd (ix ((nI 195) + x2) 345) (
      if (q_s_3 ((nI 195) + x2).toNatClampNeg) < (q_s_3 0) then
        f_X4_react_L4 Fu k_4 fu x1 (x2 + (nI 1)) q_s_3
      else
        bd1 (f_X4_reactOne Fu q_s_3 x2) (fun q_s_7 =>
        f_X4_react_L4 Fu k_4 fu (x1 + (nI 1)) (nI 0) q_s_7)) := rfl
def f_X4_react (Fu : Nat) (q_s : Ar) : Option (Int32 × Ar) :=
  jn (fun (v9 : Int32) (q_s_10 : Ar) =>
    some (v9, q_s_10))
    (fun k_4 => f_X4_react_L4 Fu k_4 Fu (nI 0) (nI 0) q_s)
def f_X4_removeStory_L12 (Fu : Nat) (k_12 : Ar → Option Ar) : Nat → Int32 → Ar → Option Ar
  | 0, _, _ => none
  | fu + 1, x1, q_s_2 =>
    if (q_s_2 3) ≤ x1 then
      k_12 q_s_2
    else
      gd (ix (((nI 9) + x1) + (nI 1)) 345) (
      gd (ix ((nI 9) + x1) 345) (
      nm ((upd q_s_2 ((nI 9) + x1).toNatClampNeg (q_s_2 (((nI 9) + x1) + (nI 1)).toNatClampNeg))) (fun (q_s_6 : Ar) =>
      gd (ix (((nI 21) + x1) + (nI 1)) 345) (
      gd (ix ((nI 21) + x1) 345) (
      nm ((upd q_s_6 ((nI 21) + x1).toNatClampNeg (q_s_6 (((nI 21) + x1) + (nI 1)).toNatClampNeg))) (fun (q_s_9 : Ar) =>
      gd (ix (((nI 33) + x1) + (nI 1)) 345) (
      gd (ix ((nI 33) + x1) 345) (
      nm ((upd q_s_9 ((nI 33) + x1).toNatClampNeg (q_s_9 (((nI 33) + x1) + (nI 1)).toNatClampNeg))) (fun (q_s_12 : Ar) =>
      f_X4_removeStory_L12 Fu k_12 fu (x1 + (nI 1)) q_s_12)))))))))
theorem f_X4_removeStory_L12_s (Fu : Nat) (k_12 : Ar → Option Ar) (fu : Nat) (x1 : Int32) (q_s_2 : Ar) : f_X4_removeStory_L12 Fu k_12 (fu + 1) x1 q_s_2 =
    if (q_s_2 3) ≤ x1 then
      k_12 q_s_2
    else
      gd (ix (((nI 9) + x1) + (nI 1)) 345) (
      gd (ix ((nI 9) + x1) 345) (
      nm ((upd q_s_2 ((nI 9) + x1).toNatClampNeg (q_s_2 (((nI 9) + x1) + (nI 1)).toNatClampNeg))) (fun (q_s_6 : Ar) =>
      gd (ix (((nI 21) + x1) + (nI 1)) 345) (
      gd (ix ((nI 21) + x1) 345) (
      nm ((upd q_s_6 ((nI 21) + x1).toNatClampNeg (q_s_6 (((nI 21) + x1) + (nI 1)).toNatClampNeg))) (fun (q_s_9 : Ar) =>
      gd (ix (((nI 33) + x1) + (nI 1)) 345) (
      gd (ix ((nI 33) + x1) 345) (
      nm ((upd q_s_9 ((nI 33) + x1).toNatClampNeg (q_s_9 (((nI 33) + x1) + (nI 1)).toNatClampNeg))) (fun (q_s_12 : Ar) =>
      f_X4_removeStory_L12 Fu k_12 fu (x1 + (nI 1)) q_s_12))))))))) := rfl
def f_X4_removeStory (Fu : Nat) (q_s : Ar) (p1 : Int32) : Option Ar :=
  jn (fun (q_s_13 : Ar) =>
    some (q_s_13))
    (fun k_12 => f_X4_removeStory_L12 Fu k_12 Fu p1 (upd q_s 3 ((q_s 3) - (nI 1))))
def f_X4_removeWords_L12 (Fu : Nat) (k_12 : Ar → Option Ar) (p2 : Int32) : Nat → Int32 → Ar → Option Ar
  | 0, _, _ => none
  | fu + 1, x1, q_s_2 =>
    if (q_s_2 4) ≤ x1 then
      k_12 q_s_2
    else
      gd (ix (((nI 45) + x1) + p2) 345) (
      gd (ix ((nI 45) + x1) 345) (
      nm ((upd q_s_2 ((nI 45) + x1).toNatClampNeg (q_s_2 (((nI 45) + x1) + p2).toNatClampNeg))) (fun (q_s_6 : Ar) =>
      gd (ix (((nI 195) + x1) + p2) 345) (
      gd (ix ((nI 195) + x1) 345) (
      nm ((upd q_s_6 ((nI 195) + x1).toNatClampNeg (q_s_6 (((nI 195) + x1) + p2).toNatClampNeg))) (fun (q_s_9 : Ar) =>
      f_X4_removeWords_L12 Fu k_12 p2 fu (x1 + (nI 1)) q_s_9))))))
theorem f_X4_removeWords_L12_s (Fu : Nat) (k_12 : Ar → Option Ar) (p2 : Int32) (fu : Nat) (x1 : Int32) (q_s_2 : Ar) : f_X4_removeWords_L12 Fu k_12 p2 (fu + 1) x1 q_s_2 =
    if (q_s_2 4) ≤ x1 then
      k_12 q_s_2
    else
      gd (ix (((nI 45) + x1) + p2) 345) (
      gd (ix ((nI 45) + x1) 345) (
      nm ((upd q_s_2 ((nI 45) + x1).toNatClampNeg (q_s_2 (((nI 45) + x1) + p2).toNatClampNeg))) (fun (q_s_6 : Ar) =>
      gd (ix (((nI 195) + x1) + p2) 345) (
      gd (ix ((nI 195) + x1) 345) (
      nm ((upd q_s_6 ((nI 195) + x1).toNatClampNeg (q_s_6 (((nI 195) + x1) + p2).toNatClampNeg))) (fun (q_s_9 : Ar) =>
      f_X4_removeWords_L12 Fu k_12 p2 fu (x1 + (nI 1)) q_s_9)))))) := rfl
def f_X4_removeWords (Fu : Nat) (q_s : Ar) (p1 : Int32) (p2 : Int32) : Option Ar :=
  jn (fun (q_s_10 : Ar) =>
    some (q_s_10))
    (fun k_12 => f_X4_removeWords_L12 Fu k_12 p2 Fu p1 (upd q_s 4 ((q_s 4) - p2)))
def f_X4_times_L5 (Fu : Nat) (k_5 : Int32 → Option Int32) (q_s : Ar) (p1 : Int32) (p2 : Int32) : Nat → Int32 → Int32 → Option Int32
  | 0, _, _ => none
  | fu + 1, x1, x2 =>
    gd (ix ((nI 9) + p1) 345) (
    if (q_s ((nI 9) + p1).toNatClampNeg) ≤ x2 then
      k_5 x1
    else
      bd1 (f_X4_first Fu q_s p1) (fun r5 =>
      gd (ix (((nI 45) + r5) + x2) 345) (
      nm (if (q_s (((nI 45) + r5) + x2).toNatClampNeg) = p2 then (nI 1) else nI 0) (fun v9 =>
      f_X4_times_L5 Fu k_5 q_s p1 p2 fu (x1 + v9) (x2 + (nI 1))))))
theorem f_X4_times_L5_s (Fu : Nat) (k_5 : Int32 → Option Int32) (q_s : Ar) (p1 : Int32) (p2 : Int32) (fu : Nat) (x1 : Int32) (x2 : Int32) : f_X4_times_L5 Fu k_5 q_s p1 p2 (fu + 1) x1 x2 =
    gd (ix ((nI 9) + p1) 345) (
    if (q_s ((nI 9) + p1).toNatClampNeg) ≤ x2 then
      k_5 x1
    else
      bd1 (f_X4_first Fu q_s p1) (fun r5 =>
      gd (ix (((nI 45) + r5) + x2) 345) (
      nm (if (q_s (((nI 45) + r5) + x2).toNatClampNeg) = p2 then (nI 1) else nI 0) (fun v9 =>
      f_X4_times_L5 Fu k_5 q_s p1 p2 fu (x1 + v9) (x2 + (nI 1)))))) := rfl
def f_X4_times (Fu : Nat) (q_s : Ar) (p1 : Int32) (p2 : Int32) : Option Int32 :=
  jn (fun (v10 : Int32) =>
    some (v10))
    (fun k_5 => f_X4_times_L5 Fu k_5 q_s p1 p2 Fu (nI 0) (nI 0))
def f_X4_theme_L4 (Fu : Nat) (k_4 : Int32 → Option Int32) (q_s : Ar) (p1 : Int32) : Nat → Int32 → Int32 → Option Int32
  | 0, _, _ => none
  | fu + 1, x1, x2 =>
    if (nI 26) ≤ x2 then
      k_4 x1
    else
      bd1 (f_X4_times Fu q_s p1 x2) (fun r4 =>
      bd1 (f_X4_times Fu q_s p1 x1) (fun r6 =>
      nm (if r4 ≤ r6 then x1 else x2) (fun v9 =>
      f_X4_theme_L4 Fu k_4 q_s p1 fu v9 (x2 + (nI 1)))))
theorem f_X4_theme_L4_s (Fu : Nat) (k_4 : Int32 → Option Int32) (q_s : Ar) (p1 : Int32) (fu : Nat) (x1 : Int32) (x2 : Int32) : f_X4_theme_L4 Fu k_4 q_s p1 (fu + 1) x1 x2 =
    if (nI 26) ≤ x2 then
      k_4 x1
    else
      bd1 (f_X4_times Fu q_s p1 x2) (fun r4 =>
      bd1 (f_X4_times Fu q_s p1 x1) (fun r6 =>
      nm (if r4 ≤ r6 then x1 else x2) (fun v9 =>
      f_X4_theme_L4 Fu k_4 q_s p1 fu v9 (x2 + (nI 1))))) := rfl
def f_X4_theme (Fu : Nat) (q_s : Ar) (p1 : Int32) : Option Int32 :=
  jn (fun (v10 : Int32) =>
    some (v10))
    (fun k_4 => f_X4_theme_L4 Fu k_4 q_s p1 Fu (nI 0) (nI 1))
def f_X4_heatOf_L4 (Fu : Nat) (k_4 : Int32 → Option Int32) (q_s : Ar) (p1 : Int32) : Nat → Int32 → Int32 → Option Int32
  | 0, _, _ => none
  | fu + 1, x1, x2 =>
    gd (ix ((nI 9) + p1) 345) (
    if (q_s ((nI 9) + p1).toNatClampNeg) ≤ x2 then
      k_4 x1
    else
      bd1 (f_X4_first Fu q_s p1) (fun r5 =>
      gd (ix (((nI 195) + r5) + x2) 345) (
      nm ((x1 + (q_s (((nI 195) + r5) + x2).toNatClampNeg))) (fun v8 =>
      f_X4_heatOf_L4 Fu k_4 q_s p1 fu v8 (x2 + (nI 1))))))
theorem f_X4_heatOf_L4_s (Fu : Nat) (k_4 : Int32 → Option Int32) (q_s : Ar) (p1 : Int32) (fu : Nat) (x1 : Int32) (x2 : Int32) : f_X4_heatOf_L4 Fu k_4 q_s p1 (fu + 1) x1 x2 =
    gd (ix ((nI 9) + p1) 345) (
    if (q_s ((nI 9) + p1).toNatClampNeg) ≤ x2 then
      k_4 x1
    else
      bd1 (f_X4_first Fu q_s p1) (fun r5 =>
      gd (ix (((nI 195) + r5) + x2) 345) (
      nm ((x1 + (q_s (((nI 195) + r5) + x2).toNatClampNeg))) (fun v8 =>
      f_X4_heatOf_L4 Fu k_4 q_s p1 fu v8 (x2 + (nI 1)))))) := rfl
def f_X4_heatOf (Fu : Nat) (q_s : Ar) (p1 : Int32) : Option Int32 :=
  jn (fun (v9 : Int32) =>
    some (v9))
    (fun k_4 => f_X4_heatOf_L4 Fu k_4 q_s p1 Fu (nI 0) (nI 0))
def f_X4_allHeat_L4 (Fu : Nat) (k_4 : Int32 → Option Int32) (q_s : Ar) : Nat → Int32 → Int32 → Option Int32
  | 0, _, _ => none
  | fu + 1, x1, x2 =>
    if (q_s 4) ≤ x2 then
      k_4 x1
    else
      gd (ix ((nI 195) + x2) 345) (
      nm ((x1 + (q_s ((nI 195) + x2).toNatClampNeg))) (fun v5 =>
      f_X4_allHeat_L4 Fu k_4 q_s fu v5 (x2 + (nI 1))))
theorem f_X4_allHeat_L4_s (Fu : Nat) (k_4 : Int32 → Option Int32) (q_s : Ar) (fu : Nat) (x1 : Int32) (x2 : Int32) : f_X4_allHeat_L4 Fu k_4 q_s (fu + 1) x1 x2 =
    if (q_s 4) ≤ x2 then
      k_4 x1
    else
      gd (ix ((nI 195) + x2) 345) (
      nm ((x1 + (q_s ((nI 195) + x2).toNatClampNeg))) (fun v5 =>
      f_X4_allHeat_L4 Fu k_4 q_s fu v5 (x2 + (nI 1)))) := rfl
def f_X4_allHeat (Fu : Nat) (q_s : Ar) : Option Int32 :=
  jn (fun (v6 : Int32) =>
    some (v6))
    (fun k_4 => f_X4_allHeat_L4 Fu k_4 q_s Fu (nI 0) (nI 0))
def f_X4_set (Fu : Nat) (q_s : Ar) (q_before : Ar) (q_known : Int32) (p1 : Int32) (p2 : Int32) : Option (Int32 × Ar × Ar × Int32) :=
  nm (if p1 = 0 then (nI 10) else nI 0) (fun v2 =>
  nm (if p1 = 0 then (nI 99) else (if p1 = (nI 1) then (nI 4) else nI 20)) (fun v5 =>
  bd1 (f_X4_in Fu p1 (nI 0) (nI 2)) (fun r6 =>
  if r6 = 0 then
    some (-2, q_s, q_before, q_known)
  else
    bd1 (f_X4_in Fu p2 v2 v5) (fun r9 =>
    if r9 = 0 then
      some (-2, q_s, q_before, q_known)
    else
      bd2 (f_X4_know Fu q_s q_before q_known) (fun q_before_12 q_known_13 =>
      gd (ix ((nI 0) + p1) 345) (
      nm ((q_s ((nI 0) + p1).toNatClampNeg)) (fun v16 =>
      gd (ix ((nI 0) + p1) 345) (
      some (v16, upd q_s ((nI 0) + p1).toNatClampNeg p2, q_before_12, q_known_13)))))))))
def f_X4_heat (Fu : Nat) (q_s : Ar) (q_before : Ar) (q_known : Int32) (p1 : Int32) (p2 : Int32) (p3 : Int32) : Option (Int32 × Ar × Ar × Int32) :=
  bd1 (f_X4_isWord Fu q_s p1 p2) (fun r1 =>
  if r1 = 0 then
    some (-1, q_s, q_before, q_known)
  else
    bd1 (f_X4_in Fu p3 (nI 1) (nI 500)) (fun r4 =>
    if r4 = 0 then
      some (-2, q_s, q_before, q_known)
    else
      bd2 (f_X4_know Fu q_s q_before q_known) (fun q_before_7 q_known_8 =>
      bd1 (f_X4_first Fu q_s p1) (fun r10 =>
      bd1 (f_X4_warm Fu q_s (r10 + p2) p3) (fun q_s_12 =>
      bd2 (f_X4_react Fu q_s_12) (fun r14 q_s_15 =>
      some (r14, q_s_15, q_before_7, q_known_8)))))))
def f_X4_read_L29 (Fu : Nat) (k_29 : Ar → Option (Int32 × Ar × Ar × Int32)) (p1 : Int32) (p2 : Int32) : Nat → Int32 → Ar → Option (Int32 × Ar × Ar × Int32)
  | 0, _, _ => none
  | fu + 1, x10, q_s_11 =>
    gd (ix ((nI 9) + p1) 345) (
    if (q_s_11 ((nI 9) + p1).toNatClampNeg) ≤ x10 then
      k_29 q_s_11
    else
      bd1 (f_X4_first Fu q_s_11 p1) (fun r14 =>
      bd1 (f_X4_warm Fu q_s_11 (r14 + x10) p2) (fun q_s_16 =>
      f_X4_read_L29 Fu k_29 p1 p2 fu (x10 + (nI 1)) q_s_16)))
theorem f_X4_read_L29_s (Fu : Nat) (k_29 : Ar → Option (Int32 × Ar × Ar × Int32)) (p1 : Int32) (p2 : Int32) (fu : Nat) (x10 : Int32) (q_s_11 : Ar) : f_X4_read_L29 Fu k_29 p1 p2 (fu + 1) x10 q_s_11 =
    gd (ix ((nI 9) + p1) 345) (
    if (q_s_11 ((nI 9) + p1).toNatClampNeg) ≤ x10 then
      k_29 q_s_11
    else
      bd1 (f_X4_first Fu q_s_11 p1) (fun r14 =>
      bd1 (f_X4_warm Fu q_s_11 (r14 + x10) p2) (fun q_s_16 =>
      f_X4_read_L29 Fu k_29 p1 p2 fu (x10 + (nI 1)) q_s_16))) := rfl
def f_X4_read (Fu : Nat) (q_s : Ar) (q_before : Ar) (q_known : Int32) (p1 : Int32) (p2 : Int32) : Option (Int32 × Ar × Ar × Int32) :=
  bd1 (f_X4_isStory Fu q_s p1) (fun r1 =>
  if r1 = 0 then
    some (-1, q_s, q_before, q_known)
  else
    bd1 (f_X4_in Fu p2 (nI 1) (nI 50)) (fun r4 =>
    if r4 = 0 then
      some (-2, q_s, q_before, q_known)
    else
      bd2 (f_X4_know Fu q_s q_before q_known) (fun q_before_7 q_known_8 =>
      jn (fun (q_s_18 : Ar) =>
        bd2 (f_X4_react Fu q_s_18) (fun r19 q_s_20 =>
        some (r19, q_s_20, q_before_7, q_known_8)))
        (fun k_29 => f_X4_read_L29 Fu k_29 p1 p2 Fu (nI 0) q_s))))
def f_X4_fuse_L59 (Fu : Nat) (k_59 : Ar → Ar → Option (Int32 × Ar × Ar × Int32 × Ar × Ar)) (q_s : Ar) (p2 : Int32) (v17 : Int32) : Nat → Int32 → Ar → Ar → Option (Int32 × Ar × Ar × Int32 × Ar × Ar)
  | 0, _, _, _ => none
  | fu + 1, x18, q_letters_19, q_heats_20 =>
    if v17 ≤ x18 then
      k_59 q_letters_19 q_heats_20
    else
      bd1 (f_X4_first Fu q_s p2) (fun r22 =>
      gd (ix (((nI 45) + r22) + x18) 345) (
      gd (ix x18 150) (
      nm ((upd q_letters_19 (x18).toNatClampNeg (q_s (((nI 45) + r22) + x18).toNatClampNeg))) (fun (q_letters_26 : Ar) =>
      bd1 (f_X4_first Fu q_s p2) (fun r27 =>
      gd (ix (((nI 195) + r27) + x18) 345) (
      gd (ix x18 150) (
      nm ((upd q_heats_20 (x18).toNatClampNeg (q_s (((nI 195) + r27) + x18).toNatClampNeg))) (fun (q_heats_31 : Ar) =>
      f_X4_fuse_L59 Fu k_59 q_s p2 v17 fu (x18 + (nI 1)) q_letters_26 q_heats_31))))))))
theorem f_X4_fuse_L59_s (Fu : Nat) (k_59 : Ar → Ar → Option (Int32 × Ar × Ar × Int32 × Ar × Ar)) (q_s : Ar) (p2 : Int32) (v17 : Int32) (fu : Nat) (x18 : Int32) (q_letters_19 : Ar) (q_heats_20 : Ar) : f_X4_fuse_L59 Fu k_59 q_s p2 v17 (fu + 1) x18 q_letters_19 q_heats_20 =
    if v17 ≤ x18 then
      k_59 q_letters_19 q_heats_20
    else
      bd1 (f_X4_first Fu q_s p2) (fun r22 =>
      gd (ix (((nI 45) + r22) + x18) 345) (
      gd (ix x18 150) (
      nm ((upd q_letters_19 (x18).toNatClampNeg (q_s (((nI 45) + r22) + x18).toNatClampNeg))) (fun (q_letters_26 : Ar) =>
      bd1 (f_X4_first Fu q_s p2) (fun r27 =>
      gd (ix (((nI 195) + r27) + x18) 345) (
      gd (ix x18 150) (
      nm ((upd q_heats_20 (x18).toNatClampNeg (q_s (((nI 195) + r27) + x18).toNatClampNeg))) (fun (q_heats_31 : Ar) =>
      f_X4_fuse_L59 Fu k_59 q_s p2 v17 fu (x18 + (nI 1)) q_letters_26 q_heats_31)))))))) := rfl
def f_X4_fuse_L220 (Fu : Nat) (k_220 : Ar → Option (Int32 × Ar × Ar × Int32 × Ar × Ar)) (v17 : Int32) (v52 : Int32) : Nat → Int32 → Ar → Option (Int32 × Ar × Ar × Int32 × Ar × Ar)
  | 0, _, _ => none
  | fu + 1, x53, q_s_54 =>
    if x53 < v52 then
      k_220 q_s_54
    else
      gd (ix ((nI 45) + x53) 345) (
      gd (ix (((nI 45) + x53) + v17) 345) (
      nm ((upd q_s_54 (((nI 45) + x53) + v17).toNatClampNeg (q_s_54 ((nI 45) + x53).toNatClampNeg))) (fun (q_s_58 : Ar) =>
      gd (ix ((nI 195) + x53) 345) (
      gd (ix (((nI 195) + x53) + v17) 345) (
      nm ((upd q_s_58 (((nI 195) + x53) + v17).toNatClampNeg (q_s_58 ((nI 195) + x53).toNatClampNeg))) (fun (q_s_61 : Ar) =>
      f_X4_fuse_L220 Fu k_220 v17 v52 fu (x53 + (-1)) q_s_61))))))
theorem f_X4_fuse_L220_s (Fu : Nat) (k_220 : Ar → Option (Int32 × Ar × Ar × Int32 × Ar × Ar)) (v17 : Int32) (v52 : Int32) (fu : Nat) (x53 : Int32) (q_s_54 : Ar) : f_X4_fuse_L220 Fu k_220 v17 v52 (fu + 1) x53 q_s_54 =
    if x53 < v52 then
      k_220 q_s_54
    else
      gd (ix ((nI 45) + x53) 345) (
      gd (ix (((nI 45) + x53) + v17) 345) (
      nm ((upd q_s_54 (((nI 45) + x53) + v17).toNatClampNeg (q_s_54 ((nI 45) + x53).toNatClampNeg))) (fun (q_s_58 : Ar) =>
      gd (ix ((nI 195) + x53) 345) (
      gd (ix (((nI 195) + x53) + v17) 345) (
      nm ((upd q_s_58 (((nI 195) + x53) + v17).toNatClampNeg (q_s_58 ((nI 195) + x53).toNatClampNeg))) (fun (q_s_61 : Ar) =>
      f_X4_fuse_L220 Fu k_220 v17 v52 fu (x53 + (-1)) q_s_61)))))) := rfl
def f_X4_fuse_L282 (Fu : Nat) (k_282 : Ar → Option (Int32 × Ar × Ar × Int32 × Ar × Ar)) (v17 : Int32) (q_letters_32 : Ar) (q_heats_33 : Ar) (v52 : Int32) : Nat → Int32 → Ar → Option (Int32 × Ar × Ar × Int32 × Ar × Ar)
  | 0, _, _ => none
  | fu + 1, x63, q_s_64 =>
    if v17 ≤ x63 then
      k_282 q_s_64
    else
      gd (ix x63 150) (
      gd (ix (((nI 45) + v52) + x63) 345) (
      nm ((upd q_s_64 (((nI 45) + v52) + x63).toNatClampNeg (q_letters_32 (x63).toNatClampNeg))) (fun (q_s_68 : Ar) =>
      gd (ix x63 150) (
      gd (ix (((nI 195) + v52) + x63) 345) (
      nm ((upd q_s_68 (((nI 195) + v52) + x63).toNatClampNeg (q_heats_33 (x63).toNatClampNeg))) (fun (q_s_71 : Ar) =>
      f_X4_fuse_L282 Fu k_282 v17 q_letters_32 q_heats_33 v52 fu (x63 + (nI 1)) q_s_71))))))
theorem f_X4_fuse_L282_s (Fu : Nat) (k_282 : Ar → Option (Int32 × Ar × Ar × Int32 × Ar × Ar)) (v17 : Int32) (q_letters_32 : Ar) (q_heats_33 : Ar) (v52 : Int32) (fu : Nat) (x63 : Int32) (q_s_64 : Ar) : f_X4_fuse_L282 Fu k_282 v17 q_letters_32 q_heats_33 v52 (fu + 1) x63 q_s_64 =
    if v17 ≤ x63 then
      k_282 q_s_64
    else
      gd (ix x63 150) (
      gd (ix (((nI 45) + v52) + x63) 345) (
      nm ((upd q_s_64 (((nI 45) + v52) + x63).toNatClampNeg (q_letters_32 (x63).toNatClampNeg))) (fun (q_s_68 : Ar) =>
      gd (ix x63 150) (
      gd (ix (((nI 195) + v52) + x63) 345) (
      nm ((upd q_s_68 (((nI 195) + v52) + x63).toNatClampNeg (q_heats_33 (x63).toNatClampNeg))) (fun (q_s_71 : Ar) =>
      f_X4_fuse_L282 Fu k_282 v17 q_letters_32 q_heats_33 v52 fu (x63 + (nI 1)) q_s_71)))))) := rfl
def f_X4_fuse (Fu : Nat) (q_s : Ar) (q_before : Ar) (q_known : Int32) (q_letters : Ar) (q_heats : Ar) (p1 : Int32) (p2 : Int32) : Option (Int32 × Ar × Ar × Int32 × Ar × Ar) :=
  bd1 (f_X4_isStory Fu q_s p1) (fun r1 =>
  if r1 = 0 then
    some (-1, q_s, q_before, q_known, q_letters, q_heats)
  else
    bd1 (f_X4_isStory Fu q_s p2) (fun r4 =>
    if r4 = 0 then
      some (-1, q_s, q_before, q_known, q_letters, q_heats)
    else
      if p1 = p2 then
        some (-2, q_s, q_before, q_known, q_letters, q_heats)
      else
        bd1 (f_X4_theme Fu q_s p1) (fun r8 =>
        bd1 (f_X4_theme Fu q_s p2) (fun r10 =>
        if r8 = r10 then
          bd2 (f_X4_know Fu q_s q_before q_known) (fun q_before_13 q_known_14 =>
          gd (ix ((nI 9) + p2) 345) (
          nm ((q_s ((nI 9) + p2).toNatClampNeg)) (fun v17 =>
          jn (fun (q_letters_32 : Ar) (q_heats_33 : Ar) =>
            gd (ix ((nI 33) + p1) 345) (
            gd (ix ((nI 33) + p2) 345) (
            jn (fun (v39 : Int32) =>
              bd1 (f_X4_first Fu q_s p2) (fun r41 =>
              bd1 (f_X4_removeWords Fu q_s r41 v17) (fun q_s_43 =>
              bd1 (f_X4_removeStory Fu q_s_43 p2) (fun q_s_45 =>
              nm (if p1 ≤ p2 then p1 else p1 - (nI 1)) (fun v48 =>
              bd1 (f_X4_first Fu q_s_45 v48) (fun r49 =>
              gd (ix ((nI 9) + v48) 345) (
              nm ((r49 + (q_s_45 ((nI 9) + v48).toNatClampNeg))) (fun v52 =>
              jn (fun (q_s_62 : Ar) =>
                jn (fun (q_s_72 : Ar) =>
                  gd (ix ((nI 9) + v48) 345) (
                  gd (ix ((nI 9) + v48) 345) (
                  nm ((upd (upd q_s_72 4 ((q_s_72 4) + v17)) ((nI 9) + v48).toNatClampNeg (((upd q_s_72 4 ((q_s_72 4) + v17)) ((nI 9) + v48).toNatClampNeg) + v17))) (fun (q_s_75 : Ar) =>
                  gd (ix ((nI 33) + v48) 345) (
                  bd1 (f_X4_warm Fu (upd q_s_75 ((nI 33) + v48).toNatClampNeg (v39 + (nI 1))) (v52 - (nI 1)) ((upd q_s_75 ((nI 33) + v48).toNatClampNeg (v39 + (nI 1))) 1)) (fun q_s_77 =>
                  bd1 (f_X4_warm Fu q_s_77 v52 (q_s_77 1)) (fun q_s_79 =>
                  bd2 (f_X4_react Fu q_s_79) (fun r81 q_s_82 =>
                  some (r81, q_s_82, q_before_13, q_known_14, q_letters_32, q_heats_33)))))))))
                  (fun k_282 => f_X4_fuse_L282 Fu k_282 v17 q_letters_32 q_heats_33 v52 Fu (nI 0) q_s_62))
                (fun k_220 => f_X4_fuse_L220 Fu k_220 v17 v52 Fu ((q_s_45 4) - (nI 1)) q_s_45)))))))))
              (fun j40 =>
              if (q_s ((nI 33) + p1).toNatClampNeg) ≤ (q_s ((nI 33) + p2).toNatClampNeg) then
                gd (ix ((nI 33) + p2) 345) (
                j40 (q_s ((nI 33) + p2).toNatClampNeg))
              else
                gd (ix ((nI 33) + p1) 345) (
                j40 (q_s ((nI 33) + p1).toNatClampNeg))))))
            (fun k_59 => f_X4_fuse_L59 Fu k_59 q_s p2 v17 Fu (nI 0) q_letters q_heats))))
        else
          some (-5, q_s, q_before, q_known, q_letters, q_heats)))))
def f_X4_pass_L28 (Fu : Nat) (k_28 : Ar → Option (Int32 × Ar × Ar × Int32)) (q_s : Ar) (p1 : Int32) : Nat → Int32 → Ar → Option (Int32 × Ar × Ar × Int32)
  | 0, _, _ => none
  | fu + 1, x7, q_s_8 =>
    if (q_s_8 4) ≤ x7 then
      k_28 q_s_8
    else
      gd (ix ((nI 195) + x7) 345) (
      gd (ix ((nI 195) + x7) 345) (
      jn (fun (v14 : Int32) =>
        gd (ix ((nI 195) + x7) 345) (
        nm ((upd q_s_8 ((nI 195) + x7).toNatClampNeg ((q_s_8 ((nI 195) + x7).toNatClampNeg) - v14))) (fun (q_s_17 : Ar) =>
        f_X4_pass_L28 Fu k_28 q_s p1 fu (x7 + (nI 1)) q_s_17)))
        (fun j15 =>
        if (q_s_8 ((nI 195) + x7).toNatClampNeg) ≤ (p1 * (q_s 2)) then
          gd (ix ((nI 195) + x7) 345) (
          j15 (q_s_8 ((nI 195) + x7).toNatClampNeg))
        else
          j15 (p1 * (q_s 2)))))
theorem f_X4_pass_L28_s (Fu : Nat) (k_28 : Ar → Option (Int32 × Ar × Ar × Int32)) (q_s : Ar) (p1 : Int32) (fu : Nat) (x7 : Int32) (q_s_8 : Ar) : f_X4_pass_L28 Fu k_28 q_s p1 (fu + 1) x7 q_s_8 =
    if (q_s_8 4) ≤ x7 then
      k_28 q_s_8
    else
      gd (ix ((nI 195) + x7) 345) (
      gd (ix ((nI 195) + x7) 345) (
      jn (fun (v14 : Int32) =>
        gd (ix ((nI 195) + x7) 345) (
        nm ((upd q_s_8 ((nI 195) + x7).toNatClampNeg ((q_s_8 ((nI 195) + x7).toNatClampNeg) - v14))) (fun (q_s_17 : Ar) =>
        f_X4_pass_L28 Fu k_28 q_s p1 fu (x7 + (nI 1)) q_s_17)))
        (fun j15 =>
        if (q_s_8 ((nI 195) + x7).toNatClampNeg) ≤ (p1 * (q_s 2)) then
          gd (ix ((nI 195) + x7) 345) (
          j15 (q_s_8 ((nI 195) + x7).toNatClampNeg))
        else
          j15 (p1 * (q_s 2))))) := rfl
def f_X4_pass (Fu : Nat) (q_s : Ar) (q_before : Ar) (q_known : Int32) (p1 : Int32) : Option (Int32 × Ar × Ar × Int32) :=
  bd1 (f_X4_in Fu p1 (nI 1) (nI 30)) (fun r1 =>
  if r1 = 0 then
    some (-2, q_s, q_before, q_known)
  else
    bd2 (f_X4_know Fu q_s q_before q_known) (fun q_before_4 q_known_5 =>
    jn (fun (q_s_18 : Ar) =>
      bd1 (f_X4_allHeat Fu q_s_18) (fun r19 =>
      some (r19, q_s_18, q_before_4, q_known_5)))
      (fun k_28 => f_X4_pass_L28 Fu k_28 q_s p1 Fu (nI 0) q_s)))
def f_X4_burn (Fu : Nat) (q_s : Ar) (q_before : Ar) (q_known : Int32) (p1 : Int32) : Option (Int32 × Ar × Ar × Int32) :=
  bd1 (f_X4_isStory Fu q_s p1) (fun r1 =>
  if r1 = 0 then
    some (-1, q_s, q_before, q_known)
  else
    bd2 (f_X4_know Fu q_s q_before q_known) (fun q_before_4 q_known_5 =>
    gd (ix ((nI 9) + p1) 345) (
    nm ((q_s ((nI 9) + p1).toNatClampNeg)) (fun v8 =>
    bd1 (f_X4_first Fu q_s p1) (fun r9 =>
    bd1 (f_X4_removeWords Fu q_s r9 v8) (fun q_s_11 =>
    bd1 (f_X4_removeStory Fu q_s_11 p1) (fun q_s_13 =>
    some (v8, q_s_13, q_before_4, q_known_5))))))))
def f_X4_word (Fu : Nat) (q_s : Ar) (p1 : Int32) (p2 : Int32) (p3 : Int32) : Option Int32 :=
  bd1 (f_X4_isWord Fu q_s p1 p2) (fun r1 =>
  if r1 = 0 then
    some (-1)
  else
    bd1 (f_X4_first Fu q_s p1) (fun r4 =>
    jn (fun (v14 : Int32) =>
      some (v14))
      (fun j15 =>
      if p3 = 0 then
        gd (ix ((nI 45) + (r4 + p2)) 345) (
        j15 (q_s ((nI 45) + (r4 + p2)).toNatClampNeg))
      else
        if p3 = (nI 1) then
          gd (ix ((nI 195) + (r4 + p2)) 345) (
          j15 (q_s ((nI 195) + (r4 + p2)).toNatClampNeg))
        else
          if p3 = (nI 2) then
            gd (ix ((nI 45) + (r4 + p2)) 345) (
            bd1 (f_X4_times Fu q_s p1 (q_s ((nI 45) + (r4 + p2)).toNatClampNeg)) (fun r10 =>
            j15 r10))
          else
            j15 (-2))))
def f_X4_hottest_L4 (Fu : Nat) (k_4 : Int32 → Option Int32) (q_s : Ar) (p1 : Int32) : Nat → Int32 → Int32 → Option Int32
  | 0, _, _ => none
  | fu + 1, x1, x2 =>
    gd (ix ((nI 9) + p1) 345) (
    if (q_s ((nI 9) + p1).toNatClampNeg) ≤ x2 then
      k_4 x1
    else
      bd1 (f_X4_first Fu q_s p1) (fun r5 =>
      gd (ix (((nI 195) + r5) + x2) 345) (
      bd1 (f_X4_first Fu q_s p1) (fun r8 =>
      gd (ix (((nI 195) + r8) + x1) 345) (
      nm (if (q_s (((nI 195) + r5) + x2).toNatClampNeg) ≤ (q_s (((nI 195) + r8) + x1).toNatClampNeg) then x1 else x2) (fun v12 =>
      f_X4_hottest_L4 Fu k_4 q_s p1 fu v12 (x2 + (nI 1))))))))
theorem f_X4_hottest_L4_s (Fu : Nat) (k_4 : Int32 → Option Int32) (q_s : Ar) (p1 : Int32) (fu : Nat) (x1 : Int32) (x2 : Int32) : f_X4_hottest_L4 Fu k_4 q_s p1 (fu + 1) x1 x2 =
    gd (ix ((nI 9) + p1) 345) (
    if (q_s ((nI 9) + p1).toNatClampNeg) ≤ x2 then
      k_4 x1
    else
      bd1 (f_X4_first Fu q_s p1) (fun r5 =>
      gd (ix (((nI 195) + r5) + x2) 345) (
      bd1 (f_X4_first Fu q_s p1) (fun r8 =>
      gd (ix (((nI 195) + r8) + x1) 345) (
      nm (if (q_s (((nI 195) + r5) + x2).toNatClampNeg) ≤ (q_s (((nI 195) + r8) + x1).toNatClampNeg) then x1 else x2) (fun v12 =>
      f_X4_hottest_L4 Fu k_4 q_s p1 fu v12 (x2 + (nI 1)))))))) := rfl
def f_X4_hottest (Fu : Nat) (q_s : Ar) (p1 : Int32) : Option Int32 :=
  jn (fun (v13 : Int32) =>
    some (v13))
    (fun k_4 => f_X4_hottest_L4 Fu k_4 q_s p1 Fu (nI 0) (nI 1))
def f_X4_unlike_L4 (Fu : Nat) (k_4 : Int32 → Option Int32) (q_s : Ar) (p1 : Int32) : Nat → Int32 → Int32 → Option Int32
  | 0, _, _ => none
  | fu + 1, x1, x2 =>
    if (nI 26) ≤ x2 then
      k_4 x1
    else
      bd1 (f_X4_times Fu q_s p1 x2) (fun r4 =>
      nm (if r4 ≤ 0 then (nI 0) else nI 1) (fun v7 =>
      f_X4_unlike_L4 Fu k_4 q_s p1 fu (x1 + v7) (x2 + (nI 1))))
theorem f_X4_unlike_L4_s (Fu : Nat) (k_4 : Int32 → Option Int32) (q_s : Ar) (p1 : Int32) (fu : Nat) (x1 : Int32) (x2 : Int32) : f_X4_unlike_L4 Fu k_4 q_s p1 (fu + 1) x1 x2 =
    if (nI 26) ≤ x2 then
      k_4 x1
    else
      bd1 (f_X4_times Fu q_s p1 x2) (fun r4 =>
      nm (if r4 ≤ 0 then (nI 0) else nI 1) (fun v7 =>
      f_X4_unlike_L4 Fu k_4 q_s p1 fu (x1 + v7) (x2 + (nI 1)))) := rfl
def f_X4_unlike (Fu : Nat) (q_s : Ar) (p1 : Int32) : Option Int32 :=
  jn (fun (v8 : Int32) =>
    some (v8))
    (fun k_4 => f_X4_unlike_L4 Fu k_4 q_s p1 Fu (nI 0) (nI 0))
def f_X4_isSameBackwards_L26 (Fu : Nat) (k_26 : Int32 → Option Int32) (q_s : Ar) (p1 : Int32) (r1 : Int32) (v4 : Int32) : Nat → Int32 → Int32 → Option Int32
  | 0, _, _ => none
  | fu + 1, x5, x6 =>
    gd (ix ((nI 9) + p1) 345) (
    if (q_s ((nI 9) + p1).toNatClampNeg) ≤ x6 then
      k_26 x5
    else
      jn (fun (v13 : Int32) =>
        f_X4_isSameBackwards_L26 Fu k_26 q_s p1 r1 v4 fu v13 (x6 + (nI 1)))
        (fun j14 =>
        if x5 = 0 then
          j14 (nI 0)
        else
          gd (ix (((nI 45) + r1) + x6) 345) (
          gd (ix (((nI 45) + v4) - x6) 345) (
          if (q_s (((nI 45) + r1) + x6).toNatClampNeg) = (q_s (((nI 45) + v4) - x6).toNatClampNeg) then
            j14 (nI 1)
          else
            j14 (nI 0)))))
theorem f_X4_isSameBackwards_L26_s (Fu : Nat) (k_26 : Int32 → Option Int32) (q_s : Ar) (p1 : Int32) (r1 : Int32) (v4 : Int32) (fu : Nat) (x5 : Int32) (x6 : Int32) : f_X4_isSameBackwards_L26 Fu k_26 q_s p1 r1 v4 (fu + 1) x5 x6 =
    gd (ix ((nI 9) + p1) 345) (
    if (q_s ((nI 9) + p1).toNatClampNeg) ≤ x6 then
      k_26 x5
    else
      jn (fun (v13 : Int32) =>
        f_X4_isSameBackwards_L26 Fu k_26 q_s p1 r1 v4 fu v13 (x6 + (nI 1)))
        (fun j14 =>
        if x5 = 0 then
          j14 (nI 0)
        else
          gd (ix (((nI 45) + r1) + x6) 345) (
          gd (ix (((nI 45) + v4) - x6) 345) (
          if (q_s (((nI 45) + r1) + x6).toNatClampNeg) = (q_s (((nI 45) + v4) - x6).toNatClampNeg) then
            j14 (nI 1)
          else
            j14 (nI 0))))) := rfl
def f_X4_isSameBackwards (Fu : Nat) (q_s : Ar) (p1 : Int32) : Option Int32 :=
  bd1 (f_X4_first Fu q_s p1) (fun r1 =>
  gd (ix ((nI 9) + p1) 345) (
  nm (((r1 + (q_s ((nI 9) + p1).toNatClampNeg)) - (nI 1))) (fun v4 =>
  jn (fun (v15 : Int32) =>
    nm (if v15 = 0 then (nI 0) else nI 1) (fun v17 =>
    some (v17)))
    (fun k_26 => f_X4_isSameBackwards_L26 Fu k_26 q_s p1 r1 v4 Fu (nI 1) (nI 0)))))
def f_X4_story (Fu : Nat) (q_s : Ar) (p1 : Int32) (p2 : Int32) : Option Int32 :=
  bd1 (f_X4_isStory Fu q_s p1) (fun r1 =>
  if r1 = 0 then
    some (-1)
  else
    nm (p2) (fun v4 =>
    if v4 = nI 0 then
      gd (ix ((nI 9) + p1) 345) (
      some (q_s ((nI 9) + p1).toNatClampNeg))
    else
    if v4 = nI 1 then
      bd1 (f_X4_heatOf Fu q_s p1) (fun r6 =>
      some (r6))
    else
    if v4 = nI 2 then
      bd1 (f_X4_theme Fu q_s p1) (fun r8 =>
      some (r8))
    else
    if v4 = nI 3 then
      gd (ix ((nI 21) + p1) 345) (
      some (q_s ((nI 21) + p1).toNatClampNeg))
    else
    if v4 = nI 4 then
      gd (ix ((nI 33) + p1) 345) (
      some (q_s ((nI 33) + p1).toNatClampNeg))
    else
    if v4 = nI 5 then
      bd1 (f_X4_hottest Fu q_s p1) (fun r12 =>
      some (r12))
    else
    if v4 = nI 6 then
      bd1 (f_X4_unlike Fu q_s p1) (fun r14 =>
      some (r14))
    else
    if v4 = nI 7 then
      bd1 (f_X4_isSameBackwards Fu q_s p1) (fun r16 =>
      some (r16))
    else
      some (-2)))
def f_X4_families_L19 (Fu : Nat) (k_19 : Int32 → Option Int32) (q_s : Ar) (x2 : Int32) : Nat → Int32 → Int32 → Option Int32
  | 0, _, _ => none
  | fu + 1, x4, x5 =>
    if x2 ≤ x5 then
      k_19 x4
    else
      jn (fun (v11 : Int32) =>
        f_X4_families_L19 Fu k_19 q_s x2 fu v11 (x5 + (nI 1)))
        (fun j12 =>
        if x4 = 0 then
          j12 (nI 0)
        else
          gd (ix ((nI 21) + x5) 345) (
          gd (ix ((nI 21) + x2) 345) (
          if (q_s ((nI 21) + x5).toNatClampNeg) = (q_s ((nI 21) + x2).toNatClampNeg) then
            j12 (nI 0)
          else
            j12 (nI 1))))
theorem f_X4_families_L19_s (Fu : Nat) (k_19 : Int32 → Option Int32) (q_s : Ar) (x2 : Int32) (fu : Nat) (x4 : Int32) (x5 : Int32) : f_X4_families_L19 Fu k_19 q_s x2 (fu + 1) x4 x5 =
    if x2 ≤ x5 then
      k_19 x4
    else
      jn (fun (v11 : Int32) =>
        f_X4_families_L19 Fu k_19 q_s x2 fu v11 (x5 + (nI 1)))
        (fun j12 =>
        if x4 = 0 then
          j12 (nI 0)
        else
          gd (ix ((nI 21) + x5) 345) (
          gd (ix ((nI 21) + x2) 345) (
          if (q_s ((nI 21) + x5).toNatClampNeg) = (q_s ((nI 21) + x2).toNatClampNeg) then
            j12 (nI 0)
          else
            j12 (nI 1)))) := rfl
def f_X4_families_L4 (Fu : Nat) (k_4 : Int32 → Option Int32) (q_s : Ar) : Nat → Int32 → Int32 → Option Int32
  | 0, _, _ => none
  | fu + 1, x1, x2 =>
    if (q_s 3) ≤ x2 then
      k_4 x1
    else
      jn (fun (v13 : Int32) =>
        nm (if v13 = 0 then (nI 0) else nI 1) (fun v15 =>
        f_X4_families_L4 Fu k_4 q_s fu (x1 + v15) (x2 + (nI 1))))
        (fun k_19 => f_X4_families_L19 Fu k_19 q_s x2 Fu (nI 1) (nI 0))
theorem f_X4_families_L4_s (Fu : Nat) (k_4 : Int32 → Option Int32) (q_s : Ar) (fu : Nat) (x1 : Int32) (x2 : Int32) : f_X4_families_L4 Fu k_4 q_s (fu + 1) x1 x2 =
    if (q_s 3) ≤ x2 then
      k_4 x1
    else
      jn (fun (v13 : Int32) =>
        nm (if v13 = 0 then (nI 0) else nI 1) (fun v15 =>
        f_X4_families_L4 Fu k_4 q_s fu (x1 + v15) (x2 + (nI 1))))
        (fun k_19 => f_X4_families_L19 Fu k_19 q_s x2 Fu (nI 1) (nI 0)) := rfl
def f_X4_families (Fu : Nat) (q_s : Ar) : Option Int32 :=
  jn (fun (v16 : Int32) =>
    some (v16))
    (fun k_4 => f_X4_families_L4 Fu k_4 q_s Fu (nI 0) (nI 0))
def f_X4_greatest_L5 (Fu : Nat) (k_5 : Int32 → Option Int32) (q_s : Ar) : Nat → Int32 → Int32 → Option Int32
  | 0, _, _ => none
  | fu + 1, x1, x2 =>
    if (q_s 3) ≤ x2 then
      k_5 x1
    else
      gd (ix ((nI 33) + x2) 345) (
      jn (fun (v7 : Int32) =>
        f_X4_greatest_L5 Fu k_5 q_s fu v7 (x2 + (nI 1)))
        (fun j8 =>
        if (q_s ((nI 33) + x2).toNatClampNeg) ≤ x1 then
          j8 x1
        else
          gd (ix ((nI 33) + x2) 345) (
          j8 (q_s ((nI 33) + x2).toNatClampNeg))))
theorem f_X4_greatest_L5_s (Fu : Nat) (k_5 : Int32 → Option Int32) (q_s : Ar) (fu : Nat) (x1 : Int32) (x2 : Int32) : f_X4_greatest_L5 Fu k_5 q_s (fu + 1) x1 x2 =
    if (q_s 3) ≤ x2 then
      k_5 x1
    else
      gd (ix ((nI 33) + x2) 345) (
      jn (fun (v7 : Int32) =>
        f_X4_greatest_L5 Fu k_5 q_s fu v7 (x2 + (nI 1)))
        (fun j8 =>
        if (q_s ((nI 33) + x2).toNatClampNeg) ≤ x1 then
          j8 x1
        else
          gd (ix ((nI 33) + x2) 345) (
          j8 (q_s ((nI 33) + x2).toNatClampNeg)))) := rfl
def f_X4_greatest (Fu : Nat) (q_s : Ar) : Option Int32 :=
  jn (fun (v9 : Int32) =>
    some (v9))
    (fun k_5 => f_X4_greatest_L5 Fu k_5 q_s Fu (-6) (nI 0))
def f_X4_count (Fu : Nat) (q_s : Ar) (q_known : Int32) (q_length : Int32) (p1 : Int32) : Option Int32 :=
  nm (p1) (fun v1 =>
  if v1 = nI 0 then
    some (q_s 3)
  else
  if v1 = nI 1 then
    some (q_s 4)
  else
  if v1 = nI 2 then
    bd1 (f_X4_allHeat Fu q_s) (fun r2 =>
    some (r2))
  else
  if v1 = nI 3 then
    bd1 (f_X4_families Fu q_s) (fun r4 =>
    some (r4))
  else
  if v1 = nI 4 then
    gd (ix (((nI 6) + p1) - (nI 4)) 345) (
    some (q_s (((nI 6) + p1) - (nI 4)).toNatClampNeg))
  else
  if v1 = nI 5 then
    gd (ix (((nI 6) + p1) - (nI 4)) 345) (
    some (q_s (((nI 6) + p1) - (nI 4)).toNatClampNeg))
  else
  if v1 = nI 6 then
    gd (ix (((nI 6) + p1) - (nI 4)) 345) (
    some (q_s (((nI 6) + p1) - (nI 4)).toNatClampNeg))
  else
  if v1 = nI 7 then
    bd1 (f_X4_greatest Fu q_s) (fun r9 =>
    some (r9))
  else
  if v1 = nI 8 then
    gd (ix (((nI 0) + p1) - (nI 8)) 345) (
    some (q_s (((nI 0) + p1) - (nI 8)).toNatClampNeg))
  else
  if v1 = nI 9 then
    gd (ix (((nI 0) + p1) - (nI 8)) 345) (
    some (q_s (((nI 0) + p1) - (nI 8)).toNatClampNeg))
  else
  if v1 = nI 10 then
    gd (ix (((nI 0) + p1) - (nI 8)) 345) (
    some (q_s (((nI 0) + p1) - (nI 8)).toNatClampNeg))
  else
  if v1 = nI 11 then
    some (q_length)
  else
  if v1 = nI 12 then
    some (q_known)
  else
    some (-2))
def f_X4_letter_L27 (Fu : Nat) (k_27 : Int32 → Option Int32) (q_s : Ar) (p1 : Int32) (p2 : Int32) : Nat → Int32 → Int32 → Option Int32
  | 0, _, _ => none
  | fu + 1, x7, x8 =>
    if (q_s 4) ≤ x8 then
      k_27 x7
    else
      if p2 = 0 then
        gd (ix ((nI 45) + x8) 345) (
        jn (fun (v15 : Int32) =>
          f_X4_letter_L27 Fu k_27 q_s p1 p2 fu (x7 + v15) (x8 + (nI 1)))
          (fun j16 =>
          if (q_s ((nI 45) + x8).toNatClampNeg) = p1 then
            if p2 = 0 then
              j16 (nI 1)
            else
              gd (ix ((nI 195) + x8) 345) (
              j16 (q_s ((nI 195) + x8).toNatClampNeg))
          else
            j16 (nI 0)))
      else
        if p2 = (nI 3) then
          gd (ix ((nI 45) + x8) 345) (
          jn (fun (v22 : Int32) =>
            f_X4_letter_L27 Fu k_27 q_s p1 p2 fu (x7 + v22) (x8 + (nI 1)))
            (fun j23 =>
            if (q_s ((nI 45) + x8).toNatClampNeg) = p1 then
              if p2 = 0 then
                j23 (nI 1)
              else
                gd (ix ((nI 195) + x8) 345) (
                j23 (q_s ((nI 195) + x8).toNatClampNeg))
            else
              j23 (nI 0)))
        else
          k_27 x7
theorem f_X4_letter_L27_s (Fu : Nat) (k_27 : Int32 → Option Int32) (q_s : Ar) (p1 : Int32) (p2 : Int32) (fu : Nat) (x7 : Int32) (x8 : Int32) : f_X4_letter_L27 Fu k_27 q_s p1 p2 (fu + 1) x7 x8 =
    if (q_s 4) ≤ x8 then
      k_27 x7
    else
      if p2 = 0 then
        gd (ix ((nI 45) + x8) 345) (
        jn (fun (v15 : Int32) =>
          f_X4_letter_L27 Fu k_27 q_s p1 p2 fu (x7 + v15) (x8 + (nI 1)))
          (fun j16 =>
          if (q_s ((nI 45) + x8).toNatClampNeg) = p1 then
            if p2 = 0 then
              j16 (nI 1)
            else
              gd (ix ((nI 195) + x8) 345) (
              j16 (q_s ((nI 195) + x8).toNatClampNeg))
          else
            j16 (nI 0)))
      else
        if p2 = (nI 3) then
          gd (ix ((nI 45) + x8) 345) (
          jn (fun (v22 : Int32) =>
            f_X4_letter_L27 Fu k_27 q_s p1 p2 fu (x7 + v22) (x8 + (nI 1)))
            (fun j23 =>
            if (q_s ((nI 45) + x8).toNatClampNeg) = p1 then
              if p2 = 0 then
                j23 (nI 1)
              else
                gd (ix ((nI 195) + x8) 345) (
                j23 (q_s ((nI 195) + x8).toNatClampNeg))
            else
              j23 (nI 0)))
        else
          k_27 x7 := rfl
def f_X4_letter_L96 (Fu : Nat) (k_96 : Int32 → Option Int32) (q_s : Ar) (p1 : Int32) (p2 : Int32) : Nat → Int32 → Int32 → Option Int32
  | 0, _, _ => none
  | fu + 1, x25, x26 =>
    if (q_s 3) ≤ x26 then
      k_96 x25
    else
      if p2 = (nI 1) then
        jn (fun (v36 : Int32) =>
          f_X4_letter_L96 Fu k_96 q_s p1 p2 fu (x25 + v36) (x26 + (nI 1)))
          (fun j37 =>
          if p2 = (nI 1) then
            bd1 (f_X4_times Fu q_s x26 p1) (fun r33 =>
            if r33 ≤ 0 then
              j37 (nI 0)
            else
              j37 (nI 1))
          else
            bd1 (f_X4_theme Fu q_s x26) (fun r30 =>
            if r30 = p1 then
              j37 (nI 1)
            else
              j37 (nI 0)))
      else
        if p2 = (nI 2) then
          jn (fun (v46 : Int32) =>
            f_X4_letter_L96 Fu k_96 q_s p1 p2 fu (x25 + v46) (x26 + (nI 1)))
            (fun j47 =>
            if p2 = (nI 1) then
              bd1 (f_X4_times Fu q_s x26 p1) (fun r43 =>
              if r43 ≤ 0 then
                j47 (nI 0)
              else
                j47 (nI 1))
            else
              bd1 (f_X4_theme Fu q_s x26) (fun r40 =>
              if r40 = p1 then
                j47 (nI 1)
              else
                j47 (nI 0)))
        else
          k_96 x25
theorem f_X4_letter_L96_s (Fu : Nat) (k_96 : Int32 → Option Int32) (q_s : Ar) (p1 : Int32) (p2 : Int32) (fu : Nat) (x25 : Int32) (x26 : Int32) : f_X4_letter_L96 Fu k_96 q_s p1 p2 (fu + 1) x25 x26 =
    if (q_s 3) ≤ x26 then
      k_96 x25
    else
      if p2 = (nI 1) then
        jn (fun (v36 : Int32) =>
          f_X4_letter_L96 Fu k_96 q_s p1 p2 fu (x25 + v36) (x26 + (nI 1)))
          (fun j37 =>
          if p2 = (nI 1) then
            bd1 (f_X4_times Fu q_s x26 p1) (fun r33 =>
            if r33 ≤ 0 then
              j37 (nI 0)
            else
              j37 (nI 1))
          else
            bd1 (f_X4_theme Fu q_s x26) (fun r30 =>
            if r30 = p1 then
              j37 (nI 1)
            else
              j37 (nI 0)))
      else
        if p2 = (nI 2) then
          jn (fun (v46 : Int32) =>
            f_X4_letter_L96 Fu k_96 q_s p1 p2 fu (x25 + v46) (x26 + (nI 1)))
            (fun j47 =>
            if p2 = (nI 1) then
              bd1 (f_X4_times Fu q_s x26 p1) (fun r43 =>
              if r43 ≤ 0 then
                j47 (nI 0)
              else
                j47 (nI 1))
            else
              bd1 (f_X4_theme Fu q_s x26) (fun r40 =>
              if r40 = p1 then
                j47 (nI 1)
              else
                j47 (nI 0)))
        else
          k_96 x25 := rfl
def f_X4_letter (Fu : Nat) (q_s : Ar) (p1 : Int32) (p2 : Int32) : Option Int32 :=
  bd1 (f_X4_in Fu p1 (nI 0) (nI 25)) (fun r1 =>
  if r1 = 0 then
    some (-2)
  else
    bd1 (f_X4_in Fu p2 (nI 0) (nI 3)) (fun r4 =>
    if r4 = 0 then
      some (-2)
    else
      jn (fun (v24 : Int32) =>
        jn (fun (v48 : Int32) =>
          some (v48))
          (fun k_96 => f_X4_letter_L96 Fu k_96 q_s p1 p2 Fu v24 (nI 0)))
        (fun k_27 => f_X4_letter_L27 Fu k_27 q_s p1 p2 Fu (nI 0) (nI 0))))
def f_X4_sideBySide_L60 (Fu : Nat) (k_60 : Int32 → Int32 → Int32 → Option Int32) (q_s : Ar) (p1 : Int32) (p2 : Int32) (x13 : Int32) : Nat → Int32 → Int32 → Int32 → Int32 → Option Int32
  | 0, _, _, _, _ => none
  | fu + 1, x15, x16, x17, x18 =>
    gd (ix ((nI 9) + x13) 345) (
    if ((q_s ((nI 9) + x13).toNatClampNeg) - (nI 1)) ≤ x18 then
      k_60 x15 x16 x17
    else
      bd1 (f_X4_first Fu q_s x13) (fun r21 =>
      gd (ix (((nI 45) + r21) + x18) 345) (
      jn (fun (v27 : Int32) =>
        nm (if v27 = 0 then x17 else (if x15 = 0 then x18 else x17)) (fun v31 =>
        nm (if v27 = 0 then x16 else (if x15 = 0 then x13 else x16)) (fun v34 =>
        nm (if v27 = 0 then (nI 0) else nI 1) (fun v36 =>
        f_X4_sideBySide_L60 Fu k_60 q_s p1 p2 x13 fu (x15 + v36) v34 v31 (x18 + (nI 1))))))
        (fun j28 =>
        if (q_s (((nI 45) + r21) + x18).toNatClampNeg) = p1 then
          gd (ix ((((nI 45) + r21) + x18) + (nI 1)) 345) (
          if (q_s ((((nI 45) + r21) + x18) + (nI 1)).toNatClampNeg) = p2 then
            j28 (nI 1)
          else
            j28 (nI 0))
        else
          j28 (nI 0)))))
theorem f_X4_sideBySide_L60_s (Fu : Nat) (k_60 : Int32 → Int32 → Int32 → Option Int32) (q_s : Ar) (p1 : Int32) (p2 : Int32) (x13 : Int32) (fu : Nat) (x15 : Int32) (x16 : Int32) (x17 : Int32) (x18 : Int32) : f_X4_sideBySide_L60 Fu k_60 q_s p1 p2 x13 (fu + 1) x15 x16 x17 x18 =
    gd (ix ((nI 9) + x13) 345) (
    if ((q_s ((nI 9) + x13).toNatClampNeg) - (nI 1)) ≤ x18 then
      k_60 x15 x16 x17
    else
      bd1 (f_X4_first Fu q_s x13) (fun r21 =>
      gd (ix (((nI 45) + r21) + x18) 345) (
      jn (fun (v27 : Int32) =>
        nm (if v27 = 0 then x17 else (if x15 = 0 then x18 else x17)) (fun v31 =>
        nm (if v27 = 0 then x16 else (if x15 = 0 then x13 else x16)) (fun v34 =>
        nm (if v27 = 0 then (nI 0) else nI 1) (fun v36 =>
        f_X4_sideBySide_L60 Fu k_60 q_s p1 p2 x13 fu (x15 + v36) v34 v31 (x18 + (nI 1))))))
        (fun j28 =>
        if (q_s (((nI 45) + r21) + x18).toNatClampNeg) = p1 then
          gd (ix ((((nI 45) + r21) + x18) + (nI 1)) 345) (
          if (q_s ((((nI 45) + r21) + x18) + (nI 1)).toNatClampNeg) = p2 then
            j28 (nI 1)
          else
            j28 (nI 0))
        else
          j28 (nI 0))))) := rfl
def f_X4_sideBySide_L46 (Fu : Nat) (k_46 : Int32 → Int32 → Int32 → Option Int32) (q_s : Ar) (p1 : Int32) (p2 : Int32) : Nat → Int32 → Int32 → Int32 → Int32 → Option Int32
  | 0, _, _, _, _ => none
  | fu + 1, x10, x11, x12, x13 =>
    if (q_s 3) ≤ x13 then
      k_46 x10 x11 x12
    else
      jn (fun (v37 : Int32) (v38 : Int32) (v39 : Int32) =>
        f_X4_sideBySide_L46 Fu k_46 q_s p1 p2 fu v37 v38 v39 (x13 + (nI 1)))
        (fun k_60 => f_X4_sideBySide_L60 Fu k_60 q_s p1 p2 x13 Fu x10 x11 x12 (nI 0))
theorem f_X4_sideBySide_L46_s (Fu : Nat) (k_46 : Int32 → Int32 → Int32 → Option Int32) (q_s : Ar) (p1 : Int32) (p2 : Int32) (fu : Nat) (x10 : Int32) (x11 : Int32) (x12 : Int32) (x13 : Int32) : f_X4_sideBySide_L46 Fu k_46 q_s p1 p2 (fu + 1) x10 x11 x12 x13 =
    if (q_s 3) ≤ x13 then
      k_46 x10 x11 x12
    else
      jn (fun (v37 : Int32) (v38 : Int32) (v39 : Int32) =>
        f_X4_sideBySide_L46 Fu k_46 q_s p1 p2 fu v37 v38 v39 (x13 + (nI 1)))
        (fun k_60 => f_X4_sideBySide_L60 Fu k_60 q_s p1 p2 x13 Fu x10 x11 x12 (nI 0)) := rfl
def f_X4_sideBySide (Fu : Nat) (q_s : Ar) (p1 : Int32) (p2 : Int32) (p3 : Int32) : Option Int32 :=
  bd1 (f_X4_in Fu p1 (nI 0) (nI 25)) (fun r1 =>
  if r1 = 0 then
    some (-2)
  else
    bd1 (f_X4_in Fu p2 (nI 0) (nI 25)) (fun r4 =>
    if r4 = 0 then
      some (-2)
    else
      bd1 (f_X4_in Fu p3 (nI 0) (nI 2)) (fun r7 =>
      if r7 = 0 then
        some (-2)
      else
        jn (fun (v40 : Int32) (v41 : Int32) (v42 : Int32) =>
          nm (if p3 = 0 then v40 else (if p3 = (nI 1) then v41 else v42)) (fun v45 =>
          some (v45)))
          (fun k_46 => f_X4_sideBySide_L46 Fu k_46 q_s p1 p2 Fu (nI 0) (-6) (-6) (nI 0)))))
def f_X4_common_L77 (Fu : Nat) (k_77 : Int32 → Option Int32) (q_s : Ar) (p1 : Int32) (p2 : Int32) (r7 : Int32) (r9 : Int32) (x12 : Int32) (x16 : Int32) : Nat → Int32 → Option Int32
  | 0, _ => none
  | fu + 1, x19 =>
    gd (ix ((nI 9) + p1) 345) (
    if (q_s ((nI 9) + p1).toNatClampNeg) ≤ (x12 + x19) then
      k_77 x19
    else
      gd (ix ((nI 9) + p2) 345) (
      if (q_s ((nI 9) + p2).toNatClampNeg) ≤ (x16 + x19) then
        k_77 x19
      else
        gd (ix ((((nI 45) + r7) + x12) + x19) 345) (
        gd (ix ((((nI 45) + r9) + x16) + x19) 345) (
        if (q_s ((((nI 45) + r7) + x12) + x19).toNatClampNeg) = (q_s ((((nI 45) + r9) + x16) + x19).toNatClampNeg) then
          f_X4_common_L77 Fu k_77 q_s p1 p2 r7 r9 x12 x16 fu (x19 + (nI 1))
        else
          k_77 x19))))
theorem f_X4_common_L77_s (Fu : Nat) (k_77 : Int32 → Option Int32) (q_s : Ar) (p1 : Int32) (p2 : Int32) (r7 : Int32) (r9 : Int32) (x12 : Int32) (x16 : Int32) (fu : Nat) (x19 : Int32) : f_X4_common_L77 Fu k_77 q_s p1 p2 r7 r9 x12 x16 (fu + 1) x19 =
    gd (ix ((nI 9) + p1) 345) (
    if (q_s ((nI 9) + p1).toNatClampNeg) ≤ (x12 + x19) then
      k_77 x19
    else
      gd (ix ((nI 9) + p2) 345) (
      if (q_s ((nI 9) + p2).toNatClampNeg) ≤ (x16 + x19) then
        k_77 x19
      else
        gd (ix ((((nI 45) + r7) + x12) + x19) 345) (
        gd (ix ((((nI 45) + r9) + x16) + x19) 345) (
        if (q_s ((((nI 45) + r7) + x12) + x19).toNatClampNeg) = (q_s ((((nI 45) + r9) + x16) + x19).toNatClampNeg) then
          f_X4_common_L77 Fu k_77 q_s p1 p2 r7 r9 x12 x16 fu (x19 + (nI 1))
        else
          k_77 x19)))) := rfl
def f_X4_common_L60 (Fu : Nat) (k_60 : Int32 → Option Int32) (q_s : Ar) (p1 : Int32) (p2 : Int32) (r7 : Int32) (r9 : Int32) (x12 : Int32) : Nat → Int32 → Int32 → Option Int32
  | 0, _, _ => none
  | fu + 1, x15, x16 =>
    gd (ix ((nI 9) + p2) 345) (
    if (q_s ((nI 9) + p2).toNatClampNeg) ≤ x16 then
      k_60 x15
    else
      jn (fun (v27 : Int32) =>
        nm (if v27 ≤ x15 then x15 else v27) (fun v29 =>
        f_X4_common_L60 Fu k_60 q_s p1 p2 r7 r9 x12 fu v29 (x16 + (nI 1))))
        (fun k_77 => f_X4_common_L77 Fu k_77 q_s p1 p2 r7 r9 x12 x16 Fu (nI 0)))
theorem f_X4_common_L60_s (Fu : Nat) (k_60 : Int32 → Option Int32) (q_s : Ar) (p1 : Int32) (p2 : Int32) (r7 : Int32) (r9 : Int32) (x12 : Int32) (fu : Nat) (x15 : Int32) (x16 : Int32) : f_X4_common_L60 Fu k_60 q_s p1 p2 r7 r9 x12 (fu + 1) x15 x16 =
    gd (ix ((nI 9) + p2) 345) (
    if (q_s ((nI 9) + p2).toNatClampNeg) ≤ x16 then
      k_60 x15
    else
      jn (fun (v27 : Int32) =>
        nm (if v27 ≤ x15 then x15 else v27) (fun v29 =>
        f_X4_common_L60 Fu k_60 q_s p1 p2 r7 r9 x12 fu v29 (x16 + (nI 1))))
        (fun k_77 => f_X4_common_L77 Fu k_77 q_s p1 p2 r7 r9 x12 x16 Fu (nI 0))) := rfl
def f_X4_common_L43 (Fu : Nat) (k_43 : Int32 → Option Int32) (q_s : Ar) (p1 : Int32) (p2 : Int32) (r7 : Int32) (r9 : Int32) : Nat → Int32 → Int32 → Option Int32
  | 0, _, _ => none
  | fu + 1, x11, x12 =>
    gd (ix ((nI 9) + p1) 345) (
    if (q_s ((nI 9) + p1).toNatClampNeg) ≤ x12 then
      k_43 x11
    else
      jn (fun (v30 : Int32) =>
        f_X4_common_L43 Fu k_43 q_s p1 p2 r7 r9 fu v30 (x12 + (nI 1)))
        (fun k_60 => f_X4_common_L60 Fu k_60 q_s p1 p2 r7 r9 x12 Fu x11 (nI 0)))
theorem f_X4_common_L43_s (Fu : Nat) (k_43 : Int32 → Option Int32) (q_s : Ar) (p1 : Int32) (p2 : Int32) (r7 : Int32) (r9 : Int32) (fu : Nat) (x11 : Int32) (x12 : Int32) : f_X4_common_L43 Fu k_43 q_s p1 p2 r7 r9 (fu + 1) x11 x12 =
    gd (ix ((nI 9) + p1) 345) (
    if (q_s ((nI 9) + p1).toNatClampNeg) ≤ x12 then
      k_43 x11
    else
      jn (fun (v30 : Int32) =>
        f_X4_common_L43 Fu k_43 q_s p1 p2 r7 r9 fu v30 (x12 + (nI 1)))
        (fun k_60 => f_X4_common_L60 Fu k_60 q_s p1 p2 r7 r9 x12 Fu x11 (nI 0))) := rfl
def f_X4_common (Fu : Nat) (q_s : Ar) (p1 : Int32) (p2 : Int32) : Option Int32 :=
  bd1 (f_X4_isStory Fu q_s p1) (fun r1 =>
  if r1 = 0 then
    some (-1)
  else
    bd1 (f_X4_isStory Fu q_s p2) (fun r4 =>
    if r4 = 0 then
      some (-1)
    else
      bd1 (f_X4_first Fu q_s p1) (fun r7 =>
      bd1 (f_X4_first Fu q_s p2) (fun r9 =>
      jn (fun (v31 : Int32) =>
        some (v31))
        (fun k_43 => f_X4_common_L43 Fu k_43 q_s p1 p2 r7 r9 Fu (nI 0) (nI 0))))))
def f_X4_tryHeat (Fu : Nat) (q_s : Ar) (q_aside : Ar) (q_reactions : Int32) (q_newSplits : Int32) (q_storiesThen : Int32) (q_heatThen : Int32) (p1 : Int32) (p2 : Int32) : Option (Ar × Ar × Int32 × Int32 × Int32 × Int32) :=
  bd1 (f_X4_putAside Fu q_s q_aside) (fun q_aside_1 =>
  bd1 (f_X4_warm Fu q_s p1 p2) (fun q_s_3 =>
  bd2 (f_X4_react Fu q_s_3) (fun r5 q_s_6 =>
  bd1 (f_X4_allHeat Fu q_s_6) (fun r8 =>
  bd1 (f_X4_putBack Fu q_s_6 q_aside_1) (fun q_s_10 =>
  some (q_s_10, q_aside_1, r5, (q_s_6 6) - (q_aside_1 6), q_s_6 3, r8))))))
def f_X4_ifHeated (Fu : Nat) (q_s : Ar) (q_aside : Ar) (q_reactions : Int32) (q_newSplits : Int32) (q_storiesThen : Int32) (q_heatThen : Int32) (p1 : Int32) (p2 : Int32) (p3 : Int32) (p4 : Int32) : Option (Int32 × Ar × Ar × Int32 × Int32 × Int32 × Int32) :=
  bd1 (f_X4_isWord Fu q_s p1 p2) (fun r1 =>
  if r1 = 0 then
    some (-1, q_s, q_aside, q_reactions, q_newSplits, q_storiesThen, q_heatThen)
  else
    bd1 (f_X4_in Fu p3 (nI 1) (nI 500)) (fun r4 =>
    if r4 = 0 then
      some (-2, q_s, q_aside, q_reactions, q_newSplits, q_storiesThen, q_heatThen)
    else
      bd1 (f_X4_in Fu p4 (nI 0) (nI 3)) (fun r7 =>
      if r7 = 0 then
        some (-2, q_s, q_aside, q_reactions, q_newSplits, q_storiesThen, q_heatThen)
      else
        bd1 (f_X4_first Fu q_s p1) (fun r10 =>
        bd6 (f_X4_tryHeat Fu q_s q_aside q_reactions q_newSplits q_storiesThen q_heatThen (r10 + p2) p3) (fun q_s_12 q_aside_13 q_reactions_14 q_newSplits_15 q_storiesThen_16 q_heatThen_17 =>
        nm (if p4 = 0 then q_reactions_14 else (if p4 = (nI 1) then q_newSplits_15 else (if p4 = (nI 2) then q_storiesThen_16 else q_heatThen_17))) (fun v22 =>
        some (v22, q_s_12, q_aside_13, q_reactions_14, q_newSplits_15, q_storiesThen_16, q_heatThen_17)))))))
def f_X4_critical_L13 (Fu : Nat) (p1 : Int32) (p2 : Int32) : Nat → Int32 → Ar → Ar → Int32 → Int32 → Int32 → Int32 → Option (Int32 × Ar × Ar × Int32 × Int32 × Int32 × Int32)
  | 0, _, _, _, _, _, _, _ => none
  | fu + 1, x4, q_s_5, q_aside_6, q_reactions_7, q_newSplits_8, q_storiesThen_9, q_heatThen_10 =>
    if (nI 500) < x4 then
      some (-6, q_s_5, q_aside_6, q_reactions_7, q_newSplits_8, q_storiesThen_9, q_heatThen_10)
    else
      bd1 (f_X4_first Fu q_s_5 p1) (fun r12 =>
      bd6 (f_X4_tryHeat Fu q_s_5 q_aside_6 q_reactions_7 q_newSplits_8 q_storiesThen_9 q_heatThen_10 (r12 + p2) x4) (fun q_s_14 q_aside_15 q_reactions_16 q_newSplits_17 q_storiesThen_18 q_heatThen_19 =>
      if q_newSplits_17 ≤ 0 then
        f_X4_critical_L13 Fu p1 p2 fu (x4 + (nI 1)) q_s_14 q_aside_15 q_reactions_16 q_newSplits_17 q_storiesThen_18 q_heatThen_19
      else
        some (x4, q_s_14, q_aside_15, q_reactions_16, q_newSplits_17, q_storiesThen_18, q_heatThen_19)))
theorem f_X4_critical_L13_s (Fu : Nat) (p1 : Int32) (p2 : Int32) (fu : Nat) (x4 : Int32) (q_s_5 : Ar) (q_aside_6 : Ar) (q_reactions_7 : Int32) (q_newSplits_8 : Int32) (q_storiesThen_9 : Int32) (q_heatThen_10 : Int32) : f_X4_critical_L13 Fu p1 p2 (fu + 1) x4 q_s_5 q_aside_6 q_reactions_7 q_newSplits_8 q_storiesThen_9 q_heatThen_10 =
    if (nI 500) < x4 then
      some (-6, q_s_5, q_aside_6, q_reactions_7, q_newSplits_8, q_storiesThen_9, q_heatThen_10)
    else
      bd1 (f_X4_first Fu q_s_5 p1) (fun r12 =>
      bd6 (f_X4_tryHeat Fu q_s_5 q_aside_6 q_reactions_7 q_newSplits_8 q_storiesThen_9 q_heatThen_10 (r12 + p2) x4) (fun q_s_14 q_aside_15 q_reactions_16 q_newSplits_17 q_storiesThen_18 q_heatThen_19 =>
      if q_newSplits_17 ≤ 0 then
        f_X4_critical_L13 Fu p1 p2 fu (x4 + (nI 1)) q_s_14 q_aside_15 q_reactions_16 q_newSplits_17 q_storiesThen_18 q_heatThen_19
      else
        some (x4, q_s_14, q_aside_15, q_reactions_16, q_newSplits_17, q_storiesThen_18, q_heatThen_19))) := rfl
def f_X4_critical (Fu : Nat) (q_s : Ar) (q_aside : Ar) (q_reactions : Int32) (q_newSplits : Int32) (q_storiesThen : Int32) (q_heatThen : Int32) (p1 : Int32) (p2 : Int32) : Option (Int32 × Ar × Ar × Int32 × Int32 × Int32 × Int32) :=
  bd1 (f_X4_isWord Fu q_s p1 p2) (fun r1 =>
  if r1 = 0 then
    some (-1, q_s, q_aside, q_reactions, q_newSplits, q_storiesThen, q_heatThen)
  else
    f_X4_critical_L13 Fu p1 p2 Fu (nI 1) q_s q_aside q_reactions q_newSplits q_storiesThen q_heatThen)
def f_X4_touchiest_L32 (Fu : Nat) (k_32 : Int32 → Int32 → Ar → Ar → Int32 → Int32 → Int32 → Int32 → Option (Int32 × Ar × Ar × Int32 × Int32 × Int32 × Int32)) (p1 : Int32) : Nat → Int32 → Int32 → Int32 → Ar → Ar → Int32 → Int32 → Int32 → Int32 → Option (Int32 × Ar × Ar × Int32 × Int32 × Int32 × Int32)
  | 0, _, _, _, _, _, _, _, _, _ => none
  | fu + 1, x7, x8, x9, q_s_10, q_aside_11, q_reactions_12, q_newSplits_13, q_storiesThen_14, q_heatThen_15 =>
    if (q_s_10 4) ≤ x9 then
      k_32 x7 x8 q_s_10 q_aside_11 q_reactions_12 q_newSplits_13 q_storiesThen_14 q_heatThen_15
    else
      bd6 (f_X4_tryHeat Fu q_s_10 q_aside_11 q_reactions_12 q_newSplits_13 q_storiesThen_14 q_heatThen_15 x9 p1) (fun q_s_17 q_aside_18 q_reactions_19 q_newSplits_20 q_storiesThen_21 q_heatThen_22 =>
      nm (if q_reactions_19 ≤ x8 then x7 else x9) (fun v25 =>
      nm (if q_reactions_19 ≤ x8 then x8 else q_reactions_19) (fun v27 =>
      f_X4_touchiest_L32 Fu k_32 p1 fu v25 v27 (x9 + (nI 1)) q_s_17 q_aside_18 q_reactions_19 q_newSplits_20 q_storiesThen_21 q_heatThen_22)))
theorem f_X4_touchiest_L32_s (Fu : Nat) (k_32 : Int32 → Int32 → Ar → Ar → Int32 → Int32 → Int32 → Int32 → Option (Int32 × Ar × Ar × Int32 × Int32 × Int32 × Int32)) (p1 : Int32) (fu : Nat) (x7 : Int32) (x8 : Int32) (x9 : Int32) (q_s_10 : Ar) (q_aside_11 : Ar) (q_reactions_12 : Int32) (q_newSplits_13 : Int32) (q_storiesThen_14 : Int32) (q_heatThen_15 : Int32) : f_X4_touchiest_L32 Fu k_32 p1 (fu + 1) x7 x8 x9 q_s_10 q_aside_11 q_reactions_12 q_newSplits_13 q_storiesThen_14 q_heatThen_15 =
    if (q_s_10 4) ≤ x9 then
      k_32 x7 x8 q_s_10 q_aside_11 q_reactions_12 q_newSplits_13 q_storiesThen_14 q_heatThen_15
    else
      bd6 (f_X4_tryHeat Fu q_s_10 q_aside_11 q_reactions_12 q_newSplits_13 q_storiesThen_14 q_heatThen_15 x9 p1) (fun q_s_17 q_aside_18 q_reactions_19 q_newSplits_20 q_storiesThen_21 q_heatThen_22 =>
      nm (if q_reactions_19 ≤ x8 then x7 else x9) (fun v25 =>
      nm (if q_reactions_19 ≤ x8 then x8 else q_reactions_19) (fun v27 =>
      f_X4_touchiest_L32 Fu k_32 p1 fu v25 v27 (x9 + (nI 1)) q_s_17 q_aside_18 q_reactions_19 q_newSplits_20 q_storiesThen_21 q_heatThen_22))) := rfl
def f_X4_touchiest (Fu : Nat) (q_s : Ar) (q_aside : Ar) (q_reactions : Int32) (q_newSplits : Int32) (q_storiesThen : Int32) (q_heatThen : Int32) (p1 : Int32) (p2 : Int32) : Option (Int32 × Ar × Ar × Int32 × Int32 × Int32 × Int32) :=
  bd1 (f_X4_in Fu p1 (nI 1) (nI 500)) (fun r1 =>
  if r1 = 0 then
    some (-2, q_s, q_aside, q_reactions, q_newSplits, q_storiesThen, q_heatThen)
  else
    bd1 (f_X4_in Fu p2 (nI 0) (nI 2)) (fun r4 =>
    if r4 = 0 then
      some (-2, q_s, q_aside, q_reactions, q_newSplits, q_storiesThen, q_heatThen)
    else
      jn (fun (v28 : Int32) (v29 : Int32) (q_s_30 : Ar) (q_aside_31 : Ar) (q_reactions_32 : Int32) (q_newSplits_33 : Int32) (q_storiesThen_34 : Int32) (q_heatThen_35 : Int32) =>
        jn (fun (v45 : Int32) =>
          some (v45, q_s_30, q_aside_31, q_reactions_32, q_newSplits_33, q_storiesThen_34, q_heatThen_35))
          (fun j46 =>
          if v28 = (-6) then
            j46 (-6)
          else
            if p2 = 0 then
              bd1 (f_X4_storyOf Fu q_s_30 v28) (fun r43 =>
              j46 r43)
            else
              if p2 = (nI 1) then
                bd1 (f_X4_storyOf Fu q_s_30 v28) (fun r39 =>
                bd1 (f_X4_first Fu q_s_30 r39) (fun r41 =>
                j46 (v28 - r41)))
              else
                j46 v29))
        (fun k_32 => f_X4_touchiest_L32 Fu k_32 p1 Fu (-6) (-1) (nI 0) q_s q_aside q_reactions q_newSplits q_storiesThen q_heatThen)))
def f_X4_coolestPair_L41 (Fu : Nat) (k_41 : Int32 → Int32 → Int32 → Option Int32) (q_s : Ar) (x7 : Int32) : Nat → Int32 → Int32 → Int32 → Int32 → Option Int32
  | 0, _, _, _, _ => none
  | fu + 1, x9, x10, x11, x12 =>
    if (q_s 3) ≤ x12 then
      k_41 x9 x10 x11
    else
      bd1 (f_X4_heatOf Fu q_s x7) (fun r14 =>
      bd1 (f_X4_heatOf Fu q_s x12) (fun r16 =>
      bd1 (f_X4_theme Fu q_s x7) (fun r18 =>
      bd1 (f_X4_theme Fu q_s x12) (fun r20 =>
      nm (if r18 = r20 then (if x9 = (-6) then (nI 1) else (if x11 ≤ (r14 + r16) then (nI 0) else nI 1)) else nI 0) (fun v25 =>
      nm (if v25 = 0 then x9 else x7) (fun v27 =>
      nm (if v25 = 0 then x10 else x12) (fun v29 =>
      nm (if v25 = 0 then x11 else r14 + r16) (fun v31 =>
      f_X4_coolestPair_L41 Fu k_41 q_s x7 fu v27 v29 v31 (x12 + (nI 1))))))))))
theorem f_X4_coolestPair_L41_s (Fu : Nat) (k_41 : Int32 → Int32 → Int32 → Option Int32) (q_s : Ar) (x7 : Int32) (fu : Nat) (x9 : Int32) (x10 : Int32) (x11 : Int32) (x12 : Int32) : f_X4_coolestPair_L41 Fu k_41 q_s x7 (fu + 1) x9 x10 x11 x12 =
    if (q_s 3) ≤ x12 then
      k_41 x9 x10 x11
    else
      bd1 (f_X4_heatOf Fu q_s x7) (fun r14 =>
      bd1 (f_X4_heatOf Fu q_s x12) (fun r16 =>
      bd1 (f_X4_theme Fu q_s x7) (fun r18 =>
      bd1 (f_X4_theme Fu q_s x12) (fun r20 =>
      nm (if r18 = r20 then (if x9 = (-6) then (nI 1) else (if x11 ≤ (r14 + r16) then (nI 0) else nI 1)) else nI 0) (fun v25 =>
      nm (if v25 = 0 then x9 else x7) (fun v27 =>
      nm (if v25 = 0 then x10 else x12) (fun v29 =>
      nm (if v25 = 0 then x11 else r14 + r16) (fun v31 =>
      f_X4_coolestPair_L41 Fu k_41 q_s x7 fu v27 v29 v31 (x12 + (nI 1)))))))))) := rfl
def f_X4_coolestPair_L24 (Fu : Nat) (k_24 : Int32 → Int32 → Option Int32) (q_s : Ar) : Nat → Int32 → Int32 → Int32 → Int32 → Option Int32
  | 0, _, _, _, _ => none
  | fu + 1, x4, x5, x6, x7 =>
    if (q_s 3) ≤ x7 then
      k_24 x4 x5
    else
      jn (fun (v32 : Int32) (v33 : Int32) (v34 : Int32) =>
        f_X4_coolestPair_L24 Fu k_24 q_s fu v32 v33 v34 (x7 + (nI 1)))
        (fun k_41 => f_X4_coolestPair_L41 Fu k_41 q_s x7 Fu x4 x5 x6 (x7 + (nI 1)))
theorem f_X4_coolestPair_L24_s (Fu : Nat) (k_24 : Int32 → Int32 → Option Int32) (q_s : Ar) (fu : Nat) (x4 : Int32) (x5 : Int32) (x6 : Int32) (x7 : Int32) : f_X4_coolestPair_L24 Fu k_24 q_s (fu + 1) x4 x5 x6 x7 =
    if (q_s 3) ≤ x7 then
      k_24 x4 x5
    else
      jn (fun (v32 : Int32) (v33 : Int32) (v34 : Int32) =>
        f_X4_coolestPair_L24 Fu k_24 q_s fu v32 v33 v34 (x7 + (nI 1)))
        (fun k_41 => f_X4_coolestPair_L41 Fu k_41 q_s x7 Fu x4 x5 x6 (x7 + (nI 1))) := rfl
def f_X4_coolestPair (Fu : Nat) (q_s : Ar) (p1 : Int32) : Option Int32 :=
  bd1 (f_X4_in Fu p1 (nI 0) (nI 1)) (fun r1 =>
  if r1 = 0 then
    some (-2)
  else
    jn (fun (v35 : Int32) (v36 : Int32) =>
      nm (if p1 = 0 then v35 else v36) (fun v38 =>
      some (v38)))
      (fun k_24 => f_X4_coolestPair_L24 Fu k_24 q_s Fu (-6) (-6) (nI 0) (nI 0)))
def f_X4_put_L8 (Fu : Nat) (k_8 : Int32 → Int32 → Option (Int32 × Ar × Int32)) (p1 : Int64) : Nat → Int32 → Int32 → Int32 → Option (Int32 × Ar × Int32)
  | 0, _, _, _ => none
  | fu + 1, x1, x2, x3 =>
    if (nI 8) ≤ x3 then
      k_8 x1 x2
    else
      nm (((((lushr p1 ((nI 8) * x3)) &&& (lN 255))).toInt32)) (fun v5 =>
      nm (if x3 ≤ 0 then (nI 0) else (if (lg_cmp (lushr p1 ((nI 8) * x3)) (lN 0)) = 0 then (nI 1) else nI 0)) (fun v8 =>
      jn (fun (v14 : Int32) =>
        nm (if v8 = 0 then (nI 1) else nI 0) (fun v17 =>
        f_X4_put_L8 Fu k_8 p1 fu (x1 + v17) v14 (x3 + (nI 1))))
        (fun j15 =>
        if x2 = 0 then
          if v8 = 0 then
            bd1 (f_X4_in Fu v5 (nI 33) (nI 126)) (fun r11 =>
            if r11 = 0 then
              j15 (nI 1)
            else
              j15 (nI 0))
          else
            j15 (nI 0)
        else
          j15 (nI 1))))
theorem f_X4_put_L8_s (Fu : Nat) (k_8 : Int32 → Int32 → Option (Int32 × Ar × Int32)) (p1 : Int64) (fu : Nat) (x1 : Int32) (x2 : Int32) (x3 : Int32) : f_X4_put_L8 Fu k_8 p1 (fu + 1) x1 x2 x3 =
    if (nI 8) ≤ x3 then
      k_8 x1 x2
    else
      nm (((((lushr p1 ((nI 8) * x3)) &&& (lN 255))).toInt32)) (fun v5 =>
      nm (if x3 ≤ 0 then (nI 0) else (if (lg_cmp (lushr p1 ((nI 8) * x3)) (lN 0)) = 0 then (nI 1) else nI 0)) (fun v8 =>
      jn (fun (v14 : Int32) =>
        nm (if v8 = 0 then (nI 1) else nI 0) (fun v17 =>
        f_X4_put_L8 Fu k_8 p1 fu (x1 + v17) v14 (x3 + (nI 1))))
        (fun j15 =>
        if x2 = 0 then
          if v8 = 0 then
            bd1 (f_X4_in Fu v5 (nI 33) (nI 126)) (fun r11 =>
            if r11 = 0 then
              j15 (nI 1)
            else
              j15 (nI 0))
          else
            j15 (nI 0)
        else
          j15 (nI 1)))) := rfl
def f_X4_put_L126 (Fu : Nat) (k_126 : Ar → Option (Int32 × Ar × Int32)) (q_length : Int32) (p1 : Int64) (v18 : Int32) : Nat → Int32 → Ar → Option (Int32 × Ar × Int32)
  | 0, _, _ => none
  | fu + 1, x22, q_pad_23 =>
    if v18 ≤ x22 then
      k_126 q_pad_23
    else
      gd (ix (((q_length + v18) - (nI 1)) - x22) 60) (
      nm ((upd q_pad_23 (((q_length + v18) - (nI 1)) - x22).toNatClampNeg ((((lushr p1 ((nI 8) * x22)) &&& (lN 255))).toInt32))) (fun (q_pad_26 : Ar) =>
      f_X4_put_L126 Fu k_126 q_length p1 v18 fu (x22 + (nI 1)) q_pad_26))
theorem f_X4_put_L126_s (Fu : Nat) (k_126 : Ar → Option (Int32 × Ar × Int32)) (q_length : Int32) (p1 : Int64) (v18 : Int32) (fu : Nat) (x22 : Int32) (q_pad_23 : Ar) : f_X4_put_L126 Fu k_126 q_length p1 v18 (fu + 1) x22 q_pad_23 =
    if v18 ≤ x22 then
      k_126 q_pad_23
    else
      gd (ix (((q_length + v18) - (nI 1)) - x22) 60) (
      nm ((upd q_pad_23 (((q_length + v18) - (nI 1)) - x22).toNatClampNeg ((((lushr p1 ((nI 8) * x22)) &&& (lN 255))).toInt32))) (fun (q_pad_26 : Ar) =>
      f_X4_put_L126 Fu k_126 q_length p1 v18 fu (x22 + (nI 1)) q_pad_26)) := rfl
def f_X4_put (Fu : Nat) (q_pad : Ar) (q_length : Int32) (p1 : Int64) : Option (Int32 × Ar × Int32) :=
  jn (fun (v18 : Int32) (v19 : Int32) =>
    if v19 = 0 then
      if (q_length + v18) ≤ (nI 60) then
        jn (fun (q_pad_27 : Ar) =>
          some (q_length + v18, q_pad_27, q_length + v18))
          (fun k_126 => f_X4_put_L126 Fu k_126 q_length p1 v18 Fu (nI 0) q_pad)
      else
        some (-4, q_pad, q_length)
    else
      some (-2, q_pad, q_length))
    (fun k_8 => f_X4_put_L8 Fu k_8 p1 Fu (nI 0) (nI 0) (nI 0))
def f_X4_wipe (Fu : Nat) (q_length : Int32) : Option (Int32 × Int32) :=
  some (q_length, nI 0)
def f_X4_sign (Fu : Nat) (q_pad : Ar) (q_length : Int32) (q_place : Int32) (q_isWrong : Int32) (p1 : Int32) (p2 : Int32) : Option (Int32 × Int32 × Int32) :=
  jn (fun (v3 : Int32) =>
    jn (fun (v9 : Int32) =>
      gd (bz v9) (
      nm (if v9 = 0 then (nI 1) else nI 0) (fun v13 =>
      some (v3, q_place + v13, v9))))
      (fun j10 =>
      if q_isWrong = 0 then
        bd1 (f_X4_in Fu v3 p1 p2) (fun r6 =>
        if r6 = 0 then
          j10 (nI 1)
        else
          j10 (nI 0))
      else
        j10 (nI 1)))
    (fun j4 =>
    if q_length ≤ q_place then
      j4 (nI 0)
    else
      gd (ix q_place 60) (
      j4 (q_pad (q_place).toNatClampNeg)))
def f_X4_isNext (Fu : Nat) (q_pad : Ar) (q_length : Int32) (q_place : Int32) (q_isWrong : Int32) (p1 : Int32) (p2 : Int32) : Option Int32 :=
  jn (fun (v7 : Int32) =>
    gd (bz v7) (some (v7)))
    (fun j8 =>
    if q_isWrong = 0 then
      if q_length ≤ q_place then
        j8 (nI 0)
      else
        gd (ix q_place 60) (
        bd1 (f_X4_in Fu (q_pad (q_place).toNatClampNeg) p1 p2) (fun r4 =>
        if r4 = 0 then
          j8 (nI 0)
        else
          j8 (nI 1)))
    else
      j8 (nI 0))
def f_X4_readPad_L22 (Fu : Nat) (k_22 : Int32 → Int32 → Ar → Ar → Ar → Int32 → Int32 → Option (Int32 × Int32 × Ar × Ar × Ar × Int32 × Int32)) (q_pad : Ar) (q_length : Int32) : Nat → Int32 → Int32 → Int32 → Ar → Ar → Ar → Int32 → Int32 → Option (Int32 × Int32 × Ar × Ar × Ar × Int32 × Int32)
  | 0, _, _, _, _, _, _, _, _ => none
  | fu + 1, x1, q_place_2, q_isWrong_3, q_toldLetter_4, q_toldHeat_5, q_toldStory_6, q_toldWords_7, q_toldStories_8 =>
    if x1 = 0 then
      k_22 q_place_2 q_isWrong_3 q_toldLetter_4 q_toldHeat_5 q_toldStory_6 q_toldWords_7 q_toldStories_8
    else
      bd3 (f_X4_sign Fu q_pad q_length q_place_2 q_isWrong_3 (nI 97) (nI 122)) (fun r10 q_place_11 q_isWrong_12 =>
      bd1 (f_X4_isNext Fu q_pad q_length q_place_11 q_isWrong_12 (nI 49) (nI 57)) (fun r14 =>
      jn (fun (v21 : Int32) (q_place_22 : Int32) (q_isWrong_23 : Int32) =>
        jn (fun (v33 : Int32) (q_place_34 : Int32) (q_isWrong_35 : Int32) =>
          gd (ix q_toldWords_7 61) (
          nm ((upd q_toldLetter_4 (q_toldWords_7).toNatClampNeg (r10 - (nI 97)))) (fun (q_toldLetter_38 : Ar) =>
          gd (ix q_toldWords_7 61) (
          gd (ix q_toldWords_7 61) (
          nm ((upd q_toldStory_6 (q_toldWords_7).toNatClampNeg (q_toldStories_8 - (nI 1)))) (fun (q_toldStory_41 : Ar) =>
          bd1 (f_X4_isNext Fu q_pad q_length q_place_34 q_isWrong_35 (nI 47) (nI 47)) (fun r42 =>
          jn (fun (v52 : Int32) (q_place_53 : Int32) (q_isWrong_54 : Int32) (q_toldStories_55 : Int32) =>
            f_X4_readPad_L22 Fu k_22 q_pad q_length fu v52 q_place_53 q_isWrong_54 q_toldLetter_38 (upd q_toldHeat_5 (q_toldWords_7).toNatClampNeg v33) q_toldStory_41 (q_toldWords_7 + (nI 1)) q_toldStories_55)
            (fun j56 =>
            if r42 = 0 then
              nm (if q_isWrong_35 = 0 then (if q_length ≤ q_place_34 then (nI 0) else nI 1) else nI 0) (fun v47 =>
              j56 v47 q_place_34 q_isWrong_35 q_toldStories_8)
            else
              bd3 (f_X4_sign Fu q_pad q_length q_place_34 q_isWrong_35 (nI 47) (nI 47)) (fun r48 q_place_49 q_isWrong_50 =>
              j56 (nI 1) q_place_49 q_isWrong_50 (q_toldStories_8 + (nI 1)))))))))))
          (fun j36 =>
          if v21 ≤ 0 then
            j36 v21 q_place_22 q_isWrong_23
          else
            bd1 (f_X4_isNext Fu q_pad q_length q_place_22 q_isWrong_23 (nI 48) (nI 57)) (fun r26 =>
            if r26 = 0 then
              j36 v21 q_place_22 q_isWrong_23
            else
              bd3 (f_X4_sign Fu q_pad q_length q_place_22 q_isWrong_23 (nI 48) (nI 57)) (fun r29 q_place_30 q_isWrong_31 =>
              j36 ((((nI 10) * v21) + r29) - (nI 48)) q_place_30 q_isWrong_31))))
        (fun j24 =>
        if r14 = 0 then
          j24 (nI 0) q_place_11 q_isWrong_12
        else
          bd3 (f_X4_sign Fu q_pad q_length q_place_11 q_isWrong_12 (nI 49) (nI 57)) (fun r17 q_place_18 q_isWrong_19 =>
          j24 (r17 - (nI 48)) q_place_18 q_isWrong_19))))
theorem f_X4_readPad_L22_s (Fu : Nat) (k_22 : Int32 → Int32 → Ar → Ar → Ar → Int32 → Int32 → Option (Int32 × Int32 × Ar × Ar × Ar × Int32 × Int32)) (q_pad : Ar) (q_length : Int32) (fu : Nat) (x1 : Int32) (q_place_2 : Int32) (q_isWrong_3 : Int32) (q_toldLetter_4 : Ar) (q_toldHeat_5 : Ar) (q_toldStory_6 : Ar) (q_toldWords_7 : Int32) (q_toldStories_8 : Int32) : f_X4_readPad_L22 Fu k_22 q_pad q_length (fu + 1) x1 q_place_2 q_isWrong_3 q_toldLetter_4 q_toldHeat_5 q_toldStory_6 q_toldWords_7 q_toldStories_8 =
    if x1 = 0 then
      k_22 q_place_2 q_isWrong_3 q_toldLetter_4 q_toldHeat_5 q_toldStory_6 q_toldWords_7 q_toldStories_8
    else
      bd3 (f_X4_sign Fu q_pad q_length q_place_2 q_isWrong_3 (nI 97) (nI 122)) (fun r10 q_place_11 q_isWrong_12 =>
      bd1 (f_X4_isNext Fu q_pad q_length q_place_11 q_isWrong_12 (nI 49) (nI 57)) (fun r14 =>
      jn (fun (v21 : Int32) (q_place_22 : Int32) (q_isWrong_23 : Int32) =>
        jn (fun (v33 : Int32) (q_place_34 : Int32) (q_isWrong_35 : Int32) =>
          gd (ix q_toldWords_7 61) (
          nm ((upd q_toldLetter_4 (q_toldWords_7).toNatClampNeg (r10 - (nI 97)))) (fun (q_toldLetter_38 : Ar) =>
          gd (ix q_toldWords_7 61) (
          gd (ix q_toldWords_7 61) (
          nm ((upd q_toldStory_6 (q_toldWords_7).toNatClampNeg (q_toldStories_8 - (nI 1)))) (fun (q_toldStory_41 : Ar) =>
          bd1 (f_X4_isNext Fu q_pad q_length q_place_34 q_isWrong_35 (nI 47) (nI 47)) (fun r42 =>
          jn (fun (v52 : Int32) (q_place_53 : Int32) (q_isWrong_54 : Int32) (q_toldStories_55 : Int32) =>
            f_X4_readPad_L22 Fu k_22 q_pad q_length fu v52 q_place_53 q_isWrong_54 q_toldLetter_38 (upd q_toldHeat_5 (q_toldWords_7).toNatClampNeg v33) q_toldStory_41 (q_toldWords_7 + (nI 1)) q_toldStories_55)
            (fun j56 =>
            if r42 = 0 then
              nm (if q_isWrong_35 = 0 then (if q_length ≤ q_place_34 then (nI 0) else nI 1) else nI 0) (fun v47 =>
              j56 v47 q_place_34 q_isWrong_35 q_toldStories_8)
            else
              bd3 (f_X4_sign Fu q_pad q_length q_place_34 q_isWrong_35 (nI 47) (nI 47)) (fun r48 q_place_49 q_isWrong_50 =>
              j56 (nI 1) q_place_49 q_isWrong_50 (q_toldStories_8 + (nI 1)))))))))))
          (fun j36 =>
          if v21 ≤ 0 then
            j36 v21 q_place_22 q_isWrong_23
          else
            bd1 (f_X4_isNext Fu q_pad q_length q_place_22 q_isWrong_23 (nI 48) (nI 57)) (fun r26 =>
            if r26 = 0 then
              j36 v21 q_place_22 q_isWrong_23
            else
              bd3 (f_X4_sign Fu q_pad q_length q_place_22 q_isWrong_23 (nI 48) (nI 57)) (fun r29 q_place_30 q_isWrong_31 =>
              j36 ((((nI 10) * v21) + r29) - (nI 48)) q_place_30 q_isWrong_31))))
        (fun j24 =>
        if r14 = 0 then
          j24 (nI 0) q_place_11 q_isWrong_12
        else
          bd3 (f_X4_sign Fu q_pad q_length q_place_11 q_isWrong_12 (nI 49) (nI 57)) (fun r17 q_place_18 q_isWrong_19 =>
          j24 (r17 - (nI 48)) q_place_18 q_isWrong_19)))) := rfl
def f_X4_readPad (Fu : Nat) (q_pad : Ar) (q_length : Int32) (q_place : Int32) (q_isWrong : Int32) (q_toldLetter : Ar) (q_toldHeat : Ar) (q_toldStory : Ar) (q_toldWords : Int32) (q_toldStories : Int32) : Option (Int32 × Int32 × Ar × Ar × Ar × Int32 × Int32) :=
  jn (fun (q_place_57 : Int32) (q_isWrong_58 : Int32) (q_toldLetter_59 : Ar) (q_toldHeat_60 : Ar) (q_toldStory_61 : Ar) (q_toldWords_62 : Int32) (q_toldStories_63 : Int32) =>
    some (q_place_57, q_isWrong_58, q_toldLetter_59, q_toldHeat_60, q_toldStory_61, q_toldWords_62, q_toldStories_63))
    (fun k_22 => f_X4_readPad_L22 Fu k_22 q_pad q_length Fu (nI 1) (nI 0) (nI 0) q_toldLetter q_toldHeat q_toldStory (nI 0) (nI 1))
def f_X4_fault (Fu : Nat) (q_pad : Ar) (q_length : Int32) (q_place : Int32) (q_isWrong : Int32) (q_toldLetter : Ar) (q_toldHeat : Ar) (q_toldStory : Ar) (q_toldWords : Int32) (q_toldStories : Int32) : Option (Int32 × Int32 × Int32 × Ar × Ar × Ar × Int32 × Int32) :=
  bd7 (f_X4_readPad Fu q_pad q_length q_place q_isWrong q_toldLetter q_toldHeat q_toldStory q_toldWords q_toldStories) (fun q_place_1 q_isWrong_2 q_toldLetter_3 q_toldHeat_4 q_toldStory_5 q_toldWords_6 q_toldStories_7 =>
  nm (if q_isWrong_2 = 0 then -6 else q_place_1) (fun v10 =>
  some (v10, q_place_1, q_isWrong_2, q_toldLetter_3, q_toldHeat_4, q_toldStory_5, q_toldWords_6, q_toldStories_7)))
def f_X4_write_L63 (Fu : Nat) (k_63 : Ar → Option (Int32 × Ar × Ar × Int32 × Int32 × Int32 × Int32 × Ar × Ar × Ar × Int32 × Int32)) (q_s : Ar) (q_toldStories_7 : Int32) : Nat → Int32 → Ar → Option (Int32 × Ar × Ar × Int32 × Int32 × Int32 × Int32 × Ar × Ar × Ar × Int32 × Int32)
  | 0, _, _ => none
  | fu + 1, x15, q_s_16 =>
    if q_toldStories_7 ≤ x15 then
      k_63 q_s_16
    else
      gd (ix (((nI 9) + (q_s 3)) + x15) 345) (
      gd (ix (((nI 21) + (q_s 3)) + x15) 345) (
      nm ((upd (upd q_s_16 (((nI 9) + (q_s 3)) + x15).toNatClampNeg (nI 0)) (((nI 21) + (q_s 3)) + x15).toNatClampNeg ((upd q_s_16 (((nI 9) + (q_s 3)) + x15).toNatClampNeg (nI 0)) 5))) (fun (q_s_20 : Ar) =>
      gd (ix (((nI 33) + (q_s 3)) + x15) 345) (
      nm ((upd q_s_20 (((nI 33) + (q_s 3)) + x15).toNatClampNeg (nI 0))) (fun (q_s_22 : Ar) =>
      f_X4_write_L63 Fu k_63 q_s q_toldStories_7 fu (x15 + (nI 1)) (upd q_s_22 5 ((q_s_22 5) + (nI 1))))))))
theorem f_X4_write_L63_s (Fu : Nat) (k_63 : Ar → Option (Int32 × Ar × Ar × Int32 × Int32 × Int32 × Int32 × Ar × Ar × Ar × Int32 × Int32)) (q_s : Ar) (q_toldStories_7 : Int32) (fu : Nat) (x15 : Int32) (q_s_16 : Ar) : f_X4_write_L63 Fu k_63 q_s q_toldStories_7 (fu + 1) x15 q_s_16 =
    if q_toldStories_7 ≤ x15 then
      k_63 q_s_16
    else
      gd (ix (((nI 9) + (q_s 3)) + x15) 345) (
      gd (ix (((nI 21) + (q_s 3)) + x15) 345) (
      nm ((upd (upd q_s_16 (((nI 9) + (q_s 3)) + x15).toNatClampNeg (nI 0)) (((nI 21) + (q_s 3)) + x15).toNatClampNeg ((upd q_s_16 (((nI 9) + (q_s 3)) + x15).toNatClampNeg (nI 0)) 5))) (fun (q_s_20 : Ar) =>
      gd (ix (((nI 33) + (q_s 3)) + x15) 345) (
      nm ((upd q_s_20 (((nI 33) + (q_s 3)) + x15).toNatClampNeg (nI 0))) (fun (q_s_22 : Ar) =>
      f_X4_write_L63 Fu k_63 q_s q_toldStories_7 fu (x15 + (nI 1)) (upd q_s_22 5 ((q_s_22 5) + (nI 1)))))))) := rfl
def f_X4_write_L130 (Fu : Nat) (k_130 : Ar → Option (Int32 × Ar × Ar × Int32 × Int32 × Int32 × Int32 × Ar × Ar × Ar × Int32 × Int32)) (q_s : Ar) (q_toldLetter_3 : Ar) (q_toldHeat_4 : Ar) (q_toldStory_5 : Ar) (q_toldWords_6 : Int32) : Nat → Int32 → Ar → Option (Int32 × Ar × Ar × Int32 × Int32 × Int32 × Int32 × Ar × Ar × Ar × Int32 × Int32)
  | 0, _, _ => none
  | fu + 1, x24, q_s_25 =>
    if q_toldWords_6 ≤ x24 then
      k_130 q_s_25
    else
      gd (ix x24 61) (
      gd (ix (((nI 45) + (q_s_25 4)) + x24) 345) (
      nm ((upd q_s_25 (((nI 45) + (q_s_25 4)) + x24).toNatClampNeg (q_toldLetter_3 (x24).toNatClampNeg))) (fun (q_s_29 : Ar) =>
      gd (ix x24 61) (
      gd (ix (((nI 195) + (q_s_29 4)) + x24) 345) (
      nm ((upd q_s_29 (((nI 195) + (q_s_29 4)) + x24).toNatClampNeg (q_toldHeat_4 (x24).toNatClampNeg))) (fun (q_s_32 : Ar) =>
      gd (ix x24 61) (
      gd (ix (((nI 9) + (q_s 3)) + (q_toldStory_5 (x24).toNatClampNeg)) 345) (
      gd (ix (((nI 9) + (q_s 3)) + (q_toldStory_5 (x24).toNatClampNeg)) 345) (
      nm ((upd q_s_32 (((nI 9) + (q_s 3)) + (q_toldStory_5 (x24).toNatClampNeg)).toNatClampNeg ((q_s_32 (((nI 9) + (q_s 3)) + (q_toldStory_5 (x24).toNatClampNeg)).toNatClampNeg) + (nI 1)))) (fun (q_s_36 : Ar) =>
      f_X4_write_L130 Fu k_130 q_s q_toldLetter_3 q_toldHeat_4 q_toldStory_5 q_toldWords_6 fu (x24 + (nI 1)) q_s_36))))))))))
theorem f_X4_write_L130_s (Fu : Nat) (k_130 : Ar → Option (Int32 × Ar × Ar × Int32 × Int32 × Int32 × Int32 × Ar × Ar × Ar × Int32 × Int32)) (q_s : Ar) (q_toldLetter_3 : Ar) (q_toldHeat_4 : Ar) (q_toldStory_5 : Ar) (q_toldWords_6 : Int32) (fu : Nat) (x24 : Int32) (q_s_25 : Ar) : f_X4_write_L130 Fu k_130 q_s q_toldLetter_3 q_toldHeat_4 q_toldStory_5 q_toldWords_6 (fu + 1) x24 q_s_25 =
    if q_toldWords_6 ≤ x24 then
      k_130 q_s_25
    else
      gd (ix x24 61) (
      gd (ix (((nI 45) + (q_s_25 4)) + x24) 345) (
      nm ((upd q_s_25 (((nI 45) + (q_s_25 4)) + x24).toNatClampNeg (q_toldLetter_3 (x24).toNatClampNeg))) (fun (q_s_29 : Ar) =>
      gd (ix x24 61) (
      gd (ix (((nI 195) + (q_s_29 4)) + x24) 345) (
      nm ((upd q_s_29 (((nI 195) + (q_s_29 4)) + x24).toNatClampNeg (q_toldHeat_4 (x24).toNatClampNeg))) (fun (q_s_32 : Ar) =>
      gd (ix x24 61) (
      gd (ix (((nI 9) + (q_s 3)) + (q_toldStory_5 (x24).toNatClampNeg)) 345) (
      gd (ix (((nI 9) + (q_s 3)) + (q_toldStory_5 (x24).toNatClampNeg)) 345) (
      nm ((upd q_s_32 (((nI 9) + (q_s 3)) + (q_toldStory_5 (x24).toNatClampNeg)).toNatClampNeg ((q_s_32 (((nI 9) + (q_s 3)) + (q_toldStory_5 (x24).toNatClampNeg)).toNatClampNeg) + (nI 1)))) (fun (q_s_36 : Ar) =>
      f_X4_write_L130 Fu k_130 q_s q_toldLetter_3 q_toldHeat_4 q_toldStory_5 q_toldWords_6 fu (x24 + (nI 1)) q_s_36)))))))))) := rfl
def f_X4_write (Fu : Nat) (q_s : Ar) (q_before : Ar) (q_known : Int32) (q_pad : Ar) (q_length : Int32) (q_place : Int32) (q_isWrong : Int32) (q_toldLetter : Ar) (q_toldHeat : Ar) (q_toldStory : Ar) (q_toldWords : Int32) (q_toldStories : Int32) : Option (Int32 × Ar × Ar × Int32 × Int32 × Int32 × Int32 × Ar × Ar × Ar × Int32 × Int32) :=
  bd7 (f_X4_readPad Fu q_pad q_length q_place q_isWrong q_toldLetter q_toldHeat q_toldStory q_toldWords q_toldStories) (fun q_place_1 q_isWrong_2 q_toldLetter_3 q_toldHeat_4 q_toldStory_5 q_toldWords_6 q_toldStories_7 =>
  if q_isWrong_2 = 0 then
    if (nI 12) < ((q_s 3) + q_toldStories_7) then
      some (-4, q_s, q_before, q_known, q_length, q_place_1, q_isWrong_2, q_toldLetter_3, q_toldHeat_4, q_toldStory_5, q_toldWords_6, q_toldStories_7)
    else
      if ((q_s 4) + q_toldWords_6) ≤ (nI 150) then
        bd2 (f_X4_know Fu q_s q_before q_known) (fun q_before_12 q_known_13 =>
        jn (fun (q_s_23 : Ar) =>
          jn (fun (q_s_37 : Ar) =>
            nm ((upd (upd q_s_37 3 ((q_s_37 3) + q_toldStories_7)) 4 (((upd q_s_37 3 ((q_s_37 3) + q_toldStories_7)) 4) + q_toldWords_6))) (fun (q_s_38 : Ar) =>
            bd2 (f_X4_react Fu q_s_38) (fun r39 q_s_40 =>
            some (q_s_40 3, q_s_40, q_before_12, q_known_13, nI 0, q_place_1, q_isWrong_2, q_toldLetter_3, q_toldHeat_4, q_toldStory_5, q_toldWords_6, q_toldStories_7))))
            (fun k_130 => f_X4_write_L130 Fu k_130 q_s q_toldLetter_3 q_toldHeat_4 q_toldStory_5 q_toldWords_6 Fu (nI 0) q_s_23))
          (fun k_63 => f_X4_write_L63 Fu k_63 q_s q_toldStories_7 Fu (nI 0) q_s))
      else
        some (-4, q_s, q_before, q_known, q_length, q_place_1, q_isWrong_2, q_toldLetter_3, q_toldHeat_4, q_toldStory_5, q_toldWords_6, q_toldStories_7)
  else
    some (-3, q_s, q_before, q_known, q_length, q_place_1, q_isWrong_2, q_toldLetter_3, q_toldHeat_4, q_toldStory_5, q_toldWords_6, q_toldStories_7))
def f_X4_undo_L22 (Fu : Nat) (k_22 : Ar → Option (Int32 × Ar × Int32)) (q_before : Ar) (q_known : Int32) : Nat → Int32 → Ar → Option (Int32 × Ar × Int32)
  | 0, _, _ => none
  | fu + 1, x2, q_s_3 =>
    if (nI 345) ≤ x2 then
      k_22 q_s_3
    else
      gd (ix (((nI 345) * (q_known - (nI 1))) + x2) 2070) (
      gd (ix x2 345) (
      nm ((upd q_s_3 (x2).toNatClampNeg (q_before (((nI 345) * (q_known - (nI 1))) + x2).toNatClampNeg))) (fun (q_s_7 : Ar) =>
      f_X4_undo_L22 Fu k_22 q_before q_known fu (x2 + (nI 1)) q_s_7)))
theorem f_X4_undo_L22_s (Fu : Nat) (k_22 : Ar → Option (Int32 × Ar × Int32)) (q_before : Ar) (q_known : Int32) (fu : Nat) (x2 : Int32) (q_s_3 : Ar) : f_X4_undo_L22 Fu k_22 q_before q_known (fu + 1) x2 q_s_3 =
    if (nI 345) ≤ x2 then
      k_22 q_s_3
    else
      gd (ix (((nI 345) * (q_known - (nI 1))) + x2) 2070) (
      gd (ix x2 345) (
      nm ((upd q_s_3 (x2).toNatClampNeg (q_before (((nI 345) * (q_known - (nI 1))) + x2).toNatClampNeg))) (fun (q_s_7 : Ar) =>
      f_X4_undo_L22 Fu k_22 q_before q_known fu (x2 + (nI 1)) q_s_7))) := rfl
def f_X4_undo (Fu : Nat) (q_s : Ar) (q_before : Ar) (q_known : Int32) : Option (Int32 × Ar × Int32) :=
  if q_known = 0 then
    some (-5, q_s, q_known)
  else
    jn (fun (q_s_8 : Ar) =>
      some (q_known - (nI 1), q_s_8, q_known - (nI 1)))
      (fun k_22 => f_X4_undo_L22 Fu k_22 q_before q_known Fu (nI 0) q_s)
def f_X4_save_L14 (Fu : Nat) (k_14 : Ar → Option (Int32 × Ar × Ar)) (q_s : Ar) (p1 : Int32) : Nat → Int32 → Ar → Option (Int32 × Ar × Ar)
  | 0, _, _ => none
  | fu + 1, x4, q_slots_5 =>
    if (nI 345) ≤ x4 then
      k_14 q_slots_5
    else
      gd (ix x4 345) (
      gd (ix (((nI 345) * p1) + x4) 690) (
      nm ((upd q_slots_5 (((nI 345) * p1) + x4).toNatClampNeg (q_s (x4).toNatClampNeg))) (fun (q_slots_9 : Ar) =>
      f_X4_save_L14 Fu k_14 q_s p1 fu (x4 + (nI 1)) q_slots_9)))
theorem f_X4_save_L14_s (Fu : Nat) (k_14 : Ar → Option (Int32 × Ar × Ar)) (q_s : Ar) (p1 : Int32) (fu : Nat) (x4 : Int32) (q_slots_5 : Ar) : f_X4_save_L14 Fu k_14 q_s p1 (fu + 1) x4 q_slots_5 =
    if (nI 345) ≤ x4 then
      k_14 q_slots_5
    else
      gd (ix x4 345) (
      gd (ix (((nI 345) * p1) + x4) 690) (
      nm ((upd q_slots_5 (((nI 345) * p1) + x4).toNatClampNeg (q_s (x4).toNatClampNeg))) (fun (q_slots_9 : Ar) =>
      f_X4_save_L14 Fu k_14 q_s p1 fu (x4 + (nI 1)) q_slots_9))) := rfl
def f_X4_save (Fu : Nat) (q_s : Ar) (q_slots : Ar) (q_isSaved : Ar) (p1 : Int32) : Option (Int32 × Ar × Ar) :=
  bd1 (f_X4_in Fu p1 (nI 0) (nI 1)) (fun r1 =>
  if r1 = 0 then
    some (-2, q_slots, q_isSaved)
  else
    jn (fun (q_slots_10 : Ar) =>
      gd (ix p1 2) (
      some (q_s 3, q_slots_10, upd q_isSaved (p1).toNatClampNeg (nI 1))))
      (fun k_14 => f_X4_save_L14 Fu k_14 q_s p1 Fu (nI 0) q_slots))
def f_X4_restore_L30 (Fu : Nat) (k_30 : Ar → Option (Int32 × Ar × Ar × Int32)) (q_slots : Ar) (p1 : Int32) : Nat → Int32 → Ar → Option (Int32 × Ar × Ar × Int32)
  | 0, _, _ => none
  | fu + 1, x9, q_s_10 =>
    if (nI 345) ≤ x9 then
      k_30 q_s_10
    else
      gd (ix (((nI 345) * p1) + x9) 690) (
      gd (ix x9 345) (
      nm ((upd q_s_10 (x9).toNatClampNeg (q_slots (((nI 345) * p1) + x9).toNatClampNeg))) (fun (q_s_14 : Ar) =>
      f_X4_restore_L30 Fu k_30 q_slots p1 fu (x9 + (nI 1)) q_s_14)))
theorem f_X4_restore_L30_s (Fu : Nat) (k_30 : Ar → Option (Int32 × Ar × Ar × Int32)) (q_slots : Ar) (p1 : Int32) (fu : Nat) (x9 : Int32) (q_s_10 : Ar) : f_X4_restore_L30 Fu k_30 q_slots p1 (fu + 1) x9 q_s_10 =
    if (nI 345) ≤ x9 then
      k_30 q_s_10
    else
      gd (ix (((nI 345) * p1) + x9) 690) (
      gd (ix x9 345) (
      nm ((upd q_s_10 (x9).toNatClampNeg (q_slots (((nI 345) * p1) + x9).toNatClampNeg))) (fun (q_s_14 : Ar) =>
      f_X4_restore_L30 Fu k_30 q_slots p1 fu (x9 + (nI 1)) q_s_14))) := rfl
def f_X4_restore (Fu : Nat) (q_s : Ar) (q_before : Ar) (q_known : Int32) (q_slots : Ar) (q_isSaved : Ar) (p1 : Int32) : Option (Int32 × Ar × Ar × Int32) :=
  bd1 (f_X4_in Fu p1 (nI 0) (nI 1)) (fun r1 =>
  if r1 = 0 then
    some (-2, q_s, q_before, q_known)
  else
    gd (ix p1 2) (
    if (q_isSaved (p1).toNatClampNeg) = 0 then
      some (-5, q_s, q_before, q_known)
    else
      bd2 (f_X4_know Fu q_s q_before q_known) (fun q_before_6 q_known_7 =>
      jn (fun (q_s_15 : Ar) =>
        some (q_s_15 3, q_s_15, q_before_6, q_known_7))
        (fun k_30 => f_X4_restore_L30 Fu k_30 q_slots p1 Fu (nI 0) q_s))))
