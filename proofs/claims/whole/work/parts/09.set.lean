def f_X3_set (Fu : Nat) (n_settings : Ar) (n_letters : Ar) (n_heats : Ar) (n_starts : Ar) (n_families : Ar) (n_generations : Ar) (n_stories : Int32) (n_nextFamily : Int32) (n_splits : Int32) (n_boilings : Int32) (n_fizzles : Int32) (h_v : Nat → SV) (h_oldest : Int32) (h_size : Int32) (p1 : Int32) (p2 : Int32) : Option (Int32 × Ar × (Nat → SV) × Int32 × Int32) :=
  bd1 (f_X3_isWithin Fu p1 (nI 0) (nI 2)) (fun r1 =>
  if r1 = 0 then
    some (-2, n_settings, h_v, h_oldest, h_size)
  else
    gd (ix p1 3) (
    bd1 (f_X3_isWithin Fu p2 (if p1.toNatClampNeg = 0 then nI 10 else nI 0) (if p1.toNatClampNeg = 0 then nI 99 else if p1.toNatClampNeg = 1 then nI 4 else nI 20)) (fun r2 =>
    if r2 = 0 then
      some (-2, n_settings, h_v, h_oldest, h_size)
    else
      bd3 (f_X0_record Fu h_v h_oldest h_size n_settings n_letters n_heats n_starts n_families n_generations n_stories n_nextFamily n_splits n_boilings n_fizzles) (fun h_v_3 h_oldest_4 h_size_5 =>
      some (n_settings p1.toNatClampNeg, upd n_settings p1.toNatClampNeg p2, h_v_3, h_oldest_4, h_size_5)))))
