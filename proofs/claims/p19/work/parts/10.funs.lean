/-! every method as a plain function over abstract heaps -/
def F_X2_init (a0 : Nat) (hp : hpT) : Rs Unit :=
  newI hp 20 fun a21 h21 =>
  pf h21 a0 2 0 (va_rf (some a21)) fun h22 =>
  rtv () h22
def F_X5_init (a0 : Nat) (hp : hpT) : Rs Unit :=
  newR hp 6 4 fun a21 h21 =>
  pf h21 a0 5 0 (va_rf (some a21)) fun h22 =>
  newO h22 2 [.null, .int 0, .int 0, .int 0, .int 0, .int 0] fun a23 h23 =>
  bnd (F_X2_init a23  h23) fun _ h24 =>
  pf h24 a0 5 1 (va_rf (some a23)) fun h25 =>
  rtv () h25
def F_X7_init_b41 : Nat → Nat → Int32 → hpT → Rs Unit
  | 0, _, _, _ => none
  | n + 1, a0, x1, hp =>
    gfR hp a0 7 6 fun r21 =>
    nn r21 fun a22 =>
    alen hp a22 fun x23 =>
    (if x23 ≤ x1 then
      rtv () hp
    else
      gfR hp a0 7 6 fun r24 =>
      newO hp 5 [.null, .null, .int 0, .null, .int 0] fun a25 h25 =>
      bnd (F_X5_init a25  h25) fun _ h26 =>
      nn r24 fun a27 =>
      astR h26 5 5 a27 x1 a25 fun h28 =>
      F_X7_init_b41 n a0 (x1 + 1) h28)
def F_X7_init (a0 : Nat) (hp : hpT) : Rs Unit :=
  newR hp 2 6 fun a29 h29 =>
  pf h29 a0 7 0 (va_rf (some a29)) fun h30 =>
  newR h30 3 8 fun a31 h31 =>
  pf h31 a0 7 2 (va_rf (some a31)) fun h32 =>
  newR h32 4 10 fun a33 h33 =>
  pf h33 a0 7 4 (va_rf (some a33)) fun h34 =>
  newR h34 5 4 fun a35 h35 =>
  pf h35 a0 7 6 (va_rf (some a35)) fun h36 =>
  F_X7_init_b41 6 a0 0 h36
def F_X7_requireWithin_b10 (hp : hpT) : Rs Unit :=
  tht "java/lang/IllegalArgumentException" hp
def F_X7_requireWithin (x0 : Int32) (x1 : Int32) (x2 : Int32) (hp : hpT) : Rs Unit :=
  (if x0 < x1 then
    F_X7_requireWithin_b10 hp
  else
    (if x0 ≤ x2 then
      rtv () hp
    else
      F_X7_requireWithin_b10 hp))
def F_X0_init (a0 : Nat) (x1 : Int32) (x2 : Int32) (hp : hpT) : Rs Unit :=
  newI hp 100 fun a21 h21 =>
  pf h21 a0 0 2 (va_rf (some a21)) fun h22 =>
  pf h22 a0 0 0 (.int x1) fun h23 =>
  pf h23 a0 0 1 (.int x2) fun h24 =>
  rtv () h24
def F_X3_init_b72 (a0 : Nat) (x2 : Int32) (x5 : Int32) (xs0 : Int32) (as1 : Nat) (hp : hpT) : Rs Unit :=
  pf hp as1 3 2 (.int xs0) fun h21 =>
  (if x5 = 0 then
    pf h21 a0 3 3 (.int (2 * x2)) fun h22 =>
    rtv () h22
  else
    pf h21 a0 3 3 (.int x2) fun h23 =>
    rtv () h23)
def F_X3_init_b57 (a0 : Nat) (x1 : Int32) (x2 : Int32) (x4 : Int32) (xs0 : Int32) (hp : hpT) : Rs Unit :=
  (if x4 = 0 then
    F_X3_init_b72 a0 x2 xs0 (2 * x1) a0 hp
  else
    F_X3_init_b72 a0 x2 xs0 x1 a0 hp)
def F_X3_init_b52 (a0 : Nat) (x1 : Int32) (x2 : Int32) (x4 : Int32) (hp : hpT) : Rs Unit :=
  F_X3_init_b57 a0 x1 x2 x4 1 hp
def F_X3_init_b36 (a0 : Nat) (x1 : Int32) (x2 : Int32) (x3 : Int32) (xs0 : Int32) (hp : hpT) : Rs Unit :=
  (if x3 = 0 then
    F_X3_init_b52 a0 x1 x2 xs0 hp
  else
    (if x3 = 2 then
      F_X3_init_b52 a0 x1 x2 xs0 hp
    else
      (if x3 = 3 then
        F_X3_init_b52 a0 x1 x2 xs0 hp
      else
        F_X3_init_b57 a0 x1 x2 xs0 0 hp)))
def F_X3_init_b31 (a0 : Nat) (x1 : Int32) (x2 : Int32) (x3 : Int32) (hp : hpT) : Rs Unit :=
  F_X3_init_b36 a0 x1 x2 x3 1 hp
def F_X3_init (a0 : Nat) (x1 : Int32) (x2 : Int32) (x3 : Int32) (hp : hpT) : Rs Unit :=
  newO hp 0 [.int 0, .int 0, .null] fun a24 h24 =>
  bnd (F_X0_init a24 x1 x2 h24) fun _ h25 =>
  pf h25 a0 3 0 (va_rf (some a24)) fun h26 =>
  pf h26 a0 3 1 (.int x3) fun h27 =>
  (if x3 = 0 then
    F_X3_init_b31 a0 x1 x2 x3 h27
  else
    (if x3 = 1 then
      F_X3_init_b31 a0 x1 x2 x3 h27
    else
      F_X3_init_b36 a0 x1 x2 x3 0 h27))
def F_X7_pattern_b59 (hp : hpT) : Rs Int32 :=
  tht "java/lang/IllegalStateException" hp
def F_X7_pattern_b38 (a0 : Nat) (x1 : Int32) (x2 : Int32) (x3 : Int32) (hp : hpT) : Rs Int32 :=
  gfI hp a0 7 1 fun x21 =>
  (if x21 < 0 then
    F_X7_pattern_b59 hp
  else
    gfR hp a0 7 0 fun r22 =>
    nn r22 fun a23 =>
    alen hp a23 fun x24 =>
    (if x21 < x24 then
      gfR hp a0 7 0 fun r25 =>
      newO hp 3 [.null, .int 0, .int 0, .int 0] fun a26 h26 =>
      bnd (F_X3_init a26 x1 x2 x3 h26) fun _ h27 =>
      nn r25 fun a28 =>
      astR h27 2 3 a28 x21 a26 fun h29 =>
      pf h29 a0 7 1 (.int (x21 + 1)) fun h30 =>
      rtv x21 h30
    else
      F_X7_pattern_b59 hp))
def F_X7_pattern (a0 : Nat) (x1 : Int32) (x2 : Int32) (x3 : Int32) (hp : hpT) : Rs Int32 :=
  bnd (F_X7_requireWithin x1 1 5 hp) fun _ h31 =>
  bnd (F_X7_requireWithin x2 1 5 h31) fun _ h32 =>
  bnd (F_X7_requireWithin x3 0 5 h32) fun _ h33 =>
  (if x3 = 5 then
    (if x1 = x2 then
      F_X7_pattern_b38 a0 x1 x2 x3 h33
    else
      tht "java/lang/IllegalArgumentException" h33)
  else
    F_X7_pattern_b38 a0 x1 x2 x3 h33)
def F_X7_patternAt_b23 (rs0 : Option Nat) (hp : hpT) : Rs Nat :=
  (nlc rs0
    (tht "java/lang/IndexOutOfBoundsException" hp)
    (fun a21 => rtv a21 hp))
def F_X7_patternAt_b13 (hp : hpT) : Rs Nat :=
  F_X7_patternAt_b23 none hp
def F_X7_patternAt (a0 : Nat) (x1 : Int32) (hp : hpT) : Rs Nat :=
  (if x1 < 0 then
    F_X7_patternAt_b13 hp
  else
    gfR hp a0 7 0 fun r22 =>
    nn r22 fun a23 =>
    alen hp a23 fun x24 =>
    (if x1 < x24 then
      gfR hp a0 7 0 fun r25 =>
      nn r25 fun a26 =>
      aldR hp 2 a26 x1 fun r27 =>
      F_X7_patternAt_b23 r27 hp
    else
      F_X7_patternAt_b13 hp))
def F_X0_holds_b28 (hp : hpT) : Rs Int32 :=
  rtZ 0 hp
def F_X0_holds (a0 : Nat) (x1 : Int32) (x2 : Int32) (hp : hpT) : Rs Int32 :=
  (if x1 < 0 then
    F_X0_holds_b28 hp
  else
    gfI hp a0 0 0 fun x21 =>
    (if x21 ≤ x1 then
      F_X0_holds_b28 hp
    else
      (if x2 < 0 then
        F_X0_holds_b28 hp
      else
        gfI hp a0 0 1 fun x22 =>
        (if x22 ≤ x2 then
          F_X0_holds_b28 hp
        else
          rtZ 1 hp))))
def F_X7_wrapped (x0 : Int32) (x1 : Int32) (hp : hpT) : Rs Int32 :=
  (if 1 ≤ x1 then
    nz x1 <|
    (if 0 ≤ (irm x0 x1) then
      rtv (irm x0 x1) hp
    else
      rtv ((irm x0 x1) + x1) hp)
  else
    rtv 0 hp)
def F_X0_place (a0 : Nat) (x1 : Int32) (x2 : Int32) (hp : hpT) : Rs Int32 :=
  gfI hp a0 0 1 fun x21 =>
  bnd (F_X7_wrapped x2 x21 hp) fun x22 h22 =>
  gfI h22 a0 0 0 fun x23 =>
  gfI h22 a0 0 0 fun x24 =>
  bnd (F_X7_wrapped x1 x24 h22) fun x25 h25 =>
  rtv ((x22 * x23) + x25) h25
def F_X0_colourAt_b20 (hp : hpT) : Rs Int32 :=
  rtv (-1) hp
def F_X0_colourAt (a0 : Nat) (x1 : Int32) (x2 : Int32) (hp : hpT) : Rs Int32 :=
  isO hp a0 0 <| bnd (F_X0_place a0 x1 x2 hp) fun x21 h21 =>
  (if x21 < 0 then
    F_X0_colourAt_b20 h21
  else
    gfR h21 a0 0 2 fun r22 =>
    nn r22 fun a23 =>
    alen h21 a23 fun x24 =>
    (if x21 < x24 then
      gfR h21 a0 0 2 fun r25 =>
      nn r25 fun a26 =>
      ald h21 a26 x21 fun x27 =>
      rtv x27 h21
    else
      F_X0_colourAt_b20 h21))
def F_X0_put (a0 : Nat) (x1 : Int32) (x2 : Int32) (x3 : Int32) (hp : hpT) : Rs Unit :=
  isO hp a0 0 <| bnd (F_X0_place a0 x1 x2 hp) fun x21 h21 =>
  (if x21 < 0 then
    rtv () h21
  else
    gfR h21 a0 0 2 fun r22 =>
    nn r22 fun a23 =>
    alen h21 a23 fun x24 =>
    (if x24 ≤ x21 then
      rtv () h21
    else
      gfR h21 a0 0 2 fun r25 =>
      nn r25 fun a26 =>
      ast h21 a26 x21 x3 fun h27 =>
      rtv () h27))
def F_X7_paint (a0 : Nat) (x1 : Int32) (x2 : Int32) (x3 : Int32) (x4 : Int32) (hp : hpT) : Rs Int32 :=
  isO hp a0 7 <| bnd (F_X7_patternAt a0 x1 hp) fun a21 h21 =>
  gfR h21 a21 3 0 fun r22 =>
  nn r22 fun a23 =>
  isO h21 a23 0 <| bnd (F_X0_holds a23 x2 x3 h21) fun x24 h24 =>
  (if x24 = 0 then
    tht "java/lang/IndexOutOfBoundsException" h24
  else
    bnd (F_X7_requireWithin x4 0 7 h24) fun _ h25 =>
    gfR h25 a21 3 0 fun r26 =>
    nn r26 fun a27 =>
    isO h25 a27 0 <| bnd (F_X0_colourAt a27 x2 x3 h25) fun x28 h28 =>
    gfR h28 a21 3 0 fun r29 =>
    nn r29 fun a30 =>
    isO h28 a30 0 <| bnd (F_X0_put a30 x2 x3 x4 h28) fun _ h31 =>
    rtv x28 h31)
def F_X3_flipsColumns (a0 : Nat) (x1 : Int32) (x2 : Int32) (hp : hpT) : Rs Int32 :=
  gfI hp a0 3 1 fun x21 =>
  (if x21 = 1 then
    rtZ x2 hp
  else
    (if x21 = 2 then
      rtZ x1 hp
    else
      (if x21 = 3 then
        rtZ 0 hp
      else
        (if x21 = 4 then
          rtZ x1 hp
        else
          (if x21 = 5 then
            rtZ x2 hp
          else
            rtZ 0 hp)))))
def F_X3_flipsRows (a0 : Nat) (x1 : Int32) (x2 : Int32) (hp : hpT) : Rs Int32 :=
  gfI hp a0 3 1 fun x21 =>
  (if x21 = 1 then
    rtZ x2 hp
  else
    (if x21 = 2 then
      rtZ 0 hp
    else
      (if x21 = 3 then
        rtZ x1 hp
      else
        (if x21 = 4 then
          rtZ x2 hp
        else
          (if x21 = 5 then
            rtZ x1 hp
          else
            rtZ 0 hp)))))
def F_X3_colourAt_b149 (a0 : Nat) (x5 : Int32) (x6 : Int32) (hp : hpT) : Rs Int32 :=
  gfR hp a0 3 0 fun r21 =>
  nn r21 fun a22 =>
  isO hp a22 0 <| bnd (F_X0_colourAt a22 x5 x6 hp) fun x23 h23 =>
  rtv x23 h23
def F_X3_colourAt_b125 (a0 : Nat) (x3 : Int32) (x4 : Int32) (x5 : Int32) (x6 : Int32) (hp : hpT) : Rs Int32 :=
  isO hp a0 3 <| bnd (F_X3_flipsRows a0 x3 x4 hp) fun x24 h24 =>
  (if x24 = 0 then
    F_X3_colourAt_b149 a0 x5 x6 h24
  else
    gfR h24 a0 3 0 fun r25 =>
    nn r25 fun a26 =>
    gfI h24 a26 0 1 fun x27 =>
    F_X3_colourAt_b149 a0 x5 ((x27 - 1) - x6) h24)
def F_X3_colourAt_b101 (a0 : Nat) (x3 : Int32) (x4 : Int32) (x5 : Int32) (x6 : Int32) (hp : hpT) : Rs Int32 :=
  isO hp a0 3 <| bnd (F_X3_flipsColumns a0 x3 x4 hp) fun x28 h28 =>
  (if x28 = 0 then
    F_X3_colourAt_b125 a0 x3 x4 x5 x6 h28
  else
    gfR h28 a0 3 0 fun r29 =>
    nn r29 fun a30 =>
    gfI h28 a30 0 0 fun x31 =>
    F_X3_colourAt_b125 a0 x3 x4 ((x31 - 1) - x5) x6 h28)
def F_X3_colourAt_b47 (a0 : Nat) (x1 : Int32) (x2 : Int32) (x3 : Int32) (xs0 : Int32) (hp : hpT) : Rs Int32 :=
  gfR hp a0 3 0 fun r32 =>
  nn r32 fun a33 =>
  gfI hp a33 0 0 fun x34 =>
  bnd (F_X7_wrapped x1 x34 hp) fun x35 h35 =>
  gfR h35 a0 3 0 fun r36 =>
  nn r36 fun a37 =>
  gfI h35 a37 0 1 fun x38 =>
  bnd (F_X7_wrapped x2 x38 h35) fun x39 h39 =>
  gfI h39 a0 3 1 fun x40 =>
  (if x40 = 5 then
    (if x3 = xs0 then
      F_X3_colourAt_b101 a0 x3 xs0 x35 x39 h39
    else
      F_X3_colourAt_b101 a0 x3 xs0 x39 x35 h39)
  else
    F_X3_colourAt_b101 a0 x3 xs0 x35 x39 h39)
def F_X3_colourAt_b23 (a0 : Nat) (x1 : Int32) (x2 : Int32) (xs0 : Int32) (hp : hpT) : Rs Int32 :=
  gfI hp a0 3 3 fun x41 =>
  bnd (F_X7_wrapped x2 x41 hp) fun x42 h42 =>
  gfR h42 a0 3 0 fun r43 =>
  nn r43 fun a44 =>
  gfI h42 a44 0 1 fun x45 =>
  (if x42 < x45 then
    F_X3_colourAt_b47 a0 x1 x2 xs0 0 h42
  else
    F_X3_colourAt_b47 a0 x1 x2 xs0 1 h42)
def F_X3_colourAt (a0 : Nat) (x1 : Int32) (x2 : Int32) (hp : hpT) : Rs Int32 :=
  gfI hp a0 3 2 fun x46 =>
  bnd (F_X7_wrapped x1 x46 hp) fun x47 h47 =>
  gfR h47 a0 3 0 fun r48 =>
  nn r48 fun a49 =>
  gfI h47 a49 0 0 fun x50 =>
  (if x47 < x50 then
    F_X3_colourAt_b23 a0 x1 x2 0 h47
  else
    F_X3_colourAt_b23 a0 x1 x2 1 h47)
def F_X7_colour (a0 : Nat) (x1 : Int32) (x2 : Int32) (x3 : Int32) (hp : hpT) : Rs Int32 :=
  isO hp a0 7 <| bnd (F_X7_patternAt a0 x1 hp) fun a21 h21 =>
  isO h21 a21 3 <| bnd (F_X3_colourAt a21 x2 x3 h21) fun x22 h22 =>
  rtv x22 h22
def F_X7_repeat (a0 : Nat) (x1 : Int32) (x2 : Int32) (hp : hpT) : Rs Int32 :=
  isO hp a0 7 <| bnd (F_X7_patternAt a0 x1 hp) fun a21 h21 =>
  (if x2 = 0 then
    gfI h21 a21 3 2 fun x22 =>
    rtv x22 h21
  else
    gfI h21 a21 3 3 fun x23 =>
    rtv x23 h21)
def F_X3_staysWhenMoved_b13 (K2 : Nat → Int32 → Int32 → Int32 → hpT → Rs Int32) : Nat → Nat → Int32 → Int32 → Int32 → Int32 → hpT → Rs Int32
  | 0, _, _, _, _, _, _ => none
  | n + 1, a0, x1, x2, x3, x4, hp =>
    gfI hp a0 3 2 fun x21 =>
    (if x21 ≤ x4 then
      K2 a0 x1 x2 (x3 + 1) hp
    else
      isO hp a0 3 <| bnd (F_X3_colourAt a0 x4 x3 hp) fun x22 h22 =>
      isO h22 a0 3 <| bnd (F_X3_colourAt a0 (x4 + x1) (x3 + x2) h22) fun x23 h23 =>
      (if x22 = x23 then
        F_X3_staysWhenMoved_b13 K2 n a0 x1 x2 x3 (x4 + 1) h23
      else
        rtZ 0 h23))
def F_X3_staysWhenMoved_b2 : Nat → Nat → Int32 → Int32 → Int32 → hpT → Rs Int32
  | 0, _, _, _, _, _ => none
  | n + 1, a0, x1, x2, x3, hp =>
    gfI hp a0 3 3 fun x24 =>
    (if x24 ≤ x3 then
      rtZ 1 hp
    else
      F_X3_staysWhenMoved_b13 (F_X3_staysWhenMoved_b2 n) 1000 a0 x1 x2 x3 0 hp)
def F_X3_staysWhenMoved (a0 : Nat) (x1 : Int32) (x2 : Int32) (hp : hpT) : Rs Int32 :=
  F_X3_staysWhenMoved_b2 1000 a0 x1 x2 0 hp
def F_X3_leastMove_b50 (K18 : Nat → Int32 → Int32 → Int32 → hpT → Rs Int32) (a0 : Nat) (x1 : Int32) (x2 : Int32) (x3 : Int32) (hp : hpT) : Rs Int32 :=
  K18 a0 x1 x2 (x3 + 1) hp
def F_X3_leastMove_b18 : Nat → Nat → Int32 → Int32 → Int32 → hpT → Rs Int32
  | 0, _, _, _, _, _ => none
  | n + 1, a0, x1, x2, x3, hp =>
    (if x2 ≤ x3 then
      rtv x2 hp
    else
      (if x1 = 0 then
        isO hp a0 3 <| bnd (F_X3_staysWhenMoved a0 x3 0 hp) fun x21 h21 =>
        (if x21 = 0 then
          F_X3_leastMove_b50 (F_X3_leastMove_b18 n) a0 x1 x2 x3 h21
        else
          rtv x3 h21)
      else
        isO hp a0 3 <| bnd (F_X3_staysWhenMoved a0 0 x3 hp) fun x22 h22 =>
        (if x22 = 0 then
          F_X3_leastMove_b50 (F_X3_leastMove_b18 n) a0 x1 x2 x3 h22
        else
          rtv x3 h22)))
def F_X3_leastMove_b15 (a0 : Nat) (x1 : Int32) (xs0 : Int32) (hp : hpT) : Rs Int32 :=
  F_X3_leastMove_b18 1000 a0 x1 xs0 1 hp
def F_X3_leastMove (a0 : Nat) (x1 : Int32) (hp : hpT) : Rs Int32 :=
  (if x1 = 0 then
    gfI hp a0 3 2 fun x23 =>
    F_X3_leastMove_b15 a0 x1 x23 hp
  else
    gfI hp a0 3 3 fun x24 =>
    F_X3_leastMove_b15 a0 x1 x24 hp)
def F_X7_repeatAnew (a0 : Nat) (x1 : Int32) (x2 : Int32) (hp : hpT) : Rs Int32 :=
  isO hp a0 7 <| bnd (F_X7_patternAt a0 x1 hp) fun a21 h21 =>
  isO h21 a21 3 <| bnd (F_X3_leastMove a21 x2 h21) fun x22 h22 =>
  rtv x22 h22
def F_X3_drawn_b28 (K18 : Nat → Nat → Int32 → hpT → Rs Nat) : Nat → Nat → Nat → Int32 → Int32 → hpT → Rs Nat
  | 0, _, _, _, _, _ => none
  | n + 1, a0, a1, x2, x3, hp =>
    gfI hp a0 3 2 fun x21 =>
    (if x21 ≤ x3 then
      K18 a0 a1 (x2 + 1) hp
    else
      isO hp a0 3 <| bnd (F_X3_colourAt a0 x3 x2 hp) fun x22 h22 =>
      isO h22 a1 0 <| bnd (F_X0_put a1 x3 x2 x22 h22) fun _ h23 =>
      F_X3_drawn_b28 K18 n a0 a1 x2 (x3 + 1) h23)
def F_X3_drawn_b18 : Nat → Nat → Nat → Int32 → hpT → Rs Nat
  | 0, _, _, _, _ => none
  | n + 1, a0, a1, x2, hp =>
    gfI hp a0 3 3 fun x24 =>
    (if x24 ≤ x2 then
      rtv a1 hp
    else
      F_X3_drawn_b28 (F_X3_drawn_b18 n) 1000 a0 a1 x2 0 hp)
def F_X3_drawn (a0 : Nat) (hp : hpT) : Rs Nat :=
  newO hp 0 [.int 0, .int 0, .null] fun a25 h25 =>
  gfI h25 a0 3 2 fun x26 =>
  gfI h25 a0 3 3 fun x27 =>
  bnd (F_X0_init a25 x26 x27 h25) fun _ h28 =>
  F_X3_drawn_b18 1000 a0 a25 0 h28
def F_X4_init (a0 : Nat) (x1 : Int32) (a2 : Nat) (hp : hpT) : Rs Unit :=
  pf hp a0 4 0 (.int x1) fun h21 =>
  pf h21 a0 4 1 (va_rf (some a2)) fun h22 =>
  rtv () h22
def F_X7_roller_b55 (hp : hpT) : Rs Int32 :=
  tht "java/lang/IllegalStateException" hp
def F_X7_roller (a0 : Nat) (x1 : Int32) (x2 : Int32) (hp : hpT) : Rs Int32 :=
  isO hp a0 7 <| bnd (F_X7_patternAt a0 x1 hp) fun a21 h21 =>
  bnd (F_X7_requireWithin x2 1 60 h21) fun _ h22 =>
  gfI h22 a21 3 3 fun x23 =>
  bnd (F_X7_wrapped x2 x23 h22) fun x24 h24 =>
  (if x24 = 0 then
    gfI h24 a0 7 3 fun x25 =>
    (if x25 < 0 then
      F_X7_roller_b55 h24
    else
      gfR h24 a0 7 2 fun r26 =>
      nn r26 fun a27 =>
      alen h24 a27 fun x28 =>
      (if x25 < x28 then
        gfR h24 a0 7 2 fun r29 =>
        newO h24 4 [.int 0, .null] fun a30 h30 =>
        isO h30 a21 3 <| bnd (F_X3_drawn a21  h30) fun a31 h31 =>
        bnd (F_X4_init a30 x2 a31 h31) fun _ h32 =>
        nn r29 fun a33 =>
        astR h32 3 4 a33 x25 a30 fun h34 =>
        pf h34 a0 7 3 (.int (x25 + 1)) fun h35 =>
        rtv x25 h35
      else
        F_X7_roller_b55 h24))
  else
    tht "java/lang/IllegalStateException" h24)
def F_X7_rollerAt_b23 (rs0 : Option Nat) (hp : hpT) : Rs Nat :=
  (nlc rs0
    (tht "java/lang/IndexOutOfBoundsException" hp)
    (fun a21 => rtv a21 hp))
def F_X7_rollerAt_b13 (hp : hpT) : Rs Nat :=
  F_X7_rollerAt_b23 none hp
def F_X7_rollerAt (a0 : Nat) (x1 : Int32) (hp : hpT) : Rs Nat :=
  (if x1 < 0 then
    F_X7_rollerAt_b13 hp
  else
    gfR hp a0 7 2 fun r22 =>
    nn r22 fun a23 =>
    alen hp a23 fun x24 =>
    (if x1 < x24 then
      gfR hp a0 7 2 fun r25 =>
      nn r25 fun a26 =>
      aldR hp 3 a26 x1 fun r27 =>
      F_X7_rollerAt_b23 r27 hp
    else
      F_X7_rollerAt_b13 hp))
def F_X1_init (a0 : Nat) (a1 : Nat) (x2 : Int32) (x3 : Int32) (x4 : Int32) (x5 : Int32) (hp : hpT) : Rs Unit :=
  pf hp a0 1 0 (va_rf (some a1)) fun h21 =>
  pf h21 a0 1 1 (.int x2) fun h22 =>
  pf h22 a0 1 2 (.int x3) fun h23 =>
  pf h23 a0 1 4 (.int x4) fun h24 =>
  pf h24 a0 1 3 (.int x5) fun h25 =>
  rtv () h25
def F_X7_lot_b51 (hp : hpT) : Rs Int32 :=
  tht "java/lang/IllegalStateException" hp
def F_X7_lot (a0 : Nat) (x1 : Int32) (x2 : Int32) (x3 : Int32) (x4 : Int32) (hp : hpT) : Rs Int32 :=
  isO hp a0 7 <| bnd (F_X7_rollerAt a0 x1 hp) fun a21 h21 =>
  bnd (F_X7_requireWithin x2 0 9 h21) fun _ h22 =>
  bnd (F_X7_requireWithin x3 1 20 h22) fun _ h23 =>
  bnd (F_X7_requireWithin x4 1 200 h23) fun _ h24 =>
  gfI h24 a0 7 5 fun x25 =>
  (if x25 < 0 then
    F_X7_lot_b51 h24
  else
    gfR h24 a0 7 4 fun r26 =>
    nn r26 fun a27 =>
    alen h24 a27 fun x28 =>
    (if x25 < x28 then
      gfR h24 a0 7 4 fun r29 =>
      newO h24 1 [.null, .int 0, .int 0, .int 0, .int 0] fun a30 h30 =>
      bnd (F_X1_init a30 a21 x1 x2 x3 x4 h30) fun _ h31 =>
      nn r29 fun a32 =>
      astR h31 4 1 a32 x25 a30 fun h33 =>
      pf h33 a0 7 5 (.int (x25 + 1)) fun h34 =>
      rtv x25 h34
    else
      F_X7_lot_b51 h24))
def F_X7_lotAt_b23 (rs0 : Option Nat) (hp : hpT) : Rs Nat :=
  (nlc rs0
    (tht "java/lang/IndexOutOfBoundsException" hp)
    (fun a21 => rtv a21 hp))
def F_X7_lotAt_b13 (hp : hpT) : Rs Nat :=
  F_X7_lotAt_b23 none hp
def F_X7_lotAt (a0 : Nat) (x1 : Int32) (hp : hpT) : Rs Nat :=
  (if x1 < 0 then
    F_X7_lotAt_b13 hp
  else
    gfR hp a0 7 4 fun r22 =>
    nn r22 fun a23 =>
    alen hp a23 fun x24 =>
    (if x1 < x24 then
      gfR hp a0 7 4 fun r25 =>
      nn r25 fun a26 =>
      aldR hp 4 a26 x1 fun r27 =>
      F_X7_lotAt_b23 r27 hp
    else
      F_X7_lotAt_b13 hp))
def F_X1_roundsOfARoll (a0 : Nat) (hp : hpT) : Rs Int32 :=
  gfR hp a0 1 0 fun r21 =>
  nn r21 fun a22 =>
  gfI hp a22 4 0 fun x23 =>
  (if 1 ≤ x23 then
    gfI hp a0 1 3 fun x24 =>
    nz x23 <|
    rtv (((x24 + x23) - 1) / x23) hp
  else
    rtv 0 hp)
def F_X7_lotOf (a0 : Nat) (x1 : Int32) (x2 : Int32) (hp : hpT) : Rs Int32 :=
  isO hp a0 7 <| bnd (F_X7_lotAt a0 x1 hp) fun a21 h21 =>
  (if x2 = 0 then
    gfI h21 a21 1 1 fun x22 =>
    rtv x22 h21
  else
    (if x2 = 1 then
      gfI h21 a21 1 2 fun x23 =>
      rtv x23 h21
    else
      (if x2 = 2 then
        gfI h21 a21 1 4 fun x24 =>
        rtv x24 h21
      else
        (if x2 = 3 then
          gfI h21 a21 1 3 fun x25 =>
          rtv x25 h21
        else
          (if x2 = 4 then
            isO h21 a21 1 <| bnd (F_X1_roundsOfARoll a21  h21) fun x26 h26 =>
            rtv x26 h26
          else
            tht "java/lang/IllegalArgumentException" h21)))))
def F_X7_roomAt_b23 (rs0 : Option Nat) (hp : hpT) : Rs Nat :=
  (nlc rs0
    (tht "java/lang/IndexOutOfBoundsException" hp)
    (fun a21 => rtv a21 hp))
def F_X7_roomAt_b13 (hp : hpT) : Rs Nat :=
  F_X7_roomAt_b23 none hp
def F_X7_roomAt (a0 : Nat) (x1 : Int32) (hp : hpT) : Rs Nat :=
  (if x1 < 0 then
    F_X7_roomAt_b13 hp
  else
    gfR hp a0 7 6 fun r22 =>
    nn r22 fun a23 =>
    alen hp a23 fun x24 =>
    (if x1 < x24 then
      gfR hp a0 7 6 fun r25 =>
      nn r25 fun a26 =>
      aldR hp 5 a26 x1 fun r27 =>
      F_X7_roomAt_b23 r27 hp
    else
      F_X7_roomAt_b13 hp))
def F_X5_isHung (a0 : Nat) (hp : hpT) : Rs Int32 :=
  gfR hp a0 5 3 fun r21 =>
  (nlc r21
    (rtZ 0 hp)
    (fun a22 => rtZ 1 hp))
def F_X6_init (a0 : Nat) (x1 : Int32) (x2 : Int32) (hp : hpT) : Rs Unit :=
  newI hp 24 fun a21 h21 =>
  pf h21 a0 6 1 (va_rf (some a21)) fun h22 =>
  pf h22 a0 6 2 (.int x1) fun h23 =>
  pf h23 a0 6 0 (.int x2) fun h24 =>
  rtv () h24
def F_X5_addWall (a0 : Nat) (x1 : Int32) (x2 : Int32) (hp : hpT) : Rs Int32 :=
  gfI hp a0 5 2 fun x21 =>
  (if x21 < 0 then
    rtv (-1) hp
  else
    gfR hp a0 5 0 fun r22 =>
    nn r22 fun a23 =>
    alen hp a23 fun x24 =>
    (if x21 < x24 then
      gfR hp a0 5 0 fun r25 =>
      newO hp 6 [.int 0, .null, .int 0] fun a26 h26 =>
      bnd (F_X6_init a26 x1 x2 h26) fun _ h27 =>
      nn r25 fun a28 =>
      astR h27 6 6 a28 x21 a26 fun h29 =>
      pf h29 a0 5 2 (.int (x21 + 1)) fun h30 =>
      rtv x21 h30
    else
      rtv (-1) hp))
def F_X7_wall (a0 : Nat) (x1 : Int32) (x2 : Int32) (x3 : Int32) (hp : hpT) : Rs Int32 :=
  isO hp a0 7 <| bnd (F_X7_roomAt a0 x1 hp) fun a21 h21 =>
  bnd (F_X7_requireWithin x2 1 12 h21) fun _ h22 =>
  bnd (F_X7_requireWithin x3 1 60 h22) fun _ h23 =>
  isO h23 a21 5 <| bnd (F_X5_isHung a21  h23) fun x24 h24 =>
  (if x24 = 0 then
    isO h24 a21 5 <| bnd (F_X5_addWall a21 x2 x3 h24) fun x25 h25 =>
    (if x25 = (-1) then
      tht "java/lang/IllegalStateException" h25
    else
      rtv x25 h25)
  else
    tht "java/lang/IllegalStateException" h24)
def F_X2_beginAnew (a0 : Nat) (a1 : Nat) (x2 : Int32) (hp : hpT) : Rs Unit :=
  pf hp a0 2 1 (.int 0) fun h21 =>
  gfI h21 a1 1 4 fun x22 =>
  pf h21 a0 2 2 (.int x22) fun h23 =>
  gfI h23 a1 1 3 fun x24 =>
  pf h23 a0 2 3 (.int x24) fun h25 =>
  gfR h25 a1 1 0 fun r26 =>
  nn r26 fun a27 =>
  gfR h25 a27 4 1 fun r28 =>
  nn r28 fun a29 =>
  gfI h25 a29 0 1 fun x30 =>
  pf h25 a0 2 4 (.int x30) fun h31 =>
  pf h31 a0 2 5 (.int x2) fun h32 =>
  rtv () h32
def F_J9_max_7cf53 (x0 : Int32) (x1 : Int32) (hp : hpT) : Rs Int32 :=
  (if x0 < x1 then
    rtv x1 hp
  else
    rtv x0 hp)
def F_X2_takeFromNewRoll_b31 (a0 : Nat) (x1 : Int32) (x2 : Int32) (xs0 : Int32) (hp : hpT) : Rs Int32 :=
  (if xs0 = 0 then
    rtv (-1) hp
  else
    gfI hp a0 2 5 fun x21 =>
    gfI hp a0 2 3 fun x22 =>
    (if (x21 + x1) ≤ x22 then
      gfR hp a0 2 0 fun r23 =>
      gfI hp a0 2 5 fun x24 =>
      nn r23 fun a25 =>
      ast hp a25 x2 (x24 + x1) fun h26 =>
      pf h26 a0 2 1 (.int (x2 + 1)) fun h27 =>
      gfI h27 a0 2 5 fun x28 =>
      rtv ((1000 * x2) + x28) h27
    else
      rtv (-1) hp))
def F_X2_takeFromNewRoll_b30 (a0 : Nat) (x1 : Int32) (x2 : Int32) (hp : hpT) : Rs Int32 :=
  F_X2_takeFromNewRoll_b31 a0 x1 x2 0 hp
def F_X2_takeFromNewRoll (a0 : Nat) (x1 : Int32) (hp : hpT) : Rs Int32 :=
  gfI hp a0 2 1 fun x29 =>
  (if x29 < 0 then
    F_X2_takeFromNewRoll_b30 a0 x1 x29 hp
  else
    gfI hp a0 2 2 fun x30 =>
    (if x30 ≤ x29 then
      F_X2_takeFromNewRoll_b30 a0 x1 x29 hp
    else
      gfR hp a0 2 0 fun r31 =>
      nn r31 fun a32 =>
      alen hp a32 fun x33 =>
      (if x33 ≤ x29 then
        F_X2_takeFromNewRoll_b30 a0 x1 x29 hp
      else
        F_X2_takeFromNewRoll_b31 a0 x1 x29 1 hp)))
def F_X2_takeDrop_b78 (a0 : Nat) (x1 : Int32) (hp : hpT) : Rs Int32 :=
  isO hp a0 2 <| bnd (F_X2_takeFromNewRoll a0 x1 hp) fun x21 h21 =>
  rtv x21 h21
def F_X2_takeDrop_b2 : Nat → Nat → Int32 → Int32 → hpT → Rs Int32
  | 0, _, _, _, _ => none
  | n + 1, a0, x1, x2, hp =>
    gfI hp a0 2 1 fun x22 =>
    (if x22 ≤ x2 then
      F_X2_takeDrop_b78 a0 x1 hp
    else
      gfR hp a0 2 0 fun r23 =>
      nn r23 fun a24 =>
      alen hp a24 fun x25 =>
      (if x25 ≤ x2 then
        F_X2_takeDrop_b78 a0 x1 hp
      else
        gfR hp a0 2 0 fun r26 =>
        nn r26 fun a27 =>
        ald hp a27 x2 fun x28 =>
        gfI hp a0 2 5 fun x29 =>
        gfR hp a0 2 0 fun r30 =>
        nn r30 fun a31 =>
        ald hp a31 x2 fun x32 =>
        gfI hp a0 2 4 fun x33 =>
        bnd (F_X7_wrapped (x29 - x32) x33 hp) fun x34 h34 =>
        gfI h34 a0 2 3 fun x35 =>
        (if x35 < ((x28 + x34) + x1) then
          F_X2_takeDrop_b2 n a0 x1 (x2 + 1) h34
        else
          gfR h34 a0 2 0 fun r36 =>
          nn r36 fun a37 =>
          ast h34 a37 x2 ((x28 + x34) + x1) fun h38 =>
          rtv ((1000 * x2) + (x28 + x34)) h38)))
def F_X2_takeDrop (a0 : Nat) (x1 : Int32) (hp : hpT) : Rs Int32 :=
  F_X2_takeDrop_b2 1000 a0 x1 0 hp
def F_X6_takeDrops_b6 : Nat → Nat → Nat → Int32 → hpT → Rs Int32
  | 0, _, _, _, _ => none
  | n + 1, a0, a1, x3, hp =>
    gfI hp a0 6 2 fun x21 =>
    (if x21 ≤ x3 then
      rtZ 1 hp
    else
      gfR hp a0 6 1 fun r22 =>
      nn r22 fun a23 =>
      alen hp a23 fun x24 =>
      (if x24 ≤ x3 then
        rtZ 1 hp
      else
        gfR hp a0 6 1 fun r25 =>
        gfI hp a0 6 0 fun x26 =>
        isO hp a1 2 <| bnd (F_X2_takeDrop a1 x26 hp) fun x27 h27 =>
        nn r25 fun a28 =>
        ast h27 a28 x3 x27 fun h29 =>
        gfR h29 a0 6 1 fun r30 =>
        nn r30 fun a31 =>
        ald h29 a31 x3 fun x32 =>
        (if x32 = (-1) then
          rtZ 0 h29
        else
          F_X6_takeDrops_b6 n a0 a1 (x3 + 1) h29)))
def F_X6_takeDrops (a0 : Nat) (a1 : Nat) (x2 : Int32) (hp : hpT) : Rs Int32 :=
  bnd (F_J9_max_7cf53 x2 0 hp) fun x33 h33 =>
  F_X6_takeDrops_b6 1000 a0 a1 x33 h33
def F_X5_cutAll_b54 (K21 : Nat → Option Nat → Int32 → Int32 → hpT → Rs Int32) (a0 : Nat) (r3 : Option Nat) (x4 : Int32) (x5 : Int32) (hp : hpT) : Rs Int32 :=
  K21 a0 r3 x4 (x5 + 1) hp
def F_X5_cutAll_b21 : Nat → Nat → Option Nat → Int32 → Int32 → hpT → Rs Int32
  | 0, _, _, _, _, _ => none
  | n + 1, a0, r3, x4, x5, hp =>
    (if x4 ≤ x5 then
      rtZ 1 hp
    else
      nn r3 fun a21 =>
      aldR hp 6 a21 x5 fun r22 =>
      (nlc r22
        (F_X5_cutAll_b54 (F_X5_cutAll_b21 n) a0 (some a21) x4 x5 hp)
        (fun a23 => gfR hp a0 5 1 fun r24 =>
        nn r24 fun a25 =>
        isO hp a23 6 <| bnd (F_X6_takeDrops a23 a25 0 hp) fun x26 h26 =>
        (if x26 = 0 then
          rtZ 0 h26
        else
          F_X5_cutAll_b54 (F_X5_cutAll_b21 n) a0 (some a21) x4 x5 h26))))
def F_X5_cutAll (a0 : Nat) (a1 : Nat) (x2 : Int32) (hp : hpT) : Rs Int32 :=
  gfR hp a0 5 1 fun r27 =>
  nn r27 fun a28 =>
  isO hp a28 2 <| bnd (F_X2_beginAnew a28 a1 x2 hp) fun _ h29 =>
  gfR h29 a0 5 0 fun r30 =>
  nn r30 fun a31 =>
  alen h29 a31 fun x32 =>
  F_X5_cutAll_b21 1000 a0 (some a31) x32 0 h29
def F_X5_bestPhase_b55 (K8 : Nat → Nat → Int32 → Int32 → Int32 → hpT → Rs Int32) (a0 : Nat) (a1 : Nat) (x2 : Int32) (x3 : Int32) (x4 : Int32) (hp : hpT) : Rs Int32 :=
  K8 a0 a1 x2 x3 (x4 + 1) hp
def F_X5_bestPhase_b8 : Nat → Nat → Nat → Int32 → Int32 → Int32 → hpT → Rs Int32
  | 0, _, _, _, _, _, _ => none
  | n + 1, a0, a1, x2, x3, x4, hp =>
    gfR hp a1 1 0 fun r21 =>
    nn r21 fun a22 =>
    gfR hp a22 4 1 fun r23 =>
    nn r23 fun a24 =>
    gfI hp a24 0 1 fun x25 =>
    (if x25 ≤ x4 then
      rtv x2 hp
    else
      isO hp a0 5 <| bnd (F_X5_cutAll a0 a1 x4 hp) fun x26 h26 =>
      (if x26 = 0 then
        F_X5_bestPhase_b55 (F_X5_bestPhase_b8 n) a0 a1 x2 x3 x4 h26
      else
        gfR h26 a0 5 1 fun r27 =>
        nn r27 fun a28 =>
        gfI h26 a28 2 1 fun x29 =>
        (if x3 ≤ x29 then
          F_X5_bestPhase_b55 (F_X5_bestPhase_b8 n) a0 a1 x2 x3 x4 h26
        else
          gfR h26 a0 5 1 fun r30 =>
          nn r30 fun a31 =>
          gfI h26 a31 2 1 fun x32 =>
          F_X5_bestPhase_b55 (F_X5_bestPhase_b8 n) a0 a1 x4 x32 x4 h26)))
def F_X5_bestPhase (a0 : Nat) (a1 : Nat) (hp : hpT) : Rs Int32 :=
  F_X5_bestPhase_b8 1000 a0 a1 (-1) 21 0 hp
def F_X5_hangFrom (a0 : Nat) (a1 : Nat) (x2 : Int32) (x3 : Int32) (hp : hpT) : Rs Int32 :=
  isO hp a0 5 <| bnd (F_X5_cutAll a0 a1 x3 hp) fun x21 h21 =>
  gfI h21 a1 1 4 fun x22 =>
  gfR h21 a0 5 1 fun r23 =>
  nn r23 fun a24 =>
  gfI h21 a24 2 1 fun x25 =>
  pf h21 a1 1 4 (.int (x22 - x25)) fun h26 =>
  pf h26 a0 5 3 (va_rf (some a1)) fun h27 =>
  pf h27 a0 5 4 (.int x2) fun h28 =>
  gfR h28 a0 5 1 fun r29 =>
  nn r29 fun a30 =>
  gfI h28 a30 2 1 fun x31 =>
  rtv x31 h28
def F_X7_hang (a0 : Nat) (x1 : Int32) (x2 : Int32) (hp : hpT) : Rs Int32 :=
  isO hp a0 7 <| bnd (F_X7_roomAt a0 x1 hp) fun a21 h21 =>
  isO h21 a0 7 <| bnd (F_X7_lotAt a0 x2 h21) fun a22 h22 =>
  isO h22 a21 5 <| bnd (F_X5_isHung a21  h22) fun x23 h23 =>
  (if x23 = 0 then
    gfI h23 a21 5 2 fun x24 =>
    (if x24 = 0 then
      tht "java/lang/IllegalStateException" h23
    else
      isO h23 a21 5 <| bnd (F_X5_bestPhase a21 a22 h23) fun x25 h25 =>
      (if x25 = (-1) then
        tht "java/lang/IllegalStateException" h25
      else
        isO h25 a21 5 <| bnd (F_X5_hangFrom a21 a22 x2 x25 h25) fun x26 h26 =>
        rtv x26 h26))
  else
    tht "java/lang/IllegalStateException" h23)
def F_X7_wallAt_b23 (rs0 : Option Nat) (hp : hpT) : Rs Nat :=
  (nlc rs0
    (tht "java/lang/IndexOutOfBoundsException" hp)
    (fun a21 => rtv a21 hp))
def F_X7_wallAt_b13 (hp : hpT) : Rs Nat :=
  F_X7_wallAt_b23 none hp
def F_X7_wallAt (a0 : Nat) (x1 : Int32) (hp : hpT) : Rs Nat :=
  (if x1 < 0 then
    F_X7_wallAt_b13 hp
  else
    gfR hp a0 5 0 fun r22 =>
    nn r22 fun a23 =>
    alen hp a23 fun x24 =>
    (if x1 < x24 then
      gfR hp a0 5 0 fun r25 =>
      nn r25 fun a26 =>
      aldR hp 6 a26 x1 fun r27 =>
      F_X7_wallAt_b23 r27 hp
    else
      F_X7_wallAt_b13 hp))
def F_X5_lengthenFrom (a0 : Nat) (a1 : Nat) (a2 : Nat) (x3 : Int32) (hp : hpT) : Rs Int32 :=
  gfI hp a2 6 2 fun x21 =>
  gfR hp a0 5 1 fun r22 =>
  nn r22 fun a23 =>
  gfI hp a23 2 1 fun x24 =>
  gfR hp a0 5 1 fun r25 =>
  gfI hp a1 1 4 fun x26 =>
  nn r25 fun a27 =>
  pf hp a27 2 2 (.int (x24 + x26)) fun h28 =>
  pf h28 a2 6 2 (.int (x21 + x3)) fun h29 =>
  gfR h29 a0 5 1 fun r30 =>
  nn r30 fun a31 =>
  isO h29 a2 6 <| bnd (F_X6_takeDrops a2 a31 x21 h29) fun x32 h32 =>
  (if x32 = 0 then
    rtZ x32 h32
  else
    gfI h32 a1 1 4 fun x33 =>
    gfR h32 a0 5 1 fun r34 =>
    nn r34 fun a35 =>
    gfI h32 a35 2 1 fun x36 =>
    pf h32 a1 1 4 (.int (x33 - (x36 - x24))) fun h37 =>
    rtZ x32 h37)
def F_X7_lose (a0 : Nat) (a1 : Nat) (x2 : Int32) (hp : hpT) : Rs Unit :=
  gfI hp a0 7 7 fun x21 =>
  gfI hp a1 1 3 fun x22 =>
  pf hp a0 7 7 (.int (x21 + (x2 * x22))) fun h23 =>
  rtv () h23
def F_X5_makeBare (a0 : Nat) (hp : hpT) : Rs Unit :=
  pf hp a0 5 3 (va_rf none) fun h21 =>
  rtv () h21
def F_X7_lengthen (a0 : Nat) (x1 : Int32) (x2 : Int32) (x3 : Int32) (hp : hpT) : Rs Int32 :=
  isO hp a0 7 <| bnd (F_X7_roomAt a0 x1 hp) fun a21 h21 =>
  bnd (F_X7_wallAt a21 x2 h21) fun a22 h22 =>
  bnd (F_X7_requireWithin x3 1 12 h22) fun _ h23 =>
  gfR h23 a21 5 3 fun r24 =>
  (nlc r24
    (tht "java/lang/IllegalStateException" h23)
    (fun a25 => gfI h23 a22 6 2 fun x26 =>
    (if (x26 + x3) ≤ 24 then
      gfR h23 a21 5 1 fun r27 =>
      nn r27 fun a28 =>
      gfI h23 a28 2 1 fun x29 =>
      isO h23 a21 5 <| bnd (F_X5_lengthenFrom a21 a25 a22 x3 h23) fun x30 h30 =>
      (if x30 = 0 then
        isO h30 a0 7 <| bnd (F_X7_lose a0 a25 x29 h30) fun _ h31 =>
        isO h31 a21 5 <| bnd (F_X5_makeBare a21  h31) fun _ h32 =>
        rtv (-1) h32
      else
        gfR h30 a21 5 1 fun r33 =>
        nn r33 fun a34 =>
        gfI h30 a34 2 1 fun x35 =>
        rtv (x35 - x29) h30)
    else
      tht "java/lang/IllegalStateException" h23)))
def F_X7_strip (a0 : Nat) (x1 : Int32) (hp : hpT) : Rs Int32 :=
  isO hp a0 7 <| bnd (F_X7_roomAt a0 x1 hp) fun a21 h21 =>
  gfR h21 a21 5 3 fun r22 =>
  (nlc r22
    (tht "java/lang/IllegalStateException" h21)
    (fun a23 => gfR h21 a21 5 1 fun r24 =>
    nn r24 fun a25 =>
    gfI h21 a25 2 1 fun x26 =>
    isO h21 a0 7 <| bnd (F_X7_lose a0 a23 x26 h21) fun _ h27 =>
    isO h27 a21 5 <| bnd (F_X5_makeBare a21  h27) fun _ h28 =>
    rtv x26 h28))
def F_X5_allDrops_b40 (K13 : Int32 → Option Nat → Int32 → Int32 → hpT → Rs Int32) (r2 : Option Nat) (x3 : Int32) (x4 : Int32) (xs0 : Int32) (xs1 : Int32) (hp : hpT) : Rs Int32 :=
  K13 (xs1 + xs0) r2 x3 (x4 + 1) hp
def F_X5_allDrops_b13 : Nat → Int32 → Option Nat → Int32 → Int32 → hpT → Rs Int32
  | 0, _, _, _, _, _ => none
  | n + 1, x1, r2, x3, x4, hp =>
    (if x3 ≤ x4 then
      rtv x1 hp
    else
      nn r2 fun a21 =>
      aldR hp 6 a21 x4 fun r22 =>
      (nlc r22
        (F_X5_allDrops_b40 (F_X5_allDrops_b13 n) (some a21) x3 x4 0 x1 hp)
        (fun a23 => gfI hp a23 6 2 fun x24 =>
        F_X5_allDrops_b40 (F_X5_allDrops_b13 n) (some a21) x3 x4 x24 x1 hp)))
def F_X5_allDrops (a0 : Nat) (hp : hpT) : Rs Int32 :=
  gfR hp a0 5 0 fun r25 =>
  nn r25 fun a26 =>
  alen hp a26 fun x27 =>
  F_X5_allDrops_b13 1000 0 (some a26) x27 0 hp
def F_X5_waste_b69 (K36 : Int32 → Option Nat → Int32 → Int32 → hpT → Rs Int32) (r2 : Option Nat) (x3 : Int32) (x4 : Int32) (xs0 : Int32) (xs1 : Int32) (hp : hpT) : Rs Int32 :=
  K36 (xs1 - xs0) r2 x3 (x4 + 1) hp
def F_X5_waste_b36 : Nat → Int32 → Option Nat → Int32 → Int32 → hpT → Rs Int32
  | 0, _, _, _, _, _ => none
  | n + 1, x1, r2, x3, x4, hp =>
    (if x3 ≤ x4 then
      rtv x1 hp
    else
      nn r2 fun a21 =>
      aldR hp 6 a21 x4 fun r22 =>
      (nlc r22
        (F_X5_waste_b69 (F_X5_waste_b36 n) (some a21) x3 x4 0 x1 hp)
        (fun a23 => gfI hp a23 6 2 fun x24 =>
        gfI hp a23 6 0 fun x25 =>
        F_X5_waste_b69 (F_X5_waste_b36 n) (some a21) x3 x4 (x24 * x25) x1 hp)))
def F_X5_waste (a0 : Nat) (hp : hpT) : Rs Int32 :=
  gfR hp a0 5 3 fun r26 =>
  (nlc r26
    (rtv (-1) hp)
    (fun a27 => gfR hp a0 5 1 fun r28 =>
    nn r28 fun a29 =>
    gfI hp a29 2 1 fun x30 =>
    gfR hp a0 5 3 fun r31 =>
    nn r31 fun a32 =>
    gfI hp a32 1 3 fun x33 =>
    gfR hp a0 5 0 fun r34 =>
    nn r34 fun a35 =>
    alen hp a35 fun x36 =>
    F_X5_waste_b36 1000 (x30 * x33) (some a35) x36 0 hp))
def F_X7_room (a0 : Nat) (x1 : Int32) (x2 : Int32) (hp : hpT) : Rs Int32 :=
  isO hp a0 7 <| bnd (F_X7_roomAt a0 x1 hp) fun a21 h21 =>
  (if x2 = 0 then
    gfI h21 a21 5 2 fun x22 =>
    rtv x22 h21
  else
    (if x2 = 1 then
      isO h21 a21 5 <| bnd (F_X5_allDrops a21  h21) fun x23 h23 =>
      rtv x23 h23
    else
      (if x2 = 2 then
        isO h21 a21 5 <| bnd (F_X5_isHung a21  h21) fun x24 h24 =>
        (if x24 = 0 then
          rtv (-1) h24
        else
          gfI h24 a21 5 4 fun x25 =>
          rtv x25 h24)
      else
        (if x2 = 3 then
          isO h21 a21 5 <| bnd (F_X5_isHung a21  h21) fun x26 h26 =>
          (if x26 = 0 then
            rtv (-1) h26
          else
            gfR h26 a21 5 1 fun r27 =>
            nn r27 fun a28 =>
            gfI h26 a28 2 5 fun x29 =>
            rtv x29 h26)
        else
          (if x2 = 4 then
            isO h21 a21 5 <| bnd (F_X5_isHung a21  h21) fun x30 h30 =>
            (if x30 = 0 then
              rtv (-1) h30
            else
              gfR h30 a21 5 1 fun r31 =>
              nn r31 fun a32 =>
              gfI h30 a32 2 1 fun x33 =>
              rtv x33 h30)
          else
            (if x2 = 5 then
              isO h21 a21 5 <| bnd (F_X5_waste a21  h21) fun x34 h34 =>
              rtv x34 h34
            else
              tht "java/lang/IllegalArgumentException" h21))))))
def F_X7_cut_b38 (hp : hpT) : Rs Int32 :=
  tht "java/lang/IndexOutOfBoundsException" hp
def F_X7_cut (a0 : Nat) (x1 : Int32) (x2 : Int32) (x3 : Int32) (hp : hpT) : Rs Int32 :=
  isO hp a0 7 <| bnd (F_X7_roomAt a0 x1 hp) fun a21 h21 =>
  bnd (F_X7_wallAt a21 x2 h21) fun a22 h22 =>
  (if x3 < 0 then
    F_X7_cut_b38 h22
  else
    gfI h22 a22 6 2 fun x23 =>
    (if x23 ≤ x3 then
      F_X7_cut_b38 h22
    else
      gfR h22 a22 6 1 fun r24 =>
      nn r24 fun a25 =>
      alen h22 a25 fun x26 =>
      (if x3 < x26 then
        isO h22 a21 5 <| bnd (F_X5_isHung a21  h22) fun x27 h27 =>
        (if x27 = 0 then
          rtv (-1) h27
        else
          gfR h27 a22 6 1 fun r28 =>
          nn r28 fun a29 =>
          ald h27 a29 x3 fun x30 =>
          rtv x30 h27)
      else
        F_X7_cut_b38 h22)))
def F_X7_seen_b73 (hp : hpT) : Rs Int32 :=
  tht "java/lang/IndexOutOfBoundsException" hp
def F_X7_seen (a0 : Nat) (x1 : Int32) (x2 : Int32) (x3 : Int32) (x4 : Int32) (hp : hpT) : Rs Int32 :=
  isO hp a0 7 <| bnd (F_X7_roomAt a0 x1 hp) fun a21 h21 =>
  bnd (F_X7_wallAt a21 x2 h21) fun a22 h22 =>
  gfR h22 a21 5 3 fun r23 =>
  (nlc r23
    (rtv (-1) h22)
    (fun a24 => gfR h22 a24 1 0 fun r25 =>
    nn r25 fun a26 =>
    gfR h22 a26 4 1 fun r27 =>
    (if x3 < 0 then
      F_X7_seen_b73 h22
    else
      gfI h22 a22 6 2 fun x28 =>
      nn r27 fun a29 =>
      gfI h22 a29 0 0 fun x30 =>
      (if (x28 * x30) ≤ x3 then
        F_X7_seen_b73 h22
      else
        (if x4 < 0 then
          F_X7_seen_b73 h22
        else
          gfI h22 a22 6 0 fun x31 =>
          (if x4 < x31 then
            gfR h22 a21 5 1 fun r32 =>
            nn r32 fun a33 =>
            gfI h22 a33 2 5 fun x34 =>
            isO h22 a29 0 <| bnd (F_X0_colourAt a29 x3 (x34 + x4) h22) fun x35 h35 =>
            rtv x35 h35
          else
            F_X7_seen_b73 h22))))))
def F_X7_lost (a0 : Nat) (hp : hpT) : Rs Int32 :=
  gfI hp a0 7 7 fun x21 =>
  rtv x21 hp
