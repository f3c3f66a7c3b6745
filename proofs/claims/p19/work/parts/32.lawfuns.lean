/-! the law's own methods as propositions -/
def P_L_patternHolds_b238 (K92 : Nat → Int32 → Int32 → Int32 → Int32 → Int32 → Int64 → Int64 → Int32 → Int32 → hpT → (Int32 → hpT → Prop) → Prop) (a0 : Nat) (x1 : Int32) (x2 : Int32) (x3 : Int32) (x4 : Int32) (x5 : Int32) (y6 : Int64) (y8 : Int64) (x11 : Int32) (xs0 : Int32) (hp : hpT) (Q : Int32 → hpT → Prop) : Prop :=
  K92 a0 x1 x2 x3 x4 x5 y6 y8 xs0 (x11 + 1) hp Q
def P_L_patternHolds_b237 (K92 : Nat → Int32 → Int32 → Int32 → Int32 → Int32 → Int64 → Int64 → Int32 → Int32 → hpT → (Int32 → hpT → Prop) → Prop) (a0 : Nat) (x1 : Int32) (x2 : Int32) (x3 : Int32) (x4 : Int32) (x5 : Int32) (y6 : Int64) (y8 : Int64) (x11 : Int32) (hp : hpT) (Q : Int32 → hpT → Prop) : Prop :=
  P_L_patternHolds_b238 (K92) a0 x1 x2 x3 x4 x5 y6 y8 x11 0 hp Q
def P_L_patternHolds_b92 : Nat → Nat → Int32 → Int32 → Int32 → Int32 → Int32 → Int64 → Int64 → Int32 → Int32 → hpT → (Int32 → hpT → Prop) → Prop
  | 0, _, _, _, _, _, _, _, _, _, _, _, _ => False
  | n + 1, a0, x1, x2, x3, x4, x5, y6, y8, x10, x11, hp, Q =>
    (if 8 ≤ x11 then
      rtZP Q x10 hp
    else
      (if x10 = 0 then
        rtZP Q x10 hp
      else
        nzP (1 + x11) <|
        nzP 50 <|
        nzP (1 + x11) <|
        nzP 50 <|
        P_L_colour a0 x1 ((irm (x2 / (1 + x11)) 50) - 25) ((irm (x3 / (1 + x11)) 50) - 25) hp fun v21 h21 =>
        (if v21 < 0 then
          P_L_patternHolds_b237 (P_L_patternHolds_b92 n) a0 x1 x2 x3 x4 x5 y6 y8 x11 h21 Q
        else
          (if 7 < v21 then
            P_L_patternHolds_b237 (P_L_patternHolds_b92 n) a0 x1 x2 x3 x4 x5 y6 y8 x11 h21 Q
          else
            P_L_colour a0 x1 (((irm (x2 / (1 + x11)) 50) - 25) + x4) ((irm (x3 / (1 + x11)) 50) - 25) h21 fun v22 h22 =>
            (if v21 = v22 then
              P_L_colour a0 x1 ((irm (x2 / (1 + x11)) 50) - 25) (((irm (x3 / (1 + x11)) 50) - 25) - x5) h22 fun v23 h23 =>
              (if v21 = v23 then
                P_L_colour a0 x1 (((irm (x2 / (1 + x11)) 50) - 25) - y6.toInt32) ((irm (x3 / (1 + x11)) 50) - 25) h23 fun v24 h24 =>
                (if v21 = v24 then
                  P_L_colour a0 x1 ((irm (x2 / (1 + x11)) 50) - 25) (((irm (x3 / (1 + x11)) 50) - 25) + y8.toInt32) h24 fun v25 h25 =>
                  (if v21 = v25 then
                    P_L_patternHolds_b238 (P_L_patternHolds_b92 n) a0 x1 x2 x3 x4 x5 y6 y8 x11 1 h25 Q
                  else
                    P_L_patternHolds_b237 (P_L_patternHolds_b92 n) a0 x1 x2 x3 x4 x5 y6 y8 x11 h25 Q)
                else
                  P_L_patternHolds_b237 (P_L_patternHolds_b92 n) a0 x1 x2 x3 x4 x5 y6 y8 x11 h24 Q)
              else
                P_L_patternHolds_b237 (P_L_patternHolds_b92 n) a0 x1 x2 x3 x4 x5 y6 y8 x11 h23 Q)
            else
              P_L_patternHolds_b237 (P_L_patternHolds_b92 n) a0 x1 x2 x3 x4 x5 y6 y8 x11 h22 Q)))))
def P_L_patternHolds_b87 (a0 : Nat) (x1 : Int32) (x2 : Int32) (x3 : Int32) (x4 : Int32) (x5 : Int32) (y6 : Int64) (y8 : Int64) (xs0 : Int32) (hp : hpT) (Q : Int32 → hpT → Prop) : Prop :=
  P_L_patternHolds_b92 9 a0 x1 x2 x3 x4 x5 y6 y8 xs0 0 hp Q
def P_L_patternHolds_b86 (a0 : Nat) (x1 : Int32) (x2 : Int32) (x3 : Int32) (x4 : Int32) (x5 : Int32) (y6 : Int64) (y8 : Int64) (hp : hpT) (Q : Int32 → hpT → Prop) : Prop :=
  P_L_patternHolds_b87 a0 x1 x2 x3 x4 x5 y6 y8 0 hp Q
def P_L_patternHolds_b0 (a0 : Nat) (x1 : Int32) (x2 : Int32) (x3 : Int32) (hp : hpT) (Q : Int32 → hpT → Prop) : Prop :=
  P_L_repeat a0 x1 0 hp fun v26 h26 =>
  P_L_repeat a0 x1 1 h26 fun v27 h27 =>
  P_L_repeatAnew a0 x1 0 h27 fun v28 h28 =>
  P_L_repeatAnew a0 x1 1 h28 fun v29 h29 =>
  (if v26.toInt32 < 1 then
    P_L_patternHolds_b86 a0 x1 x2 x3 v26.toInt32 v27.toInt32 v28 v29 h29 Q
  else
    (if v27.toInt32 < 1 then
      P_L_patternHolds_b86 a0 x1 x2 x3 v26.toInt32 v27.toInt32 v28 v29 h29 Q
    else
      (if v28 < 1 then
        P_L_patternHolds_b86 a0 x1 x2 x3 v26.toInt32 v27.toInt32 v28 v29 h29 Q
      else
        (if v29 < 1 then
          P_L_patternHolds_b86 a0 x1 x2 x3 v26.toInt32 v27.toInt32 v28 v29 h29 Q
        else
          nzL v28 <|
          (if (lrm v26.toInt32.toInt64 v28) = 0 then
            nzL v29 <|
            (if (lrm v27.toInt32.toInt64 v29) = 0 then
              P_L_patternHolds_b87 a0 x1 x2 x3 v26.toInt32 v27.toInt32 v28 v29 1 h29 Q
            else
              P_L_patternHolds_b86 a0 x1 x2 x3 v26.toInt32 v27.toInt32 v28 v29 h29 Q)
          else
            P_L_patternHolds_b86 a0 x1 x2 x3 v26.toInt32 v27.toInt32 v28 v29 h29 Q)))))
def P_L_patternHolds (a0 : Nat) (x1 : Int32) (x2 : Int32) (x3 : Int32) (hp : hpT) (Q : Int32 → hpT → Prop) : Prop := P_L_patternHolds_b0 a0 x1 x2 x3 hp Q
def P_L_lotHigh_b0 (a0 : Nat) (x1 : Int32) (hp : hpT) (Q : Int64 → hpT → Prop) : Prop :=
  P_L_lotOf a0 x1 0 hp fun v21 h21 =>
  nzP 3 <|
  P_L_repeat a0 (irm v21.toInt32 3) 1 h21 fun v22 h22 =>
  Q v22 h22
def P_L_lotHigh (a0 : Nat) (x1 : Int32) (hp : hpT) (Q : Int64 → hpT → Prop) : Prop := P_L_lotHigh_b0 a0 x1 hp Q
def P_L_roomHolds_b97 (hp : hpT) (Q : Int32 → hpT → Prop) : Prop :=
  rtZP Q 1 hp
def P_L_roomHolds_b101 (hp : hpT) (Q : Int32 → hpT → Prop) : Prop :=
  rtZP Q 0 hp
def P_L_roomHolds_b281 (K176 : Nat → Int32 → Nat → Int32 → Int64 → Int64 → Int64 → Int64 → Int64 → Int32 → Int32 → Int32 → hpT → (Int32 → hpT → Prop) → Prop) (K190 : Nat → Int32 → Nat → Int32 → Int64 → Int64 → Int64 → Int64 → Int64 → Int32 → Int32 → Int32 → Int32 → hpT → (Int32 → hpT → Prop) → Prop) (a0 : Nat) (x1 : Int32) (a2 : Nat) (x3 : Int32) (y6 : Int64) (y8 : Int64) (y10 : Int64) (y12 : Int64) (y14 : Int64) (x16 : Int32) (x18 : Int32) (x19 : Int32) (xs0 : Int32) (hp : hpT) (Q : Int32 → hpT → Prop) : Prop :=
  aldP hp a2 ((4 * x1) + x18) fun v21 =>
  K190 a0 x1 a2 x3 y6 y8 y10 y12 (y14 + v21.toInt64) (x16 + 1) xs0 x18 (x19 + 1) hp Q
def P_L_roomHolds_b280 (K176 : Nat → Int32 → Nat → Int32 → Int64 → Int64 → Int64 → Int64 → Int64 → Int32 → Int32 → Int32 → hpT → (Int32 → hpT → Prop) → Prop) (K190 : Nat → Int32 → Nat → Int32 → Int64 → Int64 → Int64 → Int64 → Int64 → Int32 → Int32 → Int32 → Int32 → hpT → (Int32 → hpT → Prop) → Prop) (a0 : Nat) (x1 : Int32) (a2 : Nat) (x3 : Int32) (y6 : Int64) (y8 : Int64) (y10 : Int64) (y12 : Int64) (y14 : Int64) (x16 : Int32) (x18 : Int32) (x19 : Int32) (hp : hpT) (Q : Int32 → hpT → Prop) : Prop :=
  P_L_roomHolds_b281 (K176) (K190) a0 x1 a2 x3 y6 y8 y10 y12 y14 x16 x18 x19 0 hp Q
def P_L_roomHolds_b332 (K176 : Nat → Int32 → Nat → Int32 → Int64 → Int64 → Int64 → Int64 → Int64 → Int32 → Int32 → Int32 → hpT → (Int32 → hpT → Prop) → Prop) (a0 : Nat) (x1 : Int32) (a2 : Nat) (x3 : Int32) (y6 : Int64) (y8 : Int64) (y10 : Int64) (y12 : Int64) (y14 : Int64) (x16 : Int32) (x18 : Int32) (xs0 : Int32) (hp : hpT) (Q : Int32 → hpT → Prop) : Prop :=
  K176 a0 x1 a2 x3 y6 y8 y10 y12 y14 x16 xs0 (x18 + 1) hp Q
def P_L_roomHolds_b331 (K176 : Nat → Int32 → Nat → Int32 → Int64 → Int64 → Int64 → Int64 → Int64 → Int32 → Int32 → Int32 → hpT → (Int32 → hpT → Prop) → Prop) (a0 : Nat) (x1 : Int32) (a2 : Nat) (x3 : Int32) (y6 : Int64) (y8 : Int64) (y10 : Int64) (y12 : Int64) (y14 : Int64) (x16 : Int32) (x18 : Int32) (hp : hpT) (Q : Int32 → hpT → Prop) : Prop :=
  P_L_roomHolds_b332 (K176) a0 x1 a2 x3 y6 y8 y10 y12 y14 x16 x18 0 hp Q
def P_L_roomHolds_b306 (K176 : Nat → Int32 → Nat → Int32 → Int64 → Int64 → Int64 → Int64 → Int64 → Int32 → Int32 → Int32 → hpT → (Int32 → hpT → Prop) → Prop) (a0 : Nat) (x1 : Int32) (a2 : Nat) (x3 : Int32) (y6 : Int64) (y8 : Int64) (y10 : Int64) (y12 : Int64) (y14 : Int64) (x16 : Int32) (x17 : Int32) (x18 : Int32) (x19 : Int32) (hp : hpT) (Q : Int32 → hpT → Prop) : Prop :=
  (if x17 = 0 then
    P_L_roomHolds_b331 (K176) a0 x1 a2 x3 y6 y8 y10 y12 y14 x16 x18 hp Q
  else
    P_L_cut a0 x1 x18 x19 hp fun v22 h22 =>
    (if v22 = (-9000000000000000001) then
      P_L_roomHolds_b332 (K176) a0 x1 a2 x3 y6 y8 y10 y12 y14 x16 x18 1 h22 Q
    else
      P_L_roomHolds_b331 (K176) a0 x1 a2 x3 y6 y8 y10 y12 y14 x16 x18 h22 Q))
def P_L_roomHolds_b190 (K176 : Nat → Int32 → Nat → Int32 → Int64 → Int64 → Int64 → Int64 → Int64 → Int32 → Int32 → Int32 → hpT → (Int32 → hpT → Prop) → Prop) : Nat → Nat → Int32 → Nat → Int32 → Int64 → Int64 → Int64 → Int64 → Int64 → Int32 → Int32 → Int32 → Int32 → hpT → (Int32 → hpT → Prop) → Prop
  | 0, _, _, _, _, _, _, _, _, _, _, _, _, _, _, _ => False
  | n + 1, a0, x1, a2, x3, y6, y8, y10, y12, y14, x16, x17, x18, x19, hp, Q =>
    (if 24 ≤ x19 then
      P_L_roomHolds_b306 (K176) a0 x1 a2 x3 y6 y8 y10 y12 y14 x16 x17 x18 x19 hp Q
    else
      (if x17 = 0 then
        P_L_roomHolds_b306 (K176) a0 x1 a2 x3 y6 y8 y10 y12 y14 x16 x17 x18 x19 hp Q
      else
        P_L_cut a0 x1 x18 x19 hp fun v23 h23 =>
        (if v23 < 0 then
          P_L_roomHolds_b306 (K176) a0 x1 a2 x3 y6 y8 y10 y12 y14 x16 x17 x18 x19 h23 Q
        else
          P_L_cut a0 x1 x18 x19 h23 fun v24 h24 =>
          nzL 1000 <|
          nzL y6 <|
          (if (lrm (lrm v24 1000) y6) = y10 then
            nzL 1000 <|
            aldP h24 a2 ((4 * x1) + x18) fun v25 =>
            (if y8 < ((lrm v24 1000) + v25.toInt64) then
              P_L_roomHolds_b280 (K176) (P_L_roomHolds_b190 K176 n) a0 x1 a2 x3 y6 y8 y10 y12 y14 x16 x18 x19 h24 Q
            else
              nzL 1000 <|
              (if y12 ≤ (v24 / 1000) then
                P_L_roomHolds_b280 (K176) (P_L_roomHolds_b190 K176 n) a0 x1 a2 x3 y6 y8 y10 y12 y14 x16 x18 x19 h24 Q
              else
                P_L_roomHolds_b281 (K176) (P_L_roomHolds_b190 K176 n) a0 x1 a2 x3 y6 y8 y10 y12 y14 x16 x18 x19 1 h24 Q))
          else
            P_L_roomHolds_b280 (K176) (P_L_roomHolds_b190 K176 n) a0 x1 a2 x3 y6 y8 y10 y12 y14 x16 x18 x19 h24 Q))))
def P_L_roomHolds_b391 (hp : hpT) (Q : Int32 → hpT → Prop) : Prop :=
  rtZP Q 0 hp
def P_L_roomHolds_b340 (a0 : Nat) (x1 : Int32) (y8 : Int64) (y12 : Int64) (y14 : Int64) (x16 : Int32) (x17 : Int32) (hp : hpT) (Q : Int32 → hpT → Prop) : Prop :=
  (if x17 = 0 then
    P_L_roomHolds_b391 hp Q
  else
    P_L_room a0 x1 1 hp fun v26 h26 =>
    (if x16.toInt64 = v26 then
      P_L_room a0 x1 5 h26 fun v27 h27 =>
      (if v27 = ((y12 * y8) - y14) then
        P_L_room a0 x1 5 h27 fun v28 h28 =>
        (if v28 < 0 then
          P_L_roomHolds_b391 h28 Q
        else
          rtZP Q 1 h28)
      else
        P_L_roomHolds_b391 h27 Q)
    else
      P_L_roomHolds_b391 h26 Q))
def P_L_roomHolds_b176 : Nat → Nat → Int32 → Nat → Int32 → Int64 → Int64 → Int64 → Int64 → Int64 → Int32 → Int32 → Int32 → hpT → (Int32 → hpT → Prop) → Prop
  | 0, _, _, _, _, _, _, _, _, _, _, _, _, _, _ => False
  | n + 1, a0, x1, a2, x3, y6, y8, y10, y12, y14, x16, x17, x18, hp, Q =>
    (if x3 ≤ x18 then
      P_L_roomHolds_b340 a0 x1 y8 y12 y14 x16 x17 hp Q
    else
      (if x17 = 0 then
        P_L_roomHolds_b340 a0 x1 y8 y12 y14 x16 x17 hp Q
      else
        P_L_roomHolds_b190 (P_L_roomHolds_b176 n) 25 a0 x1 a2 x3 y6 y8 y10 y12 y14 x16 x17 x18 0 hp Q))
def P_L_roomHolds_b171 (a0 : Nat) (x1 : Int32) (a2 : Nat) (x3 : Int32) (y6 : Int64) (y8 : Int64) (y10 : Int64) (y12 : Int64) (y14 : Int64) (x16 : Int32) (xs0 : Int32) (hp : hpT) (Q : Int32 → hpT → Prop) : Prop :=
  P_L_roomHolds_b176 5 a0 x1 a2 x3 y6 y8 y10 y12 y14 x16 xs0 0 hp Q
def P_L_roomHolds_b170 (a0 : Nat) (x1 : Int32) (a2 : Nat) (x3 : Int32) (y6 : Int64) (y8 : Int64) (y10 : Int64) (y12 : Int64) (y14 : Int64) (x16 : Int32) (hp : hpT) (Q : Int32 → hpT → Prop) : Prop :=
  P_L_roomHolds_b171 a0 x1 a2 x3 y6 y8 y10 y12 y14 x16 0 hp Q
def P_L_roomHolds_b0 (a0 : Nat) (x1 : Int32) (a2 : Nat) (hp : hpT) (Q : Int32 → hpT → Prop) : Prop :=
  P_L_room a0 x1 0 hp fun v29 h29 =>
  P_L_room a0 x1 2 h29 fun v30 h30 =>
  (if 0 ≤ v30 then
    P_L_lotHigh a0 v30.toInt32 h30 fun v31 h31 =>
    P_L_lotOf a0 v30.toInt32 3 h31 fun v32 h32 =>
    P_L_room a0 x1 3 h32 fun v33 h33 =>
    P_L_room a0 x1 4 h33 fun v34 h34 =>
    (if v33 < 0 then
      P_L_roomHolds_b170 a0 x1 a2 v29.toInt32 v31 v32 v33 v34 0 0 h34 Q
    else
      (if v31 ≤ v33 then
        P_L_roomHolds_b170 a0 x1 a2 v29.toInt32 v31 v32 v33 v34 0 0 h34 Q
      else
        (if v34 < 1 then
          P_L_roomHolds_b170 a0 x1 a2 v29.toInt32 v31 v32 v33 v34 0 0 h34 Q
        else
          P_L_roomHolds_b171 a0 x1 a2 v29.toInt32 v31 v32 v33 v34 0 0 1 h34 Q)))
  else
    P_L_room a0 x1 3 h30 fun v35 h35 =>
    (if v35 = (-1) then
      P_L_room a0 x1 4 h35 fun v36 h36 =>
      (if v36 = (-1) then
        P_L_room a0 x1 5 h36 fun v37 h37 =>
        (if v37 = (-1) then
          (if v29.toInt32 = 0 then
            P_L_roomHolds_b97 h37 Q
          else
            P_L_cut a0 x1 0 0 h37 fun v38 h38 =>
            (if v38 = (-1) then
              P_L_seen a0 x1 0 (-5) 99 h38 fun v39 h39 =>
              (if v39 = (-1) then
                P_L_roomHolds_b97 h39 Q
              else
                P_L_roomHolds_b101 h39 Q)
            else
              P_L_roomHolds_b101 h38 Q))
        else
          P_L_roomHolds_b101 h37 Q)
      else
        P_L_roomHolds_b101 h36 Q)
    else
      P_L_roomHolds_b101 h35 Q))
def P_L_roomHolds (a0 : Nat) (x1 : Int32) (a2 : Nat) (hp : hpT) (Q : Int32 → hpT → Prop) : Prop := P_L_roomHolds_b0 a0 x1 a2 hp Q
def P_L_refuses_b474 (hp : hpT) (Q : Int32 → hpT → Prop) : Prop :=
  rtZP Q 0 hp
def P_L_refuses_b309 (a0 : Nat) (x1 : Int32) (hp : hpT) (Q : Int32 → hpT → Prop) : Prop :=
  P_L_wall a0 4 1 1 hp fun v21 h21 =>
  (if v21 = (-9000000000000000001) then
    P_L_wall a0 0 13 1 h21 fun v22 h22 =>
    (if v22 = (-9000000000000000002) then
      P_L_wall a0 0 1 61 h22 fun v23 h23 =>
      (if v23 = (-9000000000000000002) then
        P_L_hang a0 0 10 h23 fun v24 h24 =>
        (if v24 = (-9000000000000000001) then
          P_L_hang a0 (-1) 0 h24 fun v25 h25 =>
          (if v25 = (-9000000000000000001) then
            P_L_lengthen a0 0 4 1 h25 fun v26 h26 =>
            (if v26 = (-9000000000000000001) then
              P_L_strip a0 4 h26 fun v27 h27 =>
              (if v27 = (-9000000000000000001) then
                P_L_room a0 4 0 h27 fun v28 h28 =>
                (if v28 = (-9000000000000000001) then
                  P_L_room a0 0 6 h28 fun v29 h29 =>
                  (if v29 = (-9000000000000000002) then
                    P_L_cut a0 0 4 0 h29 fun v30 h30 =>
                    (if v30 = (-9000000000000000001) then
                      P_L_seen a0 0 4 0 0 h30 fun v31 h31 =>
                      (if v31 = (-9000000000000000001) then
                        isP h31 a0 7 <| cP (F_X7_lost a0 h31) fun v32 h32 =>
                        (if v32 = x1 then
                          rtZP Q 1 h32
                        else
                          P_L_refuses_b474 h32 Q)
                      else
                        P_L_refuses_b474 h31 Q)
                    else
                      P_L_refuses_b474 h30 Q)
                  else
                    P_L_refuses_b474 h29 Q)
                else
                  P_L_refuses_b474 h28 Q)
              else
                P_L_refuses_b474 h27 Q)
            else
              P_L_refuses_b474 h26 Q)
          else
            P_L_refuses_b474 h25 Q)
        else
          P_L_refuses_b474 h24 Q)
      else
        P_L_refuses_b474 h23 Q)
    else
      P_L_refuses_b474 h22 Q)
  else
    P_L_refuses_b474 h21 Q)
def P_L_refuses_b264 (a0 : Nat) (x1 : Int32) (xs0 : Int32) (hp : hpT) (Q : Int32 → hpT → Prop) : Prop :=
  (if xs0 = 0 then
    P_L_refuses_b474 hp Q
  else
    P_L_lotOf a0 10 0 hp fun v33 h33 =>
    (if v33 = (-9000000000000000001) then
      P_L_lotOf a0 0 5 h33 fun v34 h34 =>
      (if v34 = (-9000000000000000002) then
        P_L_refuses_b309 a0 x1 h34 Q
      else
        P_L_lotOf a0 0 0 h34 fun v35 h35 =>
        (if v35 = (-9000000000000000001) then
          P_L_refuses_b309 a0 x1 h35 Q
        else
          P_L_refuses_b474 h35 Q))
    else
      P_L_refuses_b474 h33 Q))
def P_L_refuses_b263 (a0 : Nat) (x1 : Int32) (hp : hpT) (Q : Int32 → hpT → Prop) : Prop :=
  P_L_refuses_b264 a0 x1 0 hp Q
def P_L_refuses_b0 (a0 : Nat) (hp : hpT) (Q : Int32 → hpT → Prop) : Prop :=
  isP hp a0 7 <| cP (F_X7_lost a0 hp) fun v36 h36 =>
  P_L_pattern a0 0 1 0 h36 fun v37 h37 =>
  (if v37 = (-9000000000000000002) then
    P_L_pattern a0 1 6 0 h37 fun v38 h38 =>
    (if v38 = (-9000000000000000002) then
      P_L_pattern a0 1 1 6 h38 fun v39 h39 =>
      (if v39 = (-9000000000000000002) then
        P_L_pattern a0 2 3 5 h39 fun v40 h40 =>
        (if v40 = (-9000000000000000002) then
          P_L_paint a0 6 0 0 0 h40 fun v41 h41 =>
          (if v41 = (-9000000000000000001) then
            P_L_paint a0 0 5 0 0 h41 fun v42 h42 =>
            (if v42 = (-9000000000000000001) then
              P_L_paint a0 0 0 (-1) 0 h42 fun v43 h43 =>
              (if v43 = (-9000000000000000001) then
                P_L_paint a0 0 0 0 8 h43 fun v44 h44 =>
                (if v44 = (-9000000000000000002) then
                  P_L_colour a0 (-1) 0 0 h44 fun v45 h45 =>
                  (if v45 = (-9000000000000000001) then
                    P_L_repeat a0 6 1 h45 fun v46 h46 =>
                    (if v46 = (-9000000000000000001) then
                      P_L_repeatAnew a0 (-1) 1 h46 fun v47 h47 =>
                      (if v47 = (-9000000000000000001) then
                        P_L_roller a0 6 1 h47 fun v48 h48 =>
                        (if v48 = (-9000000000000000001) then
                          P_L_roller a0 0 61 h48 fun v49 h49 =>
                          (if v49 = (-9000000000000000002) then
                            P_L_lot a0 8 0 1 1 h49 fun v50 h50 =>
                            (if v50 = (-9000000000000000001) then
                              P_L_lot a0 0 10 1 1 h50 fun v51 h51 =>
                              (if v51 = (-9000000000000000002) then
                                P_L_lot a0 0 0 21 1 h51 fun v52 h52 =>
                                (if v52 = (-9000000000000000002) then
                                  P_L_lot a0 0 0 1 201 h52 fun v53 h53 =>
                                  (if v53 = (-9000000000000000002) then
                                    P_L_refuses_b264 a0 v36 1 h53 Q
                                  else
                                    P_L_refuses_b263 a0 v36 h53 Q)
                                else
                                  P_L_refuses_b263 a0 v36 h52 Q)
                              else
                                P_L_refuses_b263 a0 v36 h51 Q)
                            else
                              P_L_refuses_b263 a0 v36 h50 Q)
                          else
                            P_L_refuses_b263 a0 v36 h49 Q)
                        else
                          P_L_refuses_b263 a0 v36 h48 Q)
                      else
                        P_L_refuses_b263 a0 v36 h47 Q)
                    else
                      P_L_refuses_b263 a0 v36 h46 Q)
                  else
                    P_L_refuses_b263 a0 v36 h45 Q)
                else
                  P_L_refuses_b263 a0 v36 h44 Q)
              else
                P_L_refuses_b263 a0 v36 h43 Q)
            else
              P_L_refuses_b263 a0 v36 h42 Q)
          else
            P_L_refuses_b263 a0 v36 h41 Q)
        else
          P_L_refuses_b263 a0 v36 h40 Q)
      else
        P_L_refuses_b263 a0 v36 h39 Q)
    else
      P_L_refuses_b263 a0 v36 h38 Q)
  else
    P_L_refuses_b263 a0 v36 h37 Q)
def P_L_refuses (a0 : Nat) (hp : hpT) (Q : Int32 → hpT → Prop) : Prop := P_L_refuses_b0 a0 hp Q
def P_L_law_b122 (L : Nat) (xs : Nat → Int32) (K18 : Nat → Int32 → Nat → Int32 → hpT → (Int32 → hpT → Prop) → Prop) (a1 : Nat) (a3 : Nat) (x4 : Int32) (xs0 : Int32) (hp : hpT) (Q : Int32 → hpT → Prop) : Prop :=
  K18 a1 xs0 a3 (x4 + 1) hp Q
def P_L_law_b89 (L : Nat) (xs : Nat → Int32) (K18 : Nat → Int32 → Nat → Int32 → hpT → (Int32 → hpT → Prop) → Prop) (a1 : Nat) (a3 : Nat) (x4 : Int32) (x6 : Int32) (xs0 : Int32) (xs1 : Int32) (as2 : Nat) (hp : hpT) (Q : Int32 → hpT → Prop) : Prop :=
  astP hp as2 xs1 xs0 fun h21 =>
  aldP h21 a3 (2 * x4) fun v22 =>
  aldP h21 a3 ((2 * x4) + 1) fun v23 =>
  P_L_pattern a1 v22 v23 x6 h21 fun v24 h24 =>
  (if v24 = x4.toInt64 then
    P_L_law_b122 L xs (K18) a1 a3 x4 1 h24 Q
  else
    P_L_law_b122 L xs (K18) a1 a3 x4 0 h24 Q)
def P_L_law_b187 (L : Nat) (xs : Nat → Int32) (K135 : Nat → Int32 → Nat → Int32 → Int32 → hpT → (Int32 → hpT → Prop) → Prop) (a1 : Nat) (a3 : Nat) (x4 : Int32) (x5 : Int32) (xs0 : Int32) (hp : hpT) (Q : Int32 → hpT → Prop) : Prop :=
  K135 a1 xs0 a3 (x4 + 1) (x5 + 1) hp Q
def P_L_law_b1212 (L : Nat) (xs : Nat → Int32) (K209 : Nat → Int32 → Nat → Int32 → Int32 → Nat → Int32 → hpT → (Int32 → hpT → Prop) → Prop) (a1 : Nat) (x2 : Int32) (a3 : Nat) (x4 : Int32) (x5 : Int32) (a6 : Nat) (x7 : Int32) (hp : hpT) (Q : Int32 → hpT → Prop) : Prop :=
  K209 a1 x2 a3 x4 x5 a6 (x7 + 1) hp Q
def P_L_law_b1211 (L : Nat) (xs : Nat → Int32) (K209 : Nat → Int32 → Nat → Int32 → Int32 → Nat → Int32 → hpT → (Int32 → hpT → Prop) → Prop) (a1 : Nat) (a3 : Nat) (x4 : Int32) (x5 : Int32) (a6 : Nat) (x7 : Int32) (xs0 : Int32) (hp : hpT) (Q : Int32 → hpT → Prop) : Prop :=
  P_L_law_b1212 L xs (K209) a1 xs0 a3 x4 x5 a6 x7 hp Q
def P_L_law_b1210 (L : Nat) (xs : Nat → Int32) (K209 : Nat → Int32 → Nat → Int32 → Int32 → Nat → Int32 → hpT → (Int32 → hpT → Prop) → Prop) (a1 : Nat) (a3 : Nat) (x4 : Int32) (x5 : Int32) (a6 : Nat) (x7 : Int32) (hp : hpT) (Q : Int32 → hpT → Prop) : Prop :=
  P_L_law_b1211 L xs (K209) a1 a3 x4 x5 a6 x7 0 hp Q
def P_L_law_b1185 (L : Nat) (xs : Nat → Int32) (K209 : Nat → Int32 → Nat → Int32 → Int32 → Nat → Int32 → hpT → (Int32 → hpT → Prop) → Prop) (a1 : Nat) (x2 : Int32) (a3 : Nat) (x4 : Int32) (x5 : Int32) (a6 : Nat) (x7 : Int32) (hp : hpT) (Q : Int32 → hpT → Prop) : Prop :=
  nzP 23 <|
  (if (irm x7 23) = 22 then
    (if x2 = 0 then
      P_L_law_b1210 L xs (K209) a1 a3 x4 x5 a6 x7 hp Q
    else
      P_L_refuses a1 hp fun v25 h25 =>
      (if v25 = 0 then
        P_L_law_b1210 L xs (K209) a1 a3 x4 x5 a6 x7 h25 Q
      else
        P_L_law_b1211 L xs (K209) a1 a3 x4 x5 a6 x7 1 h25 Q))
  else
    P_L_law_b1212 L xs (K209) a1 x2 a3 x4 x5 a6 x7 hp Q)
def P_L_law_b1184 (L : Nat) (xs : Nat → Int32) (K209 : Nat → Int32 → Nat → Int32 → Int32 → Nat → Int32 → hpT → (Int32 → hpT → Prop) → Prop) (a1 : Nat) (a3 : Nat) (x4 : Int32) (x5 : Int32) (a6 : Nat) (x7 : Int32) (xs0 : Int32) (hp : hpT) (Q : Int32 → hpT → Prop) : Prop :=
  P_L_law_b1185 L xs (K209) a1 xs0 a3 x4 x5 a6 x7 hp Q
def P_L_law_b1183 (L : Nat) (xs : Nat → Int32) (K209 : Nat → Int32 → Nat → Int32 → Int32 → Nat → Int32 → hpT → (Int32 → hpT → Prop) → Prop) (a1 : Nat) (a3 : Nat) (x4 : Int32) (x5 : Int32) (a6 : Nat) (x7 : Int32) (hp : hpT) (Q : Int32 → hpT → Prop) : Prop :=
  P_L_law_b1184 L xs (K209) a1 a3 x4 x5 a6 x7 0 hp Q
def P_L_law_b1140 (L : Nat) (xs : Nat → Int32) (K209 : Nat → Int32 → Nat → Int32 → Int32 → Nat → Int32 → hpT → (Int32 → hpT → Prop) → Prop) (a1 : Nat) (x2 : Int32) (a3 : Nat) (x4 : Int32) (x5 : Int32) (a6 : Nat) (x7 : Int32) (x11 : Int32) (hp : hpT) (Q : Int32 → hpT → Prop) : Prop :=
  nzP 6 <|
  (if (irm x7 6) = 5 then
    (if x2 = 0 then
      P_L_law_b1183 L xs (K209) a1 a3 x4 x5 a6 x7 hp Q
    else
      P_L_roomHolds a1 x11 a6 hp fun v26 h26 =>
      (if v26 = 0 then
        P_L_law_b1183 L xs (K209) a1 a3 x4 x5 a6 x7 h26 Q
      else
        nzP 4 <|
        P_L_roomHolds a1 (irm (x11 + 1) 4) a6 h26 fun v27 h27 =>
        (if v27 = 0 then
          P_L_law_b1183 L xs (K209) a1 a3 x4 x5 a6 x7 h27 Q
        else
          P_L_law_b1184 L xs (K209) a1 a3 x4 x5 a6 x7 1 h27 Q)))
  else
    P_L_law_b1185 L xs (K209) a1 x2 a3 x4 x5 a6 x7 hp Q)
def P_L_law_b380 (L : Nat) (xs : Nat → Int32) (K209 : Nat → Int32 → Nat → Int32 → Int32 → Nat → Int32 → hpT → (Int32 → hpT → Prop) → Prop) (a1 : Nat) (a3 : Nat) (x4 : Int32) (x5 : Int32) (a6 : Nat) (x7 : Int32) (x11 : Int32) (xs0 : Int32) (hp : hpT) (Q : Int32 → hpT → Prop) : Prop :=
  P_L_law_b1140 L xs (K209) a1 xs0 a3 x4 x5 a6 x7 x11 hp Q
def P_L_law_b379 (L : Nat) (xs : Nat → Int32) (K209 : Nat → Int32 → Nat → Int32 → Int32 → Nat → Int32 → hpT → (Int32 → hpT → Prop) → Prop) (a1 : Nat) (a3 : Nat) (x4 : Int32) (x5 : Int32) (a6 : Nat) (x7 : Int32) (x11 : Int32) (hp : hpT) (Q : Int32 → hpT → Prop) : Prop :=
  P_L_law_b380 L xs (K209) a1 a3 x4 x5 a6 x7 x11 0 hp Q
def P_L_law_b503 (L : Nat) (xs : Nat → Int32) (K209 : Nat → Int32 → Nat → Int32 → Int32 → Nat → Int32 → hpT → (Int32 → hpT → Prop) → Prop) (a1 : Nat) (a3 : Nat) (x4 : Int32) (x5 : Int32) (a6 : Nat) (x7 : Int32) (x11 : Int32) (xs0 : Int32) (hp : hpT) (Q : Int32 → hpT → Prop) : Prop :=
  P_L_law_b1140 L xs (K209) a1 xs0 a3 x4 x5 a6 x7 x11 hp Q
def P_L_law_b502 (L : Nat) (xs : Nat → Int32) (K209 : Nat → Int32 → Nat → Int32 → Int32 → Nat → Int32 → hpT → (Int32 → hpT → Prop) → Prop) (a1 : Nat) (a3 : Nat) (x4 : Int32) (x5 : Int32) (a6 : Nat) (x7 : Int32) (x11 : Int32) (hp : hpT) (Q : Int32 → hpT → Prop) : Prop :=
  P_L_law_b503 L xs (K209) a1 a3 x4 x5 a6 x7 x11 0 hp Q
def P_L_law_b477 (L : Nat) (xs : Nat → Int32) (K209 : Nat → Int32 → Nat → Int32 → Int32 → Nat → Int32 → hpT → (Int32 → hpT → Prop) → Prop) (a1 : Nat) (x2 : Int32) (a3 : Nat) (x4 : Int32) (a6 : Nat) (x7 : Int32) (x11 : Int32) (xs0 : Int32) (xs1 : Int32) (hp : hpT) (Q : Int32 → hpT → Prop) : Prop :=
  (if x2 = 0 then
    P_L_law_b502 L xs (K209) a1 a3 x4 (xs1 + xs0) a6 x7 x11 hp Q
  else
    P_L_lotOf a1 ((xs1 + xs0) - 1) 4 hp fun v28 h28 =>
    (if v28 < 1 then
      P_L_law_b502 L xs (K209) a1 a3 x4 (xs1 + xs0) a6 x7 x11 h28 Q
    else
      P_L_law_b503 L xs (K209) a1 a3 x4 (xs1 + xs0) a6 x7 x11 1 h28 Q))
def P_L_law_b462 (L : Nat) (xs : Nat → Int32) (K209 : Nat → Int32 → Nat → Int32 → Int32 → Nat → Int32 → hpT → (Int32 → hpT → Prop) → Prop) (a1 : Nat) (a3 : Nat) (x4 : Int32) (x5 : Int32) (a6 : Nat) (x7 : Int32) (x11 : Int32) (xs0 : Int32) (hp : hpT) (Q : Int32 → hpT → Prop) : Prop :=
  (if x5 = 10 then
    P_L_law_b477 L xs (K209) a1 xs0 a3 x4 a6 x7 x11 0 x5 hp Q
  else
    P_L_law_b477 L xs (K209) a1 xs0 a3 x4 a6 x7 x11 1 x5 hp Q)
def P_L_law_b453 (L : Nat) (xs : Nat → Int32) (K209 : Nat → Int32 → Nat → Int32 → Int32 → Nat → Int32 → hpT → (Int32 → hpT → Prop) → Prop) (a1 : Nat) (a3 : Nat) (x4 : Int32) (x5 : Int32) (a6 : Nat) (x7 : Int32) (x11 : Int32) (ys0 : Int64) (ys1 : Int64) (hp : hpT) (Q : Int32 → hpT → Prop) : Prop :=
  (if ys1 = ys0 then
    P_L_law_b462 L xs (K209) a1 a3 x4 x5 a6 x7 x11 1 hp Q
  else
    P_L_law_b462 L xs (K209) a1 a3 x4 x5 a6 x7 x11 0 hp Q)
def P_L_law_b623 (L : Nat) (xs : Nat → Int32) (K209 : Nat → Int32 → Nat → Int32 → Int32 → Nat → Int32 → hpT → (Int32 → hpT → Prop) → Prop) (a1 : Nat) (x2 : Int32) (a3 : Nat) (x4 : Int32) (x5 : Int32) (a6 : Nat) (x7 : Int32) (x11 : Int32) (hp : hpT) (Q : Int32 → hpT → Prop) : Prop :=
  P_L_law_b1140 L xs (K209) a1 x2 a3 x4 x5 a6 x7 x11 hp Q
def P_L_law_b603 (L : Nat) (xs : Nat → Int32) (K209 : Nat → Int32 → Nat → Int32 → Int32 → Nat → Int32 → hpT → (Int32 → hpT → Prop) → Prop) (a1 : Nat) (a3 : Nat) (x4 : Int32) (x5 : Int32) (a6 : Nat) (x7 : Int32) (x11 : Int32) (x12 : Int32) (x14 : Int32) (y15 : Int64) (xs0 : Int32) (hp : hpT) (Q : Int32 → hpT → Prop) : Prop :=
  (if y15 < 0 then
    P_L_law_b623 L xs (K209) a1 xs0 a3 x4 x5 a6 x7 x11 hp Q
  else
    astP hp a6 ((4 * x11) + x12) x14 fun h29 =>
    P_L_law_b623 L xs (K209) a1 xs0 a3 x4 x5 a6 x7 x11 h29 Q)
def P_L_law_b594 (L : Nat) (xs : Nat → Int32) (K209 : Nat → Int32 → Nat → Int32 → Int32 → Nat → Int32 → hpT → (Int32 → hpT → Prop) → Prop) (a1 : Nat) (a3 : Nat) (x4 : Int32) (x5 : Int32) (a6 : Nat) (x7 : Int32) (x11 : Int32) (x12 : Int32) (x14 : Int32) (y15 : Int64) (ys0 : Int64) (ys1 : Int64) (hp : hpT) (Q : Int32 → hpT → Prop) : Prop :=
  (if ys1 = ys0 then
    P_L_law_b603 L xs (K209) a1 a3 x4 x5 a6 x7 x11 x12 x14 y15 1 hp Q
  else
    P_L_law_b603 L xs (K209) a1 a3 x4 x5 a6 x7 x11 x12 x14 y15 0 hp Q)
def P_L_law_b591 (L : Nat) (xs : Nat → Int32) (K209 : Nat → Int32 → Nat → Int32 → Int32 → Nat → Int32 → hpT → (Int32 → hpT → Prop) → Prop) (a1 : Nat) (a3 : Nat) (x4 : Int32) (x5 : Int32) (a6 : Nat) (x7 : Int32) (x11 : Int32) (x12 : Int32) (x14 : Int32) (y15 : Int64) (ys0 : Int64) (hp : hpT) (Q : Int32 → hpT → Prop) : Prop :=
  P_L_law_b594 L xs (K209) a1 a3 x4 x5 a6 x7 x11 x12 x14 y15 (-9000000000000000003) ys0 hp Q
def P_L_law_b541 (L : Nat) (xs : Nat → Int32) (K209 : Nat → Int32 → Nat → Int32 → Int32 → Nat → Int32 → hpT → (Int32 → hpT → Prop) → Prop) (a1 : Nat) (a3 : Nat) (x4 : Int32) (x5 : Int32) (a6 : Nat) (x7 : Int32) (x9 : Int32) (x11 : Int32) (x12 : Int32) (xs0 : Int32) (hp : hpT) (Q : Int32 → hpT → Prop) : Prop :=
  nzP 16 <|
  nzP 30 <|
  nzP 6 <|
  P_L_wall a1 x11 (1 + (irm x9 6)) (1 + (irm (x9 / 16) 30)) hp fun v30 h30 =>
  (if xs0 = 0 then
    P_L_law_b591 L xs (K209) a1 a3 x4 x5 a6 x7 x11 x12 (1 + (irm (x9 / 16) 30)) v30 v30 h30 Q
  else
    (if 4 ≤ x12 then
      P_L_law_b591 L xs (K209) a1 a3 x4 x5 a6 x7 x11 x12 (1 + (irm (x9 / 16) 30)) v30 v30 h30 Q
    else
      P_L_law_b594 L xs (K209) a1 a3 x4 x5 a6 x7 x11 x12 (1 + (irm (x9 / 16) 30)) v30 x12.toInt64 v30 h30 Q))
def P_L_law_b773 (L : Nat) (xs : Nat → Int32) (K209 : Nat → Int32 → Nat → Int32 → Int32 → Nat → Int32 → hpT → (Int32 → hpT → Prop) → Prop) (a1 : Nat) (a3 : Nat) (x4 : Int32) (x5 : Int32) (a6 : Nat) (x7 : Int32) (x11 : Int32) (xs0 : Int32) (hp : hpT) (Q : Int32 → hpT → Prop) : Prop :=
  P_L_law_b1140 L xs (K209) a1 xs0 a3 x4 x5 a6 x7 x11 hp Q
def P_L_law_b772 (L : Nat) (xs : Nat → Int32) (K209 : Nat → Int32 → Nat → Int32 → Int32 → Nat → Int32 → hpT → (Int32 → hpT → Prop) → Prop) (a1 : Nat) (a3 : Nat) (x4 : Int32) (x5 : Int32) (a6 : Nat) (x7 : Int32) (x11 : Int32) (hp : hpT) (Q : Int32 → hpT → Prop) : Prop :=
  P_L_law_b773 L xs (K209) a1 a3 x4 x5 a6 x7 x11 0 hp Q
def P_L_law_b662 (L : Nat) (xs : Nat → Int32) (K209 : Nat → Int32 → Nat → Int32 → Int32 → Nat → Int32 → hpT → (Int32 → hpT → Prop) → Prop) (a1 : Nat) (a3 : Nat) (x4 : Int32) (x5 : Int32) (a6 : Nat) (x7 : Int32) (x11 : Int32) (x12 : Int32) (xs0 : Int32) (hp : hpT) (Q : Int32 → hpT → Prop) : Prop :=
  P_L_lotOf a1 x12 2 hp fun v31 h31 =>
  P_L_hang a1 x11 x12 h31 fun v32 h32 =>
  (if v32 = (-9000000000000000003) then
    P_L_lotOf a1 x12 2 h32 fun v36 h36 =>
    (if v36 = v31 then
      P_L_law_b773 L xs (K209) a1 a3 x4 x5 a6 x7 x11 1 h36 Q
    else
      P_L_law_b773 L xs (K209) a1 a3 x4 x5 a6 x7 x11 0 h36 Q)
  else
    (if xs0 = 0 then
      P_L_law_b772 L xs (K209) a1 a3 x4 x5 a6 x7 x11 h32 Q
    else
      (if v32 < 1 then
        P_L_law_b772 L xs (K209) a1 a3 x4 x5 a6 x7 x11 h32 Q
      else
        P_L_lotOf a1 x12 2 h32 fun v33 h33 =>
        (if v33 = (v31 - v32) then
          P_L_room a1 x11 4 h33 fun v34 h34 =>
          (if v34 = v32 then
            P_L_room a1 x11 2 h34 fun v35 h35 =>
            (if v35 = x12.toInt64 then
              P_L_law_b773 L xs (K209) a1 a3 x4 x5 a6 x7 x11 1 h35 Q
            else
              P_L_law_b772 L xs (K209) a1 a3 x4 x5 a6 x7 x11 h35 Q)
          else
            P_L_law_b772 L xs (K209) a1 a3 x4 x5 a6 x7 x11 h34 Q)
        else
          P_L_law_b772 L xs (K209) a1 a3 x4 x5 a6 x7 x11 h33 Q))))
def P_L_law_b1021 (L : Nat) (xs : Nat → Int32) (K209 : Nat → Int32 → Nat → Int32 → Int32 → Nat → Int32 → hpT → (Int32 → hpT → Prop) → Prop) (a1 : Nat) (a3 : Nat) (x4 : Int32) (x5 : Int32) (a6 : Nat) (x7 : Int32) (x11 : Int32) (xs0 : Int32) (hp : hpT) (Q : Int32 → hpT → Prop) : Prop :=
  P_L_law_b1140 L xs (K209) a1 xs0 a3 x4 x5 a6 x7 x11 hp Q
def P_L_law_b1016 (L : Nat) (xs : Nat → Int32) (K209 : Nat → Int32 → Nat → Int32 → Int32 → Nat → Int32 → hpT → (Int32 → hpT → Prop) → Prop) (a1 : Nat) (a3 : Nat) (x4 : Int32) (x5 : Int32) (a6 : Nat) (x7 : Int32) (x11 : Int32) (hp : hpT) (Q : Int32 → hpT → Prop) : Prop :=
  P_L_law_b1021 L xs (K209) a1 a3 x4 x5 a6 x7 x11 1 hp Q
def P_L_law_b1020 (L : Nat) (xs : Nat → Int32) (K209 : Nat → Int32 → Nat → Int32 → Int32 → Nat → Int32 → hpT → (Int32 → hpT → Prop) → Prop) (a1 : Nat) (a3 : Nat) (x4 : Int32) (x5 : Int32) (a6 : Nat) (x7 : Int32) (x11 : Int32) (hp : hpT) (Q : Int32 → hpT → Prop) : Prop :=
  P_L_law_b1021 L xs (K209) a1 a3 x4 x5 a6 x7 x11 0 hp Q
def P_L_law_b808 (L : Nat) (xs : Nat → Int32) (K209 : Nat → Int32 → Nat → Int32 → Int32 → Nat → Int32 → hpT → (Int32 → hpT → Prop) → Prop) (a1 : Nat) (a3 : Nat) (x4 : Int32) (x5 : Int32) (a6 : Nat) (x7 : Int32) (x9 : Int32) (x11 : Int32) (x12 : Int32) (xs0 : Int32) (hp : hpT) (Q : Int32 → hpT → Prop) : Prop :=
  P_L_room a1 x11 2 hp fun v37 h37 =>
  P_L_room a1 x11 4 h37 fun v38 h38 =>
  P_L_room a1 x11 1 h38 fun v39 h39 =>
  isP h39 a1 7 <| cP (F_X7_lost a1 h39) fun v40 h40 =>
  nzP 8 <|
  nzP 12 <|
  P_L_lengthen a1 x11 xs0 (1 + (irm (x9 / 8) 12)) h40 fun v41 h41 =>
  (if x12 = 0 then
    (if v41 = (-9000000000000000001) then
      P_L_law_b1021 L xs (K209) a1 a3 x4 x5 a6 x7 x11 1 h41 Q
    else
      P_L_law_b1021 L xs (K209) a1 a3 x4 x5 a6 x7 x11 0 h41 Q)
  else
    (if 0 ≤ v37 then
      (if v41 = (-9000000000000000003) then
        P_L_law_b1016 L xs (K209) a1 a3 x4 x5 a6 x7 x11 h41 Q
      else
        P_L_room a1 x11 1 h41 fun v42 h42 =>
        nzP 8 <|
        nzP 12 <|
        (if v42 = ((v39 + 1) + (irm (x9 / 8) 12).toInt64) then
          (if v41 < 0 then
            P_L_room a1 x11 2 h42 fun v43 h43 =>
            (if v43 = (-1) then
              isP h43 a1 7 <| cP (F_X7_lost a1 h43) fun v44 h44 =>
              P_L_lotOf a1 v37.toInt32 3 h44 fun v45 h45 =>
              (if v44.toInt64 = (v40.toInt64 + (v38 * v45)) then
                P_L_law_b1016 L xs (K209) a1 a3 x4 x5 a6 x7 x11 h45 Q
              else
                P_L_law_b1020 L xs (K209) a1 a3 x4 x5 a6 x7 x11 h45 Q)
            else
              P_L_law_b1020 L xs (K209) a1 a3 x4 x5 a6 x7 x11 h43 Q)
          else
            P_L_room a1 x11 4 h42 fun v46 h46 =>
            (if v46 = (v38 + v41) then
              isP h46 a1 7 <| cP (F_X7_lost a1 h46) fun v47 h47 =>
              (if v47 = v40 then
                P_L_law_b1016 L xs (K209) a1 a3 x4 x5 a6 x7 x11 h47 Q
              else
                P_L_law_b1020 L xs (K209) a1 a3 x4 x5 a6 x7 x11 h47 Q)
            else
              P_L_law_b1020 L xs (K209) a1 a3 x4 x5 a6 x7 x11 h46 Q))
        else
          P_L_law_b1020 L xs (K209) a1 a3 x4 x5 a6 x7 x11 h42 Q))
    else
      (if v41 = (-9000000000000000003) then
        P_L_law_b1021 L xs (K209) a1 a3 x4 x5 a6 x7 x11 1 h41 Q
      else
        P_L_law_b1021 L xs (K209) a1 a3 x4 x5 a6 x7 x11 0 h41 Q)))
def P_L_law_b1121 (L : Nat) (xs : Nat → Int32) (K209 : Nat → Int32 → Nat → Int32 → Int32 → Nat → Int32 → hpT → (Int32 → hpT → Prop) → Prop) (a1 : Nat) (a3 : Nat) (x4 : Int32) (x5 : Int32) (a6 : Nat) (x7 : Int32) (x11 : Int32) (xs0 : Int32) (hp : hpT) (Q : Int32 → hpT → Prop) : Prop :=
  P_L_law_b1140 L xs (K209) a1 xs0 a3 x4 x5 a6 x7 x11 hp Q
def P_L_law_b1120 (L : Nat) (xs : Nat → Int32) (K209 : Nat → Int32 → Nat → Int32 → Int32 → Nat → Int32 → hpT → (Int32 → hpT → Prop) → Prop) (a1 : Nat) (a3 : Nat) (x4 : Int32) (x5 : Int32) (a6 : Nat) (x7 : Int32) (x11 : Int32) (hp : hpT) (Q : Int32 → hpT → Prop) : Prop :=
  P_L_law_b1121 L xs (K209) a1 a3 x4 x5 a6 x7 x11 0 hp Q
def P_L_law_b1111 (L : Nat) (xs : Nat → Int32) (K209 : Nat → Int32 → Nat → Int32 → Int32 → Nat → Int32 → hpT → (Int32 → hpT → Prop) → Prop) (a1 : Nat) (a3 : Nat) (x4 : Int32) (x5 : Int32) (a6 : Nat) (x7 : Int32) (x11 : Int32) (ys0 : Int64) (ys1 : Int64) (ys2 : Int64) (hp : hpT) (Q : Int32 → hpT → Prop) : Prop :=
  (if ys2 = (ys1 + ys0) then
    P_L_law_b1121 L xs (K209) a1 a3 x4 x5 a6 x7 x11 1 hp Q
  else
    P_L_law_b1120 L xs (K209) a1 a3 x4 x5 a6 x7 x11 hp Q)
def P_L_law_b1077 (L : Nat) (xs : Nat → Int32) (K209 : Nat → Int32 → Nat → Int32 → Int32 → Nat → Int32 → hpT → (Int32 → hpT → Prop) → Prop) (a1 : Nat) (a3 : Nat) (x4 : Int32) (x5 : Int32) (a6 : Nat) (x7 : Int32) (x11 : Int32) (y12 : Int64) (y14 : Int64) (x16 : Int32) (ys0 : Int64) (ys1 : Int64) (hp : hpT) (Q : Int32 → hpT → Prop) : Prop :=
  (if ys1 = ys0 then
    isP hp a1 7 <| cP (F_X7_lost a1 hp) fun v48 h48 =>
    (if 0 ≤ y12 then
      P_L_lotOf a1 y12.toInt32 3 h48 fun v49 h49 =>
      P_L_law_b1111 L xs (K209) a1 a3 x4 x5 a6 x7 x11 (y14 * v49) x16.toInt64 v48.toInt64 h49 Q
    else
      P_L_law_b1111 L xs (K209) a1 a3 x4 x5 a6 x7 x11 0 x16.toInt64 v48.toInt64 h48 Q)
  else
    P_L_law_b1120 L xs (K209) a1 a3 x4 x5 a6 x7 x11 hp Q)
def P_L_law_b777 (L : Nat) (xs : Nat → Int32) (K209 : Nat → Int32 → Nat → Int32 → Int32 → Nat → Int32 → hpT → (Int32 → hpT → Prop) → Prop) (a1 : Nat) (a3 : Nat) (x4 : Int32) (x5 : Int32) (a6 : Nat) (x7 : Int32) (x8 : Int32) (x9 : Int32) (x10 : Int32) (x11 : Int32) (hp : hpT) (Q : Int32 → hpT → Prop) : Prop :=
  (if x10 = 8 then
    P_L_room a1 x11 0 hp fun v55 h55 =>
    (if v55.toInt32 = 0 then
      P_L_law_b808 L xs (K209) a1 a3 x4 x5 a6 x7 x9 x11 v55.toInt32 0 h55 Q
    else
      nzP v55.toInt32 <|
      P_L_law_b808 L xs (K209) a1 a3 x4 x5 a6 x7 x9 x11 v55.toInt32 (irm x9 v55.toInt32) h55 Q)
  else
    (if x10 = 9 then
      P_L_room a1 x11 2 hp fun v51 h51 =>
      P_L_room a1 x11 4 h51 fun v52 h52 =>
      isP h52 a1 7 <| cP (F_X7_lost a1 h52) fun v53 h53 =>
      P_L_strip a1 x11 h53 fun v54 h54 =>
      (if 0 ≤ v51 then
        P_L_law_b1077 L xs (K209) a1 a3 x4 x5 a6 x7 x11 v51 v52 v53 v52 v54 h54 Q
      else
        P_L_law_b1077 L xs (K209) a1 a3 x4 x5 a6 x7 x11 v51 v52 v53 (-9000000000000000003) v54 h54 Q)
    else
      nzP 3 <|
      nzP 4 <|
      P_L_patternHolds a1 (irm x9 3) (x9 / 4) x8 hp fun v50 h50 =>
      P_L_law_b1140 L xs (K209) a1 v50 a3 x4 x5 a6 x7 x11 h50 Q))
def P_L_law_b209 (L : Nat) (xs : Nat → Int32) : Nat → Nat → Int32 → Nat → Int32 → Int32 → Nat → Int32 → hpT → (Int32 → hpT → Prop) → Prop
  | 0, _, _, _, _, _, _, _, _, _ => False
  | n + 1, a1, x2, a3, x4, x5, a6, x7, hp, Q =>
    (if 46 ≤ x7 then
      rtZP Q x2 hp
    else
      (if x2 = 0 then
        rtZP Q x2 hp
      else
        drawP L xs ((2 * x7) + 3) fun v56 =>
        drawP L xs ((2 * x7) + 4) fun v57 =>
        nzP 11 <|
        nzP 16 <|
        nzP 4 <|
        (if 3 ≤ (irm v56 11) then
          (if (irm v56 11) = 3 then
            nzP x4 <|
            nzP 8 <|
            nzP 120 <|
            nzP 10 <|
            nzP 16 <|
            nzP 20 <|
            P_L_lot a1 (irm v57 x4) (irm v57 10) (1 + (irm (v57 / 16) 20)) (20 + (irm (v57 / 8) 120)) hp fun v61 h61 =>
            (if x5 = 10 then
              P_L_law_b453 L xs (P_L_law_b209 L xs n) a1 a3 x4 x5 a6 x7 (irm (v56 / 16) 4) (-9000000000000000003) v61 h61 Q
            else
              P_L_law_b453 L xs (P_L_law_b209 L xs n) a1 a3 x4 x5 a6 x7 (irm (v56 / 16) 4) x5.toInt64 v61 h61 Q)
          else
            (if 6 ≤ (irm v56 11) then
              (if 8 ≤ (irm v56 11) then
                P_L_law_b777 L xs (P_L_law_b209 L xs n) a1 a3 x4 x5 a6 x7 v56 v57 (irm v56 11) (irm (v56 / 16) 4) hp Q
              else
                (if x5 ≤ 0 then
                  P_L_law_b777 L xs (P_L_law_b209 L xs n) a1 a3 x4 x5 a6 x7 v56 v57 (irm v56 11) (irm (v56 / 16) 4) hp Q
                else
                  nzP x5 <|
                  P_L_room a1 (irm (v56 / 16) 4) 2 hp fun v58 h58 =>
                  (if 0 ≤ v58 then
                    P_L_law_b662 L xs (P_L_law_b209 L xs n) a1 a3 x4 x5 a6 x7 (irm (v56 / 16) 4) (irm v57 x5) 0 h58 Q
                  else
                    P_L_law_b662 L xs (P_L_law_b209 L xs n) a1 a3 x4 x5 a6 x7 (irm (v56 / 16) 4) (irm v57 x5) 1 h58 Q)))
            else
              P_L_room a1 (irm (v56 / 16) 4) 0 hp fun v59 h59 =>
              P_L_room a1 (irm (v56 / 16) 4) 2 h59 fun v60 h60 =>
              (if 0 ≤ v60 then
                P_L_law_b541 L xs (P_L_law_b209 L xs n) a1 a3 x4 x5 a6 x7 v57 (irm (v56 / 16) 4) v59.toInt32 0 h60 Q
              else
                P_L_law_b541 L xs (P_L_law_b209 L xs n) a1 a3 x4 x5 a6 x7 v57 (irm (v56 / 16) 4) v59.toInt32 1 h60 Q)))
        else
          nzP 3 <|
          nzP 4 <|
          aldP hp a3 (2 * (irm v57 3)) fun v62 =>
          nzP v62 <|
          nzP 32 <|
          aldP hp a3 ((2 * (irm v57 3)) + 1) fun v63 =>
          nzP v63 <|
          P_L_colour a1 (irm v57 3) (irm (v57 / 4) v62) (irm (v57 / 32) v63) hp fun v64 h64 =>
          nzP 256 <|
          nzP 8 <|
          P_L_paint a1 (irm v57 3) (irm (v57 / 4) v62) (irm (v57 / 32) v63) (irm (v57 / 256) 8) h64 fun v65 h65 =>
          (if v65 = v64 then
            P_L_colour a1 (irm v57 3) (irm (v57 / 4) v62) (irm (v57 / 32) v63) h65 fun v66 h66 =>
            nzP 256 <|
            nzP 8 <|
            (if v66 = (irm (v57 / 256) 8).toInt64 then
              P_L_patternHolds a1 (irm v57 3) v57 v56 h66 fun v67 h67 =>
              (if v67 = 0 then
                P_L_law_b379 L xs (P_L_law_b209 L xs n) a1 a3 x4 x5 a6 x7 (irm (v56 / 16) 4) h67 Q
              else
                P_L_law_b380 L xs (P_L_law_b209 L xs n) a1 a3 x4 x5 a6 x7 (irm (v56 / 16) 4) 1 h67 Q)
            else
              P_L_law_b379 L xs (P_L_law_b209 L xs n) a1 a3 x4 x5 a6 x7 (irm (v56 / 16) 4) h66 Q)
          else
            P_L_law_b379 L xs (P_L_law_b209 L xs n) a1 a3 x4 x5 a6 x7 (irm (v56 / 16) 4) h65 Q))))
def P_L_law_b197 (L : Nat) (xs : Nat → Int32) (a1 : Nat) (x2 : Int32) (a3 : Nat) (x4 : Int32) (hp : hpT) (Q : Int32 → hpT → Prop) : Prop :=
  newIP hp 16 fun a68 h68 =>
  P_L_law_b209 L xs 47 a1 x2 a3 x4 0 a68 0 h68 Q
def P_L_law_b135 (L : Nat) (xs : Nat → Int32) : Nat → Nat → Int32 → Nat → Int32 → Int32 → hpT → (Int32 → hpT → Prop) → Prop
  | 0, _, _, _, _, _, _, _ => False
  | n + 1, a1, x2, a3, x4, x5, hp, Q =>
    (if 6 ≤ x5 then
      P_L_law_b197 L xs a1 x2 a3 x4 hp Q
    else
      (if x2 = 0 then
        P_L_law_b197 L xs a1 x2 a3 x4 hp Q
      else
        nzP 3 <|
        P_L_repeat a1 (irm x5 3) 1 hp fun v69 h69 =>
        nzP 3 <|
        nzP 3 <|
        P_L_roller a1 (irm x5 3) (v69.toInt32 * (1 + (x5 / 3))) h69 fun v70 h70 =>
        (if v70 = x5.toInt64 then
          P_L_law_b187 L xs (P_L_law_b135 L xs n) a1 a3 x4 x5 1 h70 Q
        else
          P_L_law_b187 L xs (P_L_law_b135 L xs n) a1 a3 x4 x5 0 h70 Q)))
def P_L_law_b129 (L : Nat) (xs : Nat → Int32) (a1 : Nat) (x2 : Int32) (a3 : Nat) (hp : hpT) (Q : Int32 → hpT → Prop) : Prop :=
  P_L_law_b135 L xs 7 a1 x2 a3 0 0 hp Q
def P_L_law_b18 (L : Nat) (xs : Nat → Int32) : Nat → Nat → Int32 → Nat → Int32 → hpT → (Int32 → hpT → Prop) → Prop
  | 0, _, _, _, _, _, _ => False
  | n + 1, a1, x2, a3, x4, hp, Q =>
    (if 3 ≤ x4 then
      P_L_law_b129 L xs a1 x2 a3 hp Q
    else
      (if x2 = 0 then
        P_L_law_b129 L xs a1 x2 a3 hp Q
      else
        drawP L xs x4 fun v71 =>
        nzP 5 <|
        astP hp a3 (2 * x4) (1 + (irm v71 5)) fun h72 =>
        nzP 8 <|
        nzP 6 <|
        (if (irm (v71 / 8) 6) = 5 then
          aldP h72 a3 (2 * x4) fun v73 =>
          P_L_law_b89 L xs (P_L_law_b18 L xs n) a1 a3 x4 (irm (v71 / 8) 6) v73 ((2 * x4) + 1) a3 h72 Q
        else
          nzP 64 <|
          nzP 5 <|
          P_L_law_b89 L xs (P_L_law_b18 L xs n) a1 a3 x4 (irm (v71 / 8) 6) (1 + (irm (v71 / 64) 5)) ((2 * x4) + 1) a3 h72 Q)))
def P_L_law_b0 (L : Nat) (xs : Nat → Int32) (hp : hpT) (Q : Int32 → hpT → Prop) : Prop :=
  newOP hp 7 [.null, .int 0, .null, .int 0, .null, .int 0, .null, .int 0] fun a74 h74 =>
  cP (F_X7_init a74 h74) fun _ h75 =>
  newIP h75 6 fun a76 h76 =>
  P_L_law_b18 L xs 4 a74 1 a76 0 h76 Q
