abbrev ws_sm (b : Nat → Nat) (h : Nat → ClassId) (uR uW uA uM uX uF uI uS : Nat → Int32) (ut us ur ub uo ui ul uk uh : Int32) : va_W := [(b 0, .inr (1, [.int ut, .int us, .int ur, .int ub, .int uo, .ref (b 1), .ref (b 2), .ref (b 3), .ref (b 4), .ref (b 5), .ref (b 6), .ref (b 7), .int ui, .ref (b 8), .int ul, .int uk, .int uh])), (b 1, .inl (h 1, 1968, .inl uR)), (b 2, .inl (h 2, 1968, .inl uW)), (b 3, .inl (h 3, 48, .inl uA)), (b 4, .inl (h 4, 48, .inl uM)), (b 5, .inl (h 5, 48, .inl uX)), (b 6, .inl (h 6, 48, .inl uF)), (b 7, .inl (h 7, 48, .inl uI)), (b 8, .inl (h 8, 48, .inl uS))]
abbrev ty_sm (h : Nat → ClassId) : List (ClassId × FieldType) := [(h 1, .boolean), (h 2, .boolean), (h 3, .int), (h 4, .int), (h 5, .int), (h 6, .boolean), (h 7, .int), (h 8, .int)]
def sm_isSet (p1 : Int32) : Int32 :=
  if p1 < 0 then
    0
  else
    if 268435456 ≤ p1 then
      0
    else
      1
def sm_ones_L4 (p1 : Int32) : Nat → Int32 → Int32 → Int32
  | 0, _, _ => default
  | n + 1, x1, x2 =>
    if 28 ≤ x2 then
      x1
    else
      sm_ones_L4 p1 n (x1 + ((p1 >>> (x2 &&& 31)) &&& 1)) (x2 + 1)
theorem sm_ones_L4_s (p1 : Int32) (n : Nat) (x1 x2 : Int32) : sm_ones_L4 p1 (n + 1) x1 x2 =
    if 28 ≤ x2 then
      x1
    else
      sm_ones_L4 p1 n (x1 + ((p1 >>> (x2 &&& 31)) &&& 1)) (x2 + 1) := rfl
def sm_ones (p1 : Int32) : Int32 :=
  match sm_ones_L4 p1 29 0 0 with
  | x1_o4 =>
    x1_o4
def sm_counts (p1 : Int32) : Int32 :=
  if p1 = 0 then
    1
  else
    sm_ones p1
def sm_isPlace (p1 : Int32) : Int32 :=
  if p1 < 0 then
    0
  else
    if 28 ≤ p1 then
      0
    else
      1
def sm_isFull (us ur p1 : Int32) : Int32 :=
  if us = 48 then
    1
  else
    if (ur + p1) ≤ 800 then
      0
    else
      1
def sm_comes_L7 (x2 : Int32) : Nat → Int32 → (Nat → Int32) → (Nat → Int32) → ((Nat → Int32) × (Nat → Int32))
  | 0, _, _, _ => (default, default)
  | n + 1, x3, uR, uW =>
    if 41 ≤ x3 then
      (uR, uW)
    else
      sm_comes_L7 x2 n (x3 + 1) (upd uR ((41 * x2) + x3).toNatClampNeg 0) (upd uW ((41 * x2) + x3).toNatClampNeg 0)
theorem sm_comes_L7_s (x2 : Int32) (n : Nat) (x3 : Int32) (uR uW : Nat → Int32) : sm_comes_L7 x2 (n + 1) x3 uR uW =
    if 41 ≤ x3 then
      (uR, uW)
    else
      sm_comes_L7 x2 n (x3 + 1) (upd uR ((41 * x2) + x3).toNatClampNeg 0) (upd uW ((41 * x2) + x3).toNatClampNeg 0) := rfl
def sm_comes (uR uW uA uM uX uF uI : Nat → Int32) (us ur ui p1 : Int32) : Int32 × (Nat → Int32) × (Nat → Int32) × (Nat → Int32) × (Nat → Int32) × (Nat → Int32) × (Nat → Int32) × (Nat → Int32) × Int32 × Int32 × Int32 × Int32 :=
  match sm_comes_L7 us 42 0 uR uW with
  | (uR_o7, uW_o7) =>
    (us, uR_o7, uW_o7, upd uA us.toNatClampNeg (-1), upd uM us.toNatClampNeg 0, upd uX us.toNatClampNeg 0, upd uF us.toNatClampNeg 0, upd uI us.toNatClampNeg ui, us + 1, ur + p1, 0, (-1))
def sm_reads_L2 (p1 p2 : Int32) : Nat → Int32 → (Nat → Int32) → (Nat → Int32)
  | 0, _, _ => default
  | n + 1, x3, uR =>
    if 28 ≤ x3 then
      uR
    else
      if ((p2 >>> (x3 &&& 31)) &&& 1) = 1 then
        if x3 ≤ 15 then
          sm_reads_L2 p1 p2 n (x3 + 1) (upd uR ((41 * p1) + x3).toNatClampNeg 1)
        else
          sm_reads_L2 p1 p2 n (x3 + 1) (upd (upd uR ((41 * p1) + x3).toNatClampNeg 1) (((41 * p1) + x3) + 12).toNatClampNeg 1)
      else
        sm_reads_L2 p1 p2 n (x3 + 1) uR
theorem sm_reads_L2_s (p1 p2 : Int32) (n : Nat) (x3 : Int32) (uR : Nat → Int32) : sm_reads_L2 p1 p2 (n + 1) x3 uR =
    if 28 ≤ x3 then
      uR
    else
      if ((p2 >>> (x3 &&& 31)) &&& 1) = 1 then
        if x3 ≤ 15 then
          sm_reads_L2 p1 p2 n (x3 + 1) (upd uR ((41 * p1) + x3).toNatClampNeg 1)
        else
          sm_reads_L2 p1 p2 n (x3 + 1) (upd (upd uR ((41 * p1) + x3).toNatClampNeg 1) (((41 * p1) + x3) + 12).toNatClampNeg 1)
      else
        sm_reads_L2 p1 p2 n (x3 + 1) uR := rfl
def sm_reads (uR : Nat → Int32) (p1 p2 : Int32) : (Nat → Int32) :=
  match sm_reads_L2 p1 p2 29 0 uR with
  | uR_o2 =>
    uR_o2
def sm_writes (uR uW : Nat → Int32) (p1 p2 : Int32) : (Nat → Int32) × (Nat → Int32) :=
  if p2 ≤ 15 then
    (uR, upd uW ((41 * p1) + p2).toNatClampNeg 1)
  else
    if 28 ≤ p2 then
      (uR, upd uW ((41 * p1) + p2).toNatClampNeg 1)
    else
      (upd uR (((41 * p1) + p2) + 12).toNatClampNeg 1, upd uW ((41 * p1) + p2).toNatClampNeg 1)
def sm_thrown (ut : Int32) : Int32 :=
  ut
def sm_clear  : Int32 × Int32 × Int32 × Int32 × Int32 × Int32 × Int32 × Int32 :=
  (0, 0, 0, 0, 0, (-1), 0, (-1))
def sm_assign (uR uW uA uM uX uF uI : Nat → Int32) (us ur ui ul uh p1 p2 : Int32) : Int32 × (Nat → Int32) × (Nat → Int32) × (Nat → Int32) × (Nat → Int32) × (Nat → Int32) × (Nat → Int32) × (Nat → Int32) × Int32 × Int32 × Int32 × Int32 × Int32 :=
  if (sm_isPlace p1) = 0 then
    (0, uR, uW, uA, uM, uX, uF, uI, 1, us, ur, ul, uh)
  else
    if (sm_isSet p2) = 0 then
      (0, uR, uW, uA, uM, uX, uF, uI, 1, us, ur, ul, uh)
    else
      if (sm_isFull us ur (sm_counts p2)) = 0 then
        match sm_comes uR uW uA uM uX uF uI us ur ui (sm_counts p2) with
        | (r_52, uR_52, uW_52, uA_52, uM_52, uX_52, uF_52, uI_52, us_52, ur_52, ul_52, uh_52) =>
          match sm_reads uR_52 r_52 p2 with
          | uR_59 =>
            match sm_writes uR_59 uW_52 r_52 p1 with
            | (uR_65, uW_65) =>
              (r_52, uR_65, uW_65, uA_52, uM_52, uX_52, uF_52, uI_52, 0, us_52, ur_52, ul_52, uh_52)
      else
        (0, uR, uW, uA, uM, uX, uF, uI, 2, us, ur, ul, uh)
def sm_load (uR uW uA uM uX uF uI : Nat → Int32) (us ur ui ul uh p1 p2 p3 : Int32) : Int32 × (Nat → Int32) × (Nat → Int32) × (Nat → Int32) × (Nat → Int32) × (Nat → Int32) × (Nat → Int32) × (Nat → Int32) × Int32 × Int32 × Int32 × Int32 × Int32 :=
  if (sm_isPlace p1) = 0 then
    (0, uR, uW, uA, uM, uX, uF, uI, 1, us, ur, ul, uh)
  else
    if p2 < 0 then
      (0, uR, uW, uA, uM, uX, uF, uI, 1, us, ur, ul, uh)
    else
      if 7 < p2 then
        (0, uR, uW, uA, uM, uX, uF, uI, 1, us, ur, ul, uh)
      else
        if (sm_isSet p3) = 0 then
          (0, uR, uW, uA, uM, uX, uF, uI, 1, us, ur, ul, uh)
        else
          if (sm_isFull us ur (sm_counts p3)) = 0 then
            match sm_comes uR uW uA uM uX uF uI us ur ui (sm_counts p3) with
            | (r_62, uR_62, uW_62, uA_62, uM_62, uX_62, uF_62, uI_62, us_62, ur_62, ul_62, uh_62) =>
              match sm_reads uR_62 r_62 p3 with
              | uR_71 =>
                match sm_writes uR_71 uW_62 r_62 p1 with
                | (uR_78, uW_78) =>
                  (r_62, uR_78, uW_78, upd uA_62 r_62.toNatClampNeg p2, uM_62, uX_62, uF_62, uI_62, 0, us_62, ur_62, ul_62, uh_62)
          else
            (0, uR, uW, uA, uM, uX, uF, uI, 2, us, ur, ul, uh)
def sm_store (uR uW uA uM uX uF uI : Nat → Int32) (us ur ui ul uh p1 p2 p3 : Int32) : Int32 × (Nat → Int32) × (Nat → Int32) × (Nat → Int32) × (Nat → Int32) × (Nat → Int32) × (Nat → Int32) × (Nat → Int32) × Int32 × Int32 × Int32 × Int32 × Int32 :=
  if p1 < 0 then
    (0, uR, uW, uA, uM, uX, uF, uI, 1, us, ur, ul, uh)
  else
    if 7 < p1 then
      (0, uR, uW, uA, uM, uX, uF, uI, 1, us, ur, ul, uh)
    else
      if (sm_isSet p2) = 0 then
        (0, uR, uW, uA, uM, uX, uF, uI, 1, us, ur, ul, uh)
      else
        if (sm_isSet p3) = 0 then
          (0, uR, uW, uA, uM, uX, uF, uI, 1, us, ur, ul, uh)
        else
          if (sm_isFull us ur ((sm_counts p2) + (sm_counts p3))) = 0 then
            match sm_comes uR uW uA uM uX uF uI us ur ui ((sm_counts p2) + (sm_counts p3)) with
            | (r_72, uR_72, uW_72, uA_72, uM_72, uX_72, uF_72, uI_72, us_72, ur_72, ul_72, uh_72) =>
              match sm_reads uR_72 r_72 p2 with
              | uR_81 =>
                match sm_reads uR_81 r_72 p3 with
                | uR_88 =>
                  (r_72, uR_88, uW_72, upd uA_72 r_72.toNatClampNeg p1, uM_72, uX_72, uF_72, uI_72, 0, us_72, ur_72, ul_72, uh_72)
          else
            (0, uR, uW, uA, uM, uX, uF, uI, 2, us, ur, ul, uh)
def sm_valid (uR uW uA uM uX uF uI : Nat → Int32) (us ur ui ul uh p1 : Int32) : Int32 × (Nat → Int32) × (Nat → Int32) × (Nat → Int32) × (Nat → Int32) × (Nat → Int32) × (Nat → Int32) × (Nat → Int32) × Int32 × Int32 × Int32 × Int32 × Int32 :=
  if p1 < 0 then
    (0, uR, uW, uA, uM, uX, uF, uI, 1, us, ur, ul, uh)
  else
    if p1 ≤ 11 then
      if (sm_isFull us ur 0) = 0 then
        match sm_comes uR uW uA uM uX uF uI us ur ui 0 with
        | (r_42, uR_42, uW_42, uA_42, uM_42, uX_42, uF_42, uI_42, us_42, ur_42, ul_42, uh_42) =>
          match sm_writes uR_42 uW_42 r_42 (16 + p1) with
          | (uR_52, uW_52) =>
            (r_42, uR_52, upd uW_52 (((41 * r_42) + 28) + p1).toNatClampNeg 1, uA_42, uM_42, uX_42, uF_42, uI_42, 0, us_42, ur_42, ul_42, uh_42)
      else
        (0, uR, uW, uA, uM, uX, uF, uI, 2, us, ur, ul, uh)
    else
      (0, uR, uW, uA, uM, uX, uF, uI, 1, us, ur, ul, uh)
def sm_drop (uR uW uA uM uX uF uI : Nat → Int32) (us ur ui ul uh : Int32) : Int32 × (Nat → Int32) × (Nat → Int32) × (Nat → Int32) × (Nat → Int32) × (Nat → Int32) × (Nat → Int32) × (Nat → Int32) × Int32 × Int32 × Int32 × Int32 × Int32 :=
  if (sm_isFull us ur 0) = 0 then
    match sm_comes uR uW uA uM uX uF uI us ur ui 0 with
    | (r_28, uR_28, uW_28, uA_28, uM_28, uX_28, uF_28, uI_28, us_28, ur_28, ul_28, uh_28) =>
      match sm_writes uR_28 uW_28 r_28 40 with
      | (uR_36, uW_36) =>
        (r_28, uR_36, uW_36, uA_28, uM_28, uX_28, uF_28, uI_28, 0, us_28, ur_28, ul_28, uh_28)
  else
    (0, uR, uW, uA, uM, uX, uF, uI, 1, us, ur, ul, uh)
def sm_open (uR uW uA uM uX uF uI : Nat → Int32) (us ur uo ui ul uh p1 : Int32) : Int32 × (Nat → Int32) × (Nat → Int32) × (Nat → Int32) × (Nat → Int32) × (Nat → Int32) × (Nat → Int32) × (Nat → Int32) × Int32 × Int32 × Int32 × Int32 × Int32 × Int32 × Int32 :=
  if (sm_isSet p1) = 0 then
    (0, uR, uW, uA, uM, uX, uF, uI, 1, us, ur, uo, ui, ul, uh)
  else
    if (sm_isFull us ur (sm_counts p1)) = 0 then
      if uo = 8 then
        (0, uR, uW, uA, uM, uX, uF, uI, 2, us, ur, uo, ui, ul, uh)
      else
        match sm_comes uR uW uA uM uX uF uI us ur ui (sm_counts p1) with
        | (r_54, uR_54, uW_54, uA_54, uM_54, uX_54, uF_54, uI_54, us_54, ur_54, ul_54, uh_54) =>
          match sm_reads uR_54 r_54 p1 with
          | uR_61 =>
            (r_54, uR_61, uW_54, uA_54, uM_54, uX_54, upd uF_54 r_54.toNatClampNeg 1, uI_54, 0, us_54, ur_54, uo + 1, r_54, ul_54, uh_54)
    else
      (0, uR, uW, uA, uM, uX, uF, uI, 2, us, ur, uo, ui, ul, uh)
def sm_close (uI : Nat → Int32) (uo ui : Int32) : Int32 × Int32 × Int32 × Int32 :=
  if uo = 0 then
    (0, 1, uo, ui)
  else
    (ui, 0, uo - 1, uI ui.toNatClampNeg)
def sm_apply (uR uW uA uM uX uF uI : Nat → Int32) (us ur ub ui ul uh p1 p2 p3 : Int32) : Int32 × (Nat → Int32) × (Nat → Int32) × (Nat → Int32) × (Nat → Int32) × (Nat → Int32) × (Nat → Int32) × (Nat → Int32) × Int32 × Int32 × Int32 × Int32 × Int32 × Int32 :=
  if p2 < 1 then
    if (sm_isPlace p3) = 0 then
      (0, uR, uW, uA, uM, uX, uF, uI, 1, us, ur, ub, ul, uh)
    else
      if (sm_isSet p1) = 0 then
        (0, uR, uW, uA, uM, uX, uF, uI, 1, us, ur, ub, ul, uh)
      else
        (0, uR, uW, uA, uM, uX, uF, uI, 2, us, ur, ub, ul, uh)
  else
    if 32 < p2 then
      if (sm_isPlace p3) = 0 then
        (0, uR, uW, uA, uM, uX, uF, uI, 1, us, ur, ub, ul, uh)
      else
        if (sm_isSet p1) = 0 then
          (0, uR, uW, uA, uM, uX, uF, uI, 1, us, ur, ub, ul, uh)
        else
          (0, uR, uW, uA, uM, uX, uF, uI, 2, us, ur, ub, ul, uh)
    else
      if (sm_ones p1) < 1 then
        if (sm_isPlace p3) = 0 then
          (0, uR, uW, uA, uM, uX, uF, uI, 1, us, ur, ub, ul, uh)
        else
          if (sm_isSet p1) = 0 then
            (0, uR, uW, uA, uM, uX, uF, uI, 1, us, ur, ub, ul, uh)
          else
            (0, uR, uW, uA, uM, uX, uF, uI, 2, us, ur, ub, ul, uh)
      else
        if (sm_ones p1) ≤ 4 then
          if (sm_isPlace p3) = 0 then
            (0, uR, uW, uA, uM, uX, uF, uI, 1, us, ur, ub, ul, uh)
          else
            if (sm_isSet p1) = 0 then
              (0, uR, uW, uA, uM, uX, uF, uI, 1, us, ur, ub, ul, uh)
            else
              if (sm_isFull us ur ((sm_ones p1) + 1)) = 0 then
                if ub = 8 then
                  (0, uR, uW, uA, uM, uX, uF, uI, 3, us, ur, ub, ul, uh)
                else
                  match sm_comes uR uW uA uM uX uF uI us ur ui ((sm_ones p1) + 1) with
                  | (r_106, uR_106, uW_106, uA_106, uM_106, uX_106, uF_106, uI_106, us_106, ur_106, ul_106, uh_106) =>
                    match sm_reads uR_106 r_106 p1 with
                    | uR_115 =>
                      match sm_writes uR_115 uW_106 r_106 p3 with
                      | (uR_122, uW_122) =>
                        (r_106, uR_122, uW_122, uA_106, upd uM_106 r_106.toNatClampNeg (p2 * ((16 * (sm_ones p1)) + 8)), upd uX_106 r_106.toNatClampNeg (8 * (sm_ones p1)), uF_106, uI_106, 0, us_106, ur_106, ub + 1, ul_106, uh_106)
              else
                (0, uR, uW, uA, uM, uX, uF, uI, 3, us, ur, ub, ul, uh)
        else
          if (sm_isPlace p3) = 0 then
            (0, uR, uW, uA, uM, uX, uF, uI, 1, us, ur, ub, ul, uh)
          else
            if (sm_isSet p1) = 0 then
              (0, uR, uW, uA, uM, uX, uF, uI, 1, us, ur, ub, ul, uh)
            else
              (0, uR, uW, uA, uM, uX, uF, uI, 2, us, ur, ub, ul, uh)
def sm_isIn_L7 (uI : Nat → Int32) (p2 : Int32) : Nat → Int32 → Int32
  | 0, _ => default
  | n + 1, x3 =>
    if x3 = (-1) then
      x3
    else
      if x3 = p2 then
        x3
      else
        sm_isIn_L7 uI p2 n (uI x3.toNatClampNeg)
theorem sm_isIn_L7_s (uI : Nat → Int32) (p2 : Int32) (n : Nat) (x3 : Int32) : sm_isIn_L7 uI p2 (n + 1) x3 =
    if x3 = (-1) then
      x3
    else
      if x3 = p2 then
        x3
      else
        sm_isIn_L7 uI p2 n (uI x3.toNatClampNeg) := rfl
def sm_isIn (uI : Nat → Int32) (p1 p2 : Int32) : Int32 :=
  match sm_isIn_L7 uI p2 49 (uI p1.toNatClampNeg) with
  | x3_o7 =>
    if x3_o7 = p2 then
      1
    else
      0
def sm_mayBe_L31 (uR uW : Nat → Int32) (p1 p2 : Int32) : Nat → Int32 → Int32 → Int32 → (Int32 × Int32)
  | 0, _, _, _ => (default, default)
  | n + 1, x4, x5, x6 =>
    if 41 ≤ x6 then
      (x4, x5)
    else
      if x4 = 0 then
        if (uW ((41 * p2) + x6).toNatClampNeg) = 0 then
          if x5 = 0 then
            if (uR ((41 * p2) + x6).toNatClampNeg) = 0 then
              sm_mayBe_L31 uR uW p1 p2 n 0 0 (x6 + 1)
            else
              if (uW ((41 * p1) + x6).toNatClampNeg) = 0 then
                sm_mayBe_L31 uR uW p1 p2 n 0 0 (x6 + 1)
              else
                sm_mayBe_L31 uR uW p1 p2 n 0 1 (x6 + 1)
          else
            sm_mayBe_L31 uR uW p1 p2 n 0 1 (x6 + 1)
        else
          if (uR ((41 * p1) + x6).toNatClampNeg) = 0 then
            if (uW ((41 * p1) + x6).toNatClampNeg) = 0 then
              if x5 = 0 then
                if (uR ((41 * p2) + x6).toNatClampNeg) = 0 then
                  sm_mayBe_L31 uR uW p1 p2 n 0 0 (x6 + 1)
                else
                  if (uW ((41 * p1) + x6).toNatClampNeg) = 0 then
                    sm_mayBe_L31 uR uW p1 p2 n 0 0 (x6 + 1)
                  else
                    sm_mayBe_L31 uR uW p1 p2 n 0 1 (x6 + 1)
              else
                sm_mayBe_L31 uR uW p1 p2 n 0 1 (x6 + 1)
            else
              if x5 = 0 then
                if (uR ((41 * p2) + x6).toNatClampNeg) = 0 then
                  sm_mayBe_L31 uR uW p1 p2 n 1 0 (x6 + 1)
                else
                  if (uW ((41 * p1) + x6).toNatClampNeg) = 0 then
                    sm_mayBe_L31 uR uW p1 p2 n 1 0 (x6 + 1)
                  else
                    sm_mayBe_L31 uR uW p1 p2 n 1 1 (x6 + 1)
              else
                sm_mayBe_L31 uR uW p1 p2 n 1 1 (x6 + 1)
          else
            if x5 = 0 then
              if (uR ((41 * p2) + x6).toNatClampNeg) = 0 then
                sm_mayBe_L31 uR uW p1 p2 n 1 0 (x6 + 1)
              else
                if (uW ((41 * p1) + x6).toNatClampNeg) = 0 then
                  sm_mayBe_L31 uR uW p1 p2 n 1 0 (x6 + 1)
                else
                  sm_mayBe_L31 uR uW p1 p2 n 1 1 (x6 + 1)
            else
              sm_mayBe_L31 uR uW p1 p2 n 1 1 (x6 + 1)
      else
        if x5 = 0 then
          if (uR ((41 * p2) + x6).toNatClampNeg) = 0 then
            sm_mayBe_L31 uR uW p1 p2 n 1 0 (x6 + 1)
          else
            if (uW ((41 * p1) + x6).toNatClampNeg) = 0 then
              sm_mayBe_L31 uR uW p1 p2 n 1 0 (x6 + 1)
            else
              sm_mayBe_L31 uR uW p1 p2 n 1 1 (x6 + 1)
        else
          sm_mayBe_L31 uR uW p1 p2 n 1 1 (x6 + 1)
theorem sm_mayBe_L31_s (uR uW : Nat → Int32) (p1 p2 : Int32) (n : Nat) (x4 x5 x6 : Int32) : sm_mayBe_L31 uR uW p1 p2 (n + 1) x4 x5 x6 =
    if 41 ≤ x6 then
      (x4, x5)
    else
      if x4 = 0 then
        if (uW ((41 * p2) + x6).toNatClampNeg) = 0 then
          if x5 = 0 then
            if (uR ((41 * p2) + x6).toNatClampNeg) = 0 then
              sm_mayBe_L31 uR uW p1 p2 n 0 0 (x6 + 1)
            else
              if (uW ((41 * p1) + x6).toNatClampNeg) = 0 then
                sm_mayBe_L31 uR uW p1 p2 n 0 0 (x6 + 1)
              else
                sm_mayBe_L31 uR uW p1 p2 n 0 1 (x6 + 1)
          else
            sm_mayBe_L31 uR uW p1 p2 n 0 1 (x6 + 1)
        else
          if (uR ((41 * p1) + x6).toNatClampNeg) = 0 then
            if (uW ((41 * p1) + x6).toNatClampNeg) = 0 then
              if x5 = 0 then
                if (uR ((41 * p2) + x6).toNatClampNeg) = 0 then
                  sm_mayBe_L31 uR uW p1 p2 n 0 0 (x6 + 1)
                else
                  if (uW ((41 * p1) + x6).toNatClampNeg) = 0 then
                    sm_mayBe_L31 uR uW p1 p2 n 0 0 (x6 + 1)
                  else
                    sm_mayBe_L31 uR uW p1 p2 n 0 1 (x6 + 1)
              else
                sm_mayBe_L31 uR uW p1 p2 n 0 1 (x6 + 1)
            else
              if x5 = 0 then
                if (uR ((41 * p2) + x6).toNatClampNeg) = 0 then
                  sm_mayBe_L31 uR uW p1 p2 n 1 0 (x6 + 1)
                else
                  if (uW ((41 * p1) + x6).toNatClampNeg) = 0 then
                    sm_mayBe_L31 uR uW p1 p2 n 1 0 (x6 + 1)
                  else
                    sm_mayBe_L31 uR uW p1 p2 n 1 1 (x6 + 1)
              else
                sm_mayBe_L31 uR uW p1 p2 n 1 1 (x6 + 1)
          else
            if x5 = 0 then
              if (uR ((41 * p2) + x6).toNatClampNeg) = 0 then
                sm_mayBe_L31 uR uW p1 p2 n 1 0 (x6 + 1)
              else
                if (uW ((41 * p1) + x6).toNatClampNeg) = 0 then
                  sm_mayBe_L31 uR uW p1 p2 n 1 0 (x6 + 1)
                else
                  sm_mayBe_L31 uR uW p1 p2 n 1 1 (x6 + 1)
            else
              sm_mayBe_L31 uR uW p1 p2 n 1 1 (x6 + 1)
      else
        if x5 = 0 then
          if (uR ((41 * p2) + x6).toNatClampNeg) = 0 then
            sm_mayBe_L31 uR uW p1 p2 n 1 0 (x6 + 1)
          else
            if (uW ((41 * p1) + x6).toNatClampNeg) = 0 then
              sm_mayBe_L31 uR uW p1 p2 n 1 0 (x6 + 1)
            else
              sm_mayBe_L31 uR uW p1 p2 n 1 1 (x6 + 1)
        else
          sm_mayBe_L31 uR uW p1 p2 n 1 1 (x6 + 1) := rfl
def sm_mayBe (uR uW uA uF uI uS : Nat → Int32) (p1 p2 p3 : Int32) : Int32 :=
  if (uF p2.toNatClampNeg) = 0 then
    match sm_mayBe_L31 uR uW p1 p2 42 0 0 0 with
    | (x4_o31, x5_o31) =>
      if x4_o31 = 0 then
        if x5_o31 = 0 then
          if (uA p2.toNatClampNeg) = (-1) then
            1
          else
            if (uA p2.toNatClampNeg) = (uA p1.toNatClampNeg) then
              if p3 = (uS p2.toNatClampNeg) then
                1
              else
                0
            else
              1
        else
          if p3 < (uS p2.toNatClampNeg) then
            0
          else
            if (uA p2.toNatClampNeg) = (-1) then
              1
            else
              if (uA p2.toNatClampNeg) = (uA p1.toNatClampNeg) then
                if p3 = (uS p2.toNatClampNeg) then
                  1
                else
                  0
              else
                1
      else
        if p3 ≤ (uS p2.toNatClampNeg) then
          0
        else
          if (uA p2.toNatClampNeg) = (-1) then
            1
          else
            if (uA p2.toNatClampNeg) = (uA p1.toNatClampNeg) then
              if p3 = (uS p2.toNatClampNeg) then
                1
              else
                0
            else
              1
  else
    if (sm_isIn uI p1 p2) = 0 then
      match sm_mayBe_L31 uR uW p1 p2 42 0 0 0 with
      | (x4_o31, x5_o31) =>
        if x4_o31 = 0 then
          if x5_o31 = 0 then
            if (uA p2.toNatClampNeg) = (-1) then
              1
            else
              if (uA p2.toNatClampNeg) = (uA p1.toNatClampNeg) then
                if p3 = (uS p2.toNatClampNeg) then
                  1
                else
                  0
              else
                1
          else
            if p3 < (uS p2.toNatClampNeg) then
              0
            else
              if (uA p2.toNatClampNeg) = (-1) then
                1
              else
                if (uA p2.toNatClampNeg) = (uA p1.toNatClampNeg) then
                  if p3 = (uS p2.toNatClampNeg) then
                    1
                  else
                    0
                else
                  1
        else
          if p3 ≤ (uS p2.toNatClampNeg) then
            0
          else
            if (uA p2.toNatClampNeg) = (-1) then
              1
            else
              if (uA p2.toNatClampNeg) = (uA p1.toNatClampNeg) then
                if p3 = (uS p2.toNatClampNeg) then
                  1
                else
                  0
              else
                1
    else
      match sm_mayBe_L31 uR uW p1 p2 42 1 0 0 with
      | (x4_o31, x5_o31) =>
        if x4_o31 = 0 then
          if x5_o31 = 0 then
            if (uA p2.toNatClampNeg) = (-1) then
              1
            else
              if (uA p2.toNatClampNeg) = (uA p1.toNatClampNeg) then
                if p3 = (uS p2.toNatClampNeg) then
                  1
                else
                  0
              else
                1
          else
            if p3 < (uS p2.toNatClampNeg) then
              0
            else
              if (uA p2.toNatClampNeg) = (-1) then
                1
              else
                if (uA p2.toNatClampNeg) = (uA p1.toNatClampNeg) then
                  if p3 = (uS p2.toNatClampNeg) then
                    1
                  else
                    0
                else
                  1
        else
          if p3 ≤ (uS p2.toNatClampNeg) then
            0
          else
            if (uA p2.toNatClampNeg) = (-1) then
              1
            else
              if (uA p2.toNatClampNeg) = (uA p1.toNatClampNeg) then
                if p3 = (uS p2.toNatClampNeg) then
                  1
                else
                  0
              else
                1
def sm_sum_L6 (uM uX uS : Nat → Int32) (p1 p2 p3 : Int32) : Nat → Int32 → Int32 → Int32
  | 0, _, _ => default
  | n + 1, x4, x5 =>
    if p1 ≤ x5 then
      x4
    else
      if (uS x5.toNatClampNeg) = p2 then
        if p3 = 0 then
          sm_sum_L6 uM uX uS p1 p2 p3 n (x4 + 1) (x5 + 1)
        else
          if p3 = 1 then
            sm_sum_L6 uM uX uS p1 p2 p3 n (x4 + (uM x5.toNatClampNeg)) (x5 + 1)
          else
            sm_sum_L6 uM uX uS p1 p2 p3 n (x4 + (uX x5.toNatClampNeg)) (x5 + 1)
      else
        sm_sum_L6 uM uX uS p1 p2 p3 n (x4 + 0) (x5 + 1)
theorem sm_sum_L6_s (uM uX uS : Nat → Int32) (p1 p2 p3 : Int32) (n : Nat) (x4 x5 : Int32) : sm_sum_L6 uM uX uS p1 p2 p3 (n + 1) x4 x5 =
    if p1 ≤ x5 then
      x4
    else
      if (uS x5.toNatClampNeg) = p2 then
        if p3 = 0 then
          sm_sum_L6 uM uX uS p1 p2 p3 n (x4 + 1) (x5 + 1)
        else
          if p3 = 1 then
            sm_sum_L6 uM uX uS p1 p2 p3 n (x4 + (uM x5.toNatClampNeg)) (x5 + 1)
          else
            sm_sum_L6 uM uX uS p1 p2 p3 n (x4 + (uX x5.toNatClampNeg)) (x5 + 1)
      else
        sm_sum_L6 uM uX uS p1 p2 p3 n (x4 + 0) (x5 + 1) := rfl
def sm_sum (uM uX uS : Nat → Int32) (p1 p2 p3 : Int32) : Int32 :=
  match sm_sum_L6 uM uX uS p1 p2 p3 49 0 0 with
  | x4_o6 =>
    x4_o6
def sm_hasRoom (uM uX uS : Nat → Int32) (p1 p2 p3 p4 : Int32) : Int32 :=
  if 8 ≤ (sm_sum uM uX uS p1 p2 0) then
    0
  else
    if (p3 - (uM p1.toNatClampNeg)) < (sm_sum uM uX uS p1 p2 1) then
      0
    else
      if (p4 - (uX p1.toNatClampNeg)) < (sm_sum uM uX uS p1 p2 2) then
        0
      else
        1
def sm_place_L24 (uR uW uA uF uI uS : Nat → Int32) (p1 x5 : Int32) : Nat → Int32 → Int32 → Int32
  | 0, _, _ => default
  | n + 1, x6, x7 =>
    if p1 ≤ x7 then
      x6
    else
      if x6 = 0 then
        x6
      else
        sm_place_L24 uR uW uA uF uI uS p1 x5 n (sm_mayBe uR uW uA uF uI uS p1 x7 x5) (x7 + 1)
theorem sm_place_L24_s (uR uW uA uF uI uS : Nat → Int32) (p1 x5 : Int32) (n : Nat) (x6 x7 : Int32) : sm_place_L24 uR uW uA uF uI uS p1 x5 (n + 1) x6 x7 =
    if p1 ≤ x7 then
      x6
    else
      if x6 = 0 then
        x6
      else
        sm_place_L24 uR uW uA uF uI uS p1 x5 n (sm_mayBe uR uW uA uF uI uS p1 x7 x5) (x7 + 1) := rfl
def sm_place_L3 (uR uW uA uM uX uF uI uS : Nat → Int32) (p1 p2 p3 p4 : Int32) : Nat → Int32 → Unit ⊕ Int32
  | 0, _ => .inl ()
  | n + 1, x5 =>
    if p2 ≤ x5 then
      .inl ()
    else
      match sm_place_L24 uR uW uA uF uI uS p1 x5 49 (sm_hasRoom uM uX uS p1 x5 p3 p4) 0 with
      | x6_o24 =>
        if x6_o24 = 0 then
          sm_place_L3 uR uW uA uM uX uF uI uS p1 p2 p3 p4 n (x5 + 1)
        else
          .inr x5
theorem sm_place_L3_s (uR uW uA uM uX uF uI uS : Nat → Int32) (p1 p2 p3 p4 : Int32) (n : Nat) (x5 : Int32) : sm_place_L3 uR uW uA uM uX uF uI uS p1 p2 p3 p4 (n + 1) x5 =
    if p2 ≤ x5 then
      .inl ()
    else
      match sm_place_L24 uR uW uA uF uI uS p1 x5 49 (sm_hasRoom uM uX uS p1 x5 p3 p4) 0 with
      | x6_o24 =>
        if x6_o24 = 0 then
          sm_place_L3 uR uW uA uM uX uF uI uS p1 p2 p3 p4 n (x5 + 1)
        else
          .inr x5 := rfl
def sm_place (uR uW uA uM uX uF uI uS : Nat → Int32) (p1 p2 p3 p4 : Int32) : Int32 :=
  match sm_place_L3 uR uW uA uM uX uF uI uS p1 p2 p3 p4 13 0 with
  | .inl () =>
    (-1)
  | .inr r0_o3 =>
    r0_o3
def sm_lay_L55 (uR uW uA uM uX uF uI : Nat → Int32) (us p1 p2 p3 : Int32) : Nat → Int32 → (Nat → Int32) → Int32 → Int32 → ((Nat → Int32) × Int32 × Int32) ⊕ (Int32 × (Nat → Int32) × Int32 × Int32)
  | 0, _, _, _, _ => .inl (default, default, default)
  | n + 1, x4, uS, uk, uh =>
    if us ≤ x4 then
      .inl (uS, uk, uh)
    else
      if ((upd uS x4.toNatClampNeg (sm_place uR uW uA uM uX uF uI uS x4 p1 p2 p3)) x4.toNatClampNeg) = (-1) then
        .inr ((-1), upd uS x4.toNatClampNeg (sm_place uR uW uA uM uX uF uI uS x4 p1 p2 p3), uk, x4)
      else
        if (((upd uS x4.toNatClampNeg (sm_place uR uW uA uM uX uF uI uS x4 p1 p2 p3)) x4.toNatClampNeg) + 1) ≤ uk then
          sm_lay_L55 uR uW uA uM uX uF uI us p1 p2 p3 n (x4 + 1) (upd uS x4.toNatClampNeg (sm_place uR uW uA uM uX uF uI uS x4 p1 p2 p3)) uk uh
        else
          sm_lay_L55 uR uW uA uM uX uF uI us p1 p2 p3 n (x4 + 1) (upd uS x4.toNatClampNeg (sm_place uR uW uA uM uX uF uI uS x4 p1 p2 p3)) (((upd uS x4.toNatClampNeg (sm_place uR uW uA uM uX uF uI uS x4 p1 p2 p3)) x4.toNatClampNeg) + 1) uh
theorem sm_lay_L55_s (uR uW uA uM uX uF uI : Nat → Int32) (us p1 p2 p3 : Int32) (n : Nat) (x4 : Int32) (uS : Nat → Int32) (uk uh : Int32) : sm_lay_L55 uR uW uA uM uX uF uI us p1 p2 p3 (n + 1) x4 uS uk uh =
    if us ≤ x4 then
      .inl (uS, uk, uh)
    else
      if ((upd uS x4.toNatClampNeg (sm_place uR uW uA uM uX uF uI uS x4 p1 p2 p3)) x4.toNatClampNeg) = (-1) then
        .inr ((-1), upd uS x4.toNatClampNeg (sm_place uR uW uA uM uX uF uI uS x4 p1 p2 p3), uk, x4)
      else
        if (((upd uS x4.toNatClampNeg (sm_place uR uW uA uM uX uF uI uS x4 p1 p2 p3)) x4.toNatClampNeg) + 1) ≤ uk then
          sm_lay_L55 uR uW uA uM uX uF uI us p1 p2 p3 n (x4 + 1) (upd uS x4.toNatClampNeg (sm_place uR uW uA uM uX uF uI uS x4 p1 p2 p3)) uk uh
        else
          sm_lay_L55 uR uW uA uM uX uF uI us p1 p2 p3 n (x4 + 1) (upd uS x4.toNatClampNeg (sm_place uR uW uA uM uX uF uI uS x4 p1 p2 p3)) (((upd uS x4.toNatClampNeg (sm_place uR uW uA uM uX uF uI uS x4 p1 p2 p3)) x4.toNatClampNeg) + 1) uh := rfl
def sm_lay (uR uW uA uM uX uF uI uS : Nat → Int32) (us ul uk uh p1 p2 p3 : Int32) : Int32 × (Nat → Int32) × Int32 × Int32 × Int32 × Int32 :=
  if p1 < 1 then
    (0, uS, 1, ul, uk, uh)
  else
    if 12 < p1 then
      (0, uS, 1, ul, uk, uh)
    else
      if p2 < 0 then
        (0, uS, 1, ul, uk, uh)
      else
        if 0 ≤ p3 then
          match sm_lay_L55 uR uW uA uM uX uF uI us p1 p2 p3 49 0 uS 1 (-1) with
          | .inl (uS_o55, uk_o55, uh_o55) =>
            (uk_o55, uS_o55, 0, 1, uk_o55, uh_o55)
          | .inr (r0_o55, uS_o55, uk_o55, uh_o55) =>
            (r0_o55, uS_o55, 0, 0, uk_o55, uh_o55)
        else
          (0, uS, 1, ul, uk, uh)
def sm_homeless (uh : Int32) : Int32 × Int32 :=
  (uh, 0)
def sm_stage (uS : Nat → Int32) (us ul p1 : Int32) : Int32 × Int32 :=
  if ul = 0 then
    ((-1), 0)
  else
    if p1 < 0 then
      ((-1), 0)
    else
      if us ≤ p1 then
        ((-1), 0)
      else
        (uS p1.toNatClampNeg, 0)
def sm_used (uM uX uS : Nat → Int32) (us ul uk p1 p2 : Int32) : Int32 × Int32 :=
  if ul = 0 then
    ((-1), 0)
  else
    if p1 < 0 then
      ((-1), 0)
    else
      if uk ≤ p1 then
        ((-1), 0)
      else
        if p2 < 0 then
          ((-1), 0)
        else
          if 3 ≤ p2 then
            ((-1), 0)
          else
            (sm_sum uM uX uS us p1 p2, 0)
def sm_count (us ub uo p1 : Int32) : Int32 × Int32 :=
  if p1 = 0 then
    (us, 0)
  else
    if p1 = 1 then
      (ub, 0)
    else
      if p1 = 2 then
        (uo, 0)
      else
        ((-1), 0)
/-! ranges in the reference -/
theorem i_ad {x y : Int32} (h1 : -2147483648 ≤ x.toInt + y.toInt) (h2 : x.toInt + y.toInt < 2147483648) : (x + y).toInt = x.toInt + y.toInt := by
  rw [Int32.toInt_add, Int.bmod_def]; split <;> omega
theorem i_ml {x y : Int32} (h1 : -2147483648 ≤ x.toInt * y.toInt) (h2 : x.toInt * y.toInt < 2147483648) : (x * y).toInt = x.toInt * y.toInt := by
  rw [Int32.toInt_mul, Int.bmod_def]
  generalize x.toInt * y.toInt = q at h1 h2 ⊢
  split <;> omega
theorem i_41 {s : Int32} (hs : 0 ≤ s.toInt ∧ s.toInt < 48) : (41 * s).toInt = 41 * s.toInt := by
  have e : (41 : Int32).toInt = 41 := rfl
  have h := i_ml (x := 41) (y := s) (by rw [e]; omega) (by rw [e]; omega)
  rw [h, e]
theorem i_th {s k : Int32} (hs : 0 ≤ s.toInt ∧ s.toInt < 48) (hk : 0 ≤ k.toInt ∧ k.toInt < 41) : ((41 * s) + k).toInt = 41 * s.toInt + k.toInt := by
  have e := i_41 hs
  rw [i_ad (by omega) (by omega), e]
theorem th_in {s k : Int32} (hs : 0 ≤ s.toInt ∧ s.toInt < 48) (hk : 0 ≤ k.toInt ∧ k.toInt < 41) : vp_in ((41 * s) + k) 1968 := by
  have e := i_th hs hk
  exact vp_in_iff.mpr ⟨by omega, by omega⟩
theorem i_th12 {s k : Int32} (hs : 0 ≤ s.toInt ∧ s.toInt < 48) (hk : 0 ≤ k.toInt ∧ k.toInt < 28) : (((41 * s) + k) + 12).toInt = 41 * s.toInt + (k.toInt + 12) := by
  have e := i_th hs (k := k) ⟨hk.1, by omega⟩
  have e12 : (12 : Int32).toInt = 12 := rfl
  rw [i_ad (by omega) (by omega), e, e12]
  omega
theorem th_in12 {s k : Int32} (hs : 0 ≤ s.toInt ∧ s.toInt < 48) (hk : 0 ≤ k.toInt ∧ k.toInt < 28) : vp_in (((41 * s) + k) + 12) 1968 := by
  have e := i_th12 hs hk
  exact vp_in_iff.mpr ⟨by omega, by omega⟩
theorem le11 {x : Int32} (h0 : ¬ x < 0) (h : x ≤ 11) : 0 ≤ x.toInt ∧ x.toInt ≤ 11 := by
  have e : (11 : Int32).toInt = 11 := rfl
  rw [i_le] at h
  exact ⟨nn_of h0, by omega⟩
theorem i_th28 {s k : Int32} (hs : 0 ≤ s.toInt ∧ s.toInt < 48) (h0 : ¬ k < 0) (h : k ≤ 11) : (((41 * s) + 28) + k).toInt = 41 * s.toInt + (28 + k.toInt) := by
  have hk := le11 h0 h
  have e28 : (28 : Int32).toInt = 28 := rfl
  have e := i_th hs (k := 28) ⟨by omega, by omega⟩
  rw [i_ad (by omega) (by omega), e, e28]
  omega
theorem th_in28 {s k : Int32} (hs : 0 ≤ s.toInt ∧ s.toInt < 48) (h0 : ¬ k < 0) (h : k ≤ 11) : vp_in (((41 * s) + 28) + k) 1968 := by
  have hk := le11 h0 h
  have e := i_th28 hs h0 h
  exact vp_in_iff.mpr ⟨by omega, by omega⟩
theorem cnt_rg {x : Int32} {n : Nat} (h : cnt 41 x n) (c : ¬ 41 ≤ x) : 0 ≤ x.toInt ∧ x.toInt < 41 := by
  have e : (41 : Int32).toInt = 41 := rfl
  rw [i_le] at c
  exact ⟨h.1, by omega⟩
theorem cnt_rg28 {x : Int32} {n : Nat} (h : cnt 28 x n) (c : ¬ 28 ≤ x) : 0 ≤ x.toInt ∧ x.toInt < 28 := by
  have e : (28 : Int32).toInt = 28 := rfl
  rw [i_le] at c
  exact ⟨h.1, by omega⟩
theorem w41 {x : Int32} (h : 0 ≤ x.toInt ∧ x.toInt < 28) : 0 ≤ x.toInt ∧ x.toInt < 41 := ⟨h.1, by omega⟩
theorem cnt_rg48 {b x : Int32} {n : Nat} (h : cnt b x n) (c : ¬ b ≤ x) (hb : 0 ≤ b.toInt ∧ b.toInt < 48) : 0 ≤ x.toInt ∧ x.toInt < 48 := by
  rw [i_le] at c
  exact ⟨h.1, by omega⟩
theorem rg28 {x : Int32} (h : 0 ≤ x.toInt ∧ x.toInt < 41) (c : ¬ 28 ≤ x) : 0 ≤ x.toInt ∧ x.toInt < 28 := by
  have e : (28 : Int32).toInt = 28 := rfl
  rw [i_le] at c
  exact ⟨h.1, by omega⟩
theorem lt_le {x : Int32} (h : 0 ≤ x.toInt ∧ x.toInt < 48) : 0 ≤ x.toInt ∧ x.toInt ≤ 48 := ⟨h.1, by omega⟩
theorem nlt_le {x b : Int32} {n : Int} (h : ¬ b < x) (hb : b.toInt ≤ n) : x.toInt ≤ n := by rw [i_lt] at h; omega
theorem ix_us {x us : Int32} (h0 : ¬ x < 0) (h1 : ¬ us ≤ x) (hu : 0 ≤ us.toInt ∧ us.toInt ≤ 48) : vp_in x 48 := by
  rw [i_le] at h1
  exact vp_in_iff.mpr ⟨nn_of h0, by omega⟩
theorem nf_rg {us ur x : Int32} (hu : 0 ≤ us.toInt ∧ us.toInt ≤ 48) (c : sm_isFull us ur x = 0) : 0 ≤ us.toInt ∧ us.toInt < 48 := by
  refine ⟨hu.1, ?_⟩
  unfold sm_isFull at c
  by_cases c1 : us = 48
  · rw [if_pos c1] at c; exact absurd c (by decide)
  · have h : us.toInt ≠ 48 := fun q => c1 (Int32.toInt_inj.mp q)
    omega
theorem cm_r {uR uW uA uM uX uF uI : Nat → Int32} {us ur ui p1 r : Int32} {uR' uW' uA' uM' uX' uF' uI' : Nat → Int32} {us' ur' ul' uh' : Int32} (hw : sm_comes uR uW uA uM uX uF uI us ur ui p1 = (r, uR', uW', uA', uM', uX', uF', uI', us', ur', ul', uh')) : r = us := by
  unfold sm_comes at hw
  rcases h9 : sm_comes_L7 us 42 0 uR uW with ⟨a, b⟩
  rw [h9] at hw
  exact (Prod.mk.inj hw).1.symm
theorem cm_rg {uR uW uA uM uX uF uI : Nat → Int32} {us ur ui p1 r : Int32} {uR' uW' uA' uM' uX' uF' uI' : Nat → Int32} {us' ur' ul' uh' : Int32} (hw : sm_comes uR uW uA uM uX uF uI us ur ui p1 = (r, uR', uW', uA', uM', uX', uF', uI', us', ur', ul', uh')) (h : 0 ≤ us.toInt ∧ us.toInt < 48) : 0 ≤ r.toInt ∧ r.toInt < 48 := by
  rw [cm_r hw]; exact h
theorem pl_28 {x : Int32} (c : ¬ sm_isPlace x = 0) : 0 ≤ x.toInt ∧ x.toInt < 28 := by
  unfold sm_isPlace at c
  by_cases c1 : x < 0
  · rw [if_pos c1] at c; exact absurd rfl c
  · rw [if_neg c1] at c
    by_cases c2 : 28 ≤ x
    · rw [if_pos c2] at c; exact absurd rfl c
    · have e : (28 : Int32).toInt = 28 := rfl
      rw [i_le] at c2
      exact ⟨nn_of c1, by omega⟩
theorem pl_rg {x : Int32} (c : ¬ sm_isPlace x = 0) : 0 ≤ x.toInt ∧ x.toInt < 41 := w41 (pl_28 c)
theorem va_rg {x : Int32} (h0 : ¬ x < 0) (h : x ≤ 11) : 0 ≤ (16 + x).toInt ∧ (16 + x).toInt < 41 := by
  have hk := le11 h0 h
  have e : (16 : Int32).toInt = 16 := rfl
  rw [i_ad (by omega) (by omega), e]
  omega
theorem ii_z {x3 p1 : Int32} : ¬ (-1 ≤ x3.toInt ∧ x3.toInt + 2 ≤ ((0 : Nat) : Int) ∧ x3.toInt < p1.toInt) := by omega
theorem ii_p {x3 : Int32} (h : -1 ≤ x3.toInt) (c : ¬ x3 = (-1)) : 0 ≤ x3.toInt := by
  have e : (-1 : Int32).toInt = -1 := rfl
  have h2 : x3.toInt ≠ -1 := fun q => c (Int32.toInt_inj.mp (by rw [q, e]))
  omega
theorem ii_in {x3 p1 : Int32} {n : Nat} (hs : 0 ≤ p1.toInt ∧ p1.toInt < 48) (h : -1 ≤ x3.toInt ∧ x3.toInt + 2 ≤ (n : Int) ∧ x3.toInt < p1.toInt) (c : ¬ x3 = (-1)) : vp_in x3 48 := by
  have h0 := ii_p h.1 c
  exact vp_in_iff.mpr ⟨h0, by omega⟩
theorem ii_s {uI : Nat → Int32} {x3 p1 : Int32} {n : Nat} (hs : 0 ≤ p1.toInt ∧ p1.toInt < 48) (hc : ∀ j : Nat, j ≤ p1.toNatClampNeg → -1 ≤ (uI j).toInt ∧ (uI j).toInt < j) (h : -1 ≤ x3.toInt ∧ x3.toInt + 2 ≤ ((n + 1 : Nat) : Int) ∧ x3.toInt < p1.toInt) (c : ¬ x3 = (-1)) :
    -1 ≤ (uI x3.toNatClampNeg).toInt ∧ (uI x3.toNatClampNeg).toInt + 2 ≤ (n : Int) ∧ (uI x3.toNatClampNeg).toInt < p1.toInt := by
  have h0 := ii_p h.1 c
  have e1 : x3.toNatClampNeg = x3.toInt.toNat := rfl
  have e2 : p1.toNatClampNeg = p1.toInt.toNat := rfl
  have h3 := hc x3.toNatClampNeg (by rw [e1, e2]; omega)
  have e3 : ((x3.toNatClampNeg : Nat) : Int) = x3.toInt := by rw [e1]; omega
  omega
theorem ii_0 {uI : Nat → Int32} {p1 : Int32} (hs : 0 ≤ p1.toInt ∧ p1.toInt < 48) (hc : ∀ j : Nat, j ≤ p1.toNatClampNeg → -1 ≤ (uI j).toInt ∧ (uI j).toInt < j) :
    -1 ≤ (uI p1.toNatClampNeg).toInt ∧ (uI p1.toNatClampNeg).toInt + 2 ≤ ((49 : Nat) : Int) ∧ (uI p1.toNatClampNeg).toInt < p1.toInt := by
  have h3 := hc p1.toNatClampNeg (Nat.le_refl _)
  have e1 : p1.toNatClampNeg = p1.toInt.toNat := rfl
  have e3 : ((p1.toNatClampNeg : Nat) : Int) = p1.toInt := by rw [e1]; omega
  omega
theorem cnt_us {us x : Int32} {n : Nat} (h : cnt us x n) (c : ¬ us ≤ x) (hu : 0 ≤ us.toInt ∧ us.toInt ≤ 48) : 0 ≤ x.toInt ∧ x.toInt < 48 := by
  rw [i_le] at c
  exact ⟨h.1, by omega⟩
theorem ch_us {uI : Nat → Int32} {us x : Int32} {n : Nat} (h : cnt us x n) (c : ¬ us ≤ x) (hc : ∀ j : Nat, j < us.toNatClampNeg → -1 ≤ (uI j).toInt ∧ (uI j).toInt < j) : ∀ j : Nat, j ≤ x.toNatClampNeg → -1 ≤ (uI j).toInt ∧ (uI j).toInt < j := by
  intro j hj
  have h2 := cl_lt (x := x) (y := us) h.1 (by rw [i_le] at c; omega)
  exact hc j (by omega)
