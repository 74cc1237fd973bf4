def ib_count (p1 : Int32) : Int32 :=
  (((((((p1 - ((iu p1 1) &&& 1431655765)) &&& 858993459) + ((iu (p1 - ((iu p1 1) &&& 1431655765)) 2) &&& 858993459)) + (iu (((p1 - ((iu p1 1) &&& 1431655765)) &&& 858993459) + ((iu (p1 - ((iu p1 1) &&& 1431655765)) 2) &&& 858993459)) 4)) &&& 252645135) + (iu (((((p1 - ((iu p1 1) &&& 1431655765)) &&& 858993459) + ((iu (p1 - ((iu p1 1) &&& 1431655765)) 2) &&& 858993459)) + (iu (((p1 - ((iu p1 1) &&& 1431655765)) &&& 858993459) + ((iu (p1 - ((iu p1 1) &&& 1431655765)) 2) &&& 858993459)) 4)) &&& 252645135) 8)) + (iu ((((((p1 - ((iu p1 1) &&& 1431655765)) &&& 858993459) + ((iu (p1 - ((iu p1 1) &&& 1431655765)) 2) &&& 858993459)) + (iu (((p1 - ((iu p1 1) &&& 1431655765)) &&& 858993459) + ((iu (p1 - ((iu p1 1) &&& 1431655765)) 2) &&& 858993459)) 4)) &&& 252645135) + (iu (((((p1 - ((iu p1 1) &&& 1431655765)) &&& 858993459) + ((iu (p1 - ((iu p1 1) &&& 1431655765)) 2) &&& 858993459)) + (iu (((p1 - ((iu p1 1) &&& 1431655765)) &&& 858993459) + ((iu (p1 - ((iu p1 1) &&& 1431655765)) 2) &&& 858993459)) 4)) &&& 252645135) 8)) 16)) &&& 63
def sl_requirePlace (p1 : Int32) : (Unit) ⊕ String :=
  if p1 < 0 then
    .inr xIO
  else
    if p1 < 28 then
      .inl ()
    else
      .inr xIO
def sl_requireArray (p1 : Int32) : (Unit) ⊕ String :=
  if p1 < 0 then
    .inr xIO
  else
    if p1 < 8 then
      .inl ()
    else
      .inr xIO
def sl_requireReadable (p1 : Int32) : (Unit) ⊕ String :=
  if (iu p1 28) = 0 then
    .inl ()
  else
    .inr xIO
def sl_validitiesOf (p1 : Int32) : Int64 :=
  jl ((iu p1 16).toInt64) 28
def sl_reading (p1 : Int32) : Int64 :=
  p1.toInt64 ||| (sl_validitiesOf p1)
def sl_readingAndWriting (p1 p2 : Int32) : Int64 :=
  (sl_reading p1) ||| (sl_validitiesOf (1 <<< (p2 &&& 31)))
def sl_costOf (p1 : Int32) : Int32 :=
  if 1 < (ib_count p1) then (ib_count p1) else 1
def sl_need (mo wo : Nat → Int32) (p1 p2 p3 : Int32) : (Nat → Int32) × (Nat → Int32) :=
  if p1 < 0 then
    (mo, wo)
  else
    if 48 ≤ p1 then
      (mo, wo)
    else
      (upd mo p1.toNatClampNeg p2, upd wo p1.toNatClampNeg p3)
def sl_innermostIf (oi : Nat → Int32) (nf : Int32) : Int32 :=
  if nf < 1 then
    (-1)
  else
    if 8 < nf then
      (-1)
    else
      oi (nf - 1).toNatClampNeg
def sl_forgetStages  : Int32 × Int32 :=
  (0, (-1))
def sl_addStep (rd wr : Nat → Int64) (ay ia mo wo oi : Nat → Int32) (ns nf np : Int32) (p1 p2 : Int64) (p3 p4 : Int32) : (Int32 × (Nat → Int64) × (Nat → Int64) × (Nat → Int32) × (Nat → Int32) × (Nat → Int32) × (Nat → Int32) × Int32 × Int32 × Int32 × Int32) ⊕ String :=
  if ns < 0 then
    .inr xIS
  else
    if ns < 48 then
      if (np + p4) ≤ 800 then
        match sl_need mo wo ns 0 0 with
        | (mo_96, wo_96) =>
          match sl_forgetStages with
          | (sl_121, hs_121) =>
            .inl (ns, vp_updL rd ns.toNatClampNeg p1, vp_updL wr ns.toNatClampNeg p2, upd ay ns.toNatClampNeg p3, upd ia ns.toNatClampNeg (sl_innermostIf oi nf), mo_96, wo_96, ns + 1, np + p4, sl_121, hs_121)
      else
        .inr xIS
    else
      .inr xIS
def sl_emptyStages_L2  : Nat → Int32 → (Nat → Int32) → (Nat → Int32) → (Nat → Int32) → ((Nat → Int32) × (Nat → Int32) × (Nat → Int32))
  | 0, _, _, _, _ => (default, default, default)
  | n + 1, x1, si, mi, wi =>
    if 12 ≤ x1 then
      (si, mi, wi)
    else
      sl_emptyStages_L2 n (x1 + 1) (upd si x1.toNatClampNeg 0) (upd mi x1.toNatClampNeg 0) (upd wi x1.toNatClampNeg 0)
theorem sl_emptyStages_L2_s  (n : Nat) (x1 : Int32) (si mi wi : Nat → Int32) : sl_emptyStages_L2 (n + 1) x1 si mi wi =
    if 12 ≤ x1 then
      (si, mi, wi)
    else
      sl_emptyStages_L2 n (x1 + 1) (upd si x1.toNatClampNeg 0) (upd mi x1.toNatClampNeg 0) (upd wi x1.toNatClampNeg 0) := rfl
def sl_emptyStages (si mi wi : Nat → Int32) : (Nat → Int32) × (Nat → Int32) × (Nat → Int32) :=
  match sl_emptyStages_L2 13 0 si mi wi with
  | (si_o2, mi_o2, wi_o2) =>
    (si_o2, mi_o2, wi_o2)
def sl_earliestStage_L63 (rd wr : Nat → Int64) (so : Nat → Int32) (p1 : Int32) (w4 t6 : Int64) : Nat → Int32 → Int32 → Int32
  | 0, _, _ => default
  | n + 1, x3, x8 =>
    if p1 ≤ x8 then
      x3
    else
      if (lg_cmp ((wr x8.toNatClampNeg) &&& t6) 0) = 0 then
        if (lg_cmp ((rd x8.toNatClampNeg) &&& w4) 0) = 0 then
          sl_earliestStage_L63 rd wr so p1 w4 t6 n x3 (x8 + 1)
        else
          sl_earliestStage_L63 rd wr so p1 w4 t6 n (if x3 < (so x8.toNatClampNeg) then (so x8.toNatClampNeg) else x3) (x8 + 1)
      else
        sl_earliestStage_L63 rd wr so p1 w4 t6 n (if x3 < ((so x8.toNatClampNeg) + 1) then ((so x8.toNatClampNeg) + 1) else x3) (x8 + 1)
theorem sl_earliestStage_L63_s (rd wr : Nat → Int64) (so : Nat → Int32) (p1 : Int32) (w4 t6 : Int64) (n : Nat) (x3 x8 : Int32) : sl_earliestStage_L63 rd wr so p1 w4 t6 (n + 1) x3 x8 =
    if p1 ≤ x8 then
      x3
    else
      if (lg_cmp ((wr x8.toNatClampNeg) &&& t6) 0) = 0 then
        if (lg_cmp ((rd x8.toNatClampNeg) &&& w4) 0) = 0 then
          sl_earliestStage_L63 rd wr so p1 w4 t6 n x3 (x8 + 1)
        else
          sl_earliestStage_L63 rd wr so p1 w4 t6 n (if x3 < (so x8.toNatClampNeg) then (so x8.toNatClampNeg) else x3) (x8 + 1)
      else
        sl_earliestStage_L63 rd wr so p1 w4 t6 n (if x3 < ((so x8.toNatClampNeg) + 1) then ((so x8.toNatClampNeg) + 1) else x3) (x8 + 1) := rfl
def sl_earliestStage (rd wr : Nat → Int64) (ia so : Nat → Int32) (p1 : Int32) : Int32 :=
  if p1 < 0 then
    0
  else
    if p1 < 48 then
      if (ia p1.toNatClampNeg) < 0 then
        match sl_earliestStage_L63 rd wr so p1 (wr p1.toNatClampNeg) ((rd p1.toNatClampNeg) ||| (wr p1.toNatClampNeg)) 49 0 0 with
        | x3_o63 =>
          x3_o63
      else
        if p1 ≤ (ia p1.toNatClampNeg) then
          match sl_earliestStage_L63 rd wr so p1 (wr p1.toNatClampNeg) ((rd p1.toNatClampNeg) ||| (wr p1.toNatClampNeg)) 49 0 0 with
          | x3_o63 =>
            x3_o63
        else
          match sl_earliestStage_L63 rd wr so p1 (wr p1.toNatClampNeg) ((rd p1.toNatClampNeg) ||| (wr p1.toNatClampNeg)) 49 ((so (ia p1.toNatClampNeg).toNatClampNeg) + 1) 0 with
          | x3_o63 =>
            x3_o63
    else
      0
def sl_stageOfSharedArray_L24 (ay so : Nat → Int32) (p1 : Int32) : Nat → Int32 → Unit ⊕ Int32
  | 0, _ => .inl ()
  | n + 1, x2 =>
    if p1 ≤ x2 then
      .inl ()
    else
      if (ay x2.toNatClampNeg) = (ay p1.toNatClampNeg) then
        .inr (so x2.toNatClampNeg)
      else
        sl_stageOfSharedArray_L24 ay so p1 n (x2 + 1)
theorem sl_stageOfSharedArray_L24_s (ay so : Nat → Int32) (p1 : Int32) (n : Nat) (x2 : Int32) : sl_stageOfSharedArray_L24 ay so p1 (n + 1) x2 =
    if p1 ≤ x2 then
      .inl ()
    else
      if (ay x2.toNatClampNeg) = (ay p1.toNatClampNeg) then
        .inr (so x2.toNatClampNeg)
      else
        sl_stageOfSharedArray_L24 ay so p1 n (x2 + 1) := rfl
def sl_stageOfSharedArray (ay so : Nat → Int32) (p1 : Int32) : Int32 :=
  if p1 < 0 then
    (-1)
  else
    if 48 ≤ p1 then
      (-1)
    else
      if (ay p1.toNatClampNeg) = (-1) then
        (-1)
      else
        match sl_stageOfSharedArray_L24 ay so p1 49 0 with
        | .inl () =>
          (-1)
        | .inr r0_o24 =>
          r0_o24
def sl_hasRoom (mo wo si mi wi : Nat → Int32) (p1 p2 p3 p4 : Int32) : Int32 :=
  if p1 < 0 then
    0
  else
    if 48 ≤ p1 then
      0
    else
      if p2 < 0 then
        0
      else
        if p2 < 12 then
          if 8 ≤ (si p2.toNatClampNeg) then
            0
          else
            if p3 < ((mi p2.toNatClampNeg) + (mo p1.toNatClampNeg)) then
              0
            else
              if p4 < ((wi p2.toNatClampNeg) + (wo p1.toNatClampNeg)) then
                0
              else
                1
        else
          0
def sl_findStage_L46 (mo wo si mi wi : Nat → Int32) (p1 p3 p4 x6 : Int32) : Nat → Int32 → Unit ⊕ Int32
  | 0, _ => .inl ()
  | n + 1, x8 =>
    if x6 < x8 then
      .inl ()
    else
      if (sl_hasRoom mo wo si mi wi p1 x8 p3 p4) = 0 then
        sl_findStage_L46 mo wo si mi wi p1 p3 p4 x6 n (x8 + 1)
      else
        .inr x8
theorem sl_findStage_L46_s (mo wo si mi wi : Nat → Int32) (p1 p3 p4 x6 : Int32) (n : Nat) (x8 : Int32) : sl_findStage_L46 mo wo si mi wi p1 p3 p4 x6 (n + 1) x8 =
    if x6 < x8 then
      .inl ()
    else
      if (sl_hasRoom mo wo si mi wi p1 x8 p3 p4) = 0 then
        sl_findStage_L46 mo wo si mi wi p1 p3 p4 x6 n (x8 + 1)
      else
        .inr x8 := rfl
def sl_findStage (rd wr : Nat → Int64) (ay ia mo wo so si mi wi : Nat → Int32) (p1 p2 p3 p4 : Int32) : Int32 :=
  if (sl_stageOfSharedArray ay so p1) = (-1) then
    match sl_findStage_L46 mo wo si mi wi p1 p3 p4 (p2 - 1) 14 (sl_earliestStage rd wr ia so p1) with
    | .inl () =>
      (-1)
    | .inr r0_o46 =>
      r0_o46
  else
    if (sl_earliestStage rd wr ia so p1) ≤ (sl_stageOfSharedArray ay so p1) then
      match sl_findStage_L46 mo wo si mi wi p1 p3 p4 (sl_stageOfSharedArray ay so p1) 14 (sl_stageOfSharedArray ay so p1) with
      | .inl () =>
        (-1)
      | .inr r0_o46 =>
        r0_o46
    else
      (-1)
def sl_settle (mo wo so si mi wi : Nat → Int32) (p1 p2 : Int32) : (Nat → Int32) × (Nat → Int32) × (Nat → Int32) × (Nat → Int32) :=
  if p1 < 0 then
    (so, si, mi, wi)
  else
    if 48 ≤ p1 then
      (so, si, mi, wi)
    else
      if p2 < 0 then
        (so, si, mi, wi)
      else
        if p2 < 12 then
          (upd so p1.toNatClampNeg p2, upd si p2.toNatClampNeg ((si p2.toNatClampNeg) + 1), upd mi p2.toNatClampNeg ((mi p2.toNatClampNeg) + (mo p1.toNatClampNeg)), upd wi p2.toNatClampNeg ((wi p2.toNatClampNeg) + (wo p1.toNatClampNeg)))
        else
          (so, si, mi, wi)
def sl_clear  : Int32 × Int32 × Int32 × Int32 × Int32 × Int32 :=
  match sl_forgetStages with
  | (sl_21, hs_21) =>
    (0, 0, 0, 0, sl_21, hs_21)
def sl_assign (rd wr : Nat → Int64) (ay ia mo wo oi : Nat → Int32) (ns nf np p1 p2 : Int32) : (Int32 × (Nat → Int64) × (Nat → Int64) × (Nat → Int32) × (Nat → Int32) × (Nat → Int32) × (Nat → Int32) × Int32 × Int32 × Int32 × Int32) ⊕ String :=
  match sl_requirePlace p1 with
  | .inl () =>
    match sl_requireReadable p2 with
    | .inl () =>
      match sl_addStep rd wr ay ia mo wo oi ns nf np (sl_readingAndWriting p2 p1) (jl 1 p1) (-1) (sl_costOf p2) with
      | .inl (r_22, rd_22, wr_22, ay_22, ia_22, mo_22, wo_22, ns_22, np_22, sl_22, hs_22) =>
        .inl (r_22, rd_22, wr_22, ay_22, ia_22, mo_22, wo_22, ns_22, np_22, sl_22, hs_22)
      | .inr E_22 =>
        .inr E_22
    | .inr E_5 =>
      .inr E_5
  | .inr E_1 =>
    .inr E_1
def sl_load (rd wr : Nat → Int64) (ay ia mo wo oi : Nat → Int32) (ns nf np p1 p2 p3 : Int32) : (Int32 × (Nat → Int64) × (Nat → Int64) × (Nat → Int32) × (Nat → Int32) × (Nat → Int32) × (Nat → Int32) × Int32 × Int32 × Int32 × Int32) ⊕ String :=
  match sl_requirePlace p1 with
  | .inl () =>
    match sl_requireArray p2 with
    | .inl () =>
      match sl_requireReadable p3 with
      | .inl () =>
        match sl_addStep rd wr ay ia mo wo oi ns nf np (sl_readingAndWriting p3 p1) (jl 1 p1) p2 (sl_costOf p3) with
        | .inl (r_26, rd_26, wr_26, ay_26, ia_26, mo_26, wo_26, ns_26, np_26, sl_26, hs_26) =>
          .inl (r_26, rd_26, wr_26, ay_26, ia_26, mo_26, wo_26, ns_26, np_26, sl_26, hs_26)
        | .inr E_26 =>
          .inr E_26
      | .inr E_9 =>
        .inr E_9
    | .inr E_5 =>
      .inr E_5
  | .inr E_1 =>
    .inr E_1
def sl_store (rd wr : Nat → Int64) (ay ia mo wo oi : Nat → Int32) (ns nf np p1 p2 p3 : Int32) : (Int32 × (Nat → Int64) × (Nat → Int64) × (Nat → Int32) × (Nat → Int32) × (Nat → Int32) × (Nat → Int32) × Int32 × Int32 × Int32 × Int32) ⊕ String :=
  match sl_requireArray p1 with
  | .inl () =>
    match sl_requireReadable p2 with
    | .inl () =>
      match sl_requireReadable p3 with
      | .inl () =>
        match sl_addStep rd wr ay ia mo wo oi ns nf np (sl_reading (p2 ||| p3)) 0 p1 ((sl_costOf p2) + (sl_costOf p3)) with
        | .inl (r_30, rd_30, wr_30, ay_30, ia_30, mo_30, wo_30, ns_30, np_30, sl_30, hs_30) =>
          .inl (r_30, rd_30, wr_30, ay_30, ia_30, mo_30, wo_30, ns_30, np_30, sl_30, hs_30)
        | .inr E_30 =>
          .inr E_30
      | .inr E_9 =>
        .inr E_9
    | .inr E_5 =>
      .inr E_5
  | .inr E_1 =>
    .inr E_1
def sl_valid (rd wr : Nat → Int64) (ay ia mo wo oi : Nat → Int32) (ns nf np p1 : Int32) : (Int32 × (Nat → Int64) × (Nat → Int64) × (Nat → Int32) × (Nat → Int32) × (Nat → Int32) × (Nat → Int32) × Int32 × Int32 × Int32 × Int32) ⊕ String :=
  if p1 < 0 then
    .inr xIO
  else
    if p1 < 12 then
      match sl_addStep rd wr ay ia mo wo oi ns nf np (sl_validitiesOf (1 <<< ((16 + p1) &&& 31))) (((1 <<< ((16 + p1) &&& 31)).toInt64) ||| (sl_validitiesOf (1 <<< ((16 + p1) &&& 31)))) (-1) 0 with
      | .inl (r_41, rd_41, wr_41, ay_41, ia_41, mo_41, wo_41, ns_41, np_41, sl_41, hs_41) =>
        .inl (r_41, rd_41, wr_41, ay_41, ia_41, mo_41, wo_41, ns_41, np_41, sl_41, hs_41)
      | .inr E_41 =>
        .inr E_41
    else
      .inr xIO
def sl_drop (rd wr : Nat → Int64) (ay ia mo wo oi : Nat → Int32) (ns nf np : Int32) : (Int32 × (Nat → Int64) × (Nat → Int64) × (Nat → Int32) × (Nat → Int32) × (Nat → Int32) × (Nat → Int32) × Int32 × Int32 × Int32 × Int32) ⊕ String :=
  match sl_addStep rd wr ay ia mo wo oi ns nf np 0 1099511627776 (-1) 0 with
  | .inl (r_7, rd_7, wr_7, ay_7, ia_7, mo_7, wo_7, ns_7, np_7, sl_7, hs_7) =>
    .inl (r_7, rd_7, wr_7, ay_7, ia_7, mo_7, wo_7, ns_7, np_7, sl_7, hs_7)
  | .inr E_7 =>
    .inr E_7
def sl_open (rd wr : Nat → Int64) (ay ia mo wo oi : Nat → Int32) (ns nf np p1 : Int32) : (Int32 × (Nat → Int64) × (Nat → Int64) × (Nat → Int32) × (Nat → Int32) × (Nat → Int32) × (Nat → Int32) × (Nat → Int32) × Int32 × Int32 × Int32 × Int32 × Int32) ⊕ String :=
  match sl_requireReadable p1 with
  | .inl () =>
    if nf < 0 then
      .inr xIS
    else
      if nf < 8 then
        match sl_addStep rd wr ay ia mo wo oi ns nf np (sl_reading p1) 0 (-1) (sl_costOf p1) with
        | .inl (r_41, rd_41, wr_41, ay_41, ia_41, mo_41, wo_41, ns_41, np_41, sl_41, hs_41) =>
          .inl (r_41, rd_41, wr_41, ay_41, ia_41, mo_41, wo_41, upd oi nf.toNatClampNeg r_41, ns_41, nf + 1, np_41, sl_41, hs_41)
        | .inr E_41 =>
          .inr E_41
      else
        .inr xIS
  | .inr E_1 =>
    .inr E_1
def sl_close (oi : Nat → Int32) (nf : Int32) : (Int32 × Int32) ⊕ String :=
  if nf < 1 then
    .inr xIS
  else
    if nf ≤ 8 then
      .inl (oi (nf - 1).toNatClampNeg, nf - 1)
    else
      .inr xIS
def sl_apply (rd wr : Nat → Int64) (ay ia mo wo oi : Nat → Int32) (ns nt nf np p1 p2 p3 : Int32) : (Int32 × (Nat → Int64) × (Nat → Int64) × (Nat → Int32) × (Nat → Int32) × (Nat → Int32) × (Nat → Int32) × Int32 × Int32 × Int32 × Int32 × Int32) ⊕ String :=
  match sl_requirePlace p3 with
  | .inl () =>
    match sl_requireReadable p1 with
    | .inl () =>
      if p2 < 1 then
        .inr xIA
      else
        if p2 ≤ 32 then
          if (ib_count p1) < 1 then
            .inr xIA
          else
            if (ib_count p1) ≤ 4 then
              if nt < 8 then
                match sl_addStep rd wr ay ia mo wo oi ns nf np (sl_readingAndWriting p1 p3) (jl 1 p3) (-1) ((sl_costOf p1) + (sl_costOf 0)) with
                | .inl (r_99, rd_99, wr_99, ay_99, ia_99, mo_99, wo_99, ns_99, np_99, sl_99, hs_99) =>
                  match sl_need mo_99 wo_99 r_99 (p2 * ((16 * (ib_count p1)) + 8)) (8 * (ib_count p1)) with
                  | (mo_122, wo_122) =>
                    .inl (r_99, rd_99, wr_99, ay_99, ia_99, mo_122, wo_122, ns_99, nt + 1, np_99, sl_99, hs_99)
                | .inr E_99 =>
                  .inr E_99
              else
                .inr xIS
            else
              .inr xIA
        else
          .inr xIA
    | .inr E_5 =>
      .inr E_5
  | .inr E_1 =>
    .inr E_1
def sl_lay_L53 (rd wr : Nat → Int64) (ay ia mo wo : Nat → Int32) (ns p1 p2 p3 : Int32) : Nat → Int32 → Int32 → (Nat → Int32) → (Nat → Int32) → (Nat → Int32) → (Nat → Int32) → Int32 → (Int32 × (Nat → Int32) × (Nat → Int32) × (Nat → Int32) × (Nat → Int32) × Int32) ⊕ (Int32 × (Nat → Int32) × (Nat → Int32) × (Nat → Int32) × (Nat → Int32) × Int32)
  | 0, _, _, _, _, _, _, _ => .inl (default, default, default, default, default, default)
  | n + 1, x4, x5, so, si, mi, wi, hs =>
    if ns ≤ x5 then
      .inl (x4, so, si, mi, wi, hs)
    else
      if (sl_findStage rd wr ay ia mo wo so si mi wi x5 p1 p2 p3) = (-1) then
        .inr ((-1), so, si, mi, wi, x5)
      else
        match sl_settle mo wo so si mi wi x5 (sl_findStage rd wr ay ia mo wo so si mi wi x5 p1 p2 p3) with
        | (so_92, si_92, mi_92, wi_92) =>
          sl_lay_L53 rd wr ay ia mo wo ns p1 p2 p3 n (if x4 < ((sl_findStage rd wr ay ia mo wo so si mi wi x5 p1 p2 p3) + 1) then ((sl_findStage rd wr ay ia mo wo so si mi wi x5 p1 p2 p3) + 1) else x4) (x5 + 1) so_92 si_92 mi_92 wi_92 hs
theorem sl_lay_L53_s (rd wr : Nat → Int64) (ay ia mo wo : Nat → Int32) (ns p1 p2 p3 : Int32) (n : Nat) (x4 x5 : Int32) (so si mi wi : Nat → Int32) (hs : Int32) : sl_lay_L53 rd wr ay ia mo wo ns p1 p2 p3 (n + 1) x4 x5 so si mi wi hs =
    if ns ≤ x5 then
      .inl (x4, so, si, mi, wi, hs)
    else
      if (sl_findStage rd wr ay ia mo wo so si mi wi x5 p1 p2 p3) = (-1) then
        .inr ((-1), so, si, mi, wi, x5)
      else
        match sl_settle mo wo so si mi wi x5 (sl_findStage rd wr ay ia mo wo so si mi wi x5 p1 p2 p3) with
        | (so_92, si_92, mi_92, wi_92) =>
          sl_lay_L53 rd wr ay ia mo wo ns p1 p2 p3 n (if x4 < ((sl_findStage rd wr ay ia mo wo so si mi wi x5 p1 p2 p3) + 1) then ((sl_findStage rd wr ay ia mo wo so si mi wi x5 p1 p2 p3) + 1) else x4) (x5 + 1) so_92 si_92 mi_92 wi_92 hs := rfl
def sl_lay (rd wr : Nat → Int64) (ay ia mo wo so si mi wi : Nat → Int32) (ns p1 p2 p3 : Int32) : (Int32 × (Nat → Int32) × (Nat → Int32) × (Nat → Int32) × (Nat → Int32) × Int32 × Int32) ⊕ String :=
  if p1 < 1 then
    .inr xIA
  else
    if p1 ≤ 12 then
      if p2 < 0 then
        .inr xIA
      else
        if 0 ≤ p3 then
          match sl_forgetStages with
          | (sl_40, hs_40) =>
            match sl_emptyStages si mi wi with
            | (si_44, mi_44, wi_44) =>
              match sl_lay_L53 rd wr ay ia mo wo ns p1 p2 p3 49 1 0 so si_44 mi_44 wi_44 hs_40 with
              | .inl (x4_o53, so_o53, si_o53, mi_o53, wi_o53, hs_o53) =>
                .inl (x4_o53, so_o53, si_o53, mi_o53, wi_o53, x4_o53, hs_o53)
              | .inr (r0_o53, so_o53, si_o53, mi_o53, wi_o53, hs_o53) =>
                .inl (r0_o53, so_o53, si_o53, mi_o53, wi_o53, sl_40, hs_o53)
        else
          .inr xIA
    else
      .inr xIA
def sl_homeless (hs : Int32) : Int32 :=
  hs
def sl_stage (so : Nat → Int32) (ns sl p1 : Int32) : Int32 :=
  if sl = 0 then
    (-1)
  else
    if p1 < 0 then
      (-1)
    else
      if ns ≤ p1 then
        (-1)
      else
        if p1 < 48 then
          so p1.toNatClampNeg
        else
          (-1)
def sl_used (si mi wi : Nat → Int32) (sl p1 p2 : Int32) : Int32 :=
  if p1 < 0 then
    (-1)
  else
    if sl ≤ p1 then
      (-1)
    else
      if p1 < 12 then
        if p2 = 0 then
          si p1.toNatClampNeg
        else
          if p2 = 1 then
            mi p1.toNatClampNeg
          else
            if p2 = 2 then
              wi p1.toNatClampNeg
            else
              (-1)
      else
        (-1)
def sl_count (ns nt nf p1 : Int32) : Int32 :=
  if p1 = 0 then
    ns
  else
    if p1 = 1 then
      nt
    else
      if p1 = 2 then
        nf
      else
        (-1)
/-! ranges of the class's own helpers: what its loops need to end -/
theorem cl_lt {x y : Int32} (h0 : 0 ≤ x.toInt) (h : x.toInt < y.toInt) : x.toNatClampNeg < y.toNatClampNeg := by
  show x.toInt.toNat < y.toInt.toNat
  omega
theorem mx_rng {x y : Int32} {b : Int} (hx : 0 ≤ x.toInt ∧ x.toInt ≤ b) (hy : 0 ≤ y.toInt ∧ y.toInt ≤ b) : 0 ≤ (if x < y then y else x).toInt ∧ (if x < y then y else x).toInt ≤ b := by
  split
  · exact hy
  · exact hx
def rg (so : Nat → Int32) (k : Nat) : Prop := ∀ j : Nat, j < k → 0 ≤ (so j).toInt ∧ (so j).toInt < 12
theorem es_L63 {rd wr : Nat → Int64} {so : Nat → Int32} {p1 : Int32} {w4 t6 : Int64} (hso : ∀ j : Nat, j < p1.toNatClampNeg → 0 ≤ (so j).toInt ∧ (so j).toInt < 12) : ∀ (n : Nat) (x3 x8 : Int32), cnt p1 x8 n → (0 ≤ x3.toInt ∧ x3.toInt ≤ 12) → 0 ≤ (sl_earliestStage_L63 rd wr so p1 w4 t6 n x3 x8).toInt ∧ (sl_earliestStage_L63 rd wr so p1 w4 t6 n x3 x8).toInt ≤ 12 := by
  intro n
  induction n with
  | zero => intro x3 x8 h; exact absurd h cnt_z
  | succ n ih =>
    intro x3 x8 h hx
    rw [sl_earliestStage_L63_s]
    by_cases c : p1 ≤ x8
    · rw [if_pos c]; exact hx
    · rw [if_neg c]
      have hs := cnt_s h c
      have hlt : x8.toNatClampNeg < p1.toNatClampNeg := cl_lt h.1 (by rw [i_le] at c; omega)
      have hj := hso _ hlt
      have e1 := i_p1 (x := so x8.toNatClampNeg) (by omega)
      by_cases c1 : lg_cmp ((wr x8.toNatClampNeg) &&& t6) 0 = 0
      · rw [if_pos c1]
        by_cases c2 : lg_cmp ((rd x8.toNatClampNeg) &&& w4) 0 = 0
        · rw [if_pos c2]; exact ih _ _ hs hx
        · rw [if_neg c2]; exact ih _ _ hs (mx_rng hx ⟨hj.1, by omega⟩)
      · rw [if_neg c1]; exact ih _ _ hs (mx_rng hx ⟨by omega, by omega⟩)
theorem es_rng {rd wr : Nat → Int64} {ia so : Nat → Int32} {p1 : Int32} (hso : ∀ j : Nat, j < p1.toNatClampNeg → 0 ≤ (so j).toInt ∧ (so j).toInt < 12) : 0 ≤ (sl_earliestStage rd wr ia so p1).toInt ∧ (sl_earliestStage rd wr ia so p1).toInt ≤ 12 := by
  unfold sl_earliestStage
  by_cases c1 : p1 < 0
  · rw [if_pos c1]; exact ⟨Int.le_refl 0, by decide⟩
  · rw [if_neg c1]
    by_cases c2 : p1 < 48
    · rw [if_pos c2]
      have h0 : cnt p1 0 49 := cnt_0 (nn_of c1) (lt_of c2 (by decide))
      by_cases c3 : ia p1.toNatClampNeg < 0
      · rw [if_pos c3]; exact es_L63 hso _ _ _ h0 ⟨Int.le_refl 0, by decide⟩
      · rw [if_neg c3]
        by_cases c4 : p1 ≤ ia p1.toNatClampNeg
        · rw [if_pos c4]; exact es_L63 hso _ _ _ h0 ⟨Int.le_refl 0, by decide⟩
        · rw [if_neg c4]
          have hj := hso _ (cl_lt (x := ia p1.toNatClampNeg) (y := p1) (nn_of c3) (by rw [i_le] at c4; omega))
          have e1 := i_p1 (x := so (ia p1.toNatClampNeg).toNatClampNeg) (by omega)
          exact es_L63 hso _ _ _ h0 ⟨by omega, by omega⟩
    · rw [if_neg c2]; exact ⟨Int.le_refl 0, by decide⟩
theorem sa_L24 {ay so : Nat → Int32} {p1 : Int32} : ∀ (n : Nat) (x2 : Int32), cnt p1 x2 n → ∀ r : Int32, sl_stageOfSharedArray_L24 ay so p1 n x2 = .inr r → ∃ j : Nat, j < p1.toNatClampNeg ∧ r = so j := by
  intro n
  induction n with
  | zero => intro x2 h; exact absurd h cnt_z
  | succ n ih =>
    intro x2 h r hr
    rw [sl_stageOfSharedArray_L24_s] at hr
    by_cases c : p1 ≤ x2
    · rw [if_pos c] at hr; cases hr
    · rw [if_neg c] at hr
      by_cases c1 : ay x2.toNatClampNeg = ay p1.toNatClampNeg
      · rw [if_pos c1] at hr
        cases hr
        exact ⟨_, cl_lt h.1 (by rw [i_le] at c; omega), rfl⟩
      · rw [if_neg c1] at hr
        exact ih _ (cnt_s h c) r hr
theorem sa_rng {ay so : Nat → Int32} {p1 : Int32} : sl_stageOfSharedArray ay so p1 = (-1) ∨ ∃ j : Nat, j < p1.toNatClampNeg ∧ sl_stageOfSharedArray ay so p1 = so j := by
  unfold sl_stageOfSharedArray
  by_cases c1 : p1 < 0
  · rw [if_pos c1]; exact Or.inl rfl
  · rw [if_neg c1]
    by_cases c2 : 48 ≤ p1
    · rw [if_pos c2]; exact Or.inl rfl
    · rw [if_neg c2]
      by_cases c3 : ay p1.toNatClampNeg = (-1)
      · rw [if_pos c3]; exact Or.inl rfl
      · rw [if_neg c3]
        have h0 : cnt p1 0 49 := cnt_0 (nn_of c1) (lt_of2 c2 (by decide))
        cases hr : sl_stageOfSharedArray_L24 ay so p1 49 0 with
        | inl u => exact Or.inl rfl
        | inr r => exact Or.inr (sa_L24 _ _ h0 r hr)
theorem fs_in1 {rd wr : Nat → Int64} {ia so : Nat → Int32} {p1 p2 : Int32} (hso : ∀ j : Nat, j < p1.toNatClampNeg → 0 ≤ (so j).toInt ∧ (so j).toInt < 12) (h2 : 1 ≤ p2.toInt ∧ p2.toInt ≤ 12) : cnl (p2 - 1) (sl_earliestStage rd wr ia so p1) 14 := by
  have h := es_rng (rd := rd) (wr := wr) (ia := ia) hso
  have e := i_m1 (x := p2) (by omega)
  exact ⟨by omega, by decide, by omega⟩
theorem fs_in2 {ay so : Nat → Int32} {p1 : Int32} (hso : ∀ j : Nat, j < p1.toNatClampNeg → 0 ≤ (so j).toInt ∧ (so j).toInt < 12) (c : ¬ sl_stageOfSharedArray ay so p1 = (-1)) : cnl (sl_stageOfSharedArray ay so p1) (sl_stageOfSharedArray ay so p1) 14 := by
  rcases sa_rng (ay := ay) (so := so) (p1 := p1) with h | ⟨j, hj, h⟩
  · exact absurd h c
  · have h3 := hso j hj
    rw [h]
    exact ⟨by omega, by decide, by omega⟩
theorem hr_rng {mo wo si mi wi : Nat → Int32} {p1 p2 p3 p4 : Int32} (c : ¬ sl_hasRoom mo wo si mi wi p1 p2 p3 p4 = 0) : ¬ p1 < 0 ∧ p1 < 48 ∧ ¬ p2 < 0 ∧ p2 < 12 := by
  unfold sl_hasRoom at c
  by_cases c1 : p1 < 0
  · rw [if_pos c1] at c; exact absurd rfl c
  · rw [if_neg c1] at c
    by_cases c2 : 48 ≤ p1
    · rw [if_pos c2] at c; exact absurd rfl c
    · rw [if_neg c2] at c
      by_cases c3 : p2 < 0
      · rw [if_pos c3] at c; exact absurd rfl c
      · rw [if_neg c3] at c
        by_cases c4 : p2 < 12
        · exact ⟨c1, lt_ge c2, c3, c4⟩
        · rw [if_neg c4] at c; exact absurd rfl c
theorem fs_L46 {mo wo si mi wi : Nat → Int32} {p1 p3 p4 x6 : Int32} : ∀ (n : Nat) (x8 r : Int32), sl_findStage_L46 mo wo si mi wi p1 p3 p4 x6 n x8 = .inr r → ¬ sl_hasRoom mo wo si mi wi p1 r p3 p4 = 0 := by
  intro n
  induction n with
  | zero => intro x8 r h; cases h
  | succ n ih =>
    intro x8 r h
    rw [sl_findStage_L46_s] at h
    by_cases c : x6 < x8
    · rw [if_pos c] at h; cases h
    · rw [if_neg c] at h
      by_cases c1 : sl_hasRoom mo wo si mi wi p1 x8 p3 p4 = 0
      · rw [if_pos c1] at h; exact ih _ _ h
      · rw [if_neg c1] at h; cases h; exact c1
theorem fs_room {rd wr : Nat → Int64} {ay ia mo wo so si mi wi : Nat → Int32} {p1 p2 p3 p4 : Int32} (c : ¬ sl_findStage rd wr ay ia mo wo so si mi wi p1 p2 p3 p4 = (-1)) : ¬ sl_hasRoom mo wo si mi wi p1 (sl_findStage rd wr ay ia mo wo so si mi wi p1 p2 p3 p4) p3 p4 = 0 := by
  revert c
  unfold sl_findStage
  by_cases c1 : sl_stageOfSharedArray ay so p1 = (-1)
  · rw [if_pos c1]
    cases h : sl_findStage_L46 mo wo si mi wi p1 p3 p4 (p2 - 1) 14 (sl_earliestStage rd wr ia so p1) with
    | inl u => intro c; exact absurd rfl c
    | inr r => intro _; exact fs_L46 _ _ _ h
  · rw [if_neg c1]
    by_cases c2 : sl_earliestStage rd wr ia so p1 ≤ sl_stageOfSharedArray ay so p1
    · rw [if_pos c2]
      cases h : sl_findStage_L46 mo wo si mi wi p1 p3 p4 (sl_stageOfSharedArray ay so p1) 14 (sl_stageOfSharedArray ay so p1) with
      | inl u => intro c; exact absurd rfl c
      | inr r => intro _; exact fs_L46 _ _ _ h
    · rw [if_neg c2]; intro c; exact absurd rfl c
theorem st_in {mo wo so si mi wi : Nat → Int32} {p1 p2 : Int32} (h1 : ¬ p1 < 0) (h2 : p1 < 48) (h3 : ¬ p2 < 0) (h4 : p2 < 12) : sl_settle mo wo so si mi wi p1 p2 = (upd so p1.toNatClampNeg p2, upd si p2.toNatClampNeg (si p2.toNatClampNeg + 1), upd mi p2.toNatClampNeg (mi p2.toNatClampNeg + mo p1.toNatClampNeg), upd wi p2.toNatClampNeg (wi p2.toNatClampNeg + wo p1.toNatClampNeg)) := by
  have h2' : ¬ (48 : Int32) ≤ p1 := by rw [i_le]; rw [i_lt] at h2; omega
  unfold sl_settle
  rw [if_neg h1, if_neg h2', if_neg h3, if_pos h4]
theorem lay_step {rd wr : Nat → Int64} {ay ia mo wo so si mi wi so' si' mi' wi' : Nat → Int32} {ns x5 p1 p2 p3 : Int32} {n : Nat} (hinv : cnt ns x5 (n + 1) ∧ ∀ j : Nat, j < x5.toNatClampNeg → 0 ≤ (so j).toInt ∧ (so j).toInt < 12) (c : ¬ ns ≤ x5) (c2 : ¬ sl_findStage rd wr ay ia mo wo so si mi wi x5 p1 p2 p3 = (-1))
    (hw : sl_settle mo wo so si mi wi x5 (sl_findStage rd wr ay ia mo wo so si mi wi x5 p1 p2 p3) = (so', si', mi', wi')) : cnt ns (x5 + 1) n ∧ ∀ j : Nat, j < (x5 + 1).toNatClampNeg → 0 ≤ (so' j).toInt ∧ (so' j).toInt < 12 := by
  obtain ⟨h1, h2, h3, h4⟩ := hr_rng (fs_room c2)
  rw [st_in h1 h2 h3 h4] at hw
  refine ⟨cnt_s hinv.1 c, fun j hj => ?_⟩
  have e : so' = upd so x5.toNatClampNeg (sl_findStage rd wr ay ia mo wo so si mi wi x5 p1 p2 p3) := (Prod.mk.inj hw).1.symm
  rw [e]
  by_cases q : j = x5.toNatClampNeg
  · rw [q, pk_us]
    have h5 := nn_of h3
    rw [i_lt] at h4
    exact ⟨h5, h4⟩
  · rw [pk_un q]
    refine hinv.2 j ?_
    have hb := Int32.toInt_lt ns
    have e1 : (x5 + 1).toInt = x5.toInt + 1 := i_p1 (by rw [i_le] at c; omega)
    have h0 := hinv.1.1
    have hj' : j < (x5 + 1).toInt.toNat := hj
    have hq' : j ≠ x5.toInt.toNat := q
    show j < x5.toInt.toNat
    omega
