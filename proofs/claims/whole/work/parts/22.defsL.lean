abbrev ws_ou (o : Nat → Nat) (j : Nat → ClassId) (ou : Nat → Int64) : va_W := [(o 0, .inl (j 0, 1, .inr (.inl ou)))]
abbrev ty_ou (j : Nat → ClassId) : List (ClassId × FieldType) := [(j 0, .long)]
theorem sl_requirePlace_exc {p1 : Int32} {E : String} (h : sl_requirePlace p1 = .inr E) : E = xIO := by
  unfold sl_requirePlace at h
  by_cases c1 : p1 < 0
  · rw [if_pos c1] at h
    exact (Sum.inr.inj h).symm
  · rw [if_neg c1] at h
    by_cases c2 : p1 < 28
    · rw [if_pos c2] at h
      first | (cases h; done) | ((repeat' split at h) <;> cases h)
    · rw [if_neg c2] at h
      exact (Sum.inr.inj h).symm
theorem sl_requireArray_exc {p1 : Int32} {E : String} (h : sl_requireArray p1 = .inr E) : E = xIO := by
  unfold sl_requireArray at h
  by_cases c1 : p1 < 0
  · rw [if_pos c1] at h
    exact (Sum.inr.inj h).symm
  · rw [if_neg c1] at h
    by_cases c2 : p1 < 8
    · rw [if_pos c2] at h
      first | (cases h; done) | ((repeat' split at h) <;> cases h)
    · rw [if_neg c2] at h
      exact (Sum.inr.inj h).symm
theorem sl_requireReadable_exc {p1 : Int32} {E : String} (h : sl_requireReadable p1 = .inr E) : E = xIO := by
  unfold sl_requireReadable at h
  by_cases c1 : (iu p1 28) = 0
  · rw [if_pos c1] at h
    first | (cases h; done) | ((repeat' split at h) <;> cases h)
  · rw [if_neg c1] at h
    exact (Sum.inr.inj h).symm
theorem sl_addStep_exc {rd : Nat → Int64} {wr : Nat → Int64} {ay : Nat → Int32} {ia : Nat → Int32} {mo : Nat → Int32} {wo : Nat → Int32} {oi : Nat → Int32} {ns : Int32} {nf : Int32} {np : Int32} {p1 : Int64} {p2 : Int64} {p3 : Int32} {p4 : Int32} {E : String} (h : sl_addStep rd wr ay ia mo wo oi ns nf np p1 p2 p3 p4 = .inr E) : E = xIS := by
  unfold sl_addStep at h
  by_cases c1 : ns < 0
  · rw [if_pos c1] at h
    exact (Sum.inr.inj h).symm
  · rw [if_neg c1] at h
    by_cases c2 : ns < 48
    · rw [if_pos c2] at h
      by_cases c3 : (np + p4) ≤ 800
      · rw [if_pos c3] at h
        first | (cases h; done) | ((repeat' split at h) <;> cases h)
      · rw [if_neg c3] at h
        exact (Sum.inr.inj h).symm
    · rw [if_neg c2] at h
      exact (Sum.inr.inj h).symm
theorem sl_assign_exc {rd : Nat → Int64} {wr : Nat → Int64} {ay : Nat → Int32} {ia : Nat → Int32} {mo : Nat → Int32} {wo : Nat → Int32} {oi : Nat → Int32} {ns : Int32} {nf : Int32} {np : Int32} {p1 : Int32} {p2 : Int32} {E : String} (h : sl_assign rd wr ay ia mo wo oi ns nf np p1 p2 = .inr E) : E = xIS ∨ E = xIO := by
  unfold sl_assign at h
  rcases q1 : sl_requirePlace p1 with ⟨⟩ | E_1
  · rw [q1] at h
    (try dsimp only at h)
    rcases q2 : sl_requireReadable p2 with ⟨⟩ | E_5
    · rw [q2] at h
      (try dsimp only at h)
      rcases q3 : sl_addStep rd wr ay ia mo wo oi ns nf np (sl_readingAndWriting p2 p1) (jl 1 p1) (-1) (sl_costOf p2) with ⟨r_22, rd_22, wr_22, ay_22, ia_22, mo_22, wo_22, ns_22, np_22, sl_22, hs_22⟩ | E_22
      · rw [q3] at h
        (try dsimp only at h)
        first | (cases h; done) | ((repeat' split at h) <;> cases h)
      · rw [q3] at h
        (try dsimp only at h)
        have e9 := Sum.inr.inj h
        rw [← e9]
        exact Or.inl (sl_addStep_exc q3)
    · rw [q2] at h
      (try dsimp only at h)
      have e9 := Sum.inr.inj h
      rw [← e9]
      exact Or.inr (sl_requireReadable_exc q2)
  · rw [q1] at h
    (try dsimp only at h)
    have e9 := Sum.inr.inj h
    rw [← e9]
    exact Or.inr (sl_requirePlace_exc q1)
theorem sl_load_exc {rd : Nat → Int64} {wr : Nat → Int64} {ay : Nat → Int32} {ia : Nat → Int32} {mo : Nat → Int32} {wo : Nat → Int32} {oi : Nat → Int32} {ns : Int32} {nf : Int32} {np : Int32} {p1 : Int32} {p2 : Int32} {p3 : Int32} {E : String} (h : sl_load rd wr ay ia mo wo oi ns nf np p1 p2 p3 = .inr E) : E = xIS ∨ E = xIO := by
  unfold sl_load at h
  rcases q1 : sl_requirePlace p1 with ⟨⟩ | E_1
  · rw [q1] at h
    (try dsimp only at h)
    rcases q2 : sl_requireArray p2 with ⟨⟩ | E_5
    · rw [q2] at h
      (try dsimp only at h)
      rcases q3 : sl_requireReadable p3 with ⟨⟩ | E_9
      · rw [q3] at h
        (try dsimp only at h)
        rcases q4 : sl_addStep rd wr ay ia mo wo oi ns nf np (sl_readingAndWriting p3 p1) (jl 1 p1) p2 (sl_costOf p3) with ⟨r_26, rd_26, wr_26, ay_26, ia_26, mo_26, wo_26, ns_26, np_26, sl_26, hs_26⟩ | E_26
        · rw [q4] at h
          (try dsimp only at h)
          first | (cases h; done) | ((repeat' split at h) <;> cases h)
        · rw [q4] at h
          (try dsimp only at h)
          have e9 := Sum.inr.inj h
          rw [← e9]
          exact Or.inl (sl_addStep_exc q4)
      · rw [q3] at h
        (try dsimp only at h)
        have e9 := Sum.inr.inj h
        rw [← e9]
        exact Or.inr (sl_requireReadable_exc q3)
    · rw [q2] at h
      (try dsimp only at h)
      have e9 := Sum.inr.inj h
      rw [← e9]
      exact Or.inr (sl_requireArray_exc q2)
  · rw [q1] at h
    (try dsimp only at h)
    have e9 := Sum.inr.inj h
    rw [← e9]
    exact Or.inr (sl_requirePlace_exc q1)
theorem sl_store_exc {rd : Nat → Int64} {wr : Nat → Int64} {ay : Nat → Int32} {ia : Nat → Int32} {mo : Nat → Int32} {wo : Nat → Int32} {oi : Nat → Int32} {ns : Int32} {nf : Int32} {np : Int32} {p1 : Int32} {p2 : Int32} {p3 : Int32} {E : String} (h : sl_store rd wr ay ia mo wo oi ns nf np p1 p2 p3 = .inr E) : E = xIS ∨ E = xIO := by
  unfold sl_store at h
  rcases q1 : sl_requireArray p1 with ⟨⟩ | E_1
  · rw [q1] at h
    (try dsimp only at h)
    rcases q2 : sl_requireReadable p2 with ⟨⟩ | E_5
    · rw [q2] at h
      (try dsimp only at h)
      rcases q3 : sl_requireReadable p3 with ⟨⟩ | E_9
      · rw [q3] at h
        (try dsimp only at h)
        rcases q4 : sl_addStep rd wr ay ia mo wo oi ns nf np (sl_reading (p2 ||| p3)) 0 p1 ((sl_costOf p2) + (sl_costOf p3)) with ⟨r_30, rd_30, wr_30, ay_30, ia_30, mo_30, wo_30, ns_30, np_30, sl_30, hs_30⟩ | E_30
        · rw [q4] at h
          (try dsimp only at h)
          first | (cases h; done) | ((repeat' split at h) <;> cases h)
        · rw [q4] at h
          (try dsimp only at h)
          have e9 := Sum.inr.inj h
          rw [← e9]
          exact Or.inl (sl_addStep_exc q4)
      · rw [q3] at h
        (try dsimp only at h)
        have e9 := Sum.inr.inj h
        rw [← e9]
        exact Or.inr (sl_requireReadable_exc q3)
    · rw [q2] at h
      (try dsimp only at h)
      have e9 := Sum.inr.inj h
      rw [← e9]
      exact Or.inr (sl_requireReadable_exc q2)
  · rw [q1] at h
    (try dsimp only at h)
    have e9 := Sum.inr.inj h
    rw [← e9]
    exact Or.inr (sl_requireArray_exc q1)
theorem sl_valid_exc {rd : Nat → Int64} {wr : Nat → Int64} {ay : Nat → Int32} {ia : Nat → Int32} {mo : Nat → Int32} {wo : Nat → Int32} {oi : Nat → Int32} {ns : Int32} {nf : Int32} {np : Int32} {p1 : Int32} {E : String} (h : sl_valid rd wr ay ia mo wo oi ns nf np p1 = .inr E) : E = xIS ∨ E = xIO := by
  unfold sl_valid at h
  by_cases c1 : p1 < 0
  · rw [if_pos c1] at h
    exact Or.inr ((Sum.inr.inj h).symm)
  · rw [if_neg c1] at h
    by_cases c2 : p1 < 12
    · rw [if_pos c2] at h
      rcases q3 : sl_addStep rd wr ay ia mo wo oi ns nf np (sl_validitiesOf (1 <<< ((16 + p1) &&& 31))) (((1 <<< ((16 + p1) &&& 31)).toInt64) ||| (sl_validitiesOf (1 <<< ((16 + p1) &&& 31)))) (-1) 0 with ⟨r_41, rd_41, wr_41, ay_41, ia_41, mo_41, wo_41, ns_41, np_41, sl_41, hs_41⟩ | E_41
      · rw [q3] at h
        (try dsimp only at h)
        first | (cases h; done) | ((repeat' split at h) <;> cases h)
      · rw [q3] at h
        (try dsimp only at h)
        have e9 := Sum.inr.inj h
        rw [← e9]
        exact Or.inl (sl_addStep_exc q3)
    · rw [if_neg c2] at h
      exact Or.inr ((Sum.inr.inj h).symm)
theorem sl_drop_exc {rd : Nat → Int64} {wr : Nat → Int64} {ay : Nat → Int32} {ia : Nat → Int32} {mo : Nat → Int32} {wo : Nat → Int32} {oi : Nat → Int32} {ns : Int32} {nf : Int32} {np : Int32} {E : String} (h : sl_drop rd wr ay ia mo wo oi ns nf np = .inr E) : E = xIS := by
  unfold sl_drop at h
  rcases q1 : sl_addStep rd wr ay ia mo wo oi ns nf np 0 1099511627776 (-1) 0 with ⟨r_7, rd_7, wr_7, ay_7, ia_7, mo_7, wo_7, ns_7, np_7, sl_7, hs_7⟩ | E_7
  · rw [q1] at h
    (try dsimp only at h)
    first | (cases h; done) | ((repeat' split at h) <;> cases h)
  · rw [q1] at h
    (try dsimp only at h)
    have e9 := Sum.inr.inj h
    rw [← e9]
    exact sl_addStep_exc q1
theorem sl_open_exc {rd : Nat → Int64} {wr : Nat → Int64} {ay : Nat → Int32} {ia : Nat → Int32} {mo : Nat → Int32} {wo : Nat → Int32} {oi : Nat → Int32} {ns : Int32} {nf : Int32} {np : Int32} {p1 : Int32} {E : String} (h : sl_open rd wr ay ia mo wo oi ns nf np p1 = .inr E) : E = xIS ∨ E = xIO := by
  unfold sl_open at h
  rcases q1 : sl_requireReadable p1 with ⟨⟩ | E_1
  · rw [q1] at h
    (try dsimp only at h)
    by_cases c2 : nf < 0
    · rw [if_pos c2] at h
      exact Or.inl ((Sum.inr.inj h).symm)
    · rw [if_neg c2] at h
      by_cases c3 : nf < 8
      · rw [if_pos c3] at h
        rcases q4 : sl_addStep rd wr ay ia mo wo oi ns nf np (sl_reading p1) 0 (-1) (sl_costOf p1) with ⟨r_41, rd_41, wr_41, ay_41, ia_41, mo_41, wo_41, ns_41, np_41, sl_41, hs_41⟩ | E_41
        · rw [q4] at h
          (try dsimp only at h)
          first | (cases h; done) | ((repeat' split at h) <;> cases h)
        · rw [q4] at h
          (try dsimp only at h)
          have e9 := Sum.inr.inj h
          rw [← e9]
          exact Or.inl (sl_addStep_exc q4)
      · rw [if_neg c3] at h
        exact Or.inl ((Sum.inr.inj h).symm)
  · rw [q1] at h
    (try dsimp only at h)
    have e9 := Sum.inr.inj h
    rw [← e9]
    exact Or.inr (sl_requireReadable_exc q1)
theorem sl_close_exc {oi : Nat → Int32} {nf : Int32} {E : String} (h : sl_close oi nf = .inr E) : E = xIS := by
  unfold sl_close at h
  by_cases c1 : nf < 1
  · rw [if_pos c1] at h
    exact (Sum.inr.inj h).symm
  · rw [if_neg c1] at h
    by_cases c2 : nf ≤ 8
    · rw [if_pos c2] at h
      first | (cases h; done) | ((repeat' split at h) <;> cases h)
    · rw [if_neg c2] at h
      exact (Sum.inr.inj h).symm
theorem sl_apply_exc {rd : Nat → Int64} {wr : Nat → Int64} {ay : Nat → Int32} {ia : Nat → Int32} {mo : Nat → Int32} {wo : Nat → Int32} {oi : Nat → Int32} {ns : Int32} {nt : Int32} {nf : Int32} {np : Int32} {p1 : Int32} {p2 : Int32} {p3 : Int32} {E : String} (h : sl_apply rd wr ay ia mo wo oi ns nt nf np p1 p2 p3 = .inr E) : E = xIA ∨ E = xIS ∨ E = xIO := by
  unfold sl_apply at h
  rcases q1 : sl_requirePlace p3 with ⟨⟩ | E_1
  · rw [q1] at h
    (try dsimp only at h)
    rcases q2 : sl_requireReadable p1 with ⟨⟩ | E_5
    · rw [q2] at h
      (try dsimp only at h)
      by_cases c3 : p2 < 1
      · rw [if_pos c3] at h
        exact Or.inl ((Sum.inr.inj h).symm)
      · rw [if_neg c3] at h
        by_cases c4 : p2 ≤ 32
        · rw [if_pos c4] at h
          by_cases c5 : (ib_count p1) < 1
          · rw [if_pos c5] at h
            exact Or.inl ((Sum.inr.inj h).symm)
          · rw [if_neg c5] at h
            by_cases c6 : (ib_count p1) ≤ 4
            · rw [if_pos c6] at h
              by_cases c7 : nt < 8
              · rw [if_pos c7] at h
                rcases q8 : sl_addStep rd wr ay ia mo wo oi ns nf np (sl_readingAndWriting p1 p3) (jl 1 p3) (-1) ((sl_costOf p1) + (sl_costOf 0)) with ⟨r_99, rd_99, wr_99, ay_99, ia_99, mo_99, wo_99, ns_99, np_99, sl_99, hs_99⟩ | E_99
                · rw [q8] at h
                  (try dsimp only at h)
                  first | (cases h; done) | ((repeat' split at h) <;> cases h)
                · rw [q8] at h
                  (try dsimp only at h)
                  have e9 := Sum.inr.inj h
                  rw [← e9]
                  exact Or.inr (Or.inl (sl_addStep_exc q8))
              · rw [if_neg c7] at h
                exact Or.inr (Or.inl ((Sum.inr.inj h).symm))
            · rw [if_neg c6] at h
              exact Or.inl ((Sum.inr.inj h).symm)
        · rw [if_neg c4] at h
          exact Or.inl ((Sum.inr.inj h).symm)
    · rw [q2] at h
      (try dsimp only at h)
      have e9 := Sum.inr.inj h
      rw [← e9]
      exact Or.inr (Or.inr (sl_requireReadable_exc q2))
  · rw [q1] at h
    (try dsimp only at h)
    have e9 := Sum.inr.inj h
    rw [← e9]
    exact Or.inr (Or.inr (sl_requirePlace_exc q1))
theorem sl_lay_exc {rd : Nat → Int64} {wr : Nat → Int64} {ay : Nat → Int32} {ia : Nat → Int32} {mo : Nat → Int32} {wo : Nat → Int32} {so : Nat → Int32} {si : Nat → Int32} {mi : Nat → Int32} {wi : Nat → Int32} {ns : Int32} {p1 : Int32} {p2 : Int32} {p3 : Int32} {E : String} (h : sl_lay rd wr ay ia mo wo so si mi wi ns p1 p2 p3 = .inr E) : E = xIA := by
  unfold sl_lay at h
  by_cases c1 : p1 < 1
  · rw [if_pos c1] at h
    exact (Sum.inr.inj h).symm
  · rw [if_neg c1] at h
    by_cases c2 : p1 ≤ 12
    · rw [if_pos c2] at h
      by_cases c3 : p2 < 0
      · rw [if_pos c3] at h
        exact (Sum.inr.inj h).symm
      · rw [if_neg c3] at h
        by_cases c4 : 0 ≤ p3
        · rw [if_pos c4] at h
          first | (cases h; done) | ((repeat' split at h) <;> cases h)
        · rw [if_neg c4] at h
          exact (Sum.inr.inj h).symm
    · rw [if_neg c2] at h
      exact (Sum.inr.inj h).symm
def la_assign (rd wr : Nat → Int64) (ay ia mo wo oi : Nat → Int32) (ns nf np sl hs : Int32) (ou : Nat → Int64) (p1 p2 : Int32) : Int32 × (Nat → Int64) × (Nat → Int64) × (Nat → Int32) × (Nat → Int32) × (Nat → Int32) × (Nat → Int32) × Int32 × Int32 × Int32 × Int32 × (Nat → Int64) :=
  match sl_assign rd wr ay ia mo wo oi ns nf np p1 p2 with
  | .inl (r_5, rd_5, wr_5, ay_5, ia_5, mo_5, wo_5, ns_5, np_5, sl_5, hs_5) =>
    (0, rd_5, wr_5, ay_5, ia_5, mo_5, wo_5, ns_5, np_5, sl_5, hs_5, vp_updL ou 0 r_5.toInt64)
  | .inr E_5 =>
    if E_5 = xIS then
      (2, rd, wr, ay, ia, mo, wo, ns, np, sl, hs, ou)
    else
      (1, rd, wr, ay, ia, mo, wo, ns, np, sl, hs, ou)
def la_load (rd wr : Nat → Int64) (ay ia mo wo oi : Nat → Int32) (ns nf np sl hs : Int32) (ou : Nat → Int64) (p1 p2 p3 : Int32) : Int32 × (Nat → Int64) × (Nat → Int64) × (Nat → Int32) × (Nat → Int32) × (Nat → Int32) × (Nat → Int32) × Int32 × Int32 × Int32 × Int32 × (Nat → Int64) :=
  match sl_load rd wr ay ia mo wo oi ns nf np p1 p2 p3 with
  | .inl (r_7, rd_7, wr_7, ay_7, ia_7, mo_7, wo_7, ns_7, np_7, sl_7, hs_7) =>
    (0, rd_7, wr_7, ay_7, ia_7, mo_7, wo_7, ns_7, np_7, sl_7, hs_7, vp_updL ou 0 r_7.toInt64)
  | .inr E_7 =>
    if E_7 = xIS then
      (2, rd, wr, ay, ia, mo, wo, ns, np, sl, hs, ou)
    else
      (1, rd, wr, ay, ia, mo, wo, ns, np, sl, hs, ou)
def la_store (rd wr : Nat → Int64) (ay ia mo wo oi : Nat → Int32) (ns nf np sl hs : Int32) (ou : Nat → Int64) (p1 p2 p3 : Int32) : Int32 × (Nat → Int64) × (Nat → Int64) × (Nat → Int32) × (Nat → Int32) × (Nat → Int32) × (Nat → Int32) × Int32 × Int32 × Int32 × Int32 × (Nat → Int64) :=
  match sl_store rd wr ay ia mo wo oi ns nf np p1 p2 p3 with
  | .inl (r_7, rd_7, wr_7, ay_7, ia_7, mo_7, wo_7, ns_7, np_7, sl_7, hs_7) =>
    (0, rd_7, wr_7, ay_7, ia_7, mo_7, wo_7, ns_7, np_7, sl_7, hs_7, vp_updL ou 0 r_7.toInt64)
  | .inr E_7 =>
    if E_7 = xIS then
      (2, rd, wr, ay, ia, mo, wo, ns, np, sl, hs, ou)
    else
      (1, rd, wr, ay, ia, mo, wo, ns, np, sl, hs, ou)
def la_valid (rd wr : Nat → Int64) (ay ia mo wo oi : Nat → Int32) (ns nf np sl hs : Int32) (ou : Nat → Int64) (p1 : Int32) : Int32 × (Nat → Int64) × (Nat → Int64) × (Nat → Int32) × (Nat → Int32) × (Nat → Int32) × (Nat → Int32) × Int32 × Int32 × Int32 × Int32 × (Nat → Int64) :=
  match sl_valid rd wr ay ia mo wo oi ns nf np p1 with
  | .inl (r_5, rd_5, wr_5, ay_5, ia_5, mo_5, wo_5, ns_5, np_5, sl_5, hs_5) =>
    (0, rd_5, wr_5, ay_5, ia_5, mo_5, wo_5, ns_5, np_5, sl_5, hs_5, vp_updL ou 0 r_5.toInt64)
  | .inr E_5 =>
    if E_5 = xIS then
      (2, rd, wr, ay, ia, mo, wo, ns, np, sl, hs, ou)
    else
      (1, rd, wr, ay, ia, mo, wo, ns, np, sl, hs, ou)
def la_drop (rd wr : Nat → Int64) (ay ia mo wo oi : Nat → Int32) (ns nf np sl hs : Int32) (ou : Nat → Int64) : Int32 × (Nat → Int64) × (Nat → Int64) × (Nat → Int32) × (Nat → Int32) × (Nat → Int32) × (Nat → Int32) × Int32 × Int32 × Int32 × Int32 × (Nat → Int64) :=
  match sl_drop rd wr ay ia mo wo oi ns nf np with
  | .inl (r_3, rd_3, wr_3, ay_3, ia_3, mo_3, wo_3, ns_3, np_3, sl_3, hs_3) =>
    (0, rd_3, wr_3, ay_3, ia_3, mo_3, wo_3, ns_3, np_3, sl_3, hs_3, vp_updL ou 0 r_3.toInt64)
  | .inr E_3 =>
    (1, rd, wr, ay, ia, mo, wo, ns, np, sl, hs, ou)
def la_open (rd wr : Nat → Int64) (ay ia mo wo oi : Nat → Int32) (ns nf np sl hs : Int32) (ou : Nat → Int64) (p1 : Int32) : Int32 × (Nat → Int64) × (Nat → Int64) × (Nat → Int32) × (Nat → Int32) × (Nat → Int32) × (Nat → Int32) × (Nat → Int32) × Int32 × Int32 × Int32 × Int32 × Int32 × (Nat → Int64) :=
  match sl_open rd wr ay ia mo wo oi ns nf np p1 with
  | .inl (r_4, rd_4, wr_4, ay_4, ia_4, mo_4, wo_4, oi_4, ns_4, nf_4, np_4, sl_4, hs_4) =>
    (0, rd_4, wr_4, ay_4, ia_4, mo_4, wo_4, oi_4, ns_4, nf_4, np_4, sl_4, hs_4, vp_updL ou 0 r_4.toInt64)
  | .inr E_4 =>
    if E_4 = xIS then
      (2, rd, wr, ay, ia, mo, wo, oi, ns, nf, np, sl, hs, ou)
    else
      (1, rd, wr, ay, ia, mo, wo, oi, ns, nf, np, sl, hs, ou)
def la_close (oi : Nat → Int32) (nf : Int32) (ou : Nat → Int64) : Int32 × Int32 × (Nat → Int64) :=
  match sl_close oi nf with
  | .inl (r_3, nf_3) =>
    (0, nf_3, vp_updL ou 0 r_3.toInt64)
  | .inr E_3 =>
    (1, nf, ou)
def la_apply (rd wr : Nat → Int64) (ay ia mo wo oi : Nat → Int32) (ns nt nf np sl hs : Int32) (ou : Nat → Int64) (p1 p2 p3 : Int32) : Int32 × (Nat → Int64) × (Nat → Int64) × (Nat → Int32) × (Nat → Int32) × (Nat → Int32) × (Nat → Int32) × Int32 × Int32 × Int32 × Int32 × Int32 × (Nat → Int64) :=
  match sl_apply rd wr ay ia mo wo oi ns nt nf np p1 p2 p3 with
  | .inl (r_7, rd_7, wr_7, ay_7, ia_7, mo_7, wo_7, ns_7, nt_7, np_7, sl_7, hs_7) =>
    (0, rd_7, wr_7, ay_7, ia_7, mo_7, wo_7, ns_7, nt_7, np_7, sl_7, hs_7, vp_updL ou 0 r_7.toInt64)
  | .inr E_7 =>
    if E_7 = xIA then
      (2, rd, wr, ay, ia, mo, wo, ns, nt, np, sl, hs, ou)
    else
      if E_7 = xIS then
        (3, rd, wr, ay, ia, mo, wo, ns, nt, np, sl, hs, ou)
      else
        (1, rd, wr, ay, ia, mo, wo, ns, nt, np, sl, hs, ou)
def la_lay (rd wr : Nat → Int64) (ay ia mo wo so si mi wi : Nat → Int32) (ns sl hs : Int32) (ou : Nat → Int64) (p1 p2 p3 : Int32) : Int32 × (Nat → Int32) × (Nat → Int32) × (Nat → Int32) × (Nat → Int32) × Int32 × Int32 × (Nat → Int64) :=
  match sl_lay rd wr ay ia mo wo so si mi wi ns p1 p2 p3 with
  | .inl (r_7, so_7, si_7, mi_7, wi_7, sl_7, hs_7) =>
    (0, so_7, si_7, mi_7, wi_7, sl_7, hs_7, vp_updL ou 0 r_7.toInt64)
  | .inr E_7 =>
    (1, so, si, mi, wi, sl, hs, ou)
