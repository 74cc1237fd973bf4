/-! laying: what the class's search and the reference's have in common -/
theorem lc_0 {x : Int64} : lg_cmp x 0 = 0 ↔ x = 0 := by
  unfold lg_cmp
  constructor
  · intro h
    by_cases c1 : x > 0
    · rw [if_pos c1] at h; exact absurd h (by decide)
    · rw [if_neg c1] at h
      by_cases c2 : x = 0
      · exact c2
      · rw [if_neg c2] at h; exact absurd h (by decide)
  · intro h; subst h; decide
theorem bj_z {x : Int64} : x = 0 ↔ ∀ k, bj x k = false := by
  constructor
  · intro h; subst h; exact bj_0
  · intro h
    apply Int64.toBitVec_inj.mp
    apply BitVec.eq_of_getLsbD_eq
    intro i hi
    exact (h i).trans (bj_0 i).symm
/-- step i writes what step j reads or writes -/
def sd (rd wr : Nat → Int64) (i j : Nat) : Prop := ∃ q, bj (wr i) q = true ∧ (bj (rd j) q = true ∨ bj (wr j) q = true)
/-- step i reads what step j writes -/
def wd (rd wr : Nat → Int64) (i j : Nat) : Prop := ∃ q, bj (rd i) q = true ∧ bj (wr j) q = true
theorem sd_iff {rd wr : Nat → Int64} {i j : Nat} : lg_cmp (wr i &&& (rd j ||| wr j)) 0 = 0 ↔ ¬ sd rd wr i j := by
  rw [lc_0, bj_z]
  constructor
  · rintro h ⟨q, h1, h2⟩
    have := h q
    rw [bj_and, bj_or, h1, Bool.true_and, Bool.or_eq_false_iff] at this
    rcases h2 with h2 | h2
    · rw [h2] at this; exact absurd this.1 (by decide)
    · rw [h2] at this; exact absurd this.2 (by decide)
  · intro h q
    rw [bj_and, bj_or]
    cases h1 : bj (wr i) q with
    | false => rfl
    | true =>
      cases h2 : bj (rd j) q with
      | true => exact absurd ⟨q, h1, Or.inl h2⟩ h
      | false =>
        cases h3 : bj (wr j) q with
        | true => exact absurd ⟨q, h1, Or.inr h3⟩ h
        | false => rfl
theorem wd_iff {rd wr : Nat → Int64} {i j : Nat} : lg_cmp (rd i &&& wr j) 0 = 0 ↔ ¬ wd rd wr i j := by
  rw [lc_0, bj_z]
  constructor
  · rintro h ⟨q, h1, h2⟩
    have := h q
    rw [bj_and, h1, h2] at this
    exact absurd this (by decide)
  · intro h q
    rw [bj_and]
    cases h1 : bj (rd i) q with
    | false => rfl
    | true =>
      cases h2 : bj (wr j) q with
      | true => exact absurd ⟨q, h1, h2⟩ h
      | false => rfl
def fl (b : Bool) : Int32 := if b then 1 else 0
theorem mb_s {uR uW : Nat → Int32} {i j k : Nat} (hi : i < 48) (hj : j < 48) (hk : k < 41) (N : Nat) (b4 b5 : Bool) :
    sm_mayBe_L31 uR uW (nI j) (nI i) (N + 1) (fl b4) (fl b5) (nI k) = sm_mayBe_L31 uR uW (nI j) (nI i) N (fl (b4 || (!decide (uW (41 * i + k) = 0) && (!decide (uR (41 * j + k) = 0) || !decide (uW (41 * j + k) = 0))))) (fl (b5 || (!decide (uR (41 * i + k) = 0) && !decide (uW (41 * j + k) = 0)))) (nI (k + 1)) := by
  rw [sm_mayBe_L31_s, if_neg (show ¬ (41 : Int32) ≤ nI k from nI_ge (b := 41) (by omega) (by omega)), th_N hi (by omega), th_N hj (by omega), nI_1]
  generalize uW (41 * i + k) = a
  generalize uR (41 * i + k) = b
  generalize uW (41 * j + k) = c
  generalize uR (41 * j + k) = d
  by_cases ha : a = 0 <;> by_cases hb : b = 0 <;> by_cases hc : c = 0 <;> by_cases hd : d = 0 <;> cases b4 <;> cases b5 <;> simp [fl, ha, hb, hc, hd]
theorem mb_L {uR uW : Nat → Int32} {i j : Nat} (hi : i < 48) (hj : j < 48) : ∀ (m k N : Nat) (b4 b5 : Bool), m + k = 41 → m < N → ∃ B4 B5 : Bool, sm_mayBe_L31 uR uW (nI j) (nI i) N (fl b4) (fl b5) (nI k) = (fl B4, fl B5) ∧
    (B4 = true ↔ b4 = true ∨ ∃ q, k ≤ q ∧ q < 41 ∧ (uW (41 * i + q) ≠ 0 ∧ (uR (41 * j + q) ≠ 0 ∨ uW (41 * j + q) ≠ 0))) ∧
    (B5 = true ↔ b5 = true ∨ ∃ q, k ≤ q ∧ q < 41 ∧ (uR (41 * i + q) ≠ 0 ∧ uW (41 * j + q) ≠ 0)) := by
  intro m
  induction m with
  | zero =>
    intro k N b4 b5 h hN
    obtain ⟨N, rfl⟩ : ∃ q, N = q + 1 := ⟨N - 1, by omega⟩
    rw [sm_mayBe_L31_s, if_pos (show (41 : Int32) ≤ nI k from nI_le (a := 41) (by omega) (by omega))]
    refine ⟨b4, b5, rfl, ⟨Or.inl, ?_⟩, ⟨Or.inl, ?_⟩⟩
    · rintro (h1 | ⟨q, h1, h2, -⟩)
      · exact h1
      · omega
    · rintro (h1 | ⟨q, h1, h2, -⟩)
      · exact h1
      · omega
  | succ m ih =>
    intro k N b4 b5 h hN
    obtain ⟨N, rfl⟩ : ∃ q, N = q + 1 := ⟨N - 1, by omega⟩
    rw [mb_s hi hj (by omega)]
    obtain ⟨B4, B5, e, h4, h5⟩ := ih (k + 1) N (b4 || (!decide (uW (41 * i + k) = 0) && (!decide (uR (41 * j + k) = 0) || !decide (uW (41 * j + k) = 0)))) (b5 || (!decide (uR (41 * i + k) = 0) && !decide (uW (41 * j + k) = 0))) (by omega) (by omega)
    refine ⟨B4, B5, e, h4.trans ?_, h5.trans ?_⟩
    · simp only [Bool.or_eq_true, Bool.and_eq_true, Bool.not_eq_true', decide_eq_false_iff_not]
      constructor
      · rintro ((h1 | h1) | ⟨q, h1, h2, h3⟩)
        · exact Or.inl h1
        · exact Or.inr ⟨k, Nat.le_refl _, by omega, h1⟩
        · exact Or.inr ⟨q, by omega, h2, h3⟩
      · rintro (h1 | ⟨q, h1, h2, h3⟩)
        · exact Or.inl (Or.inl h1)
        · by_cases c : q = k
          · rw [c] at h3; exact Or.inl (Or.inr h3)
          · exact Or.inr ⟨q, by omega, h2, h3⟩
    · simp only [Bool.or_eq_true, Bool.and_eq_true, Bool.not_eq_true', decide_eq_false_iff_not]
      constructor
      · rintro ((h1 | h1) | ⟨q, h1, h2, h3⟩)
        · exact Or.inl h1
        · exact Or.inr ⟨k, Nat.le_refl _, by omega, h1⟩
        · exact Or.inr ⟨q, by omega, h2, h3⟩
      · rintro (h1 | ⟨q, h1, h2, h3⟩)
        · exact Or.inl (Or.inl h1)
        · by_cases c : q = k
          · rw [c] at h3; exact Or.inl (Or.inr h3)
          · exact Or.inr ⟨q, by omega, h2, h3⟩
section
variable {rd wr : Nat → Int64} {ay ia mo wo so oi si mi wi : Nat → Int32} {uR uW uA uM uX uF uI uS : Nat → Int32} {n : Nat}
theorem bi_n0 {x : Int32} {b : Bool} (h : x = if b then 1 else 0) : x ≠ 0 ↔ b = true := by
  subst h
  cases b <;> decide
theorem mb_D (hS : RelS rd wr ay mo wo n uR uW uA uM uX) (hB : RelB rd wr n) (hn : n ≤ 48) {i j : Nat} (hi : i < n) (hj : j < n) (b4 : Bool) : ∃ B4 B5 : Bool, sm_mayBe_L31 uR uW (nI j) (nI i) 42 (fl b4) 0 0 = (fl B4, fl B5) ∧ (B4 = true ↔ b4 = true ∨ sd rd wr i j) ∧ (B5 = true ↔ wd rd wr i j) := by
  obtain ⟨B4, B5, e, h4, h5⟩ := mb_L (uR := uR) (uW := uW) (i := i) (j := j) (by omega) (by omega) 41 0 42 b4 false (by decide) (by decide)
  have rR := fun k hk => (hS i hi).2.2.2.2.2.2 k hk
  have rJ := fun k hk => (hS j hj).2.2.2.2.2.2 k hk
  refine ⟨B4, B5, e, h4.trans ?_, h5.trans ?_⟩
  · constructor
    · rintro (h | ⟨q, -, h2, h3, h4⟩)
      · exact Or.inl h
      · refine Or.inr ⟨q, (bi_n0 (rR q h2).2).mp h3, ?_⟩
        rcases h4 with h4 | h4
        · exact Or.inl ((bi_n0 (rJ q h2).1).mp h4)
        · exact Or.inr ((bi_n0 (rJ q h2).2).mp h4)
    · rintro (h | ⟨q, h3, h4⟩)
      · exact Or.inl h
      · by_cases h2 : q < 41
        · refine Or.inr ⟨q, by omega, h2, (bi_n0 (rR q h2).2).mpr h3, ?_⟩
          rcases h4 with h4 | h4
          · exact Or.inl ((bi_n0 (rJ q h2).1).mpr h4)
          · exact Or.inr ((bi_n0 (rJ q h2).2).mpr h4)
        · rw [(hB i hi q (by omega)).2] at h3
          exact absurd h3 (by decide)
  · constructor
    · rintro (h | ⟨q, -, h2, h3, h4⟩)
      · exact absurd h (by decide)
      · exact ⟨q, (bi_n0 (rR q h2).1).mp h3, (bi_n0 (rJ q h2).2).mp h4⟩
    · rintro ⟨q, h3, h4⟩
      by_cases h2 : q < 41
      · exact Or.inr ⟨q, by omega, h2, (bi_n0 (rR q h2).1).mpr h3, (bi_n0 (rJ q h2).2).mpr h4⟩
      · rw [(hB i hi q (by omega)).1] at h3
        exact absurd h3 (by decide)
theorem mb_T (B4 B5 : Bool) (s u a b : Int32) : (¬ (if fl B4 = 0 then (if fl B5 = 0 then (if a = (-1) then (1 : Int32) else if a = b then (if s = u then 1 else 0) else 1) else (if s < u then 0 else (if a = (-1) then 1 else if a = b then (if s = u then 1 else 0) else 1))) else (if s ≤ u then 0 else (if a = (-1) then 1 else if a = b then (if s = u then 1 else 0) else 1))) = 0) ↔
    (B4 = true → u.toInt < s.toInt) ∧ (B5 = true → u.toInt ≤ s.toInt) ∧ (a ≠ -1 → a = b → s = u) := by
  have hT : (¬ (if a = (-1) then (1 : Int32) else if a = b then (if s = u then 1 else 0) else 1) = 0) ↔ (a ≠ -1 → a = b → s = u) := by
    by_cases c1 : a = -1
    · rw [if_pos c1]
      exact ⟨fun _ h => absurd c1 h, fun _ => by decide⟩
    · rw [if_neg c1]
      by_cases c2 : a = b
      · rw [if_pos c2]
        by_cases c3 : s = u
        · rw [if_pos c3]; exact ⟨fun _ _ _ => c3, fun _ => by decide⟩
        · rw [if_neg c3]; exact ⟨fun h => absurd rfl h, fun h => absurd (h c1 c2) c3⟩
      · rw [if_neg c2]; exact ⟨fun _ _ h => absurd h c2, fun _ => by decide⟩
  have f1 : ¬ fl true = 0 := by decide
  have f0 : fl false = 0 := by decide
  cases B4 with
  | true =>
    rw [if_neg f1]
    by_cases c : s ≤ u
    · rw [if_pos c]
      rw [i_le] at c
      exact ⟨fun h => absurd rfl h, fun h => absurd (h.1 rfl) (by omega)⟩
    · rw [if_neg c, hT]
      rw [i_le] at c
      exact ⟨fun h => ⟨fun _ => by omega, fun _ => by omega, h⟩, fun h => h.2.2⟩
  | false =>
    rw [if_pos f0]
    cases B5 with
    | true =>
      rw [if_neg f1]
      by_cases c : s < u
      · rw [if_pos c]
        rw [i_lt] at c
        exact ⟨fun h => absurd rfl h, fun h => absurd (h.2.1 rfl) (by omega)⟩
      · rw [if_neg c, hT]
        rw [i_lt] at c
        exact ⟨fun h => ⟨fun q => absurd q (by decide), fun _ => by omega, h⟩, fun h => h.2.2⟩
    | false =>
      rw [if_pos f0, hT]
      exact ⟨fun h => ⟨fun q => absurd q (by decide), fun q => absurd q (by decide), h⟩, fun h => h.2.2⟩
theorem mb_N (hS : RelS rd wr ay mo wo n uR uW uA uM uX) (hB : RelB rd wr n) (hn : n ≤ 48) {i j : Nat} (hi : i < n) (hj : j < n) (s : Int32) : (¬ sm_mayBe uR uW uA uF uI uS (nI j) (nI i) s = 0) ↔
    ((sd rd wr i j ∨ (¬ uF i = 0 ∧ ¬ sm_isIn uI (nI j) (nI i) = 0)) → (uS i).toInt < s.toInt) ∧ (wd rd wr i j → (uS i).toInt ≤ s.toInt) ∧ (uA i ≠ -1 → uA i = uA j → s = uS i) := by
  unfold sm_mayBe
  rw [nI_clamp (by omega), nI_clamp (by omega)]
  have key : ∀ b4 : Bool, (¬ (match sm_mayBe_L31 uR uW (nI j) (nI i) 42 (fl b4) 0 0 with
    | (x4_o31, x5_o31) => if x4_o31 = 0 then (if x5_o31 = 0 then (if uA i = (-1) then (1 : Int32) else if uA i = uA j then (if s = uS i then 1 else 0) else 1) else (if s < uS i then 0 else (if uA i = (-1) then 1 else if uA i = uA j then (if s = uS i then 1 else 0) else 1))) else (if s ≤ uS i then 0 else (if uA i = (-1) then 1 else if uA i = uA j then (if s = uS i then 1 else 0) else 1))) = 0) ↔
    ((b4 = true ∨ sd rd wr i j) → (uS i).toInt < s.toInt) ∧ (wd rd wr i j → (uS i).toInt ≤ s.toInt) ∧ (uA i ≠ -1 → uA i = uA j → s = uS i) := by
    intro b4
    obtain ⟨B4, B5, e, h4, h5⟩ := mb_D hS hB hn hi hj b4
    rw [e]
    dsimp only
    rw [mb_T, h4, h5]
  by_cases c1 : uF i = 0
  · rw [if_pos c1]
    refine (key false).trans ?_
    constructor
    · rintro ⟨h1, h2⟩
      refine ⟨?_, h2⟩
      rintro (h | ⟨h, -⟩)
      · exact h1 (Or.inr h)
      · exact absurd c1 h
    · rintro ⟨h1, h2⟩
      refine ⟨?_, h2⟩
      rintro (h | h)
      · exact absurd h (by decide)
      · exact h1 (Or.inl h)
  · rw [if_neg c1]
    by_cases c2 : sm_isIn uI (nI j) (nI i) = 0
    · rw [if_pos c2]
      refine (key false).trans ?_
      constructor
      · rintro ⟨h1, h2⟩
        refine ⟨?_, h2⟩
        rintro (h | ⟨-, h⟩)
        · exact h1 (Or.inr h)
        · exact absurd c2 h
      · rintro ⟨h1, h2⟩
        refine ⟨?_, h2⟩
        rintro (h | h)
        · exact absurd h (by decide)
        · exact h1 (Or.inl h)
    · rw [if_neg c2]
      refine (key true).trans ?_
      constructor
      · rintro ⟨h1, h2⟩
        exact ⟨fun _ => h1 (Or.inl rfl), h2⟩
      · rintro ⟨h1, h2⟩
        exact ⟨fun _ => h1 (Or.inr ⟨c1, c2⟩), h2⟩
/-! the class's lower bound -/
theorem mx_le {x y : Int32} {z : Int} : (if x < y then y else x).toInt ≤ z ↔ x.toInt ≤ z ∧ y.toInt ≤ z := by
  by_cases c : x < y
  · rw [if_pos c]; rw [i_lt] at c; omega
  · rw [if_neg c]; rw [i_lt] at c; omega
theorem es_L {j : Nat} (hj : j < 48) (hso : ∀ i, i < j → 0 ≤ (so i).toInt ∧ (so i).toInt < 12) (z : Int) : ∀ (m i N : Nat) (x3 : Int32), m + i = j → m < N → ((sl_earliestStage_L63 rd wr so (nI j) (wr j) (rd j ||| wr j) N x3 (nI i)).toInt ≤ z ↔ x3.toInt ≤ z ∧ ∀ q, i ≤ q → q < j → (sd rd wr q j → (so q).toInt + 1 ≤ z) ∧ (wd rd wr q j → (so q).toInt ≤ z)) := by
  intro m
  induction m with
  | zero =>
    intro i N x3 h hN
    obtain ⟨N, rfl⟩ : ∃ q, N = q + 1 := ⟨N - 1, by omega⟩
    rw [sl_earliestStage_L63_s, if_pos (show nI j ≤ nI i from nI_le (by omega) (by omega))]
    exact ⟨fun h1 => ⟨h1, fun q h2 h3 => by omega⟩, fun h1 => h1.1⟩
  | succ m ih =>
    intro i N x3 h hN
    obtain ⟨N, rfl⟩ : ∃ q, N = q + 1 := ⟨N - 1, by omega⟩
    rw [sl_earliestStage_L63_s, if_neg (show ¬ nI j ≤ nI i from nI_ge (by omega) (by omega)), nI_clamp (by omega), nI_1]
    have hb := hso i (by omega)
    have e1 : (so i + 1).toInt = (so i).toInt + 1 := i_p1 (by omega)
    by_cases c1 : lg_cmp (wr i &&& (rd j ||| wr j)) 0 = 0
    · rw [if_pos c1]
      rw [sd_iff] at c1
      by_cases c2 : lg_cmp (rd i &&& wr j) 0 = 0
      · rw [if_pos c2, ih (i + 1) N x3 (by omega) (by omega)]
        rw [wd_iff] at c2
        constructor
        · rintro ⟨h1, h2⟩
          refine ⟨h1, fun q h3 h4 => ?_⟩
          by_cases c : q = i
          · rw [c]; exact ⟨fun h => absurd h c1, fun h => absurd h c2⟩
          · exact h2 q (by omega) h4
        · rintro ⟨h1, h2⟩
          exact ⟨h1, fun q h3 h4 => h2 q (by omega) h4⟩
      · rw [if_neg c2, ih (i + 1) N _ (by omega) (by omega), mx_le]
        rw [wd_iff, Classical.not_not] at c2
        constructor
        · rintro ⟨⟨h1, h0⟩, h2⟩
          refine ⟨h1, fun q h3 h4 => ?_⟩
          by_cases c : q = i
          · rw [c]; exact ⟨fun h => absurd h c1, fun _ => h0⟩
          · exact h2 q (by omega) h4
        · rintro ⟨h1, h2⟩
          exact ⟨⟨h1, (h2 i (Nat.le_refl _) (by omega)).2 c2⟩, fun q h3 h4 => h2 q (by omega) h4⟩
    · rw [if_neg c1, ih (i + 1) N _ (by omega) (by omega), mx_le, e1]
      rw [sd_iff, Classical.not_not] at c1
      constructor
      · rintro ⟨⟨h1, h0⟩, h2⟩
        refine ⟨h1, fun q h3 h4 => ?_⟩
        by_cases c : q = i
        · rw [c]; exact ⟨fun _ => h0, fun _ => by omega⟩
        · exact h2 q (by omega) h4
      · rintro ⟨h1, h2⟩
        exact ⟨⟨h1, (h2 i (Nat.le_refl _) (by omega)).1 c1⟩, fun q h3 h4 => h2 q (by omega) h4⟩
theorem es_N {j : Nat} (hj : j < 48) (hso : ∀ i, i < j → 0 ≤ (so i).toInt ∧ (so i).toInt < 12) (hia : (ia j).toInt < j) (z : Int) : (sl_earliestStage rd wr ia so (nI j)).toInt ≤ z ↔ 0 ≤ z ∧ (0 ≤ (ia j).toInt → (so (ia j).toNatClampNeg).toInt + 1 ≤ z) ∧ ∀ q, q < j → (sd rd wr q j → (so q).toInt + 1 ≤ z) ∧ (wd rd wr q j → (so q).toInt ≤ z) := by
  unfold sl_earliestStage
  rw [if_neg (nI_pos (by omega)), if_pos (show nI j < 48 from nI_lt (b := 48) hj (by decide)), nI_clamp (by omega)]
  have k := fun x3 => es_L (rd := rd) (wr := wr) hj hso z j 0 49 x3 (by omega) (by omega)
  rw [nI_0] at k
  dsimp only
  by_cases c : ia j < 0
  · rw [if_pos c, k, i_0]
    rw [i_lt, i_0] at c
    constructor
    · rintro ⟨h1, h2⟩
      exact ⟨h1, fun h => by omega, fun q hq => h2 q (by omega) hq⟩
    · rintro ⟨h1, -, h2⟩
      exact ⟨h1, fun q _ hq => h2 q hq⟩
  · have h0 := nn_of c
    have hc : ¬ nI j ≤ ia j := by rw [i_le, nI_toInt (by omega)]; omega
    have hq : (ia j).toNatClampNeg < j := by
      show (ia j).toInt.toNat < j
      omega
    have hb := hso _ hq
    rw [if_neg c, if_neg hc, k, i_p1 (by omega)]
    constructor
    · rintro ⟨h1, h2⟩
      exact ⟨by omega, fun _ => h1, fun q hq => h2 q (by omega) hq⟩
    · rintro ⟨h1, h3, h2⟩
      exact ⟨h3 h0, fun q _ hq => h2 q hq⟩
theorem sa_L {j : Nat} (hj : j < 48) : ∀ (m i N : Nat), m + i = j → m < N → (sl_stageOfSharedArray_L24 ay so (nI j) N (nI i) = .inl () ∧ ∀ q, i ≤ q → q < j → ¬ ay q = ay j) ∨ ∃ q, q < j ∧ ay q = ay j ∧ sl_stageOfSharedArray_L24 ay so (nI j) N (nI i) = .inr (so q) := by
  intro m
  induction m with
  | zero =>
    intro i N h hN
    obtain ⟨N, rfl⟩ : ∃ q, N = q + 1 := ⟨N - 1, by omega⟩
    rw [sl_stageOfSharedArray_L24_s, if_pos (show nI j ≤ nI i from nI_le (by omega) (by omega))]
    exact Or.inl ⟨rfl, fun q h1 h2 => by omega⟩
  | succ m ih =>
    intro i N h hN
    obtain ⟨N, rfl⟩ : ∃ q, N = q + 1 := ⟨N - 1, by omega⟩
    rw [sl_stageOfSharedArray_L24_s, if_neg (show ¬ nI j ≤ nI i from nI_ge (by omega) (by omega)), nI_clamp (by omega), nI_clamp (by omega), nI_1]
    by_cases c : ay i = ay j
    · rw [if_pos c]
      exact Or.inr ⟨i, by omega, c, rfl⟩
    · rw [if_neg c]
      rcases ih (i + 1) N (by omega) (by omega) with ⟨h1, h2⟩ | h1
      · refine Or.inl ⟨h1, fun q h3 h4 => ?_⟩
        by_cases cq : q = i
        · rw [cq]; exact c
        · exact h2 q (by omega) h4
      · exact Or.inr h1
theorem sa_N {j : Nat} (hj : j < 48) : (sl_stageOfSharedArray ay so (nI j) = (-1) ∧ ∀ q, q < j → ay j ≠ -1 → ¬ ay q = ay j) ∨ ∃ q, q < j ∧ ay j ≠ -1 ∧ ay q = ay j ∧ sl_stageOfSharedArray ay so (nI j) = so q := by
  unfold sl_stageOfSharedArray
  rw [if_neg (nI_pos (by omega)), if_neg (show ¬ (48 : Int32) ≤ nI j from nI_ge (b := 48) hj (by decide)), nI_clamp (by omega)]
  by_cases c : ay j = -1
  · rw [if_pos c]
    exact Or.inl ⟨rfl, fun q _ h => absurd c h⟩
  · rw [if_neg c]
    rcases sa_L (ay := ay) (so := so) hj j 0 49 (by omega) (by omega) with ⟨h1, h2⟩ | ⟨q, h1, h2, h3⟩
    · rw [nI_0] at h1
      rw [h1]
      exact Or.inl ⟨rfl, fun q hq _ => h2 q (by omega) hq⟩
    · rw [nI_0] at h3
      rw [h3]
      exact Or.inr ⟨q, h1, c, h2, rfl⟩
/-! who is in which IF -/
theorem ii_L {i j : Nat} (hj : j < 48) (hi : i < j) (hc : ∀ q, q < j → -1 ≤ (uI q).toInt ∧ (uI q).toInt < q) (hch : ∀ q, q < j → 0 ≤ (uI q).toInt → (so (uI q).toNatClampNeg).toInt < (so q).toInt) : ∀ (N : Nat) (x : Int32), -1 ≤ x.toInt → x.toInt < j → x.toInt + 2 ≤ (N : Int) → sm_isIn_L7 uI (nI i) N x = nI i → 0 ≤ x.toInt ∧ (so i).toInt ≤ (so x.toNatClampNeg).toInt := by
  intro N
  induction N with
  | zero => intro x h1 h2 h3; omega
  | succ N ih =>
    intro x h1 h2 h3 h
    rw [sm_isIn_L7_s] at h
    by_cases c1 : x = -1
    · rw [if_pos c1, c1] at h
      exact absurd (congrArg Int32.toInt h) (by rw [nI_toInt (by omega)]; have : (-1 : Int32).toInt = -1 := rfl; omega)
    · rw [if_neg c1] at h
      have h0 := ii_p h1 c1
      by_cases c2 : x = nI i
      · rw [c2, nI_clamp (by omega), nI_toInt (by omega)]
        exact ⟨by omega, Int.le_refl _⟩
      · rw [if_neg c2] at h
        have hx : x.toNatClampNeg < j := by
          show x.toInt.toNat < j
          omega
        have e : ((x.toNatClampNeg : Nat) : Int) = x.toInt := by
          show ((x.toInt.toNat : Nat) : Int) = x.toInt
          omega
        have k := hc _ hx
        obtain ⟨k1, k2⟩ := ih (uI x.toNatClampNeg) k.1 (by omega) (by omega) h
        have k3 := hch _ hx k1
        exact ⟨h0, by omega⟩
theorem ii_N {i j : Nat} (hj : j < 48) (hi : i < j) (hc : ∀ q, q ≤ j → -1 ≤ (uI q).toInt ∧ (uI q).toInt < q) (hch : ∀ q, q < j → 0 ≤ (uI q).toInt → (so (uI q).toNatClampNeg).toInt < (so q).toInt) (h : ¬ sm_isIn uI (nI j) (nI i) = 0) : 0 ≤ (uI j).toInt ∧ (so i).toInt ≤ (so (uI j).toNatClampNeg).toInt := by
  unfold sm_isIn at h
  rw [nI_clamp (by omega)] at h
  dsimp only at h
  have k := hc j (Nat.le_refl _)
  refine ii_L hj hi (fun q hq => hc q (by omega)) hch 49 (uI j) k.1 k.2 (by omega) ?_
  by_cases c : sm_isIn_L7 uI (nI i) 49 (uI j) = nI i
  · exact c
  · rw [if_neg c] at h; exact absurd rfl h
theorem ii_self {j : Nat} (hj : j < 48) (h0 : 0 ≤ (uI j).toInt) : ¬ sm_isIn uI (nI j) (nI (uI j).toNatClampNeg) = 0 := by
  have e : nI (uI j).toNatClampNeg = uI j := by
    apply Int32.toInt_inj.mp
    have hb := Int32.toInt_lt (uI j)
    have e0 : (uI j).toNatClampNeg = (uI j).toInt.toNat := rfl
    rw [nI_toInt (by rw [e0]; omega), e0]
    omega
  unfold sm_isIn
  rw [nI_clamp (by omega), e, sm_isIn_L7_s]
  have c1 : ¬ uI j = -1 := fun q => by rw [q] at h0; exact absurd h0 (by decide)
  rw [if_neg c1, if_pos rfl]
  dsimp only
  rw [if_pos rfl]
  decide
end
