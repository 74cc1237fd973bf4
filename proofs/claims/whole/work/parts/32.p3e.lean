/-! sums over the steps of a stage -/
def tmF (uM uX uS : Nat → Int32) (p2 p3 : Int32) (i : Nat) : Int32 := if uS i = p2 then (if p3 = 0 then 1 else if p3 = 1 then uM i else uX i) else 0
def smF (uM uX uS : Nat → Int32) (p2 p3 : Int32) : Nat → Int32
  | 0 => 0
  | i + 1 => smF uM uX uS p2 p3 i + tmF uM uX uS p2 p3 i
theorem smF_s {uM uX uS : Nat → Int32} {p2 p3 : Int32} (i : Nat) : smF uM uX uS p2 p3 (i + 1) = smF uM uX uS p2 p3 i + tmF uM uX uS p2 p3 i := rfl
theorem su_L {uM uX uS : Nat → Int32} {p2 p3 : Int32} {j : Nat} (hj : j ≤ 48) : ∀ (m i N : Nat), m + i = j → m < N → sm_sum_L6 uM uX uS (nI j) p2 p3 N (smF uM uX uS p2 p3 i) (nI i) = smF uM uX uS p2 p3 j := by
  intro m
  induction m with
  | zero =>
    intro i N h hN
    obtain ⟨N, rfl⟩ : ∃ q, N = q + 1 := ⟨N - 1, by omega⟩
    rw [sm_sum_L6_s, if_pos (show nI j ≤ nI i from nI_le (by omega) (by omega)), show i = j by omega]
  | succ m ih =>
    intro i N h hN
    obtain ⟨N, rfl⟩ : ∃ q, N = q + 1 := ⟨N - 1, by omega⟩
    have k := ih (i + 1) N (by omega) (by omega)
    rw [smF_s] at k
    unfold tmF at k
    rw [sm_sum_L6_s, if_neg (show ¬ nI j ≤ nI i from nI_ge (by omega) (by omega)), nI_clamp (by omega), nI_1]
    by_cases c1 : uS i = p2
    · rw [if_pos c1] at k ⊢
      by_cases c2 : p3 = 0
      · rw [if_pos c2] at k ⊢; exact k
      · rw [if_neg c2] at k ⊢
        by_cases c3 : p3 = 1
        · rw [if_pos c3] at k ⊢; exact k
        · rw [if_neg c3] at k ⊢; exact k
    · rw [if_neg c1] at k ⊢; exact k
theorem su_N {uM uX uS : Nat → Int32} {p2 p3 : Int32} {j : Nat} (hj : j ≤ 48) : sm_sum uM uX uS (nI j) p2 p3 = smF uM uX uS p2 p3 j := by
  have h := su_L (uM := uM) (uX := uX) (uS := uS) (p2 := p2) (p3 := p3) hj j 0 49 (by omega) (by omega)
  rw [nI_0] at h
  unfold sm_sum
  dsimp only
  exact h
theorem smF_c {uM uX uS uS' : Nat → Int32} {p2 p3 : Int32} : ∀ j : Nat, (∀ i, i < j → uS i = uS' i) → smF uM uX uS p2 p3 j = smF uM uX uS' p2 p3 j := by
  intro j
  induction j with
  | zero => intro _; rfl
  | succ j ih =>
    intro h
    rw [smF_s, smF_s, ih (fun i hi => h i (by omega))]
    unfold tmF
    rw [h j (by omega)]
theorem smF_r {uM uX uS : Nat → Int32} {p2 p3 : Int32} {b : Nat} (hb : b ≤ 10000) : ∀ j : Nat, j ≤ 48 → (∀ i, i < j → 0 ≤ (tmF uM uX uS p2 p3 i).toInt ∧ (tmF uM uX uS p2 p3 i).toInt ≤ b) → 0 ≤ (smF uM uX uS p2 p3 j).toInt ∧ (smF uM uX uS p2 p3 j).toInt ≤ b * j := by
  intro j
  induction j with
  | zero => intro _ _; exact ⟨Int.le_refl 0, by show (0 : Int32).toInt ≤ _; rw [i_0]; omega⟩
  | succ j ih =>
    intro hj h
    have k := ih (by omega) (fun i hi => h i (by omega))
    have t := h j (by omega)
    have hm : b * j ≤ 10000 * 48 := Nat.mul_le_mul hb (by omega)
    have e : b * (j + 1) = b * j + b := Nat.mul_succ b j
    rw [smF_s]
    generalize b * j = w at *
    have k2 : (b : Int) * ((j + 1 : Nat) : Int) = ((b * (j + 1) : Nat) : Int) := (Int.natCast_mul b (j + 1)).symm
    have k3 : (b : Int) * (j : Int) ≤ (w : Int) := by
      have : (b : Int) * (j : Int) = ((b * (j + 1) - b : Nat) : Int) := by
        rw [Nat.mul_succ, Nat.add_sub_cancel, Int.natCast_mul]
      rw [this, e]; omega
    rw [i_ad (by omega) (by omega), k2, e]
    omega
section
variable {rd wr : Nat → Int64} {ay ia mo wo so oi si mi wi : Nat → Int32} {uR uW uA uM uX uF uI uS : Nat → Int32} {n : Nat}
theorem i_sb {x y : Int32} (h1 : -2147483648 ≤ x.toInt - y.toInt) (h2 : x.toInt - y.toInt < 2147483648) : (x - y).toInt = x.toInt - y.toInt := by
  rw [Int32.toInt_sub, Int.bmod_def]; split <;> omega
theorem hr_N (hn : n ≤ 48) (hS : RelS rd wr ay mo wo n uR uW uA uM uX) {j q : Nat} (hj : j < n) (hq : q < 12) {p2 p3 : Int32} (h2 : 0 ≤ p2.toInt) (h3 : 0 ≤ p3.toInt) (e0 : si q = smF uM uX uS (nI q) 0 j) (e1 : mi q = smF uM uX uS (nI q) 1 j) (e2 : wi q = smF uM uX uS (nI q) 2 j) : sl_hasRoom mo wo si mi wi (nI j) (nI q) p2 p3 = sm_hasRoom uM uX uS (nI j) (nI q) p2 p3 := by
  unfold sl_hasRoom sm_hasRoom
  rw [if_neg (nI_pos (by omega)), if_neg (show ¬ (48 : Int32) ≤ nI j from nI_ge (b := 48) (by omega) (by decide)), if_neg (nI_pos (by omega)), if_pos (show nI q < 12 from nI_lt (b := 12) hq (by decide)), nI_clamp (by omega), nI_clamp (by omega), su_N (by omega), su_N (by omega), su_N (by omega), ← e0, ← e1, ← e2]
  obtain ⟨-, -, a3, a4, a5, a6, -⟩ := hS j hj
  have bm : 0 ≤ (mi q).toInt ∧ (mi q).toInt ≤ 2304 * j := by
    rw [e1]
    refine smF_r (b := 2304) (by decide) j (by omega) (fun i hi => ?_)
    obtain ⟨-, -, c3, c4, -, -, -⟩ := hS i (by omega)
    unfold tmF
    split
    · rw [if_neg (by decide), if_pos rfl, ← c3]; exact c4
    · exact ⟨Int.le_refl 0, by decide⟩
  have bw : 0 ≤ (wi q).toInt ∧ (wi q).toInt ≤ 32 * j := by
    rw [e2]
    refine smF_r (b := 32) (by decide) j (by omega) (fun i hi => ?_)
    obtain ⟨-, -, -, -, c5, c6, -⟩ := hS i (by omega)
    unfold tmF
    split
    · rw [if_neg (by decide), if_neg (by decide), ← c5]; exact c6
    · exact ⟨Int.le_refl 0, by decide⟩
  have l2 := Int32.toInt_lt p2
  have l3 := Int32.toInt_lt p3
  have k1 : p2 < mi q + mo j ↔ p2 - uM j < mi q := by
    rw [i_lt, i_lt, i_ad (by omega) (by omega), ← a3, i_sb (by omega) (by omega)]
    omega
  have k2 : p3 < wi q + wo j ↔ p3 - uX j < wi q := by
    rw [i_lt, i_lt, i_ad (by omega) (by omega), ← a5, i_sb (by omega) (by omega)]
    omega
  simp only [k1, k2]
/-! the searches -/
theorem fs_N {p1 p3 p4 : Int32} {b : Nat} (hb : b < 1000) : ∀ (N a : Nat), a ≤ 1000 → 1 ≤ N → b + 1 < a + N → (∃ r, a ≤ r ∧ r ≤ b ∧ ¬ sl_hasRoom mo wo si mi wi p1 (nI r) p3 p4 = 0 ∧ (∀ q, a ≤ q → q < r → sl_hasRoom mo wo si mi wi p1 (nI q) p3 p4 = 0) ∧ sl_findStage_L46 mo wo si mi wi p1 p3 p4 (nI b) N (nI a) = .inr (nI r)) ∨ ((∀ q, a ≤ q → q ≤ b → sl_hasRoom mo wo si mi wi p1 (nI q) p3 p4 = 0) ∧ sl_findStage_L46 mo wo si mi wi p1 p3 p4 (nI b) N (nI a) = .inl ()) := by
  intro N
  induction N with
  | zero => intro a h1 h2; omega
  | succ N ih =>
    intro a h1 h2 h3
    rw [sl_findStage_L46_s, nI_1]
    by_cases c : b < a
    · rw [if_pos (nI_lt c (by omega))]
      exact Or.inr ⟨fun q h4 h5 => by omega, rfl⟩
    · rw [if_neg (nI_nlt (by omega) (by omega))]
      by_cases c2 : sl_hasRoom mo wo si mi wi p1 (nI a) p3 p4 = 0
      · rw [if_pos c2]
        rcases ih (a + 1) (by omega) (by omega) (by omega) with ⟨r, k1, k2, k3, k4, k5⟩ | ⟨k1, k2⟩
        · refine Or.inl ⟨r, by omega, k2, k3, fun q h4 h5 => ?_, k5⟩
          by_cases cq : q = a
          · rw [cq]; exact c2
          · exact k4 q (by omega) h5
        · refine Or.inr ⟨fun q h4 h5 => ?_, k2⟩
          by_cases cq : q = a
          · rw [cq]; exact c2
          · exact k1 q (by omega) h5
      · rw [if_neg c2]
        exact Or.inl ⟨a, Nat.le_refl _, by omega, c2, fun q h4 h5 => by omega, rfl⟩
theorem p24_L {x5 : Int32} {j : Nat} (hj : j < 48) : ∀ (m i N : Nat) (x6 : Int32), m + i = j → m < N → ((¬ sm_place_L24 uR uW uA uF uI uS (nI j) x5 N x6 (nI i) = 0) ↔ ¬ x6 = 0 ∧ ∀ q, i ≤ q → q < j → ¬ sm_mayBe uR uW uA uF uI uS (nI j) (nI q) x5 = 0) := by
  intro m
  induction m with
  | zero =>
    intro i N x6 h hN
    obtain ⟨N, rfl⟩ : ∃ q, N = q + 1 := ⟨N - 1, by omega⟩
    rw [sm_place_L24_s, if_pos (show nI j ≤ nI i from nI_le (by omega) (by omega))]
    exact ⟨fun h1 => ⟨h1, fun q h2 h3 => by omega⟩, fun h1 => h1.1⟩
  | succ m ih =>
    intro i N x6 h hN
    obtain ⟨N, rfl⟩ : ∃ q, N = q + 1 := ⟨N - 1, by omega⟩
    rw [sm_place_L24_s, if_neg (show ¬ nI j ≤ nI i from nI_ge (by omega) (by omega)), nI_1]
    by_cases c : x6 = 0
    · rw [if_pos c]
      exact ⟨fun h1 => absurd c h1, fun h1 => absurd c h1.1⟩
    · rw [if_neg c, ih (i + 1) N _ (by omega) (by omega)]
      constructor
      · rintro ⟨h1, h2⟩
        refine ⟨c, fun q h3 h4 => ?_⟩
        by_cases cq : q = i
        · rw [cq]; exact h1
        · exact h2 q (by omega) h4
      · rintro ⟨h1, h2⟩
        exact ⟨h2 i (Nat.le_refl _) (by omega), fun q h3 h4 => h2 q (by omega) h4⟩
/-- the reference may put step j into stage s -/
def okm (uR uW uA uM uX uF uI uS : Nat → Int32) (j s : Nat) (p3 p4 : Int32) : Prop := ¬ sm_place_L24 uR uW uA uF uI uS (nI j) (nI s) 49 (sm_hasRoom uM uX uS (nI j) (nI s) p3 p4) 0 = 0
theorem okm_iff {j s : Nat} {p3 p4 : Int32} (hj : j < 48) : okm uR uW uA uM uX uF uI uS j s p3 p4 ↔ ¬ sm_hasRoom uM uX uS (nI j) (nI s) p3 p4 = 0 ∧ ∀ q, q < j → ¬ sm_mayBe uR uW uA uF uI uS (nI j) (nI q) (nI s) = 0 := by
  have h := p24_L (uR := uR) (uW := uW) (uA := uA) (uF := uF) (uI := uI) (uS := uS) (x5 := nI s) hj j 0 49 (sm_hasRoom uM uX uS (nI j) (nI s) p3 p4) (by omega) (by omega)
  rw [nI_0] at h
  unfold okm
  rw [h]
  exact ⟨fun h1 => ⟨h1.1, fun q hq => h1.2 q (by omega) hq⟩, fun h1 => ⟨h1.1, fun q _ hq => h1.2 q hq⟩⟩
theorem pl_L {j S : Nat} {p3 p4 : Int32} (hS : S ≤ 12) : ∀ (m a N : Nat), m + a = S → m < N → (∃ r, a ≤ r ∧ r < S ∧ okm uR uW uA uM uX uF uI uS j r p3 p4 ∧ (∀ q, a ≤ q → q < r → ¬ okm uR uW uA uM uX uF uI uS j q p3 p4) ∧ sm_place_L3 uR uW uA uM uX uF uI uS (nI j) (nI S) p3 p4 N (nI a) = .inr (nI r)) ∨ ((∀ q, a ≤ q → q < S → ¬ okm uR uW uA uM uX uF uI uS j q p3 p4) ∧ sm_place_L3 uR uW uA uM uX uF uI uS (nI j) (nI S) p3 p4 N (nI a) = .inl ()) := by
  intro m
  induction m with
  | zero =>
    intro a N h hN
    obtain ⟨N, rfl⟩ : ∃ q, N = q + 1 := ⟨N - 1, by omega⟩
    rw [sm_place_L3_s, if_pos (show nI S ≤ nI a from nI_le (by omega) (by omega))]
    exact Or.inr ⟨fun q h1 h2 => by omega, rfl⟩
  | succ m ih =>
    intro a N h hN
    obtain ⟨N, rfl⟩ : ∃ q, N = q + 1 := ⟨N - 1, by omega⟩
    rw [sm_place_L3_s, if_neg (show ¬ nI S ≤ nI a from nI_ge (by omega) (by omega)), nI_1]
    dsimp only
    by_cases c : sm_place_L24 uR uW uA uF uI uS (nI j) (nI a) 49 (sm_hasRoom uM uX uS (nI j) (nI a) p3 p4) 0 = 0
    · rw [if_pos c]
      rcases ih (a + 1) N (by omega) (by omega) with ⟨r, k1, k2, k3, k4, k5⟩ | ⟨k1, k2⟩
      · refine Or.inl ⟨r, by omega, k2, k3, fun q h4 h5 => ?_, k5⟩
        by_cases cq : q = a
        · rw [cq]; exact fun h => h c
        · exact k4 q (by omega) h5
      · refine Or.inr ⟨fun q h4 h5 => ?_, k2⟩
        by_cases cq : q = a
        · rw [cq]; exact fun h => h c
        · exact k1 q (by omega) h5
    · rw [if_neg c]
      exact Or.inl ⟨a, Nat.le_refl _, by omega, c, fun q h4 h5 => by omega, rfl⟩
theorem pl_N {j S : Nat} {p3 p4 : Int32} (hS : S ≤ 12) : (∃ r, r < S ∧ okm uR uW uA uM uX uF uI uS j r p3 p4 ∧ (∀ q, q < r → ¬ okm uR uW uA uM uX uF uI uS j q p3 p4) ∧ sm_place uR uW uA uM uX uF uI uS (nI j) (nI S) p3 p4 = nI r) ∨ ((∀ q, q < S → ¬ okm uR uW uA uM uX uF uI uS j q p3 p4) ∧ sm_place uR uW uA uM uX uF uI uS (nI j) (nI S) p3 p4 = (-1)) := by
  unfold sm_place
  rcases pl_L (uR := uR) (uW := uW) (uA := uA) (uM := uM) (uX := uX) (uF := uF) (uI := uI) (uS := uS) (j := j) (p3 := p3) (p4 := p4) hS S 0 13 (by omega) (by omega) with ⟨r, k1, k2, k3, k4, k5⟩ | ⟨k1, k2⟩
  · rw [nI_0] at k5
    rw [k5]
    exact Or.inl ⟨r, k2, k3, fun q hq => k4 q (by omega) hq, rfl⟩
  · rw [nI_0] at k2
    rw [k2]
    exact Or.inr ⟨fun q hq => k1 q (by omega) hq, rfl⟩
/-- what holds while steps below j are laid -/
def LI (ay ia so si mi wi uM uX uS : Nat → Int32) (S j : Nat) : Prop :=
  (∀ i, i < j → so i = uS i ∧ 0 ≤ (so i).toInt ∧ (so i).toInt < S) ∧
  (∀ i, i < j → 0 ≤ (ia i).toInt → (so (ia i).toNatClampNeg).toInt < (so i).toInt) ∧
  (∀ i, i < j → ∀ i', i' < j → ay i ≠ -1 → ay i = ay i' → so i = so i') ∧
  (∀ s, s < 12 → si s = smF uM uX uS (nI s) 0 j ∧ mi s = smF uM uX uS (nI s) 1 j ∧ wi s = smF uM uX uS (nI s) 2 j)
theorem may_N (hn : n ≤ 48) (hS : RelS rd wr ay mo wo n uR uW uA uM uX) (hB : RelB rd wr n) (hI : ∀ i : Nat, i < n → ia i = uI i ∧ -1 ≤ (uI i).toInt ∧ (uI i).toInt < i ∧ (0 ≤ (uI i).toInt → uF (uI i).toNatClampNeg = 1)) {S j : Nat} (hj : j < n) (hS12 : S ≤ 12) (hL : LI ay ia so si mi wi uM uX uS S j) {s : Nat} (hs : s < 12) :
    (∀ q, q < j → ¬ sm_mayBe uR uW uA uF uI uS (nI j) (nI q) (nI s) = 0) ↔ (sl_earliestStage rd wr ia so (nI j)).toInt ≤ s ∧ (sl_stageOfSharedArray ay so (nI j) = (-1) ∨ nI s = sl_stageOfSharedArray ay so (nI j)) := by
  obtain ⟨l1, l2, l3, l4⟩ := hL
  have hso : ∀ i, i < j → 0 ≤ (so i).toInt ∧ (so i).toInt < 12 := fun i hi => ⟨(l1 i hi).2.1, by have := (l1 i hi).2.2; omega⟩
  have hsI : (nI s).toInt = s := nI_toInt (by omega)
  obtain ⟨i1, i2, i3, i4⟩ := hI j hj
  have hiaj : (ia j).toInt < j := by rw [i1]; exact i3
  rw [es_N (by omega) hso hiaj]
  have hc : ∀ q, q ≤ j → -1 ≤ (uI q).toInt ∧ (uI q).toInt < q := fun q hq => ⟨(hI q (by omega)).2.1, (hI q (by omega)).2.2.1⟩
  have hch : ∀ q, q < j → 0 ≤ (uI q).toInt → (so (uI q).toNatClampNeg).toInt < (so q).toInt := fun q hq h => by
    have e := (hI q (by omega)).1
    have := l2 q hq
    rw [e] at this
    exact this h
  constructor
  · intro h
    have hm := fun q hq => (mb_N (uF := uF) (uI := uI) (uS := uS) hS hB hn (show q < n by omega) hj (nI s)).mp (h q hq)
    refine ⟨⟨by omega, ?_, ?_⟩, ?_⟩
    · intro h0
      rw [i1] at h0 ⊢
      have hq : (uI j).toNatClampNeg < j := by
        show (uI j).toInt.toNat < j
        omega
      have k := (hm _ hq).1 (Or.inr ⟨by rw [i4 h0]; decide, ii_self (by omega) h0⟩)
      rw [← (l1 _ hq).1, hsI] at k
      omega
    · intro q hq
      obtain ⟨k1, k2, k3⟩ := hm q hq
      rw [← (l1 q hq).1, hsI] at k1 k2
      exact ⟨fun hd => by have := k1 (Or.inl hd); omega, fun hd => k2 hd⟩
    · rcases sa_N (ay := ay) (so := so) (show j < 48 by omega) with ⟨k1, k2⟩ | ⟨q, hq, k1, k2, k3⟩
      · exact Or.inl k1
      · right
        have e1 := (hS q (by omega)).1
        have e2 := (hS j hj).1
        rw [k3, (l1 q hq).1]
        exact (hm q hq).2.2 (by rw [← e1, k2]; exact k1) (by rw [← e1, ← e2]; exact k2)
  · rintro ⟨⟨h0, h1, h2⟩, h3⟩ q hq
    have e1 := (hS q (by omega)).1
    have e2 := (hS j hj).1
    refine (mb_N (uF := uF) (uI := uI) (uS := uS) hS hB hn (show q < n by omega) hj (nI s)).mpr ⟨?_, ?_, ?_⟩
    · rw [← (l1 q hq).1, hsI]
      rintro (hd | ⟨-, hd⟩)
      · have := (h2 q hq).1 hd
        omega
      · obtain ⟨g1, g2⟩ := ii_N (so := so) (by omega) hq hc hch hd
        have := h1 (by rw [i1]; exact g1)
        rw [i1] at this
        omega
    · rw [← (l1 q hq).1, hsI]
      exact (h2 q hq).2
    · intro g1 g2
      rw [← e1] at g1
      rw [← e1, ← e2] at g2
      rcases sa_N (ay := ay) (so := so) (show j < 48 by omega) with ⟨k1, k2⟩ | ⟨q', hq', k1, k2, k3⟩
      · exact absurd g2 (k2 q hq (by rw [← g2]; exact g1))
      · rcases h3 with h3 | h3
        · rw [k3] at h3
          have := (l1 q' hq').2.1
          rw [h3] at this
          exact absurd this (by decide)
        · rw [h3, k3, ← (l1 q hq).1]
          exact (l3 q hq q' hq' g1 (g2.trans k2.symm)).symm
theorem find_N (hn : n ≤ 48) (hS : RelS rd wr ay mo wo n uR uW uA uM uX) (hB : RelB rd wr n) (hI : ∀ i : Nat, i < n → ia i = uI i ∧ -1 ≤ (uI i).toInt ∧ (uI i).toInt < i ∧ (0 ≤ (uI i).toInt → uF (uI i).toNatClampNeg = 1)) {S j : Nat} (hj : j < n) (hS1 : 1 ≤ S) (hS12 : S ≤ 12) (hL : LI ay ia so si mi wi uM uX uS S j) {p2 p3 : Int32} (h2 : 0 ≤ p2.toInt) (h3 : 0 ≤ p3.toInt) :
    sl_findStage rd wr ay ia mo wo so si mi wi (nI j) (nI S) p2 p3 = sm_place uR uW uA uM uX uF uI uS (nI j) (nI S) p2 p3 ∧
    (sm_place uR uW uA uM uX uF uI uS (nI j) (nI S) p2 p3 = (-1) ∨ ∃ r, r < S ∧ sm_place uR uW uA uM uX uF uI uS (nI j) (nI S) p2 p3 = nI r ∧ (sl_earliestStage rd wr ia so (nI j)).toInt ≤ r ∧ (sl_stageOfSharedArray ay so (nI j) = (-1) ∨ nI r = sl_stageOfSharedArray ay so (nI j))) := by
  have hso : ∀ i : Nat, i < (nI j).toNatClampNeg → 0 ≤ (so i).toInt ∧ (so i).toInt < 12 := by
    rw [nI_clamp (by omega)]
    exact fun i hi => ⟨(hL.1 i hi).2.1, by have := (hL.1 i hi).2.2; omega⟩
  obtain ⟨e, he, ee⟩ := nn_N (b := 13) (es_rng (rd := rd) (wr := wr) (ia := ia) hso).1 (by have := (es_rng (rd := rd) (wr := wr) (ia := ia) hso).2; omega)
  have eeI : (sl_earliestStage rd wr ia so (nI j)).toInt = e := by rw [ee, nI_toInt (by omega)]
  have hr : ∀ q, q < 12 → sl_hasRoom mo wo si mi wi (nI j) (nI q) p2 p3 = sm_hasRoom uM uX uS (nI j) (nI q) p2 p3 := fun q hq => hr_N hn hS hj hq h2 h3 (hL.2.2.2 q hq).1 (hL.2.2.2 q hq).2.1 (hL.2.2.2 q hq).2.2
  have hok : ∀ q, q < 12 → (okm uR uW uA uM uX uF uI uS j q p2 p3 ↔ ¬ sl_hasRoom mo wo si mi wi (nI j) (nI q) p2 p3 = 0 ∧ e ≤ q ∧ (sl_stageOfSharedArray ay so (nI j) = (-1) ∨ nI q = sl_stageOfSharedArray ay so (nI j))) := by
    intro q hq
    rw [okm_iff (by omega), may_N hn hS hB hI hj hS12 hL hq, hr q hq, eeI]
    constructor
    · rintro ⟨a, b, c⟩; exact ⟨a, by omega, c⟩
    · rintro ⟨a, b, c⟩; exact ⟨a, by omega, c⟩
  rw [eeI]
  have hpl := pl_N (uR := uR) (uW := uW) (uA := uA) (uM := uM) (uX := uX) (uF := uF) (uI := uI) (uS := uS) (j := j) (p3 := p2) (p4 := p3) hS12
  have heq : sl_findStage rd wr ay ia mo wo so si mi wi (nI j) (nI S) p2 p3 = sm_place uR uW uA uM uX uF uI uS (nI j) (nI S) p2 p3 := by
    unfold sl_findStage
    rw [ee]
    by_cases cA : sl_stageOfSharedArray ay so (nI j) = (-1)
    · rw [if_pos cA]
      obtain ⟨T, rfl⟩ : ∃ T, S = T + 1 := ⟨S - 1, by omega⟩
      rw [nI_pred]
      rcases fs_N (mo := mo) (wo := wo) (si := si) (mi := mi) (wi := wi) (p1 := nI j) (p3 := p2) (p4 := p3) (b := T) (by omega) 14 e (by omega) (by omega) (by omega) with ⟨r1, k1, k2, k3, k4, k5⟩ | ⟨k1, k2⟩
      · rw [k5]
        dsimp only
        rcases hpl with ⟨r2, m1, m2, m3, m4⟩ | ⟨m1, m2⟩
        · rw [m4]
          have o2 := (hok r2 (by omega)).mp m2
          rcases Nat.lt_trichotomy r1 r2 with c | c | c
          · exact absurd ((hok r1 (by omega)).mpr ⟨k3, k1, Or.inl cA⟩) (m3 r1 c)
          · rw [c]
          · exact absurd (k4 r2 o2.2.1 c) o2.1
        · exact absurd ((hok r1 (by omega)).mpr ⟨k3, k1, Or.inl cA⟩) (m1 r1 (by omega))
      · rw [k2]
        dsimp only
        rcases hpl with ⟨r2, m1, m2, m3, m4⟩ | ⟨m1, m2⟩
        · have o2 := (hok r2 (by omega)).mp m2
          exact absurd (k1 r2 o2.2.1 (by omega)) o2.1
        · exact m2.symm
    · rw [if_neg cA]
      obtain ⟨a, ha, ea⟩ : ∃ a, a < S ∧ sl_stageOfSharedArray ay so (nI j) = nI a := by
        rcases sa_N (ay := ay) (so := so) (show j < 48 by omega) with ⟨k1, k2⟩ | ⟨q', hq', k1, k2, k3⟩
        · exact absurd k1 cA
        · obtain ⟨a, ha, ea⟩ := nn_N (hL.1 q' hq').2.1 (hL.1 q' hq').2.2
          exact ⟨a, ha, k3.trans ea⟩
      rw [ea] at hok cA ⊢
      by_cases cE : e ≤ a
      · rw [if_pos (nI_le cE (by omega))]
        rcases fs_N (mo := mo) (wo := wo) (si := si) (mi := mi) (wi := wi) (p1 := nI j) (p3 := p2) (p4 := p3) (b := a) (by omega) 14 a (by omega) (by omega) (by omega) with ⟨r1, k1, k2, k3, k4, k5⟩ | ⟨k1, k2⟩
        · rw [k5]
          dsimp only
          have er : r1 = a := by omega
          subst er
          have o1 := (hok r1 (by omega)).mpr ⟨k3, cE, Or.inr rfl⟩
          rcases hpl with ⟨r2, m1, m2, m3, m4⟩ | ⟨m1, m2⟩
          · have o2 := (hok r2 (by omega)).mp m2
            rcases o2.2.2 with q | q
            · exact absurd q cA
            · rw [m4, q]
          · exact absurd o1 (m1 r1 ha)
        · rw [k2]
          dsimp only
          rcases hpl with ⟨r2, m1, m2, m3, m4⟩ | ⟨m1, m2⟩
          · have o2 := (hok r2 (by omega)).mp m2
            rcases o2.2.2 with q | q
            · exact absurd q cA
            · have er : r2 = a := (nI_eq (by omega) (by omega)).mp q
              rw [er] at o2
              exact absurd (k1 a (Nat.le_refl _) (Nat.le_refl _)) o2.1
          · exact m2.symm
      · rw [if_neg (show ¬ nI e ≤ nI a from nI_ge (by omega) (by omega))]
        rcases hpl with ⟨r2, m1, m2, m3, m4⟩ | ⟨m1, m2⟩
        · have o2 := (hok r2 (by omega)).mp m2
          rcases o2.2.2 with q | q
          · exact absurd q cA
          · have er : r2 = a := (nI_eq (by omega) (by omega)).mp q
            omega
        · exact m2.symm
  refine ⟨heq, ?_⟩
  rcases hpl with ⟨r2, m1, m2, m3, m4⟩ | ⟨m1, m2⟩
  · have o2 := (hok r2 (by omega)).mp m2
    exact Or.inr ⟨r2, m1, m4, by omega, o2.2.2⟩
  · exact Or.inl m2
theorem li_add (hn : n ≤ 48) (hS : RelS rd wr ay mo wo n uR uW uA uM uX) (hI : ∀ i : Nat, i < n → ia i = uI i ∧ -1 ≤ (uI i).toInt ∧ (uI i).toInt < i ∧ (0 ≤ (uI i).toInt → uF (uI i).toNatClampNeg = 1)) {S j r : Nat} (hj : j < n) (hS12 : S ≤ 12) (hL : LI ay ia so si mi wi uM uX uS S j) (hr : r < S) (hE : (sl_earliestStage rd wr ia so (nI j)).toInt ≤ r) (hA : sl_stageOfSharedArray ay so (nI j) = (-1) ∨ nI r = sl_stageOfSharedArray ay so (nI j)) :
    LI ay ia (upd so j (nI r)) (upd si r (si r + 1)) (upd mi r (mi r + mo j)) (upd wi r (wi r + wo j)) uM uX (upd uS j (nI r)) S (j + 1) := by
  obtain ⟨l1, l2, l3, l4⟩ := hL
  have hso : ∀ i, i < j → 0 ≤ (so i).toInt ∧ (so i).toInt < 12 := fun i hi => ⟨(l1 i hi).2.1, by have := (l1 i hi).2.2; omega⟩
  have hrI : (nI r).toInt = r := nI_toInt (by omega)
  obtain ⟨i1, i2, i3, i4⟩ := hI j hj
  have hiaj : (ia j).toInt < j := by rw [i1]; exact i3
  rw [es_N (by omega) hso hiaj] at hE
  obtain ⟨g0, g1, g2⟩ := hE
  have hsame : ∀ q, q < j → ay q ≠ -1 → ay q = ay j → so q = nI r := by
    intro q hq a1 a2
    rcases sa_N (ay := ay) (so := so) (show j < 48 by omega) with ⟨k1, k2⟩ | ⟨q', hq', k1, k2, k3⟩
    · exact absurd a2 (k2 q hq (by rw [← a2]; exact a1))
    · rcases hA with hA | hA
      · rw [k3] at hA
        have := (l1 q' hq').2.1
        rw [hA] at this
        exact absurd this (by decide)
      · rw [hA, k3]
        exact l3 q hq q' hq' a1 (a2.trans k2.symm)
  refine ⟨fun i hi => ?_, fun i hi h0 => ?_, fun i hi i' hi' a1 a2 => ?_, fun s hs => ?_⟩
  · by_cases c : i = j
    · subst c
      rw [pk_us, pk_us, hrI]
      exact ⟨rfl, by omega, by omega⟩
    · rw [pk_un c, pk_un c]
      exact l1 i (by omega)
  · by_cases c : i = j
    · subst c
      have hq : (ia i).toNatClampNeg < i := by
        show (ia i).toInt.toNat < i
        omega
      rw [pk_us, pk_un (by omega), hrI]
      have := g1 h0
      omega
    · have hii : (ia i).toInt < i := by
        rw [(hI i (by omega)).1]
        exact (hI i (by omega)).2.2.1
      have hq : (ia i).toNatClampNeg < i := by
        show (ia i).toInt.toNat < i
        omega
      rw [pk_un c, pk_un (by omega)]
      exact l2 i (by omega) h0
  · by_cases c : i = j
    · subst c
      by_cases c' : i' = i
      · rw [c']
      · rw [pk_us, pk_un c']
        exact (hsame i' (by omega) (by rw [← a2]; exact a1) a2.symm).symm
    · by_cases c' : i' = j
      · subst c'
        rw [pk_us, pk_un c]
        exact hsame i (by omega) a1 a2
      · rw [pk_un c, pk_un c']
        exact l3 i (by omega) i' (by omega) a1 a2
  · obtain ⟨k1, k2, k3⟩ := l4 s hs
    have hcg : ∀ p, smF uM uX (upd uS j (nI r)) (nI s) p j = smF uM uX uS (nI s) p j := fun p => smF_c j (fun i hi => pk_un (by omega))
    rw [smF_s, smF_s, smF_s, hcg, hcg, hcg]
    unfold tmF
    rw [pk_us]
    obtain ⟨-, -, a3, -, a5, -, -⟩ := hS j hj
    by_cases c : s = r
    · subst c
      rw [pk_us, pk_us, pk_us, if_pos rfl, if_pos rfl, if_pos rfl, if_pos rfl, if_neg (by decide), if_pos rfl, if_neg (by decide), if_neg (by decide), ← k1, ← k2, ← k3, a3, a5]
      exact ⟨rfl, rfl, rfl⟩
    · have cn : ¬ nI r = nI s := fun q => c ((nI_eq (by omega) (by omega)).mp q).symm
      rw [pk_un c, pk_un c, pk_un c, if_neg cn, if_neg cn, if_neg cn, ← k1, ← k2, ← k3, Int32.add_zero, Int32.add_zero, Int32.add_zero]
      exact ⟨rfl, rfl, rfl⟩
theorem lay_L (hn : n ≤ 48) (hS : RelS rd wr ay mo wo n uR uW uA uM uX) (hB : RelB rd wr n) (hI : ∀ i : Nat, i < n → ia i = uI i ∧ -1 ≤ (uI i).toInt ∧ (uI i).toInt < i ∧ (0 ≤ (uI i).toInt → uF (uI i).toNatClampNeg = 1)) {S : Nat} (hS1 : 1 ≤ S) (hS12 : S ≤ 12) {p2 p3 : Int32} (h2 : 0 ≤ p2.toInt) (h3 : 0 ≤ p3.toInt) :
    ∀ (m j N : Nat) (K : Int32) (so si mi wi uS : Nat → Int32), m + j = n → m < N → LI ay ia so si mi wi uM uX uS S j → (1 ≤ K.toInt ∧ K.toInt ≤ 12) →
      (∃ so' si' mi' wi' uS' K', sl_lay_L53 rd wr ay ia mo wo (nI n) (nI S) p2 p3 N K (nI j) so si mi wi (-1) = .inl (K', so', si', mi', wi', (-1)) ∧ sm_lay_L55 uR uW uA uM uX uF uI (nI n) (nI S) p2 p3 N (nI j) uS K (-1) = .inl (uS', K', (-1)) ∧ LI ay ia so' si' mi' wi' uM uX uS' S n ∧ (1 ≤ K'.toInt ∧ K'.toInt ≤ 12)) ∨
      (∃ so' si' mi' wi' uS' uk' h, sl_lay_L53 rd wr ay ia mo wo (nI n) (nI S) p2 p3 N K (nI j) so si mi wi (-1) = .inr ((-1), so', si', mi', wi', h) ∧ sm_lay_L55 uR uW uA uM uX uF uI (nI n) (nI S) p2 p3 N (nI j) uS K (-1) = .inr ((-1), uS', uk', h)) := by
  intro m
  induction m with
  | zero =>
    intro j N K so si mi wi uS h hN hL hK
    obtain ⟨N, rfl⟩ : ∃ q, N = q + 1 := ⟨N - 1, by omega⟩
    obtain rfl : j = n := by omega
    rw [sl_lay_L53_s, sm_lay_L55_s, if_pos (show nI j ≤ nI j from nI_le (Nat.le_refl _) (by omega)), if_pos (show nI j ≤ nI j from nI_le (Nat.le_refl _) (by omega))]
    exact Or.inl ⟨so, si, mi, wi, uS, K, rfl, rfl, hL, hK⟩
  | succ m ih =>
    intro j N K so si mi wi uS h hN hL hK
    obtain ⟨N, rfl⟩ : ∃ q, N = q + 1 := ⟨N - 1, by omega⟩
    have cj : ¬ nI n ≤ nI j := nI_ge (by omega) (by omega)
    obtain ⟨f1, f2⟩ := find_N hn hS hB hI (show j < n by omega) hS1 hS12 hL h2 h3
    rw [sl_lay_L53_s, sm_lay_L55_s, if_neg cj, if_neg cj, f1, nI_clamp (by omega), pk_us, nI_1]
    rcases f2 with f2 | ⟨r, hr, er, g1, g2⟩
    · rw [f2, if_pos rfl, if_pos rfl]
      exact Or.inr ⟨so, si, mi, wi, _, K, nI j, rfl, rfl⟩
    · have hne : ¬ nI r = (-1) := fun q => by
        have := congrArg Int32.toInt q
        rw [nI_toInt (by omega), show (-1 : Int32).toInt = -1 from rfl] at this
        omega
      rw [er, if_neg hne, if_neg hne, st_in (nI_pos (by omega)) (show nI j < 48 from nI_lt (b := 48) (by omega) (by decide)) (nI_pos (by omega)) (show nI r < 12 from nI_lt (b := 12) (by omega) (by decide)), nI_clamp (by omega), nI_clamp (by omega)]
      dsimp only
      have hL' := li_add hn hS hI (show j < n by omega) hS12 hL hr g1 g2
      rw [nI_1]
      have e1 : (nI (r + 1)).toInt = r + 1 := by rw [nI_toInt (by omega)]; omega
      by_cases c : K < nI (r + 1)
      · have c' : ¬ nI (r + 1) ≤ K := by rw [i_le]; rw [i_lt] at c; omega
        rw [if_pos c, if_neg c']
        exact ih (j + 1) N _ _ _ _ _ _ (by omega) (by omega) hL' ⟨by omega, by omega⟩
      · have c' : nI (r + 1) ≤ K := by rw [i_le]; rw [i_lt] at c; omega
        rw [if_neg c, if_pos c']
        exact ih (j + 1) N _ _ _ _ _ _ (by omega) (by omega) hL' hK
theorem em_L : ∀ (m s N : Nat) (si mi wi : Nat → Int32), m + s = 12 → m < N → (∀ q, q < s → si q = 0 ∧ mi q = 0 ∧ wi q = 0) → ∃ si' mi' wi', sl_emptyStages_L2 N (nI s) si mi wi = (si', mi', wi') ∧ ∀ q, q < 12 → si' q = 0 ∧ mi' q = 0 ∧ wi' q = 0 := by
  intro m
  induction m with
  | zero =>
    intro s N si mi wi h hN hz
    obtain ⟨N, rfl⟩ : ∃ q, N = q + 1 := ⟨N - 1, by omega⟩
    rw [sl_emptyStages_L2_s, if_pos (show (12 : Int32) ≤ nI s from nI_le (a := 12) (by omega) (by omega))]
    exact ⟨si, mi, wi, rfl, fun q hq => hz q (by omega)⟩
  | succ m ih =>
    intro s N si mi wi h hN hz
    obtain ⟨N, rfl⟩ : ∃ q, N = q + 1 := ⟨N - 1, by omega⟩
    rw [sl_emptyStages_L2_s, if_neg (show ¬ (12 : Int32) ≤ nI s from nI_ge (b := 12) (by omega) (by omega)), nI_clamp (by omega), nI_1]
    refine ih (s + 1) N _ _ _ (by omega) (by omega) (fun q hq => ?_)
    by_cases c : q = s
    · subst c
      rw [pk_us, pk_us, pk_us]; exact ⟨rfl, rfl, rfl⟩
    · rw [pk_un c, pk_un c, pk_un c]; exact hz q (by omega)
theorem em_N (si mi wi : Nat → Int32) : ∃ si' mi' wi', sl_emptyStages si mi wi = (si', mi', wi') ∧ ∀ q, q < 12 → si' q = 0 ∧ mi' q = 0 ∧ wi' q = 0 := by
  obtain ⟨a, b, c, e, h⟩ := em_L 12 0 13 si mi wi (by decide) (by decide) (fun q hq => by omega)
  rw [nI_0] at e
  refine ⟨a, b, c, ?_, h⟩
  unfold sl_emptyStages
  rw [e]
end
