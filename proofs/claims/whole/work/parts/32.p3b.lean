/-! conditions and bits -/
theorem pc_z : ∀ a, a < 256 → pcb a = 0 → a = 0 := by decide +kernel
theorem pc_0 {P : Nat} (hP : P < 2 ^ 28) (h : pcN P = 0) : P = 0 := by
  unfold pcN at h
  have h1 := pc_z (P % 256) (by omega) (by omega)
  have h2 := pc_z (P / 256 % 256) (by omega) (by omega)
  have h3 := pc_z (P / 65536 % 256) (by omega) (by omega)
  have h4 := pc_z (P / 16777216) (by omega) (by omega)
  omega
def pcC (P : Nat) : Nat := if 1 < pcN P then pcN P else 1
theorem co_N {P : Nat} (hP : P < 2 ^ 28) : sl_costOf (nI P) = nI (pcC P) ∧ sm_counts (nI P) = nI (pcC P) ∧ 1 ≤ pcC P ∧ pcC P ≤ 28 := by
  obtain ⟨h1, h2⟩ := ib_N hP
  have h3 := on_N hP
  refine ⟨?_, ?_, ?_, ?_⟩
  · unfold sl_costOf pcC
    rw [h1]
    by_cases c : 1 < pcN P
    · rw [if_pos c, if_pos (show (1 : Int32) < nI (pcN P) from nI_lt (a := 1) c (by omega))]
    · rw [if_neg c, if_neg (show ¬ (1 : Int32) < nI (pcN P) from nI_nlt (b := pcN P) (a := 1) (by omega) (by omega))]
      rfl
  · unfold sm_counts pcC
    by_cases c : P = 0
    · subst c
      rw [if_pos (show nI 0 = 0 from rfl), if_neg (by decide)]
      rfl
    · rw [if_neg (nI_ne0 (by omega) (by omega)), h3]
      have : pcN P ≠ 0 := fun q => c (pc_0 hP q)
      by_cases c2 : 1 < pcN P
      · rw [if_pos c2]
      · rw [if_neg c2, show pcN P = 1 by omega]
  · unfold pcC; split <;> omega
  · unfold pcC; split <;> omega
theorem of_32 (x : Int32) : ∃ n, n < 2 ^ 32 ∧ x = nI n := ⟨x.toBitVec.toNat, x.toBitVec.isLt, Int32.toBitVec_inj.mp (by show _ = BitVec.ofNat 32 _; simp)⟩
theorem nn_N {x : Int32} {b : Nat} (h0 : 0 ≤ x.toInt) (h : x.toInt < b) : ∃ m : Nat, m < b ∧ x = nI m := by
  have hb := Int32.toInt_lt x
  refine ⟨x.toInt.toNat, by omega, ?_⟩
  apply Int32.toInt_inj.mp
  rw [nI_toInt (by omega)]
  omega
theorem cd_read (p : Int32) : (∃ P : Nat, P < 2 ^ 28 ∧ p = nI P ∧ sl_requireReadable p = .inl () ∧ ¬ sm_isSet p = 0) ∨ (sl_requireReadable p = .inr xIO ∧ sm_isSet p = 0) := by
  obtain ⟨n, hn, rfl⟩ := of_32 p
  have e : iu (nI n) 28 = nI (n / 2 ^ 28) := iu_N (k := 28) hn (by decide)
  unfold sl_requireReadable sm_isSet
  rw [e]
  by_cases h : n < 2 ^ 28
  · refine Or.inl ⟨n, h, rfl, ?_, ?_⟩
    · rw [show n / 2 ^ 28 = 0 by omega, if_pos (show nI 0 = 0 from rfl)]
    · rw [if_neg (nI_pos (by omega)), if_neg (show ¬ (268435456 : Int32) ≤ nI n from nI_ge (b := 268435456) h (by decide))]
      decide
  · refine Or.inr ⟨?_, ?_⟩
    · rw [if_neg]
      exact nI_ne0 (by omega) (by omega)
    · by_cases c : nI n < 0
      · rw [if_pos c]
      · rw [if_neg c, if_pos]
        have hc := nn_of c
        by_cases h2 : n < 2 ^ 31
        · exact nI_le (a := 268435456) (by omega) h2
        · exfalso
          have ht : (nI n).toInt = (BitVec.ofNat 32 n).toInt := rfl
          rw [ht, BitVec.toInt_eq_toNat_bmod, BitVec.toNat_ofNat, Nat.mod_eq_of_lt hn, Int.bmod_def] at hc
          split at hc <;> omega
theorem cd_place (p : Int32) : (∃ m : Nat, m < 28 ∧ p = nI m ∧ sl_requirePlace p = .inl () ∧ ¬ sm_isPlace p = 0) ∨ (sl_requirePlace p = .inr xIO ∧ sm_isPlace p = 0) := by
  unfold sl_requirePlace sm_isPlace
  have e : (28 : Int32).toInt = 28 := rfl
  by_cases c : p < 0
  · rw [if_pos c, if_pos c]; exact Or.inr ⟨rfl, rfl⟩
  · rw [if_neg c, if_neg c]
    by_cases c2 : p < 28
    · have c3 : ¬ 28 ≤ p := by rw [i_le]; rw [i_lt] at c2; omega
      rw [if_pos c2, if_neg c3]
      obtain ⟨m, hm, h⟩ := nn_N (b := 28) (nn_of c) (by rw [i_lt] at c2; omega)
      exact Or.inl ⟨m, hm, h, rfl, by decide⟩
    · have c3 : 28 ≤ p := by rw [i_le]; rw [i_lt] at c2; omega
      rw [if_neg c2, if_pos c3]; exact Or.inr ⟨rfl, rfl⟩
theorem cd_array (p : Int32) : (∃ m : Nat, m < 8 ∧ p = nI m ∧ sl_requireArray p = .inl () ∧ ¬ p < 0 ∧ ¬ 7 < p) ∨ (sl_requireArray p = .inr xIO ∧ (p < 0 ∨ ¬ p < 0 ∧ 7 < p)) := by
  unfold sl_requireArray
  have e : (8 : Int32).toInt = 8 := rfl
  have e7 : (7 : Int32).toInt = 7 := rfl
  by_cases c : p < 0
  · rw [if_pos c]; exact Or.inr ⟨rfl, Or.inl c⟩
  · rw [if_neg c]
    by_cases c2 : p < 8
    · rw [if_pos c2]
      obtain ⟨m, hm, h⟩ := nn_N (b := 8) (nn_of c) (by rw [i_lt] at c2; omega)
      exact Or.inl ⟨m, hm, h, rfl, c, by rw [i_lt] at c2 ⊢; omega⟩
    · rw [if_neg c2]; exact Or.inr ⟨rfl, Or.inr ⟨c, by rw [i_lt] at c2 ⊢; omega⟩⟩
/-! bits of the class's words -/
theorem bj_or (x y : Int64) (k : Nat) : bj (x ||| y) k = (bj x k || bj y k) := by
  unfold bj
  rw [Int64.toBitVec_or, BitVec.getLsbD_or]
theorem bj_and (x y : Int64) (k : Nat) : bj (x &&& y) k = (bj x k && bj y k) := by
  unfold bj
  rw [Int64.toBitVec_and, BitVec.getLsbD_and]
theorem bj_0 (k : Nat) : bj 0 k = false := by
  unfold bj
  show (0#64).getLsbD k = false
  rw [BitVec.getLsbD_zero]
theorem bj_ge (x : Int64) {k : Nat} (h : 64 ≤ k) : bj x k = false := BitVec.getLsbD_of_ge _ _ h
theorem tb_lt {P k : Nat} {w : Nat} (h : P < 2 ^ w) (hk : w ≤ k) : P.testBit k = false := Nat.testBit_lt_two_pow (Nat.lt_of_lt_of_le h (Nat.pow_le_pow_right (by decide) hk))
theorem bj_N {P : Nat} (hP : P < 2 ^ 64) (k : Nat) : bj (lN P) k = P.testBit k := by
  unfold bj
  show (BitVec.ofNat 64 P).getLsbD k = _
  rw [BitVec.getLsbD_ofNat]
  by_cases h : k < 64
  · rw [decide_eq_true h, Bool.true_and]
  · rw [decide_eq_false h, Bool.false_and, tb_lt hP (by omega)]
theorem jl_N (x : Int64) {m : Nat} (hm : m < 64) (k : Nat) : bj (jl x (nI m)) k = (decide (k < 64) && !decide (k < m) && bj x (k - m)) := by
  unfold jl bj
  rw [(by decide +kernel : ∀ k, k < 64 → ((nI k).toInt64 &&& 63) = lN k) m hm, Int64.toBitVec_shiftLeft, (by decide +kernel : ∀ k, k < 64 → ((lN k).toBitVec.smod 64) = BitVec.ofNat 64 k) m hm, BitVec.shiftLeft_eq', BitVec.getLsbD_shiftLeft, BitVec.toNat_ofNat, Nat.mod_eq_of_lt (by omega)]
theorem vo_N {P : Nat} (hP : P < 2 ^ 28) (k : Nat) : bj (sl_validitiesOf (nI P)) k = (decide (28 ≤ k) && P.testBit (k - 12)) := by
  unfold sl_validitiesOf
  have e : iu (nI P) 16 = nI (P / 2 ^ 16) := iu_N (k := 16) (by omega) (by decide)
  rw [e, nI_l (by omega)]
  have e2 := jl_N (lN (P / 2 ^ 16)) (m := 28) (by decide) k
  rw [show (nI 28) = (28 : Int32) from rfl] at e2
  rw [e2, bj_N (by omega), Nat.testBit_div_two_pow]
  by_cases h : 28 ≤ k
  · rw [decide_eq_true h, Bool.true_and, decide_eq_false (show ¬ k < 28 by omega), Bool.not_false, Bool.and_true, show k - 28 + 16 = k - 12 by omega]
    by_cases h2 : k < 64
    · rw [decide_eq_true h2, Bool.true_and]
    · rw [decide_eq_false h2, Bool.false_and, tb_lt hP (by omega)]
  · rw [decide_eq_false h, Bool.false_and, decide_eq_true (show k < 28 by omega), Bool.not_true, Bool.and_false, Bool.false_and]
/-- what a set of places makes a step read -/
def rb (P k : Nat) : Bool := P.testBit k || (decide (28 ≤ k) && P.testBit (k - 12))
theorem re_N {P : Nat} (hP : P < 2 ^ 28) (k : Nat) : bj (sl_reading (nI P)) k = rb P k := by
  unfold sl_reading
  rw [bj_or, vo_N hP, nI_l (by omega), bj_N (by omega)]
  rfl
theorem sh1_N : ∀ m, m < 28 → (1 : Int32) <<< (nI m &&& 31) = nI (2 ^ m) := by decide +kernel
theorem rw_N {P m : Nat} (hP : P < 2 ^ 28) (hm : m < 28) (k : Nat) : bj (sl_readingAndWriting (nI P) (nI m)) k = (rb P k || (decide (28 ≤ k) && decide (m = k - 12))) := by
  unfold sl_readingAndWriting
  rw [bj_or, re_N hP, sh1_N m hm, vo_N (Nat.pow_lt_pow_right (by decide) hm), Nat.testBit_two_pow]
theorem j1_64 : ∀ m, m < 28 → ∀ k, k < 64 → bj (jl 1 (nI m)) k = decide (k = m) := by decide +kernel
theorem j1_N {m : Nat} (hm : m < 28) (k : Nat) : bj (jl 1 (nI m)) k = decide (k = m) := by
  by_cases h : k < 64
  · exact j1_64 m hm k h
  · rw [bj_ge _ (by omega), decide_eq_false (by omega)]
theorem rb_41 {P k : Nat} (hP : P < 2 ^ 28) (h : 41 ≤ k) : rb P k = false := by
  unfold rb
  rw [tb_lt hP (by omega), tb_lt hP (by omega), Bool.and_false, Bool.or_false]
theorem orN {a b : Nat} (ha : a < 2 ^ 32) (hb : b < 2 ^ 32) : nI a ||| nI b = nI (a ||| b) := by
  apply Int32.toBitVec_inj.mp
  apply BitVec.eq_of_toNat_eq
  rw [Int32.toBitVec_or, BitVec.toNat_or, pk_tn ha, pk_tn hb, pk_tn (Nat.or_lt_two_pow ha hb)]
theorem rb_or (P Q k : Nat) : rb (P ||| Q) k = (rb P k || rb Q k) := by
  unfold rb
  rw [Nat.testBit_or, Nat.testBit_or]
  cases P.testBit k <;> cases Q.testBit k <;> cases P.testBit (k - 12) <;> cases Q.testBit (k - 12) <;> cases decide (28 ≤ k) <;> rfl
theorem dr_64 : ∀ k, k < 64 → bj 1099511627776 k = decide (k = 40) := by decide +kernel
theorem dr_N (k : Nat) : bj 1099511627776 k = decide (k = 40) := by
  by_cases h : k < 64
  · exact dr_64 k h
  · rw [bj_ge _ (by omega), decide_eq_false (by omega)]
