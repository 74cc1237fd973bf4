/-! the reference's loops over the forty-one things of a step -/
theorem th_N {n k : Nat} (hn : n < 48) (hk : k < 100) : ((41 : Int32) * nI n + nI k).toNatClampNeg = 41 * n + k := by
  rw [show (41 : Int32) = nI 41 from rfl, pk_mul, nI_add, nI_clamp (by omega)]
theorem th12_N {n k : Nat} (hn : n < 48) (hk : k < 100) : ((41 : Int32) * nI n + nI k + 12).toNatClampNeg = 41 * n + (k + 12) := by
  rw [show (41 : Int32) = nI 41 from rfl, show (12 : Int32) = nI 12 from rfl, pk_mul, nI_add, nI_add, nI_clamp (by omega), Nat.add_assoc]
theorem th28_N {n k : Nat} (hn : n < 48) (hk : k < 100) : ((41 : Int32) * nI n + 28 + nI k).toNatClampNeg = 41 * n + (28 + k) := by
  rw [show (41 : Int32) = nI 41 from rfl, show (28 : Int32) = nI 28 from rfl, pk_mul, nI_add, nI_add, nI_clamp (by omega), Nat.add_assoc]
theorem upd_upd (f : Nat → Int32) (n : Nat) (x y : Int32) : upd (upd f n x) n y = upd f n y := by
  funext j
  by_cases h : j = n
  · subst h; rw [pk_us, pk_us]
  · rw [pk_un h, pk_un h, pk_un h]
theorem c7_L {n : Nat} (hn : n < 48) : ∀ (m k N : Nat) (u v : Nat → Int32), m + k = 41 → m < N → ∃ u' v', sm_comes_L7 (nI n) N (nI k) u v = (u', v') ∧ (∀ q, q < 41 * n + k → u' q = u q ∧ v' q = v q) ∧ ∀ j, k ≤ j → j < 41 → u' (41 * n + j) = 0 ∧ v' (41 * n + j) = 0 := by
  intro m
  induction m with
  | zero =>
    intro k N u v h hN
    obtain ⟨N, rfl⟩ : ∃ q, N = q + 1 := ⟨N - 1, by omega⟩
    rw [sm_comes_L7_s, if_pos (show (41 : Int32) ≤ nI k from nI_le (a := 41) (by omega) (by omega))]
    exact ⟨u, v, rfl, fun q _ => ⟨rfl, rfl⟩, fun j h1 h2 => by omega⟩
  | succ m ih =>
    intro k N u v h hN
    obtain ⟨N, rfl⟩ : ∃ q, N = q + 1 := ⟨N - 1, by omega⟩
    rw [sm_comes_L7_s, if_neg (show ¬ (41 : Int32) ≤ nI k from nI_ge (b := 41) (by omega) (by omega)), th_N hn (by omega), nI_1]
    obtain ⟨u', v', e, h1, h2⟩ := ih (k + 1) N (upd u (41 * n + k) 0) (upd v (41 * n + k) 0) (by omega) (by omega)
    refine ⟨u', v', e, fun q hq => ?_, fun j h3 h4 => ?_⟩
    · have := h1 q (by omega)
      rw [pk_un (by omega), pk_un (by omega)] at this
      exact this
    · by_cases c : j = k
      · have := h1 (41 * n + k) (by omega)
        rw [pk_us, pk_us] at this
        rw [c]; exact this
      · exact h2 j (by omega) h4
theorem cm_N {uR uW uA uM uX uF uI : Nat → Int32} {ur ui c : Int32} {n : Nat} (hn : n < 48) : ∃ R0 W0, sm_comes uR uW uA uM uX uF uI (nI n) ur ui c = (nI n, R0, W0, upd uA n (-1), upd uM n 0, upd uX n 0, upd uF n 0, upd uI n ui, nI (n + 1), ur + c, 0, (-1)) ∧ (∀ q, q < 41 * n → R0 q = uR q ∧ W0 q = uW q) ∧ ∀ j, j < 41 → R0 (41 * n + j) = 0 ∧ W0 (41 * n + j) = 0 := by
  obtain ⟨u', v', e, h1, h2⟩ := c7_L hn 41 0 42 uR uW (by decide) (by decide)
  rw [nI_0] at e
  refine ⟨u', v', ?_, h1, fun j hj => h2 j (by omega) hj⟩
  unfold sm_comes
  rw [e]
  dsimp only
  rw [nI_clamp (by omega), nI_1]
theorem rd_L {n P : Nat} (hn : n < 48) (hP : P < 2 ^ 28) : ∀ (m k N : Nat) (u : Nat → Int32), m + k = 28 → m < N → (∀ q, q < 41 * n → sm_reads_L2 (nI n) (nI P) N (nI k) u q = u q) ∧ ∀ j, j < 41 → sm_reads_L2 (nI n) (nI P) N (nI k) u (41 * n + j) = if (k ≤ j ∧ P.testBit j = true) ∨ (28 ≤ j ∧ k + 12 ≤ j ∧ P.testBit (j - 12) = true) then 1 else u (41 * n + j) := by
  intro m
  induction m with
  | zero =>
    intro k N u h hN
    obtain ⟨N, rfl⟩ : ∃ q, N = q + 1 := ⟨N - 1, by omega⟩
    rw [sm_reads_L2_s, if_pos (show (28 : Int32) ≤ nI k from nI_le (a := 28) (by omega) (by omega))]
    refine ⟨fun q _ => rfl, fun j hj => ?_⟩
    rw [if_neg]
    rintro (⟨h1, h2⟩ | ⟨h1, h2, h3⟩)
    · rw [tb_lt hP (by omega)] at h2; cases h2
    · rw [tb_lt hP (by omega)] at h3; cases h3
  | succ m ih =>
    intro k N u h hN
    obtain ⟨N, rfl⟩ : ∃ q, N = q + 1 := ⟨N - 1, by omega⟩
    rw [sm_reads_L2_s, if_neg (show ¬ (28 : Int32) ≤ nI k from nI_ge (b := 28) (by omega) (by omega)), sh_N hP (by omega), th_N hn (by omega), th12_N hn (by omega), nI_1]
    have eb : P.testBit k = decide (P / 2 ^ k % 2 = 1) := by rw [Nat.testBit_eq_decide_div_mod_eq]
    by_cases c : P / 2 ^ k % 2 = 1
    · rw [decide_eq_true c] at eb
      rw [c, if_pos (show nI 1 = 1 from rfl)]
      by_cases c2 : k ≤ 15
      · rw [if_pos (show nI k ≤ 15 from nI_le (b := 15) c2 (by decide))]
        obtain ⟨i1, i2⟩ := ih (k + 1) N (upd u (41 * n + k) 1) (by omega) (by omega)
        refine ⟨fun q hq => ?_, fun j hj => ?_⟩
        · rw [i1 q hq, pk_un (by omega)]
        · rw [i2 j hj]
          by_cases cj : j = k
          · subst cj
            rw [pk_us, ite_self, if_pos (Or.inl ⟨Nat.le_refl _, eb⟩)]
          · rw [pk_un (by omega)]
            congr 1
            apply propext
            constructor
            · rintro (⟨h1, h2⟩ | ⟨h1, h2, h3⟩)
              · exact Or.inl ⟨by omega, h2⟩
              · exact Or.inr ⟨h1, by omega, h3⟩
            · rintro (⟨h1, h2⟩ | ⟨h1, h2, h3⟩)
              · exact Or.inl ⟨by omega, h2⟩
              · exact Or.inr ⟨h1, by omega, h3⟩
      · rw [if_neg (show ¬ nI k ≤ 15 from nI_ge (a := 15) (by omega) (by omega))]
        obtain ⟨i1, i2⟩ := ih (k + 1) N (upd (upd u (41 * n + k) 1) (41 * n + (k + 12)) 1) (by omega) (by omega)
        refine ⟨fun q hq => ?_, fun j hj => ?_⟩
        · rw [i1 q hq, pk_un (by omega), pk_un (by omega)]
        · rw [i2 j hj]
          by_cases cj : j = k
          · subst cj
            rw [pk_un (by omega), pk_us, ite_self, if_pos (Or.inl ⟨Nat.le_refl _, eb⟩)]
          · by_cases cj2 : j = k + 12
            · subst cj2
              rw [pk_us, ite_self, if_pos (Or.inr ⟨by omega, Nat.le_refl _, by rw [Nat.add_sub_cancel]; exact eb⟩)]
            · rw [pk_un (by omega), pk_un (by omega)]
              congr 1
              apply propext
              constructor
              · rintro (⟨h1, h2⟩ | ⟨h1, h2, h3⟩)
                · exact Or.inl ⟨by omega, h2⟩
                · exact Or.inr ⟨h1, by omega, h3⟩
              · rintro (⟨h1, h2⟩ | ⟨h1, h2, h3⟩)
                · exact Or.inl ⟨by omega, h2⟩
                · exact Or.inr ⟨h1, by omega, h3⟩
    · rw [decide_eq_false c] at eb
      rw [if_neg (show ¬ nI (P / 2 ^ k % 2) = 1 by rw [show P / 2 ^ k % 2 = 0 by omega]; decide)]
      obtain ⟨i1, i2⟩ := ih (k + 1) N u (by omega) (by omega)
      refine ⟨i1, fun j hj => ?_⟩
      rw [i2 j hj]
      congr 1
      apply propext
      constructor
      · rintro (⟨h1, h2⟩ | ⟨h1, h2, h3⟩)
        · exact Or.inl ⟨by omega, h2⟩
        · exact Or.inr ⟨h1, by omega, h3⟩
      · rintro (⟨h1, h2⟩ | ⟨h1, h2, h3⟩)
        · refine Or.inl ⟨?_, h2⟩
          by_cases q : j = k
          · rw [q, eb] at h2; cases h2
          · omega
        · refine Or.inr ⟨h1, ?_, h3⟩
          by_cases q : j = k + 12
          · rw [q, Nat.add_sub_cancel, eb] at h3; cases h3
          · omega
theorem rd_N {n P : Nat} (hn : n < 48) (hP : P < 2 ^ 28) (u : Nat → Int32) : (∀ q, q < 41 * n → sm_reads u (nI n) (nI P) q = u q) ∧ ∀ j, j < 41 → sm_reads u (nI n) (nI P) (41 * n + j) = if rb P j then 1 else u (41 * n + j) := by
  obtain ⟨h1, h2⟩ := rd_L hn hP 28 0 29 u (by decide) (by decide)
  rw [nI_0] at h1 h2
  refine ⟨h1, fun j hj => (h2 j hj).trans ?_⟩
  congr 1
  apply propext
  unfold rb
  rw [Bool.or_eq_true, Bool.and_eq_true, decide_eq_true_eq]
  constructor
  · rintro (⟨h1, h2⟩ | ⟨h1, h2, h3⟩)
    · exact Or.inl h2
    · exact Or.inr ⟨h1, h3⟩
  · rintro (h2 | ⟨h1, h3⟩)
    · exact Or.inl ⟨by omega, h2⟩
    · exact Or.inr ⟨h1, by omega, h3⟩
theorem wr_N {n m : Nat} (hn : n < 48) (hm : m < 41) (u v : Nat → Int32) : ∃ u' v', sm_writes u v (nI n) (nI m) = (u', v') ∧ (∀ q, q < 41 * n → u' q = u q ∧ v' q = v q) ∧ ∀ j, j < 41 → u' (41 * n + j) = (if (decide (m < 28) && decide (28 ≤ j) && decide (m = j - 12)) then 1 else u (41 * n + j)) ∧ v' (41 * n + j) = (if decide (j = m) then 1 else v (41 * n + j)) := by
  unfold sm_writes
  rw [th_N hn (by omega), th12_N hn (by omega)]
  have hw : ∀ j, j < 41 → upd v (41 * n + m) 1 (41 * n + j) = (if decide (j = m) then 1 else v (41 * n + j)) := by
    intro j hj
    by_cases c : j = m
    · rw [decide_eq_true c, if_pos rfl, c, pk_us]
    · rw [decide_eq_false c, if_neg (by decide), pk_un (by omega)]
  by_cases c : m ≤ 15
  · rw [if_pos (show nI m ≤ 15 from nI_le (b := 15) c (by decide))]
    refine ⟨_, _, rfl, fun q hq => ⟨rfl, pk_un (by omega)⟩, fun j hj => ⟨?_, hw j hj⟩⟩
    rw [if_neg]
    rw [Bool.and_eq_true, Bool.and_eq_true, decide_eq_true_eq, decide_eq_true_eq, decide_eq_true_eq]
    omega
  · rw [if_neg (show ¬ nI m ≤ 15 from nI_ge (a := 15) (by omega) (by omega))]
    by_cases c2 : 28 ≤ m
    · rw [if_pos (show (28 : Int32) ≤ nI m from nI_le (a := 28) c2 (by omega))]
      refine ⟨_, _, rfl, fun q hq => ⟨rfl, pk_un (by omega)⟩, fun j hj => ⟨?_, hw j hj⟩⟩
      rw [if_neg]
      rw [Bool.and_eq_true, Bool.and_eq_true, decide_eq_true_eq, decide_eq_true_eq, decide_eq_true_eq]
      omega
    · rw [if_neg (show ¬ (28 : Int32) ≤ nI m from nI_ge (b := 28) (by omega) (by omega))]
      refine ⟨_, _, rfl, fun q hq => ⟨pk_un (by omega), pk_un (by omega)⟩, fun j hj => ⟨?_, hw j hj⟩⟩
      by_cases q : j = m + 12
      · rw [q, pk_us, if_pos]
        rw [Bool.and_eq_true, Bool.and_eq_true, decide_eq_true_eq, decide_eq_true_eq, decide_eq_true_eq]
        omega
      · rw [pk_un (by omega), if_neg]
        rw [Bool.and_eq_true, Bool.and_eq_true, decide_eq_true_eq, decide_eq_true_eq, decide_eq_true_eq]
        omega
/-! a step comes -/
section
variable {rd wr : Nat → Int64} {ay ia mo wo so oi si mi wi : Nat → Int32} {ns nt nf np sl hs : Int32} {uR uW uA uM uX uF uI uS : Nat → Int32} {ut us ur ub uo ui ul uk uh : Int32} {n f : Nat}
theorem in_N (hf : f ≤ 8) (hI : RelI ia oi n f uF uI ui) : sl_innermostIf oi (nI f) = ui := by
  obtain ⟨-, -, h3⟩ := hI
  unfold sl_innermostIf
  by_cases c : f = 0
  · rw [if_pos c] at h3
    subst c
    rw [if_pos (show nI 0 < 1 by decide), h3]
  · obtain ⟨g, rfl⟩ : ∃ g, f = g + 1 := ⟨f - 1, by omega⟩
    rw [if_neg c, Nat.add_sub_cancel] at h3
    rw [if_neg (show ¬ nI (g + 1) < 1 from nI_nlt (b := 1) (by omega) (by omega)), if_neg (show ¬ (8 : Int32) < nI (g + 1) from nI_nlt (a := 8) (by omega) (by omega)), nI_pred, nI_clamp (by omega), h3]
theorem ad_N (hn : n ≤ 48) (hf : f ≤ 8) (hr : 0 ≤ ur.toInt ∧ ur.toInt ≤ 800) (hI : RelI ia oi n f uF uI ui) {c : Nat} (hc : c ≤ 100) (a b : Int64) (y : Int32) :
    (sl_addStep rd wr ay ia mo wo oi (nI n) (nI f) ur a b y (nI c) = .inr xIS ∧ ¬ sm_isFull (nI n) ur (nI c) = 0) ∨
    (n < 48 ∧ (0 ≤ (ur + nI c).toInt ∧ (ur + nI c).toInt ≤ 800) ∧ sl_addStep rd wr ay ia mo wo oi (nI n) (nI f) ur a b y (nI c) = .inl (nI n, vp_updL rd n a, vp_updL wr n b, upd ay n y, upd ia n ui, upd mo n 0, upd wo n 0, nI (n + 1), ur + nI c, 0, (-1)) ∧ sm_isFull (nI n) ur (nI c) = 0) := by
  unfold sl_addStep sm_isFull
  rw [if_neg (nI_pos (by omega))]
  have e800 : (800 : Int32).toInt = 800 := rfl
  have hc' : (nI c).toInt = c := nI_toInt (by omega)
  have hs : (ur + nI c).toInt = ur.toInt + c := by rw [i_ad (by omega) (by omega), hc']
  by_cases c1 : n = 48
  · subst c1
    left
    rw [if_neg (show ¬ nI 48 < 48 by decide), if_pos (show nI 48 = 48 from rfl)]
    exact ⟨rfl, by decide⟩
  · have hn' : n < 48 := by omega
    rw [if_pos (show nI n < 48 from nI_lt (b := 48) hn' (by decide)), if_neg (show ¬ nI n = 48 from fun q => c1 ((nI_eq (b := 48) (by omega) (by decide)).mp q))]
    by_cases c2 : ur + nI c ≤ 800
    · right
      rw [if_pos c2, if_pos c2]
      rw [i_le] at c2
      refine ⟨hn', ⟨by omega, by omega⟩, ?_, rfl⟩
      unfold sl_need
      rw [if_neg (nI_pos (by omega)), if_neg (show ¬ (48 : Int32) ≤ nI n from nI_ge (b := 48) hn' (by decide)), in_N hf hI, nI_clamp (by omega), nI_1]
      rfl
    · left
      rw [if_neg c2, if_neg c2]
      exact ⟨rfl, by decide⟩
theorem ri_add (hn : n < 48) (hI : RelI ia oi n f uF uI ui) {uF' : Nat → Int32} (hF : ∀ i, i < n → uF' i = uF i) : RelI (upd ia n ui) oi (n + 1) f uF' (upd uI n ui) ui := by
  obtain ⟨h1, h2, h3⟩ := hI
  refine ⟨fun i hi => ?_, fun t ht => ?_, h3⟩
  · by_cases c : i = n
    · subst c
      rw [pk_us, pk_us]
      by_cases cf : f = 0
      · rw [if_pos cf] at h3
        rw [h3]
        refine ⟨rfl, by decide, ?_, fun h => absurd h (by decide)⟩
        have : (-1 : Int32).toInt = -1 := rfl
        omega
      · rw [if_neg cf] at h3
        obtain ⟨k1, k2, k3, k4⟩ := h2 (f - 1) (by omega)
        rw [h3]
        refine ⟨rfl, by omega, k2, fun _ => ?_⟩
        rw [hF]
        · exact k3
        · show (oi (f - 1)).toInt.toNat < i
          omega
    · rw [pk_un c, pk_un c]
      obtain ⟨k1, k2, k3, k4⟩ := h1 i (by omega)
      refine ⟨k1, k2, k3, fun h => ?_⟩
      rw [hF]
      · exact k4 h
      · show (uI i).toInt.toNat < n
        omega
  · obtain ⟨k1, k2, k3, k4⟩ := h2 t ht
    have hq : (oi t).toNatClampNeg < n := by
      show (oi t).toInt.toNat < n
      omega
    refine ⟨k1, by omega, ?_, ?_⟩
    · rw [hF _ hq]; exact k3
    · rw [pk_un (by omega)]; exact k4
theorem ri_open (hn : n < 48) (hf : f ≤ 8) (hI : RelI ia oi (n + 1) f uF uI ui) (hF : uF n = 1) (hU : uI n = ui) : RelI ia (upd oi f (nI n)) (n + 1) (f + 1) uF uI (nI n) := by
  obtain ⟨h1, h2, h3⟩ := hI
  refine ⟨h1, fun t ht => ?_, ?_⟩
  · by_cases c : t = f
    · subst c
      rw [pk_us, nI_toInt (by omega), nI_clamp (by omega)]
      refine ⟨by omega, by omega, hF, ?_⟩
      rw [hU, h3]
      by_cases cf : t = 0
      · rw [if_pos cf, if_pos cf]
      · rw [if_neg cf, if_neg cf, pk_un (by omega)]
    · rw [pk_un c]
      obtain ⟨k1, k2, k3, k4⟩ := h2 t (by omega)
      refine ⟨k1, k2, k3, ?_⟩
      rw [k4]
      by_cases ct : t = 0
      · rw [if_pos ct, if_pos ct]
      · rw [if_neg ct, if_neg ct, pk_un (by omega)]
  · rw [if_neg (by omega), Nat.add_sub_cancel, pk_us]
theorem rs_add (hn : n < 48) (hS : RelS rd wr ay mo wo n uR uW uA uM uX) {a b : Int64} {y M W : Int32} {uR' uW' : Nat → Int32} (hy : -1 ≤ y.toInt ∧ y.toInt < 8) (hM : 0 ≤ M.toInt ∧ M.toInt ≤ 2304) (hW : 0 ≤ W.toInt ∧ W.toInt ≤ 32)
    (R1 : ∀ q, q < 41 * n → uR' q = uR q ∧ uW' q = uW q) (R2 : ∀ k, k < 41 → uR' (41 * n + k) = (if bj a k then 1 else 0) ∧ uW' (41 * n + k) = (if bj b k then 1 else 0)) : RelS (vp_updL rd n a) (vp_updL wr n b) (upd ay n y) (upd mo n M) (upd wo n W) (n + 1) uR' uW' (upd uA n y) (upd uM n M) (upd uX n W) := by
  intro i hi
  by_cases c : i = n
  · subst c
    rw [pk_us, pk_us, pk_us, pk_us, pk_us, pk_us, pk_uLs, pk_uLs]
    exact ⟨rfl, hy, rfl, hM, rfl, hW, R2⟩
  · rw [pk_un c, pk_un c, pk_un c, pk_un c, pk_un c, pk_un c, pk_uLn c, pk_uLn c]
    obtain ⟨k1, k2, k3, k4, k5, k6, k7⟩ := hS i (by omega)
    refine ⟨k1, k2, k3, k4, k5, k6, fun k hk => ?_⟩
    obtain ⟨r1, r2⟩ := R1 (41 * i + k) (by omega)
    rw [r1, r2]
    exact k7 k hk
theorem rb_add (hB : RelB rd wr n) {a b : Int64} (R3 : ∀ k, 41 ≤ k → bj a k = false ∧ bj b k = false) : RelB (vp_updL rd n a) (vp_updL wr n b) (n + 1) := by
  intro i hi k hk
  by_cases c : i = n
  · subst c
    rw [pk_uLs, pk_uLs]; exact R3 k hk
  · rw [pk_uLn c, pk_uLn c]; exact hB i (by omega) k hk
theorem rl_new : RelL so si mi wi mo wo n 0 (-1) uS uM uX 0 uk (-1) := ⟨rfl, Or.inl rfl, fun _ => rfl, fun h => absurd h (by decide)⟩
theorem rl_step (hn : n < 48) (hf : f ≤ 8) (hb : 0 ≤ ub.toInt ∧ ub.toInt ≤ 8) {ur' : Int32} (hr : 0 ≤ ur'.toInt ∧ ur'.toInt ≤ 800) (hS : RelS rd wr ay mo wo n uR uW uA uM uX) (hB : RelB rd wr n) (hI : RelI ia oi n f uF uI ui) {a b : Int64} {y M W : Int32} {uR' uW' uF' : Nat → Int32} (hy : -1 ≤ y.toInt ∧ y.toInt < 8) (hM : 0 ≤ M.toInt ∧ M.toInt ≤ 2304) (hW : 0 ≤ W.toInt ∧ W.toInt ≤ 32)
    (R1 : ∀ q, q < 41 * n → uR' q = uR q ∧ uW' q = uW q) (R2 : ∀ k, k < 41 → uR' (41 * n + k) = (if bj a k then 1 else 0) ∧ uW' (41 * n + k) = (if bj b k then 1 else 0)) (R3 : ∀ k, 41 ≤ k → bj a k = false ∧ bj b k = false) (hF : ∀ i, i < n → uF' i = uF i) :
    Rel (vp_updL rd n a) (vp_updL wr n b) (upd ay n y) (upd ia n ui) (upd mo n M) (upd wo n W) so oi si mi wi (nI (n + 1)) ub (nI f) ur' 0 (-1) uR' uW' (upd uA n y) (upd uM n M) (upd uX n W) uF' (upd uI n ui) uS ut (nI (n + 1)) ur' ub (nI f) ui 0 uk (-1) :=
  ⟨n + 1, f, by omega, hf, rfl, rfl, rfl, rfl, rfl, hb, rfl, hr, rs_add hn hS hy hM hW R1 R2, rb_add hB R3, ri_add hn hI hF, rl_new⟩
theorem rl_stepO (hn : n < 48) (hf : f < 8) (hb : 0 ≤ ub.toInt ∧ ub.toInt ≤ 8) {ur' : Int32} (hr : 0 ≤ ur'.toInt ∧ ur'.toInt ≤ 800) (hS : RelS rd wr ay mo wo n uR uW uA uM uX) (hB : RelB rd wr n) (hI : RelI ia oi n f uF uI ui) {a b : Int64} {y M W : Int32} {uR' uW' uF' : Nat → Int32} (hy : -1 ≤ y.toInt ∧ y.toInt < 8) (hM : 0 ≤ M.toInt ∧ M.toInt ≤ 2304) (hW : 0 ≤ W.toInt ∧ W.toInt ≤ 32)
    (R1 : ∀ q, q < 41 * n → uR' q = uR q ∧ uW' q = uW q) (R2 : ∀ k, k < 41 → uR' (41 * n + k) = (if bj a k then 1 else 0) ∧ uW' (41 * n + k) = (if bj b k then 1 else 0)) (R3 : ∀ k, 41 ≤ k → bj a k = false ∧ bj b k = false) (hF : ∀ i, i < n → uF' i = uF i) (hF2 : uF' n = 1) :
    Rel (vp_updL rd n a) (vp_updL wr n b) (upd ay n y) (upd ia n ui) (upd mo n M) (upd wo n W) so (upd oi f (nI n)) si mi wi (nI (n + 1)) ub (nI (f + 1)) ur' 0 (-1) uR' uW' (upd uA n y) (upd uM n M) (upd uX n W) uF' (upd uI n ui) uS ut (nI (n + 1)) ur' ub (nI (f + 1)) (nI n) 0 uk (-1) :=
  ⟨n + 1, f + 1, by omega, by omega, rfl, rfl, rfl, rfl, rfl, hb, rfl, hr, rs_add hn hS hy hM hW R1 R2, rb_add hB R3, ri_open hn (by omega) (ri_add hn hI hF) hF2 pk_us, rl_new⟩
end
theorem r_m1 : -1 ≤ (-1 : Int32).toInt ∧ (-1 : Int32).toInt < 8 := by decide
theorem r_0 {b : Int} (hb : 0 ≤ b) : 0 ≤ (0 : Int32).toInt ∧ (0 : Int32).toInt ≤ b := ⟨Int.le_refl 0, hb⟩
theorem r_ar {m : Nat} (h : m < 8) : -1 ≤ (nI m).toInt ∧ (nI m).toInt < 8 := by
  rw [nI_toInt (by omega)]; omega
