/-! the ones of a set of places: the class's way to count them and the reference's -/
theorem pc_split {w A M B N : Nat} (hA : A < 2 ^ w) (hM : M < 2 ^ w) : (A + 2 ^ w * B) &&& (M + 2 ^ w * N) = (A &&& M) + 2 ^ w * (B &&& N) := by
  apply Nat.eq_of_testBit_eq
  intro i
  have e1 : A + 2 ^ w * B = 2 ^ w * B + A := Nat.add_comm _ _
  have e2 : M + 2 ^ w * N = 2 ^ w * N + M := Nat.add_comm _ _
  have e3 : (A &&& M) + 2 ^ w * (B &&& N) = 2 ^ w * (B &&& N) + (A &&& M) := Nat.add_comm _ _
  rw [Nat.testBit_and, e1, e2, e3, Nat.testBit_two_pow_mul_add _ hA, Nat.testBit_two_pow_mul_add _ hM, Nat.testBit_two_pow_mul_add _ (Nat.and_lt_two_pow _ hM)]
  by_cases h : i < w
  · simp only [if_pos h, Nat.testBit_and]
  · simp only [if_neg h, Nat.testBit_and]
theorem pc_4 {a b c d m : Nat} (ha : a < 256) (hb : b < 256) (hc : c < 256) (hm : m < 256) : (a + 256 * (b + 256 * (c + 256 * d))) &&& (m + 256 * (m + 256 * (m + 256 * m))) = (a &&& m) + 256 * ((b &&& m) + 256 * ((c &&& m) + 256 * (d &&& m))) := by
  have h1 := pc_split (w := 8) (A := a) (M := m) (B := b + 256 * (c + 256 * d)) (N := m + 256 * (m + 256 * m)) ha hm
  have h2 := pc_split (w := 8) (A := b) (M := m) (B := c + 256 * d) (N := m + 256 * m) hb hm
  have h3 := pc_split (w := 8) (A := c) (M := m) (B := d) (N := m) hc hm
  rw [show (2 : Nat) ^ 8 = 256 from rfl] at h1 h2 h3
  rw [h1, h2, h3]
def pcb (a : Nat) : Nat := a % 2 + a / 2 % 2 + a / 4 % 2 + a / 8 % 2 + a / 16 % 2 + a / 32 % 2 + a / 64 % 2 + a / 128 % 2
def pc1 (a : Nat) : Nat := a - (a / 2 &&& 85)
def pc2 (a : Nat) : Nat := (pc1 a &&& 51) + (pc1 a / 4 &&& 51)
theorem pc_f1 : ∀ a, a < 256 → ∀ r, r < 2 → (a / 2 + 128 * r) &&& 85 = (a / 2 &&& 85) ∧ (a / 2 &&& 85) ≤ a := by decide +kernel
theorem pc_f2 : ∀ a, a < 256 → ∀ r, r < 4 → (a / 4 + 64 * r) &&& 51 = (a / 4 &&& 51) := by decide +kernel
theorem pc_f3 : ∀ a, a < 256 → ∀ r, r < 5 → (pc2 a + pc2 a / 16 + 16 * r) &&& 15 = pcb a ∧ pc2 a + pc2 a / 16 + 16 * r < 256 := by decide +kernel
theorem pc_f4 : ∀ a, a < 256 → pc2 a % 16 < 5 ∧ pc2 a < 256 ∧ pcb a ≤ 8 := by decide +kernel
theorem pc_f5 : ∀ a, a < 16 → pcb a ≤ 4 := by decide +kernel
theorem pc_s1 {a b c d : Nat} (ha : a < 256) (hb : b < 256) (hc : c < 256) (hd : d < 256) : (a + 256 * (b + 256 * (c + 256 * d))) - (((a + 256 * (b + 256 * (c + 256 * d))) / 2) &&& 1431655765) = pc1 a + 256 * (pc1 b + 256 * (pc1 c + 256 * pc1 d)) ∧ (((a + 256 * (b + 256 * (c + 256 * d))) / 2) &&& 1431655765) ≤ a + 256 * (b + 256 * (c + 256 * d)) := by
  have e : (a + 256 * (b + 256 * (c + 256 * d))) / 2 = (a / 2 + 128 * (b % 2)) + 256 * ((b / 2 + 128 * (c % 2)) + 256 * ((c / 2 + 128 * (d % 2)) + 256 * (d / 2 + 128 * 0))) := by omega
  have e2 : (1431655765 : Nat) = 85 + 256 * (85 + 256 * (85 + 256 * 85)) := rfl
  have f1 := pc_f1 a ha (b % 2) (by omega)
  have f2 := pc_f1 b hb (c % 2) (by omega)
  have f3 := pc_f1 c hc (d % 2) (by omega)
  have f4 := pc_f1 d hd 0 (by omega)
  rw [e, e2, pc_4 (by omega) (by omega) (by omega) (by decide), f1.1, f2.1, f3.1, f4.1]
  unfold pc1
  omega
theorem pc_lt1 : ∀ a, a < 256 → pc1 a < 256 := by decide +kernel
theorem pc_s2 {a b c d : Nat} (ha : a < 256) (hb : b < 256) (hc : c < 256) (hd : d < 256) : ((pc1 a + 256 * (pc1 b + 256 * (pc1 c + 256 * pc1 d))) &&& 858993459) + (((pc1 a + 256 * (pc1 b + 256 * (pc1 c + 256 * pc1 d))) / 4) &&& 858993459) = pc2 a + 256 * (pc2 b + 256 * (pc2 c + 256 * pc2 d)) := by
  have la := pc_lt1 a ha
  have lb := pc_lt1 b hb
  have lc := pc_lt1 c hc
  have ld := pc_lt1 d hd
  unfold pc2
  generalize pc1 a = x at *
  generalize pc1 b = y at *
  generalize pc1 c = z at *
  generalize pc1 d = t at *
  have e : (x + 256 * (y + 256 * (z + 256 * t))) / 4 = (x / 4 + 64 * (y % 4)) + 256 * ((y / 4 + 64 * (z % 4)) + 256 * ((z / 4 + 64 * (t % 4)) + 256 * (t / 4 + 64 * 0))) := by omega
  have e2 : (858993459 : Nat) = 51 + 256 * (51 + 256 * (51 + 256 * 51)) := rfl
  rw [e, e2, pc_4 la lb lc (by decide), pc_4 (by omega) (by omega) (by omega) (by decide), pc_f2 x la _ (by omega), pc_f2 y lb _ (by omega), pc_f2 z lc _ (by omega), pc_f2 t ld _ (by omega)]
  omega
theorem pc_s3 {a b c d : Nat} (ha : a < 256) (hb : b < 256) (hc : c < 256) (hd : d < 256) : ((pc2 a + 256 * (pc2 b + 256 * (pc2 c + 256 * pc2 d))) + (pc2 a + 256 * (pc2 b + 256 * (pc2 c + 256 * pc2 d))) / 16) &&& 252645135 = pcb a + 256 * (pcb b + 256 * (pcb c + 256 * pcb d)) := by
  have la := pc_f4 a ha
  have lb := pc_f4 b hb
  have lc := pc_f4 c hc
  have ld := pc_f4 d hd
  have fa := pc_f3 a ha (pc2 b % 16) lb.1
  have fb := pc_f3 b hb (pc2 c % 16) lc.1
  have fc := pc_f3 c hc (pc2 d % 16) ld.1
  have fd := pc_f3 d hd 0 (by decide)
  rw [← fa.1, ← fb.1, ← fc.1, ← fd.1]
  replace fa := fa.2
  replace fb := fb.2
  replace fc := fc.2
  replace fd := fd.2
  generalize pc2 a = x at *
  generalize pc2 b = y at *
  generalize pc2 c = z at *
  generalize pc2 d = t at *
  have e : (x + 256 * (y + 256 * (z + 256 * t))) + (x + 256 * (y + 256 * (z + 256 * t))) / 16 = (x + x / 16 + 16 * (y % 16)) + 256 * ((y + y / 16 + 16 * (z % 16)) + 256 * ((z + z / 16 + 16 * (t % 16)) + 256 * (t + t / 16 + 16 * 0))) := by omega
  have e2 : (252645135 : Nat) = 15 + 256 * (15 + 256 * (15 + 256 * 15)) := rfl
  rw [e, e2, pc_4 fa fb fc (by decide)]
theorem pc_e {y1 y2 y3 y4 : Nat} (h1 : y1 ≤ 8) (h2 : y2 ≤ 8) (h3 : y3 ≤ 8) (h4 : y4 ≤ 4) : (y1 + 256 * (y2 + 256 * (y3 + 256 * y4)) + (y1 + 256 * (y2 + 256 * (y3 + 256 * y4))) / 256 + (y1 + 256 * (y2 + 256 * (y3 + 256 * y4)) + (y1 + 256 * (y2 + 256 * (y3 + 256 * y4))) / 256) / 65536) % 2 ^ 6 = y1 + y2 + y3 + y4 := by
  have e1 : (y1 + 256 * (y2 + 256 * (y3 + 256 * y4))) / 256 = y2 + 256 * (y3 + 256 * y4) := by omega
  rw [e1]
  have e2 : y1 + 256 * (y2 + 256 * (y3 + 256 * y4)) + (y2 + 256 * (y3 + 256 * y4)) = ((y1 + y2) + 256 * (y2 + y3)) + 65536 * ((y3 + y4) + 256 * y4) := by omega
  rw [e2]
  have e3 : ((y1 + y2) + 256 * (y2 + y3) + 65536 * ((y3 + y4) + 256 * y4)) / 65536 = (y3 + y4) + 256 * y4 := by omega
  rw [e3]
  omega
theorem iu_N {n : Nat} (hn : n < 2 ^ 32) {k : Nat} (hk : k < 32) : iu (nI n) (nI k) = nI (n / 2 ^ k) :=
  pk_ushrN hn (nI k) k ((by decide +kernel : ∀ k, k < 32 → (((nI k).toUInt32 &&& Int32.toUInt32 31).toBitVec % 32).toNat = k) k hk)
theorem an_N {a b : Nat} (ha : a < 2 ^ 32) (hb : b < 2 ^ 32) : nI a &&& nI b = nI (a &&& b) := by
  apply Int32.toBitVec_inj.mp
  apply BitVec.eq_of_toNat_eq
  rw [Int32.toBitVec_and, BitVec.toNat_and, pk_tn ha, pk_tn hb, pk_tn (Nat.and_lt_two_pow _ hb)]
def pcN (P : Nat) : Nat := pcb (P % 256) + pcb (P / 256 % 256) + pcb (P / 65536 % 256) + pcb (P / 16777216)
theorem ib_N {P : Nat} (hP : P < 2 ^ 28) : ib_count (nI P) = nI (pcN P) ∧ pcN P ≤ 28 := by
  obtain ⟨a, ha⟩ : ∃ a, a = P % 256 := ⟨_, rfl⟩
  obtain ⟨b, hb⟩ : ∃ b, b = P / 256 % 256 := ⟨_, rfl⟩
  obtain ⟨c, hc⟩ : ∃ c, c = P / 65536 % 256 := ⟨_, rfl⟩
  obtain ⟨d, hd⟩ : ∃ d, d = P / 16777216 := ⟨_, rfl⟩
  have e : P = a + 256 * (b + 256 * (c + 256 * d)) := by omega
  have la : a < 256 := by omega
  have lb : b < 256 := by omega
  have lc : c < 256 := by omega
  have ld : d < 16 := by omega
  have s1 := pc_s1 la lb lc (show d < 256 by omega)
  have s2 := pc_s2 la lb lc (show d < 256 by omega)
  have s3 := pc_s3 la lb lc (show d < 256 by omega)
  have qa := pc_f4 a la
  have qb := pc_f4 b lb
  have qc := pc_f4 c lc
  have qd := pc_f4 d (by omega)
  have q4 := pc_f5 d ld
  have la1 := pc_lt1 a la
  have lb1 := pc_lt1 b lb
  have lc1 := pc_lt1 c lc
  have ld1 := pc_lt1 d (by omega)
  unfold pcN
  rw [← ha, ← hb, ← hc, ← hd]
  refine ⟨?_, by omega⟩
  have m1 : (1431655765 : Int32) = nI 1431655765 := by decide
  have m2 : (858993459 : Int32) = nI 858993459 := by decide
  have m3 : (252645135 : Int32) = nI 252645135 := by decide
  have m4 : (63 : Int32) = nI 63 := by decide
  have k1 : iu (nI P) 1 = nI (P / 2) := iu_N (n := P) (k := 1) (by omega) (by decide)
  have x1 : nI P - (iu (nI P) 1 &&& 1431655765) = nI (pc1 a + 256 * (pc1 b + 256 * (pc1 c + 256 * pc1 d))) := by
    rw [k1, m1, an_N (by omega) (by decide), e, pk_sub s1.2, s1.1]
  unfold ib_count
  rw [x1]
  generalize hX1 : pc1 a + 256 * (pc1 b + 256 * (pc1 c + 256 * pc1 d)) = X1 at *
  have b1 : X1 < 2 ^ 32 := by omega
  have k2 : iu (nI X1) 2 = nI (X1 / 4) := iu_N (n := X1) (k := 2) b1 (by decide)
  have x2 : (nI X1 &&& 858993459) + (iu (nI X1) 2 &&& 858993459) = nI (pc2 a + 256 * (pc2 b + 256 * (pc2 c + 256 * pc2 d))) := by
    rw [k2, m2, an_N b1 (by decide), an_N (by omega) (by decide), nI_add, s2]
  rw [x2]
  generalize hX2 : pc2 a + 256 * (pc2 b + 256 * (pc2 c + 256 * pc2 d)) = X2 at *
  have b2 : X2 < 2 ^ 32 := by omega
  have b3 : X2 + X2 / 16 < 2 ^ 32 := by
    have fd := pc_f3 d (by omega) 0 (by decide)
    have fc := pc_f3 c (by omega) (pc2 d % 16) qd.1
    have fb := pc_f3 b (by omega) (pc2 c % 16) qc.1
    have fa := pc_f3 a (by omega) (pc2 b % 16) qb.1
    omega
  have k3 : iu (nI X2) 4 = nI (X2 / 16) := iu_N (n := X2) (k := 4) b2 (by decide)
  have x3 : (nI X2 + iu (nI X2) 4) &&& 252645135 = nI (pcb a + 256 * (pcb b + 256 * (pcb c + 256 * pcb d))) := by
    rw [k3, nI_add, m3, an_N b3 (by decide), s3]
  rw [x3]
  generalize pcb a = y1 at *
  generalize pcb b = y2 at *
  generalize pcb c = y3 at *
  generalize pcb d = y4 at *
  have k4 : iu (nI (y1 + 256 * (y2 + 256 * (y3 + 256 * y4)))) 8 = nI ((y1 + 256 * (y2 + 256 * (y3 + 256 * y4))) / 256) := iu_N (k := 8) (by omega) (by decide)
  rw [k4, nI_add]
  have k5 : iu (nI (y1 + 256 * (y2 + 256 * (y3 + 256 * y4)) + (y1 + 256 * (y2 + 256 * (y3 + 256 * y4))) / 256)) 16 = nI ((y1 + 256 * (y2 + 256 * (y3 + 256 * y4)) + (y1 + 256 * (y2 + 256 * (y3 + 256 * y4))) / 256) / 65536) := iu_N (k := 16) (by omega) (by decide)
  rw [k5, nI_add, pk_andN (m := 63) (by omega) 6 (by decide)]
  rw [pc_e (by omega) (by omega) (by omega) (by omega)]
theorem sh_N {P k : Nat} (hP : P < 2 ^ 28) (hk : k < 28) : ((nI P >>> (nI k &&& 31)) &&& 1) = nI (P / 2 ^ k % 2) := by
  have e := (by decide +kernel : ∀ k, k < 28 → ((nI k &&& 31).toBitVec.smod 32).toNat = k) k hk
  rw [pk_shrN (by omega) (nI k &&& 31) k e, pk_andN (m := 1) (Nat.lt_of_le_of_lt (Nat.div_le_self _ _) (by omega)) 1 (by decide)]
def pcS (P : Nat) : Nat → Nat → Nat
  | 0, _ => 0
  | m + 1, k => P / 2 ^ k % 2 + pcS P m (k + 1)
theorem on_L {P : Nat} (hP : P < 2 ^ 28) : ∀ (m k x n : Nat), m + k = 28 → m < n → sm_ones_L4 (nI P) n (nI x) (nI k) = nI (x + pcS P m k) := by
  intro m
  induction m with
  | zero =>
    intro k x n h hn
    obtain ⟨n, rfl⟩ : ∃ q, n = q + 1 := ⟨n - 1, by omega⟩
    rw [sm_ones_L4_s, if_pos (show (28 : Int32) ≤ nI k from nI_le (a := 28) (by omega) (by omega))]
    rfl
  | succ m ih =>
    intro k x n h hn
    obtain ⟨n, rfl⟩ : ∃ q, n = q + 1 := ⟨n - 1, by omega⟩
    rw [sm_ones_L4_s, if_neg (show ¬ (28 : Int32) ≤ nI k from nI_ge (b := 28) (by omega) (by omega)), sh_N hP (by omega), nI_add, nI_1, ih (k + 1) _ n (by omega) (by omega)]
    show nI (x + P / 2 ^ k % 2 + pcS P m (k + 1)) = nI (x + (P / 2 ^ k % 2 + pcS P m (k + 1)))
    rw [Nat.add_assoc]
theorem pcb_0 {P : Nat} (hP : P < 2 ^ 28) : pcb (P % 256) = P % 2 + P / 2 % 2 + P / 4 % 2 + P / 8 % 2 + P / 16 % 2 + P / 32 % 2 + P / 64 % 2 + P / 128 % 2 := by
  unfold pcb
  have h0 : P % 256 % 2 = P % 2 := by omega
  have h1 : P % 256 / 2 % 2 = P / 2 % 2 := by omega
  have h2 : P % 256 / 4 % 2 = P / 4 % 2 := by omega
  have h3 : P % 256 / 8 % 2 = P / 8 % 2 := by omega
  have h4 : P % 256 / 16 % 2 = P / 16 % 2 := by omega
  have h5 : P % 256 / 32 % 2 = P / 32 % 2 := by omega
  have h6 : P % 256 / 64 % 2 = P / 64 % 2 := by omega
  have h7 : P % 256 / 128 % 2 = P / 128 % 2 := by omega
  rw [h0, h1, h2, h3, h4, h5, h6, h7]
theorem pcb_1 {P : Nat} (hP : P < 2 ^ 28) : pcb (P / 256 % 256) = P / 256 % 2 + P / 512 % 2 + P / 1024 % 2 + P / 2048 % 2 + P / 4096 % 2 + P / 8192 % 2 + P / 16384 % 2 + P / 32768 % 2 := by
  unfold pcb
  have h0 : P / 256 % 256 % 2 = P / 256 % 2 := by omega
  have h1 : P / 256 % 256 / 2 % 2 = P / 512 % 2 := by omega
  have h2 : P / 256 % 256 / 4 % 2 = P / 1024 % 2 := by omega
  have h3 : P / 256 % 256 / 8 % 2 = P / 2048 % 2 := by omega
  have h4 : P / 256 % 256 / 16 % 2 = P / 4096 % 2 := by omega
  have h5 : P / 256 % 256 / 32 % 2 = P / 8192 % 2 := by omega
  have h6 : P / 256 % 256 / 64 % 2 = P / 16384 % 2 := by omega
  have h7 : P / 256 % 256 / 128 % 2 = P / 32768 % 2 := by omega
  rw [h0, h1, h2, h3, h4, h5, h6, h7]
theorem pcb_2 {P : Nat} (hP : P < 2 ^ 28) : pcb (P / 65536 % 256) = P / 65536 % 2 + P / 131072 % 2 + P / 262144 % 2 + P / 524288 % 2 + P / 1048576 % 2 + P / 2097152 % 2 + P / 4194304 % 2 + P / 8388608 % 2 := by
  unfold pcb
  have h0 : P / 65536 % 256 % 2 = P / 65536 % 2 := by omega
  have h1 : P / 65536 % 256 / 2 % 2 = P / 131072 % 2 := by omega
  have h2 : P / 65536 % 256 / 4 % 2 = P / 262144 % 2 := by omega
  have h3 : P / 65536 % 256 / 8 % 2 = P / 524288 % 2 := by omega
  have h4 : P / 65536 % 256 / 16 % 2 = P / 1048576 % 2 := by omega
  have h5 : P / 65536 % 256 / 32 % 2 = P / 2097152 % 2 := by omega
  have h6 : P / 65536 % 256 / 64 % 2 = P / 4194304 % 2 := by omega
  have h7 : P / 65536 % 256 / 128 % 2 = P / 8388608 % 2 := by omega
  rw [h0, h1, h2, h3, h4, h5, h6, h7]
theorem pcb_3 {P : Nat} (hP : P < 2 ^ 28) : pcb (P / 16777216) = P / 16777216 % 2 + P / 33554432 % 2 + P / 67108864 % 2 + P / 134217728 % 2 + 0 + 0 + 0 + 0 := by
  unfold pcb
  have h1 : P / 16777216 / 2 % 2 = P / 33554432 % 2 := by omega
  have h2 : P / 16777216 / 4 % 2 = P / 67108864 % 2 := by omega
  have h3 : P / 16777216 / 8 % 2 = P / 134217728 % 2 := by omega
  have h4 : P / 16777216 / 16 % 2 = 0 := by omega
  have h5 : P / 16777216 / 32 % 2 = 0 := by omega
  have h6 : P / 16777216 / 64 % 2 = 0 := by omega
  have h7 : P / 16777216 / 128 % 2 = 0 := by omega
  rw [h1, h2, h3, h4, h5, h6, h7]
theorem pc_as (z0 z1 z2 z3 z4 z5 z6 z7 z8 z9 z10 z11 z12 z13 z14 z15 z16 z17 z18 z19 z20 z21 z22 z23 z24 z25 z26 z27 : Nat) : 0 + (z0 + (z1 + (z2 + (z3 + (z4 + (z5 + (z6 + (z7 + (z8 + (z9 + (z10 + (z11 + (z12 + (z13 + (z14 + (z15 + (z16 + (z17 + (z18 + (z19 + (z20 + (z21 + (z22 + (z23 + (z24 + (z25 + (z26 + (z27 + 0)))))))))))))))))))))))))))) = (z0 + z1 + z2 + z3 + z4 + z5 + z6 + z7) + (z8 + z9 + z10 + z11 + z12 + z13 + z14 + z15) + (z16 + z17 + z18 + z19 + z20 + z21 + z22 + z23) + (z24 + z25 + z26 + z27 + 0 + 0 + 0 + 0) := by
  omega
theorem on_N {P : Nat} (hP : P < 2 ^ 28) : sm_ones (nI P) = nI (pcN P) := by
  have h : sm_ones_L4 (nI P) 29 (nI 0) (nI 0) = nI (0 + pcS P 28 0) := on_L hP 28 0 0 29 (by decide) (by decide)
  rw [nI_0] at h
  unfold sm_ones
  rw [h]
  dsimp only
  refine congrArg nI ?_
  unfold pcN
  rw [pcb_0 hP, pcb_1 hP, pcb_2 hP, pcb_3 hP]
  simp only [pcS, Nat.reduceAdd, Nat.reducePow, Nat.div_one]
  exact pc_as (P % 2) (P / 2 % 2) (P / 4 % 2) (P / 8 % 2) (P / 16 % 2) (P / 32 % 2) (P / 64 % 2) (P / 128 % 2) (P / 256 % 2) (P / 512 % 2) (P / 1024 % 2) (P / 2048 % 2) (P / 4096 % 2) (P / 8192 % 2) (P / 16384 % 2) (P / 32768 % 2) (P / 65536 % 2) (P / 131072 % 2) (P / 262144 % 2) (P / 524288 % 2) (P / 1048576 % 2) (P / 2097152 % 2) (P / 4194304 % 2) (P / 8388608 % 2) (P / 16777216 % 2) (P / 33554432 % 2) (P / 67108864 % 2) (P / 134217728 % 2)
