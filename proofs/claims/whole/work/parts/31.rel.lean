/-! what the class's state and the reference's have to do with each other -/
def bj (x : Int64) (k : Nat) : Bool := x.toBitVec.getLsbD k
/-- steps: their numbers, what they read and write, arrays, memory, wires -/
def RelS (rd wr : Nat → Int64) (ay mo wo : Nat → Int32) (n : Nat) (uR uW uA uM uX : Nat → Int32) : Prop :=
  ∀ i : Nat, i < n → ay i = uA i ∧ (-1 ≤ (ay i).toInt ∧ (ay i).toInt < 8) ∧ mo i = uM i ∧ (0 ≤ (mo i).toInt ∧ (mo i).toInt ≤ 2304) ∧ wo i = uX i ∧ (0 ≤ (wo i).toInt ∧ (wo i).toInt ≤ 32) ∧
    ∀ k : Nat, k < 41 → uR (41 * i + k) = (if bj (rd i) k then 1 else 0) ∧ uW (41 * i + k) = (if bj (wr i) k then 1 else 0)
/-- the bits behind the forty-first are none -/
def RelB (rd wr : Nat → Int64) (n : Nat) : Prop := ∀ i : Nat, i < n → ∀ k : Nat, 41 ≤ k → bj (rd i) k = false ∧ bj (wr i) k = false
/-- IFs: who is in which, which are begun and not ended -/
def RelI (ia oi : Nat → Int32) (n f : Nat) (uF uI : Nat → Int32) (ui : Int32) : Prop :=
  (∀ i : Nat, i < n → ia i = uI i ∧ -1 ≤ (uI i).toInt ∧ (uI i).toInt < i ∧ (0 ≤ (uI i).toInt → uF (uI i).toNatClampNeg = 1)) ∧
  (∀ t : Nat, t < f → 0 ≤ (oi t).toInt ∧ (oi t).toInt < n ∧ uF (oi t).toNatClampNeg = 1 ∧ uI (oi t).toNatClampNeg = (if t = 0 then -1 else oi (t - 1))) ∧
  ui = (if f = 0 then -1 else oi (f - 1))
/-- what is laid -/
def RelL (so si mi wi mo wo : Nat → Int32) (n : Nat) (sl hs : Int32) (uS uM uX : Nat → Int32) (ul uk uh : Int32) : Prop :=
  hs = uh ∧ (ul = 0 ∨ ul = 1) ∧ (ul = 0 → sl = 0) ∧
  (ul = 1 → sl = uk ∧ 1 ≤ uk.toInt ∧ uk.toInt ≤ 12 ∧ (∀ i : Nat, i < n → so i = uS i) ∧ ∀ s : Nat, s < 12 → si s = sm_sum uM uX uS (nI n) (nI s) 0 ∧ mi s = sm_sum uM uX uS (nI n) (nI s) 1 ∧ wi s = sm_sum uM uX uS (nI n) (nI s) 2)
def Rel (rd wr : Nat → Int64) (ay ia mo wo so oi si mi wi : Nat → Int32) (ns nt nf np sl hs : Int32) (uR uW uA uM uX uF uI uS : Nat → Int32) (ut us ur ub uo ui ul uk uh : Int32) : Prop :=
  ∃ n f : Nat, n ≤ 48 ∧ f ≤ 8 ∧ ns = nI n ∧ us = nI n ∧ nf = nI f ∧ uo = nI f ∧ nt = ub ∧ (0 ≤ ub.toInt ∧ ub.toInt ≤ 8) ∧ np = ur ∧ (0 ≤ ur.toInt ∧ ur.toInt ≤ 800) ∧
    RelS rd wr ay mo wo n uR uW uA uM uX ∧ RelB rd wr n ∧ RelI ia oi n f uF uI ui ∧ RelL so si mi wi mo wo n sl hs uS uM uX ul uk uh
section
variable {rd wr : Nat → Int64} {ay ia mo wo so oi si mi wi : Nat → Int32} {ns nt nf np sl hs : Int32} {uR uW uA uM uX uF uI uS : Nat → Int32} {ut us ur ub uo ui ul uk uh : Int32}
theorem rl_hu (hR : Rel rd wr ay ia mo wo so oi si mi wi ns nt nf np sl hs uR uW uA uM uX uF uI uS ut us ur ub uo ui ul uk uh) : 0 ≤ us.toInt ∧ us.toInt ≤ 48 := by
  obtain ⟨n, f, hn, hf, e1, e2, -⟩ := hR
  rw [e2, nI_toInt (by omega)]
  omega
theorem rl_ns (hR : Rel rd wr ay ia mo wo so oi si mi wi ns nt nf np sl hs uR uW uA uM uX uF uI uS ut us ur ub uo ui ul uk uh) : 0 ≤ ns.toInt ∧ ns.toInt ≤ 48 := by
  obtain ⟨n, f, hn, hf, e1, e2, -⟩ := hR
  rw [e1, nI_toInt (by omega)]
  omega
theorem rl_hc (hR : Rel rd wr ay ia mo wo so oi si mi wi ns nt nf np sl hs uR uW uA uM uX uF uI uS ut us ur ub uo ui ul uk uh) : ∀ j : Nat, j < us.toNatClampNeg → -1 ≤ (uI j).toInt ∧ (uI j).toInt < j := by
  obtain ⟨n, f, hn, hf, e1, e2, -, -, -, -, -, -, -, -, hI, -⟩ := hR
  intro j hj
  rw [e2, nI_clamp (by omega)] at hj
  obtain ⟨-, h2, h3, -⟩ := hI.1 j hj
  exact ⟨h2, h3⟩
theorem rl_hi (hR : Rel rd wr ay ia mo wo so oi si mi wi ns nt nf np sl hs uR uW uA uM uX uF uI uS ut us ur ub uo ui ul uk uh) : ¬ uo = 0 → 0 ≤ ui.toInt ∧ ui.toInt < 48 := by
  obtain ⟨n, f, hn, hf, e1, e2, e3, e4, -, -, -, -, -, -, hI, -⟩ := hR
  intro h
  have hf0 : f ≠ 0 := fun q => h (by rw [e4, q]; rfl)
  obtain ⟨-, h2, h3⟩ := hI
  rw [h3, if_neg hf0]
  have := h2 (f - 1) (by omega)
  omega
end
