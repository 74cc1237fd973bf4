def xf_st : List (Nat × String) := [(91, "no such instance"), (103, "too many IFs are open"), (106, "no IF is open"), (115, "room is not 1 to 32"), (118, "not 1 to 4 keys"), (120, "there are 8 tables"), (126, "stages are not 1 to 12"), (128, "memory or wires below 0"), (150, "no such place"), (152, "no such array"), (154, "bits that are no place"), (156, "there are 48 steps"), (158, "more than 800 places were read")]
/-! words of mine: worlds before and behind a method, what a throw needs, small numbers -/
def iu (x y : Int32) : Int32 := (x.toUInt32 >>> (y.toUInt32 &&& Int32.toUInt32 31)).toInt32
def jl (x : Int64) (y : Int32) : Int64 := x <<< (y.toInt64 &&& 63)
def ju (x : Int64) (y : Int32) : Int64 := (x.toUInt64 >>> (y.toInt64.toUInt64 &&& Int64.toUInt64 63)).toInt64
def js (x : Int64) (y : Int32) : Int64 := x >>> (y.toInt64 &&& 63)
abbrev xIO : String := "java/lang/IndexOutOfBoundsException"
abbrev xIA : String := "java/lang/IllegalArgumentException"
abbrev xIS : String := "java/lang/IllegalStateException"
abbrev pr (D : va_G) (ws : va_W) (ty : List (ClassId × FieldType)) (sz : Nat) (U : State) : Prop := U.heap.size = sz ∧ va_P D vwCl ws U.heap ∧ va_K D vwCl ty U ∧ va_D (fun _ => True) ws
abbrev po (D : va_G) (ws : va_W) (ty : List (ClassId × FieldType)) (A : Nat → Prop) (t : State) : Prop := va_P D vwCl ws t.heap ∧ va_K D vwCl ty t ∧ va_D A ws
def xf_ca : List (String × String) := [(xIO, xIO), (xIA, xIA), (xIS, xIS)]
def xf_de : List MethodName := ["java/lang/RuntimeException", "java/lang/Exception", "java/lang/Throwable"].map (fun y => ⟨y, "<init>", "(Ljava/lang/String;)V"⟩)
def xf_nc : List (String × String) := [(xIO, xIA), (xIO, xIS), (xIA, xIO), (xIA, xIS), (xIS, xIO), (xIS, xIA)]
/-- what a throw of the class asks of the start: two statics of Throwable, its texts, what is castable -/
abbrev xf (sx : Nat → Nat) (A : Nat → Prop) (U : State) (H : Heap) : Prop :=
  vx_Zq "java/lang/Throwable" "UNASSIGNED_STACK" "[Ljava/lang/StackTraceElement;" A U H ∧ vx_Zq "java/lang/Throwable" "SUPPRESSED_SENTINEL" "Ljava/util/List;" A U H ∧ (∀ q ∈ xf_st, vk_R RX0 q.1 q.2 (sx q.1) U) ∧ (∀ q ∈ xf_ca, va_Nw (.castable q.1 q.2) U) ∧ (∀ y ∈ xf_de, va_Nw (.declares y) U) ∧ (∀ q ∈ xf_nc, va_Nc q.1 q.2 U)
abbrev prx (D : va_G) (ws : va_W) (ty : List (ClassId × FieldType)) (sz : Nat) (sx : Nat → Nat) (U : State) : Prop := pr D ws ty sz U ∧ xf sx (va_A ws sz) U U.heap
abbrev prx0 (sz : Nat) (sx : Nat → Nat) (U : State) : Prop := U.heap.size = sz ∧ xf sx (va_A ([] : va_W) sz) U U.heap
theorem xf_mv {sx : Nat → Nat} {A B : Nat → Prop} {s U : State} {H : Heap} {locs : List Loc} (h : xf sx A s s.heap) (hS : va_S A s.heap H locs) (hF : ∀ q, B q → A q) (hU : U.heap = H) (hW : s.WarmedH U.vm) : xf sx B U U.heap := by
  obtain ⟨h1, h2, h3, h4, h5, h6⟩ := h
  refine ⟨?_, ?_, fun q hq => vk_R.warm hW (h3 q hq), fun q hq => va_Nw.warmC hW (h4 q hq), fun y hy => va_Nw.warmD hW (h5 y hy), fun q hq => va_Nc.moved hW.alike (h6 q hq)⟩
  · rw [hU]; exact (vx_Zq.moved hW.alike (h1.kept hS.2.1)).narrow hF
  · rw [hU]; exact (vx_Zq.moved hW.alike (h2.kept hS.2.1)).narrow hF
theorem xf_cl {sx : Nat → Nat} {A : Nat → Prop} {U : State} {a : Array Value} {g : JFrame} {mk : MethodId} (h : xf sx A U U.heap) : xf sx A (U.calling g mk a) (U.calling g mk a).heap := by
  obtain ⟨h1, h2, h3, h4, h5, h6⟩ := h
  have hv : (U.calling g mk a).vm = U.vm := rfl
  refine ⟨vx_Zq.moved (u := U) (U := U.calling g mk a) (Vm.Alike.refl U.vm) h1, vx_Zq.moved (u := U) (U := U.calling g mk a) (Vm.Alike.refl U.vm) h2, fun q hq => vk_R.same hv (h3 q hq), fun q hq => va_Nw.same rfl hv.symm (h4 q hq), fun y hy => va_Nw.same rfl hv.symm (h5 y hy), fun q hq => va_Nc.moved (u := U) (U := U.calling g mk a) (Vm.Alike.refl U.vm) (h6 q hq)⟩
theorem pr_bl {av : List Value} {D : va_G} {ws : va_W} {ty : List (ClassId × FieldType)} {sz : Nat} : FrameBlind (va_Pc av (pr D ws ty sz)) := fun a U g mk q => by
  obtain ⟨q0, q1, qP, qK, qD⟩ := q
  exact ⟨q0, q1, qP, va_K.moved (u := U) (U := U.calling g mk a) (Vm.Alike.refl U.vm) qK, qD⟩
theorem prx_bl {av : List Value} {D : va_G} {ws : va_W} {ty : List (ClassId × FieldType)} {sz : Nat} {sx : Nat → Nat} : FrameBlind (va_Pc av (prx D ws ty sz sx)) := fun a U g mk q => by
  obtain ⟨q0, ⟨q1, qP, qK, qD⟩, qx⟩ := q
  exact ⟨q0, ⟨q1, qP, va_K.moved (u := U) (U := U.calling g mk a) (Vm.Alike.refl U.vm) qK, qD⟩, xf_cl qx⟩
theorem prx0_bl {av : List Value} {sz : Nat} {sx : Nat → Nat} : FrameBlind (va_Pc av (prx0 sz sx)) := fun a U g mk q => by
  obtain ⟨q0, q1, qx⟩ := q
  exact ⟨q0, q1, xf_cl qx⟩
theorem pr_ok {av : List Value} {D : va_G} {ws : va_W} {ty : List (ClassId × FieldType)} {s : State} {H : Heap} {A : Nat → Prop} (hK : va_K D vwCl ty s) (hP : va_P D vwCl ws H) (hD : va_D A ws) : ∀ U : State, U.heap = H → s.WarmedH U.vm → va_Pc av (pr D ws ty H.size) av.toArray U :=
  fun U hU hW => ⟨rfl, by rw [hU], by rw [hU]; exact hP, va_K.moved hW.alike hK, hD.weaken (fun _ _ _ _ => trivial)⟩
theorem prx_ok {av : List Value} {D : va_G} {ws : va_W} {ty : List (ClassId × FieldType)} {s : State} {H : Heap} {A : Nat → Prop} {sx : Nat → Nat} {locs : List Loc} (hK : va_K D vwCl ty s) (hP : va_P D vwCl ws H) (hD : va_D A ws) (hX : xf sx A s s.heap) (hS : va_S A s.heap H locs) (hF : ∀ q, va_A ws H.size q → A q) : ∀ U : State, U.heap = H → s.WarmedH U.vm → va_Pc av (prx D ws ty H.size sx) av.toArray U :=
  fun U hU hW => ⟨rfl, ⟨by rw [hU], by rw [hU]; exact hP, va_K.moved hW.alike hK, hD.weaken (fun _ _ _ _ => trivial)⟩, xf_mv hX hS hF hU hW⟩
theorem prx_ok0 {av : List Value} {s : State} {H : Heap} {A : Nat → Prop} {sx : Nat → Nat} {locs : List Loc} (hX : xf sx A s s.heap) (hS : va_S A s.heap H locs) (hF : ∀ q, va_A ([] : va_W) H.size q → A q) : ∀ U : State, U.heap = H → s.WarmedH U.vm → va_Pc av (prx0 H.size sx) av.toArray U :=
  fun U hU hW => ⟨rfl, by rw [hU], xf_mv hX hS hF hU hW⟩
theorem nA {q n : Nat} (h : q < n) : ¬ va_A ([] : va_W) n q := by
  intro h2
  rcases h2 with ⟨k, e, h3⟩ | h3
  · simp at h3
  · omega
section
variable {p : Program} {l : Launch} {e : Env} {R : Room} {s : State} {m : MethodId} {args : Array Value} {below : List Frame} {meth : Method} {c : Code} {cells slots : Nat} {Q : State → Prop} {g : JFrame}
theorem w_in (k : ∀ (H : Heap) (locs : List Loc), H = s.heap → locs = [] → W p l e R s m args below meth c H locs cells slots Q g) : W p l e R s m args below meth c s.heap [] cells slots Q g := k _ _ rfl rfl
end
-- ints in a range
theorem i_lt {x y : Int32} : x < y ↔ x.toInt < y.toInt := Int32.lt_iff_toInt_lt
theorem i_le {x y : Int32} : x ≤ y ↔ x.toInt ≤ y.toInt := Int32.le_iff_toInt_le
theorem i_0 : (0 : Int32).toInt = 0 := rfl
theorem nn_of {x : Int32} (h : ¬ x < 0) : 0 ≤ x.toInt := by rw [i_lt, i_0] at h; omega
theorem lt_of {x b : Int32} {n : Nat} (h : x < b) (hb : b.toInt < n) : x.toInt < n := by rw [i_lt] at h; omega
theorem lt_of2 {x b : Int32} {n : Nat} (h : ¬ b ≤ x) (hb : b.toInt < n) : x.toInt < n := by rw [i_le] at h; omega
theorem le_of {x b : Int32} {n : Int} (h : x < b) (hb : b.toInt ≤ n) : x.toInt ≤ n := by rw [i_lt] at h; omega
theorem le_ofle {x b : Int32} {n : Int} (h : x ≤ b) (hb : b.toInt ≤ n) : x.toInt ≤ n := by rw [i_le] at h; omega
theorem lt_ge {x b : Int32} (h : ¬ b ≤ x) : x < b := by rw [i_le] at h; rw [i_lt]; omega
theorem ix_lt {x b : Int32} {N : Nat} (h0 : ¬ x < 0) (h1 : x < b) (hb : b.toInt ≤ N) : vp_in x N := vp_in_iff.mpr ⟨nn_of h0, by rw [i_lt] at h1; omega⟩
theorem ix_le {x b : Int32} {N : Nat} (h0 : ¬ x < 0) (h1 : ¬ b ≤ x) (hb : b.toInt ≤ N) : vp_in x N := ix_lt h0 (lt_ge h1) hb
theorem ix_tr {x y b : Int32} {N : Nat} (h0 : ¬ x < 0) (h1 : ¬ y ≤ x) (h2 : y < b) (hb : b.toInt ≤ N := by decide) : vp_in x N := vp_in_iff.mpr ⟨nn_of h0, by rw [i_le] at h1; rw [i_lt] at h2; omega⟩
theorem i_p1 {x : Int32} (h : x.toInt < 2147483647) : (x + 1).toInt = x.toInt + 1 := by
  have h2 := x.minValue_le_toInt
  have h3 : (1 : Int32).toInt = 1 := rfl
  rw [Int32.toInt_add, h3]
  have h4 : Int32.minValue.toInt = -2147483648 := rfl
  rw [Int.bmod_def]; split <;> omega
theorem i_m1 {x : Int32} (h : -2147483648 < x.toInt) : (x - 1).toInt = x.toInt - 1 := by
  have h2 := Int32.toInt_lt x
  have h3 : (1 : Int32).toInt = 1 := rfl
  rw [Int32.toInt_sub, h3]
  rw [Int.bmod_def]; split <;> omega
theorem ix_m1 {x : Int32} (h1 : ¬ x < 1) (h2 : ¬ 8 < x) : vp_in (x - 1) 8 := by
  rw [i_lt] at h1 h2
  have e1 : (1 : Int32).toInt = 1 := rfl
  have e8 : (8 : Int32).toInt = 8 := rfl
  rw [vp_in_iff, i_m1 (by omega)]
  omega
theorem ix_m2 {x : Int32} (h1 : ¬ x < 1) (h2 : x ≤ 8) : vp_in (x - 1) 8 := by
  apply ix_m1 h1
  rw [i_lt]; rw [i_le] at h2; omega
-- counters: x up to b with n to spare
def cnt (b x : Int32) (n : Nat) : Prop := 0 ≤ x.toInt ∧ x.toInt ≤ b.toInt ∧ b.toInt < x.toInt + n
theorem cnt_z {b x : Int32} : ¬ cnt b x 0 := fun h => by obtain ⟨h1, h2, h3⟩ := h; omega
theorem cnt_s {b x : Int32} {n : Nat} (h : cnt b x (n + 1)) (c : ¬ b ≤ x) : cnt b (x + 1) n := by
  obtain ⟨h1, h2, h3⟩ := h
  rw [i_le] at c
  have hb := Int32.toInt_lt b
  have e : (x + 1).toInt = x.toInt + 1 := i_p1 (by omega)
  refine ⟨?_, ?_, ?_⟩ <;> rw [e] <;> omega
theorem cnt_in {b x : Int32} {n N : Nat} (h : cnt b x n) (c : ¬ b ≤ x) (hb : b.toInt ≤ N) : vp_in x N := by
  obtain ⟨h1, h2, h3⟩ := h
  rw [i_le] at c
  exact vp_in_iff.mpr ⟨h1, by omega⟩
theorem cnt_0 {b : Int32} {n : Nat} (h : 0 ≤ b.toInt) (h2 : b.toInt < n) : cnt b 0 n := ⟨Int.le_refl 0, h, by rw [i_0]; omega⟩
def cnl (b x : Int32) (n : Nat) : Prop := b.toInt ≤ 1000 ∧ 1 ≤ n ∧ b.toInt + 1 < x.toInt + n
theorem cnl_z {b x : Int32} : ¬ cnl b x 0 := fun h => by obtain ⟨h1, h2, h3⟩ := h; omega
theorem cnl_s {b x : Int32} {n : Nat} (h : cnl b x (n + 1)) (c : ¬ b < x) : cnl b (x + 1) n := by
  obtain ⟨h1, h2, h3⟩ := h
  rw [i_lt] at c
  have e : (x + 1).toInt = x.toInt + 1 := i_p1 (by omega)
  refine ⟨h1, ?_, ?_⟩
  · omega
  · rw [e]; omega
theorem ge1 {x : Int32} (h : ¬ x < 1) : 1 ≤ x.toInt := by
  rw [i_lt] at h
  have e : (1 : Int32).toInt = 1 := rfl
  omega
theorem ix_k {x : Int32} {n : Nat} (h : 0 ≤ x.toInt ∧ x.toInt < n) : vp_in x n := vp_in_iff.mpr h
theorem hin_xIA_117 : ∀ w ∈ (vx_atS RX0 117 "java/lang/IllegalArgumentException" ["java/lang/RuntimeException", "java/lang/Exception"]).filter goodWord, w ∈ gw := by decide +kernel
theorem hat_xIA_117 {args : Array Value} {s : State} {sx : Nat → Nat} {A : Nat → Prop} {H : Heap} (hg : ∀ w ∈ gw, w.before args s = true) (hX9 : xf sx A s H) : ∀ w ∈ vx_atS RX0 117 "java/lang/IllegalArgumentException" ["java/lang/RuntimeException", "java/lang/Exception"], w.before args s = true :=
  vx_hat (L := vx_atS RX0 117 "java/lang/IllegalArgumentException" ["java/lang/RuntimeException", "java/lang/Exception"]) (B := [.castable "java/lang/IllegalArgumentException" "java/lang/IllegalArgumentException", .declares ⟨"java/lang/RuntimeException", "<init>", "(Ljava/lang/String;)V"⟩, .declares ⟨"java/lang/Exception", "<init>", "(Ljava/lang/String;)V"⟩, .declares ⟨"java/lang/Throwable", "<init>", "(Ljava/lang/String;)V"⟩]) (fun w hw => hg w (hin_xIA_117 w hw)) (by decide +kernel) (vx_c (va_Nw.use rfl (hX9.2.2.2.1 ("java/lang/IllegalArgumentException", "java/lang/IllegalArgumentException") (by decide +kernel))) (vx_c (va_Nw.use rfl (hX9.2.2.2.2.1 ⟨"java/lang/RuntimeException", "<init>", "(Ljava/lang/String;)V"⟩ (by decide +kernel))) (vx_c (va_Nw.use rfl (hX9.2.2.2.2.1 ⟨"java/lang/Exception", "<init>", "(Ljava/lang/String;)V"⟩ (by decide +kernel))) (vx_c (va_Nw.use rfl (hX9.2.2.2.2.1 ⟨"java/lang/Throwable", "<init>", "(Ljava/lang/String;)V"⟩ (by decide +kernel))) (vx_n)))))
theorem hin_xIS_105 : ∀ w ∈ (vx_atS RX0 105 "java/lang/IllegalStateException" ["java/lang/RuntimeException", "java/lang/Exception"]).filter goodWord, w ∈ gw := by decide +kernel
theorem hat_xIS_105 {args : Array Value} {s : State} {sx : Nat → Nat} {A : Nat → Prop} {H : Heap} (hg : ∀ w ∈ gw, w.before args s = true) (hX9 : xf sx A s H) : ∀ w ∈ vx_atS RX0 105 "java/lang/IllegalStateException" ["java/lang/RuntimeException", "java/lang/Exception"], w.before args s = true :=
  vx_hat (L := vx_atS RX0 105 "java/lang/IllegalStateException" ["java/lang/RuntimeException", "java/lang/Exception"]) (B := [.castable "java/lang/IllegalStateException" "java/lang/IllegalStateException", .declares ⟨"java/lang/RuntimeException", "<init>", "(Ljava/lang/String;)V"⟩, .declares ⟨"java/lang/Exception", "<init>", "(Ljava/lang/String;)V"⟩, .declares ⟨"java/lang/Throwable", "<init>", "(Ljava/lang/String;)V"⟩]) (fun w hw => hg w (hin_xIS_105 w hw)) (by decide +kernel) (vx_c (va_Nw.use rfl (hX9.2.2.2.1 ("java/lang/IllegalStateException", "java/lang/IllegalStateException") (by decide +kernel))) (vx_c (va_Nw.use rfl (hX9.2.2.2.2.1 ⟨"java/lang/RuntimeException", "<init>", "(Ljava/lang/String;)V"⟩ (by decide +kernel))) (vx_c (va_Nw.use rfl (hX9.2.2.2.2.1 ⟨"java/lang/Exception", "<init>", "(Ljava/lang/String;)V"⟩ (by decide +kernel))) (vx_c (va_Nw.use rfl (hX9.2.2.2.2.1 ⟨"java/lang/Throwable", "<init>", "(Ljava/lang/String;)V"⟩ (by decide +kernel))) (vx_n)))))
theorem hin_xIO_93 : ∀ w ∈ (vx_atS RX0 93 "java/lang/IndexOutOfBoundsException" ["java/lang/RuntimeException", "java/lang/Exception"]).filter goodWord, w ∈ gw := by decide +kernel
theorem hat_xIO_93 {args : Array Value} {s : State} {sx : Nat → Nat} {A : Nat → Prop} {H : Heap} (hg : ∀ w ∈ gw, w.before args s = true) (hX9 : xf sx A s H) : ∀ w ∈ vx_atS RX0 93 "java/lang/IndexOutOfBoundsException" ["java/lang/RuntimeException", "java/lang/Exception"], w.before args s = true :=
  vx_hat (L := vx_atS RX0 93 "java/lang/IndexOutOfBoundsException" ["java/lang/RuntimeException", "java/lang/Exception"]) (B := [.castable "java/lang/IndexOutOfBoundsException" "java/lang/IndexOutOfBoundsException", .declares ⟨"java/lang/RuntimeException", "<init>", "(Ljava/lang/String;)V"⟩, .declares ⟨"java/lang/Exception", "<init>", "(Ljava/lang/String;)V"⟩, .declares ⟨"java/lang/Throwable", "<init>", "(Ljava/lang/String;)V"⟩]) (fun w hw => hg w (hin_xIO_93 w hw)) (by decide +kernel) (vx_c (va_Nw.use rfl (hX9.2.2.2.1 ("java/lang/IndexOutOfBoundsException", "java/lang/IndexOutOfBoundsException") (by decide +kernel))) (vx_c (va_Nw.use rfl (hX9.2.2.2.2.1 ⟨"java/lang/RuntimeException", "<init>", "(Ljava/lang/String;)V"⟩ (by decide +kernel))) (vx_c (va_Nw.use rfl (hX9.2.2.2.2.1 ⟨"java/lang/Exception", "<init>", "(Ljava/lang/String;)V"⟩ (by decide +kernel))) (vx_c (va_Nw.use rfl (hX9.2.2.2.2.1 ⟨"java/lang/Throwable", "<init>", "(Ljava/lang/String;)V"⟩ (by decide +kernel))) (vx_n)))))
abbrev ws_sl (a : Nat → Nat) (k : Nat → ClassId) (rd wr : Nat → Int64) (ay ia mo wo so oi si mi wi : Nat → Int32) (ns nt nf np sl hs : Int32) : va_W := [(a 0, .inr (0, [.ref (a 1), .ref (a 2), .ref (a 3), .ref (a 4), .ref (a 5), .ref (a 6), .ref (a 7), .ref (a 8), .ref (a 9), .ref (a 10), .ref (a 11), .int ns, .int nt, .int nf, .int np, .int sl, .int hs])), (a 1, .inl (k 1, 48, .inr (.inl rd))), (a 2, .inl (k 2, 48, .inr (.inl wr))), (a 3, .inl (k 3, 48, .inl ay)), (a 4, .inl (k 4, 48, .inl ia)), (a 5, .inl (k 5, 48, .inl mo)), (a 6, .inl (k 6, 48, .inl wo)), (a 7, .inl (k 7, 48, .inl so)), (a 8, .inl (k 8, 8, .inl oi)), (a 9, .inl (k 9, 12, .inl si)), (a 10, .inl (k 10, 12, .inl mi)), (a 11, .inl (k 11, 12, .inl wi))]
abbrev ty_sl (k : Nat → ClassId) : List (ClassId × FieldType) := [(k 1, .long), (k 2, .long), (k 3, .int), (k 4, .int), (k 5, .int), (k 6, .int), (k 7, .int), (k 8, .int), (k 9, .int), (k 10, .int), (k 11, .int)]
