theorem dfX0 : ∀ j, j < 17 → defaultValue (tyX0 j) = vp_V ([.null, .null, .null, .null, .null, .null, .null, .null, .null, .null, .null, .int 0, .int 0, .int 0, .int 0, .int 0, .int 0]) j := by
  intro j hj
  match j, hj with
  | 0, _ => rfl
  | 1, _ => rfl
  | 2, _ => rfl
  | 3, _ => rfl
  | 4, _ => rfl
  | 5, _ => rfl
  | 6, _ => rfl
  | 7, _ => rfl
  | 8, _ => rfl
  | 9, _ => rfl
  | 10, _ => rfl
  | 11, _ => rfl
  | 12, _ => rfl
  | 13, _ => rfl
  | 14, _ => rfl
  | 15, _ => rfl
  | 16, _ => rfl
  | (q + 17), h => exact absurd h (by omega)
theorem dfX1 : ∀ j, j < 17 → defaultValue (tyX1 j) = vp_V ([.int 0, .int 0, .int 0, .int 0, .int 0, .null, .null, .null, .null, .null, .null, .null, .int 0, .null, .int 0, .int 0, .int 0]) j := by
  intro j hj
  match j, hj with
  | 0, _ => rfl
  | 1, _ => rfl
  | 2, _ => rfl
  | 3, _ => rfl
  | 4, _ => rfl
  | 5, _ => rfl
  | 6, _ => rfl
  | 7, _ => rfl
  | 8, _ => rfl
  | 9, _ => rfl
  | 10, _ => rfl
  | 11, _ => rfl
  | 12, _ => rfl
  | 13, _ => rfl
  | 14, _ => rfl
  | 15, _ => rfl
  | 16, _ => rfl
  | (q + 17), h => exact absurd h (by omega)
theorem lw_sx {args : Array Value} {s : State} {cur : Nat} {k : Nat} {tx : String} (hc : s.vm.findClass RX0 = some cur) (h : (Cond.stringRef RX0 k tx).before args s = true) : vk_R RX0 k tx (match (Term.string RX0 k).eval #[] s none [] s with | some (.ref a) => a | _ => 0) s := by
  obtain ⟨-, -, -, a, -, -, -, -, -, hev⟩ := Cond.stringRef_spec hc h
  have hev2 : (Term.string RX0 k).eval #[] s none [] s = some (.ref a) := hev
  rw [hev2]
  exact vk_R.of h hev
theorem lw_xf {s : State} {b9 : Nat} (hts : ∀ w ∈ lw_tbl, w.before #[Value.ref b9] s = true) (hgv : (Jvm.Cond.and given_1 narrow_1).before #[Value.ref b9] s = true) : xf (fun k => match (Term.string RX0 k).eval #[] s none [] s with | some (.ref a) => a | _ => 0) (fun q : Nat => s.heap.size ≤ q) s s.heap := by
  have hs := flat_of_before _ hgv
  have ht : ∀ {i : Nat} {w : Cond}, tables_1[i]? = some w → w.before #[Value.ref b9] s = true := fun h => hts _ (List.mem_append_right _ (List.mem_of_getElem? h))
  obtain ⟨cur, iS, hKn⟩ := u_known (C := RX0) (T := TX0) (N := 17) (n := 17) (ws := gw) (fun w h => hts w (List.mem_filter.mp h).1) inX0 (hts _ (List.mem_filter.mp w_12).1)
  have hA : ∀ a : Nat, a < s.heap.size → ¬ (fun q : Nat => s.heap.size ≤ q) a := fun a h => Nat.not_le.mpr h
  refine ⟨?_, ?_, ?_, ?_, ?_, ?_⟩
  · exact vx_Zqof (ht (i := 136) (by decide +kernel)) (ht (i := 3) (by decide +kernel)) (hs (.isRef (.static "java/lang/Throwable" "UNASSIGNED_STACK" "[Ljava/lang/StackTraceElement;")) (by decide +kernel)) hA
  · exact vx_Zqof (ht (i := 138) (by decide +kernel)) (ht (i := 3) (by decide +kernel)) (hs (.isRef (.static "java/lang/Throwable" "SUPPRESSED_SENTINEL" "Ljava/util/List;")) (by decide +kernel)) hA
  · intro q hq
    simp only [xf_st, List.mem_cons, List.not_mem_nil, or_false] at hq
    rcases hq with rfl | rfl | rfl | rfl | rfl | rfl | rfl | rfl | rfl | rfl | rfl | rfl | rfl
    · exact lw_sx hKn.2.1 (ht (i := 256) (by decide +kernel))
    · exact lw_sx hKn.2.1 (ht (i := 272) (by decide +kernel))
    · exact lw_sx hKn.2.1 (ht (i := 280) (by decide +kernel))
    · exact lw_sx hKn.2.1 (ht (i := 298) (by decide +kernel))
    · exact lw_sx hKn.2.1 (ht (i := 305) (by decide +kernel))
    · exact lw_sx hKn.2.1 (ht (i := 306) (by decide +kernel))
    · exact lw_sx hKn.2.1 (ht (i := 314) (by decide +kernel))
    · exact lw_sx hKn.2.1 (ht (i := 315) (by decide +kernel))
    · exact lw_sx hKn.2.1 (ht (i := 150) (by decide +kernel))
    · exact lw_sx hKn.2.1 (ht (i := 241) (by decide +kernel))
    · exact lw_sx hKn.2.1 (ht (i := 180) (by decide +kernel))
    · exact lw_sx hKn.2.1 (ht (i := 215) (by decide +kernel))
    · exact lw_sx hKn.2.1 (ht (i := 222) (by decide +kernel))
  · intro q hq
    simp only [xf_ca, List.mem_cons, List.not_mem_nil, or_false] at hq
    rcases hq with rfl | rfl | rfl
    · exact va_Nw.of rfl (ht (i := 111) (by decide +kernel))
    · exact va_Nw.of rfl (ht (i := 291) (by decide +kernel))
    · exact va_Nw.of rfl (ht (i := 208) (by decide +kernel))
  · intro y hy
    simp only [xf_de, List.map_cons, List.map_nil, List.mem_cons, List.not_mem_nil, or_false] at hy
    rcases hy with rfl | rfl | rfl
    · exact va_Nw.of rfl (ht (i := 113) (by decide +kernel))
    · exact va_Nw.of rfl (ht (i := 115) (by decide +kernel))
    · exact va_Nw.of rfl (ht (i := 117) (by decide +kernel))
  · intro q hq
    simp only [xf_nc, List.mem_cons, List.not_mem_nil, or_false] at hq
    rcases hq with rfl | rfl | rfl | rfl | rfl | rfl
    · exact va_Nc.of (hs (.not (.castable xIO xIA)) (by decide +kernel))
    · exact va_Nc.of (hs (.not (.castable xIO xIS)) (by decide +kernel))
    · exact va_Nc.of (hs (.not (.castable xIA xIO)) (by decide +kernel))
    · exact va_Nc.of (hs (.not (.castable xIA xIS)) (by decide +kernel))
    · exact va_Nc.of (hs (.not (.castable xIS xIO)) (by decide +kernel))
    · exact va_Nc.of (hs (.not (.castable xIS xIA)) (by decide +kernel))
theorem rl_init : Rel (fun _ => 0) (fun _ => 0) (fun _ => 0) (fun _ => 0) (fun _ => 0) (fun _ => 0) (fun _ => 0) (fun _ => 0) (fun _ => 0) (fun _ => 0) (fun _ => 0) 0 0 0 0 0 (-1) (fun _ => 0) (fun _ => 0) (fun _ => 0) (fun _ => 0) (fun _ => 0) (fun _ => 0) (fun _ => 0) (fun _ => 0) 0 0 0 0 0 (-1) 0 0 (-1) := by
  refine ⟨0, 0, by decide, by decide, rfl, rfl, rfl, rfl, rfl, ⟨by decide, by decide⟩, rfl, ⟨by decide, by decide⟩, fun i h => absurd h (by omega), fun i h => absurd h (by omega), ⟨fun i h => absurd h (by omega), fun t h => absurd h (by omega), rfl⟩, rfl, Or.inl rfl, fun _ => rfl, fun h => absurd h (by decide)⟩
