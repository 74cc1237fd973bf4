set_option maxHeartbeats 4000000 in
set_option maxRecDepth 100000 in
theorem cm_init (l : Launch) (dC : Nat → ClassId) (dI : Nat → Nat → Nat) (h0 sz : Nat) : Met l yX1_init wsX1_init ({ frames := 1, cells := 8, slots := 4224, locals := 12 } : Room) (va_Pc [.ref h0] (pr (dC, dI) [(h0, .inr (1, [.int 0, .int 0, .int 0, .int 0, .int 0, .null, .null, .null, .null, .null, .null, .null, .int 0, .null, .int 0, .int 0, .int 0]))] [] sz)) (va_Qv (fun (u : (Nat → Nat) × (Nat → ClassId)) => u.1 0 = h0) (fun (u : (Nat → Nat) × (Nat → ClassId)) t => po (dC, dI) (ws_sm u.1 u.2 (fun _ => 0) (fun _ => 0) (fun _ => 0) (fun _ => 0) (fun _ => 0) (fun _ => 0) (fun _ => 0) (fun _ => 0) 0 0 0 0 0 (-1) 0 0 (-1)) (ty_sm u.2) (va_A [(h0, .inr (1, [.int 0, .int 0, .int 0, .int 0, .int 0, .null, .null, .null, .null, .null, .null, .null, .int 0, .null, .int 0, .int 0, .int 0]))] sz) t) (va_A [(h0, .inr (1, [.int 0, .int 0, .int 0, .int 0, .int 0, .null, .null, .null, .null, .null, .null, .null, .int 0, .null, .int 0, .int 0, .int 0]))] sz)) 8 4224 (va_A [(h0, .inr (1, [.int 0, .int 0, .int 0, .int 0, .int 0, .null, .null, .null, .null, .null, .null, .null, .int 0, .null, .int 0, .int 0, .int 0]))] sz) := by
  refine Met.ofW (cc := cX1_init) (maxL := 1) (ret := none) (by decide) rfl ?_
  intro p e s m args below meth c s₁ B hml hv
  obtain ⟨rfl, hsz, hP, hK, hD0⟩ := hv
  have hx := B.exec
  have hb := B.bytes
  have hr := B.returns
  have hts := atoms_spec (ws := wsX1_init) B.pre
  have hg : ∀ w ∈ gw, w.before _ s = true := fun w h => hts w (List.mem_cons_of_mem _ h)
  have hown : s.vm.findClass RX1 = some m.cls := findClass_of_methodNamed B.named
  have hlocks := B.notSynchronized
  have hin : meth.name = "<init>" := (name_of_methodNamed B.named B.method).1
  subst hsz
  have hD := hD0.self (sz := s.heap.size)
  generalize hAe : va_A [(h0, .inr (1, [.int 0, .int 0, .int 0, .int 0, .int 0, .null, .null, .null, .null, .null, .null, .null, .int 0, .null, .int 0, .int 0, .int 0]))] s.heap.size = A at hD ⊢
  have hA : ∀ q : Nat, s.heap.size ≤ q → A q := fun q h => by rw [← hAe]; exact Or.inr h
  clear hAe
  refine w_in (fun H locs eH eL => ?_)
  have hS : va_S A s.heap H locs := by rw [eH, eL]; exact va_S.rf
  have hP : va_P (dC, dI) vwCl [(h0, .inr (1, [.int 0, .int 0, .int 0, .int 0, .int 0, .null, .null, .null, .null, .null, .null, .null, .int 0, .null, .int 0, .int 0, .int 0]))] H := by rw [eH]; exact hP
  clear eH eL
  have hl := lv_entry ([.ref h0]) (n := 1) (Nat.le_of_ble_eq_true rfl)
  rw [lg_entry_eq]
  generalize (lg_sl ([.ref h0]) ++ List.replicate (1 - (lg_sl ([.ref h0])).length) Slot.unset).toArray = ls at hl ⊢
  have hl : lv_has ls 1 [(0, .ref h0)] := hl
  refine lv_aload_n hx hb dX1_init_0 rfl (lv_at hl 0 rfl) ?_
  refine W.objInit hx hb hown (hg _ w_345) (hg _ w_17) (hg _ w_18) rfl (by rw [hml]; exact hl.1) rfl dX1_init_1 (Nat.le_of_ble_eq_true rfl) (Nat.le_of_ble_eq_true rfl) ?_
  refine W.eq (g2 := F0 m 4 ls []) rfl ?_
  refine lv_aload_n hx hb dX1_init_4 rfl (lv_at hl 0 rfl) ?_
  refine lv_sipush (v := 1968) hx hb dX1_init_5 (by decide) ?_
  refine va_newa (atype := .boolean) (N' := 1968) (a0 := (1968, .inl (fun _ => 0))) (ty := .boolean) (n := 1968) hx hb (hg _ w_398) rfl hK hP hD hS hA (fun _ => rfl) (by decide) (by decide) (by decide) (Nat.le_of_ble_eq_true rfl) (Nat.le_of_ble_eq_true rfl) dX1_init_8 (fun q1 c1 H hK hP hD hS => ?_)
  have hP : va_P (dC, dI) vwCl [(h0, .inr (1, [.int 0, .int 0, .int 0, .int 0, .int 0, .null, .null, .null, .null, .null, .null, .null, .int 0, .null, .int 0, .int 0, .int 0])), (q1, .inl (c1, (1968, .inl (fun _ => 0))))] H := hP
  have hD : va_D A [(h0, .inr (1, [.int 0, .int 0, .int 0, .int 0, .int 0, .null, .null, .null, .null, .null, .null, .null, .int 0, .null, .int 0, .int 0, .int 0])), (q1, .inl (c1, (1968, .inl (fun _ => 0))))] := hD
  have hK : va_K (dC, dI) vwCl [(c1, .boolean)] s := hK
  refine va_putF (D := (dC, dI)) (ci := 1) (v := .ref q1) (ty := .array .boolean) (C := RX1) (T := TX1) (N := 17) hx hb hg inX1 tyX1 tyX1_ok nmX1 hown hK hP hD hS 0 rfl rfl 5 (by decide) (hg _ w_351) (fun _ h9 => h9) rfl hin rfl (by decide +kernel) rfl rfl (Nat.le_of_ble_eq_true rfl) dX1_init_10 (fun H locs hP hD hS => ?_)
  have hP : va_P (dC, dI) vwCl [(h0, .inr (1, [.int 0, .int 0, .int 0, .int 0, .int 0, .ref q1, .null, .null, .null, .null, .null, .null, .int 0, .null, .int 0, .int 0, .int 0])), (q1, .inl (c1, (1968, .inl (fun _ => 0))))] H := hP
  have hD : va_D A [(h0, .inr (1, [.int 0, .int 0, .int 0, .int 0, .int 0, .ref q1, .null, .null, .null, .null, .null, .null, .int 0, .null, .int 0, .int 0, .int 0])), (q1, .inl (c1, (1968, .inl (fun _ => 0))))] := hD
  refine lv_aload_n hx hb dX1_init_13 rfl (lv_at hl 0 rfl) ?_
  refine lv_sipush (v := 1968) hx hb dX1_init_14 (by decide) ?_
  refine va_newa (atype := .boolean) (N' := 1968) (a0 := (1968, .inl (fun _ => 0))) (ty := .boolean) (n := 1968) hx hb (hg _ w_398) rfl hK hP hD hS hA (fun _ => rfl) (by decide) (by decide) (by decide) (Nat.le_of_ble_eq_true rfl) (Nat.le_of_ble_eq_true rfl) dX1_init_17 (fun q2 c2 H hK hP hD hS => ?_)
  have hP : va_P (dC, dI) vwCl [(h0, .inr (1, [.int 0, .int 0, .int 0, .int 0, .int 0, .ref q1, .null, .null, .null, .null, .null, .null, .int 0, .null, .int 0, .int 0, .int 0])), (q1, .inl (c1, (1968, .inl (fun _ => 0)))), (q2, .inl (c2, (1968, .inl (fun _ => 0))))] H := hP
  have hD : va_D A [(h0, .inr (1, [.int 0, .int 0, .int 0, .int 0, .int 0, .ref q1, .null, .null, .null, .null, .null, .null, .int 0, .null, .int 0, .int 0, .int 0])), (q1, .inl (c1, (1968, .inl (fun _ => 0)))), (q2, .inl (c2, (1968, .inl (fun _ => 0))))] := hD
  have hK : va_K (dC, dI) vwCl [(c1, .boolean), (c2, .boolean)] s := hK
  refine va_putF (D := (dC, dI)) (ci := 1) (v := .ref q2) (ty := .array .boolean) (C := RX1) (T := TX1) (N := 17) hx hb hg inX1 tyX1 tyX1_ok nmX1 hown hK hP hD hS 0 rfl rfl 6 (by decide) (hg _ w_352) (fun _ h9 => h9) rfl hin rfl (by decide +kernel) rfl rfl (Nat.le_of_ble_eq_true rfl) dX1_init_19 (fun H locs hP hD hS => ?_)
  have hP : va_P (dC, dI) vwCl [(h0, .inr (1, [.int 0, .int 0, .int 0, .int 0, .int 0, .ref q1, .ref q2, .null, .null, .null, .null, .null, .int 0, .null, .int 0, .int 0, .int 0])), (q1, .inl (c1, (1968, .inl (fun _ => 0)))), (q2, .inl (c2, (1968, .inl (fun _ => 0))))] H := hP
  have hD : va_D A [(h0, .inr (1, [.int 0, .int 0, .int 0, .int 0, .int 0, .ref q1, .ref q2, .null, .null, .null, .null, .null, .int 0, .null, .int 0, .int 0, .int 0])), (q1, .inl (c1, (1968, .inl (fun _ => 0)))), (q2, .inl (c2, (1968, .inl (fun _ => 0))))] := hD
  refine lv_aload_n hx hb dX1_init_22 rfl (lv_at hl 0 rfl) ?_
  refine lv_bipush (v := 48) hx hb dX1_init_23 (by decide) ?_
  refine va_newa (atype := .int) (N' := 48) (a0 := (48, .inl (fun _ => 0))) (ty := .int) (n := 48) hx hb (hg _ w_72) rfl hK hP hD hS hA (fun _ => rfl) (by decide) (by decide) (by decide) (Nat.le_of_ble_eq_true rfl) (Nat.le_of_ble_eq_true rfl) dX1_init_25 (fun q3 c3 H hK hP hD hS => ?_)
  have hP : va_P (dC, dI) vwCl [(h0, .inr (1, [.int 0, .int 0, .int 0, .int 0, .int 0, .ref q1, .ref q2, .null, .null, .null, .null, .null, .int 0, .null, .int 0, .int 0, .int 0])), (q1, .inl (c1, (1968, .inl (fun _ => 0)))), (q2, .inl (c2, (1968, .inl (fun _ => 0)))), (q3, .inl (c3, (48, .inl (fun _ => 0))))] H := hP
  have hD : va_D A [(h0, .inr (1, [.int 0, .int 0, .int 0, .int 0, .int 0, .ref q1, .ref q2, .null, .null, .null, .null, .null, .int 0, .null, .int 0, .int 0, .int 0])), (q1, .inl (c1, (1968, .inl (fun _ => 0)))), (q2, .inl (c2, (1968, .inl (fun _ => 0)))), (q3, .inl (c3, (48, .inl (fun _ => 0))))] := hD
  have hK : va_K (dC, dI) vwCl [(c1, .boolean), (c2, .boolean), (c3, .int)] s := hK
  refine va_putF (D := (dC, dI)) (ci := 1) (v := .ref q3) (ty := .array .int) (C := RX1) (T := TX1) (N := 17) hx hb hg inX1 tyX1 tyX1_ok nmX1 hown hK hP hD hS 0 rfl rfl 7 (by decide) (hg _ w_353) (fun _ h9 => h9) rfl hin rfl (by decide +kernel) rfl rfl (Nat.le_of_ble_eq_true rfl) dX1_init_27 (fun H locs hP hD hS => ?_)
  have hP : va_P (dC, dI) vwCl [(h0, .inr (1, [.int 0, .int 0, .int 0, .int 0, .int 0, .ref q1, .ref q2, .ref q3, .null, .null, .null, .null, .int 0, .null, .int 0, .int 0, .int 0])), (q1, .inl (c1, (1968, .inl (fun _ => 0)))), (q2, .inl (c2, (1968, .inl (fun _ => 0)))), (q3, .inl (c3, (48, .inl (fun _ => 0))))] H := hP
  have hD : va_D A [(h0, .inr (1, [.int 0, .int 0, .int 0, .int 0, .int 0, .ref q1, .ref q2, .ref q3, .null, .null, .null, .null, .int 0, .null, .int 0, .int 0, .int 0])), (q1, .inl (c1, (1968, .inl (fun _ => 0)))), (q2, .inl (c2, (1968, .inl (fun _ => 0)))), (q3, .inl (c3, (48, .inl (fun _ => 0))))] := hD
  refine lv_aload_n hx hb dX1_init_30 rfl (lv_at hl 0 rfl) ?_
  refine lv_bipush (v := 48) hx hb dX1_init_31 (by decide) ?_
  refine va_newa (atype := .int) (N' := 48) (a0 := (48, .inl (fun _ => 0))) (ty := .int) (n := 48) hx hb (hg _ w_72) rfl hK hP hD hS hA (fun _ => rfl) (by decide) (by decide) (by decide) (Nat.le_of_ble_eq_true rfl) (Nat.le_of_ble_eq_true rfl) dX1_init_33 (fun q4 c4 H hK hP hD hS => ?_)
  have hP : va_P (dC, dI) vwCl [(h0, .inr (1, [.int 0, .int 0, .int 0, .int 0, .int 0, .ref q1, .ref q2, .ref q3, .null, .null, .null, .null, .int 0, .null, .int 0, .int 0, .int 0])), (q1, .inl (c1, (1968, .inl (fun _ => 0)))), (q2, .inl (c2, (1968, .inl (fun _ => 0)))), (q3, .inl (c3, (48, .inl (fun _ => 0)))), (q4, .inl (c4, (48, .inl (fun _ => 0))))] H := hP
  have hD : va_D A [(h0, .inr (1, [.int 0, .int 0, .int 0, .int 0, .int 0, .ref q1, .ref q2, .ref q3, .null, .null, .null, .null, .int 0, .null, .int 0, .int 0, .int 0])), (q1, .inl (c1, (1968, .inl (fun _ => 0)))), (q2, .inl (c2, (1968, .inl (fun _ => 0)))), (q3, .inl (c3, (48, .inl (fun _ => 0)))), (q4, .inl (c4, (48, .inl (fun _ => 0))))] := hD
  have hK : va_K (dC, dI) vwCl [(c1, .boolean), (c2, .boolean), (c3, .int), (c4, .int)] s := hK
  refine va_putF (D := (dC, dI)) (ci := 1) (v := .ref q4) (ty := .array .int) (C := RX1) (T := TX1) (N := 17) hx hb hg inX1 tyX1 tyX1_ok nmX1 hown hK hP hD hS 0 rfl rfl 8 (by decide) (hg _ w_354) (fun _ h9 => h9) rfl hin rfl (by decide +kernel) rfl rfl (Nat.le_of_ble_eq_true rfl) dX1_init_35 (fun H locs hP hD hS => ?_)
  have hP : va_P (dC, dI) vwCl [(h0, .inr (1, [.int 0, .int 0, .int 0, .int 0, .int 0, .ref q1, .ref q2, .ref q3, .ref q4, .null, .null, .null, .int 0, .null, .int 0, .int 0, .int 0])), (q1, .inl (c1, (1968, .inl (fun _ => 0)))), (q2, .inl (c2, (1968, .inl (fun _ => 0)))), (q3, .inl (c3, (48, .inl (fun _ => 0)))), (q4, .inl (c4, (48, .inl (fun _ => 0))))] H := hP
  have hD : va_D A [(h0, .inr (1, [.int 0, .int 0, .int 0, .int 0, .int 0, .ref q1, .ref q2, .ref q3, .ref q4, .null, .null, .null, .int 0, .null, .int 0, .int 0, .int 0])), (q1, .inl (c1, (1968, .inl (fun _ => 0)))), (q2, .inl (c2, (1968, .inl (fun _ => 0)))), (q3, .inl (c3, (48, .inl (fun _ => 0)))), (q4, .inl (c4, (48, .inl (fun _ => 0))))] := hD
  refine lv_aload_n hx hb dX1_init_38 rfl (lv_at hl 0 rfl) ?_
  refine lv_bipush (v := 48) hx hb dX1_init_39 (by decide) ?_
  refine va_newa (atype := .int) (N' := 48) (a0 := (48, .inl (fun _ => 0))) (ty := .int) (n := 48) hx hb (hg _ w_72) rfl hK hP hD hS hA (fun _ => rfl) (by decide) (by decide) (by decide) (Nat.le_of_ble_eq_true rfl) (Nat.le_of_ble_eq_true rfl) dX1_init_41 (fun q5 c5 H hK hP hD hS => ?_)
  have hP : va_P (dC, dI) vwCl [(h0, .inr (1, [.int 0, .int 0, .int 0, .int 0, .int 0, .ref q1, .ref q2, .ref q3, .ref q4, .null, .null, .null, .int 0, .null, .int 0, .int 0, .int 0])), (q1, .inl (c1, (1968, .inl (fun _ => 0)))), (q2, .inl (c2, (1968, .inl (fun _ => 0)))), (q3, .inl (c3, (48, .inl (fun _ => 0)))), (q4, .inl (c4, (48, .inl (fun _ => 0)))), (q5, .inl (c5, (48, .inl (fun _ => 0))))] H := hP
  have hD : va_D A [(h0, .inr (1, [.int 0, .int 0, .int 0, .int 0, .int 0, .ref q1, .ref q2, .ref q3, .ref q4, .null, .null, .null, .int 0, .null, .int 0, .int 0, .int 0])), (q1, .inl (c1, (1968, .inl (fun _ => 0)))), (q2, .inl (c2, (1968, .inl (fun _ => 0)))), (q3, .inl (c3, (48, .inl (fun _ => 0)))), (q4, .inl (c4, (48, .inl (fun _ => 0)))), (q5, .inl (c5, (48, .inl (fun _ => 0))))] := hD
  have hK : va_K (dC, dI) vwCl [(c1, .boolean), (c2, .boolean), (c3, .int), (c4, .int), (c5, .int)] s := hK
  refine va_putF (D := (dC, dI)) (ci := 1) (v := .ref q5) (ty := .array .int) (C := RX1) (T := TX1) (N := 17) hx hb hg inX1 tyX1 tyX1_ok nmX1 hown hK hP hD hS 0 rfl rfl 9 (by decide) (hg _ w_355) (fun _ h9 => h9) rfl hin rfl (by decide +kernel) rfl rfl (Nat.le_of_ble_eq_true rfl) dX1_init_43 (fun H locs hP hD hS => ?_)
  have hP : va_P (dC, dI) vwCl [(h0, .inr (1, [.int 0, .int 0, .int 0, .int 0, .int 0, .ref q1, .ref q2, .ref q3, .ref q4, .ref q5, .null, .null, .int 0, .null, .int 0, .int 0, .int 0])), (q1, .inl (c1, (1968, .inl (fun _ => 0)))), (q2, .inl (c2, (1968, .inl (fun _ => 0)))), (q3, .inl (c3, (48, .inl (fun _ => 0)))), (q4, .inl (c4, (48, .inl (fun _ => 0)))), (q5, .inl (c5, (48, .inl (fun _ => 0))))] H := hP
  have hD : va_D A [(h0, .inr (1, [.int 0, .int 0, .int 0, .int 0, .int 0, .ref q1, .ref q2, .ref q3, .ref q4, .ref q5, .null, .null, .int 0, .null, .int 0, .int 0, .int 0])), (q1, .inl (c1, (1968, .inl (fun _ => 0)))), (q2, .inl (c2, (1968, .inl (fun _ => 0)))), (q3, .inl (c3, (48, .inl (fun _ => 0)))), (q4, .inl (c4, (48, .inl (fun _ => 0)))), (q5, .inl (c5, (48, .inl (fun _ => 0))))] := hD
  refine lv_aload_n hx hb dX1_init_46 rfl (lv_at hl 0 rfl) ?_
  refine lv_bipush (v := 48) hx hb dX1_init_47 (by decide) ?_
  refine va_newa (atype := .boolean) (N' := 48) (a0 := (48, .inl (fun _ => 0))) (ty := .boolean) (n := 48) hx hb (hg _ w_398) rfl hK hP hD hS hA (fun _ => rfl) (by decide) (by decide) (by decide) (Nat.le_of_ble_eq_true rfl) (Nat.le_of_ble_eq_true rfl) dX1_init_49 (fun q6 c6 H hK hP hD hS => ?_)
  have hP : va_P (dC, dI) vwCl [(h0, .inr (1, [.int 0, .int 0, .int 0, .int 0, .int 0, .ref q1, .ref q2, .ref q3, .ref q4, .ref q5, .null, .null, .int 0, .null, .int 0, .int 0, .int 0])), (q1, .inl (c1, (1968, .inl (fun _ => 0)))), (q2, .inl (c2, (1968, .inl (fun _ => 0)))), (q3, .inl (c3, (48, .inl (fun _ => 0)))), (q4, .inl (c4, (48, .inl (fun _ => 0)))), (q5, .inl (c5, (48, .inl (fun _ => 0)))), (q6, .inl (c6, (48, .inl (fun _ => 0))))] H := hP
  have hD : va_D A [(h0, .inr (1, [.int 0, .int 0, .int 0, .int 0, .int 0, .ref q1, .ref q2, .ref q3, .ref q4, .ref q5, .null, .null, .int 0, .null, .int 0, .int 0, .int 0])), (q1, .inl (c1, (1968, .inl (fun _ => 0)))), (q2, .inl (c2, (1968, .inl (fun _ => 0)))), (q3, .inl (c3, (48, .inl (fun _ => 0)))), (q4, .inl (c4, (48, .inl (fun _ => 0)))), (q5, .inl (c5, (48, .inl (fun _ => 0)))), (q6, .inl (c6, (48, .inl (fun _ => 0))))] := hD
  have hK : va_K (dC, dI) vwCl [(c1, .boolean), (c2, .boolean), (c3, .int), (c4, .int), (c5, .int), (c6, .boolean)] s := hK
  refine va_putF (D := (dC, dI)) (ci := 1) (v := .ref q6) (ty := .array .boolean) (C := RX1) (T := TX1) (N := 17) hx hb hg inX1 tyX1 tyX1_ok nmX1 hown hK hP hD hS 0 rfl rfl 10 (by decide) (hg _ w_356) (fun _ h9 => h9) rfl hin rfl (by decide +kernel) rfl rfl (Nat.le_of_ble_eq_true rfl) dX1_init_51 (fun H locs hP hD hS => ?_)
  have hP : va_P (dC, dI) vwCl [(h0, .inr (1, [.int 0, .int 0, .int 0, .int 0, .int 0, .ref q1, .ref q2, .ref q3, .ref q4, .ref q5, .ref q6, .null, .int 0, .null, .int 0, .int 0, .int 0])), (q1, .inl (c1, (1968, .inl (fun _ => 0)))), (q2, .inl (c2, (1968, .inl (fun _ => 0)))), (q3, .inl (c3, (48, .inl (fun _ => 0)))), (q4, .inl (c4, (48, .inl (fun _ => 0)))), (q5, .inl (c5, (48, .inl (fun _ => 0)))), (q6, .inl (c6, (48, .inl (fun _ => 0))))] H := hP
  have hD : va_D A [(h0, .inr (1, [.int 0, .int 0, .int 0, .int 0, .int 0, .ref q1, .ref q2, .ref q3, .ref q4, .ref q5, .ref q6, .null, .int 0, .null, .int 0, .int 0, .int 0])), (q1, .inl (c1, (1968, .inl (fun _ => 0)))), (q2, .inl (c2, (1968, .inl (fun _ => 0)))), (q3, .inl (c3, (48, .inl (fun _ => 0)))), (q4, .inl (c4, (48, .inl (fun _ => 0)))), (q5, .inl (c5, (48, .inl (fun _ => 0)))), (q6, .inl (c6, (48, .inl (fun _ => 0))))] := hD
  refine lv_aload_n hx hb dX1_init_54 rfl (lv_at hl 0 rfl) ?_
  refine lv_bipush (v := 48) hx hb dX1_init_55 (by decide) ?_
  refine va_newa (atype := .int) (N' := 48) (a0 := (48, .inl (fun _ => 0))) (ty := .int) (n := 48) hx hb (hg _ w_72) rfl hK hP hD hS hA (fun _ => rfl) (by decide) (by decide) (by decide) (Nat.le_of_ble_eq_true rfl) (Nat.le_of_ble_eq_true rfl) dX1_init_57 (fun q7 c7 H hK hP hD hS => ?_)
  have hP : va_P (dC, dI) vwCl [(h0, .inr (1, [.int 0, .int 0, .int 0, .int 0, .int 0, .ref q1, .ref q2, .ref q3, .ref q4, .ref q5, .ref q6, .null, .int 0, .null, .int 0, .int 0, .int 0])), (q1, .inl (c1, (1968, .inl (fun _ => 0)))), (q2, .inl (c2, (1968, .inl (fun _ => 0)))), (q3, .inl (c3, (48, .inl (fun _ => 0)))), (q4, .inl (c4, (48, .inl (fun _ => 0)))), (q5, .inl (c5, (48, .inl (fun _ => 0)))), (q6, .inl (c6, (48, .inl (fun _ => 0)))), (q7, .inl (c7, (48, .inl (fun _ => 0))))] H := hP
  have hD : va_D A [(h0, .inr (1, [.int 0, .int 0, .int 0, .int 0, .int 0, .ref q1, .ref q2, .ref q3, .ref q4, .ref q5, .ref q6, .null, .int 0, .null, .int 0, .int 0, .int 0])), (q1, .inl (c1, (1968, .inl (fun _ => 0)))), (q2, .inl (c2, (1968, .inl (fun _ => 0)))), (q3, .inl (c3, (48, .inl (fun _ => 0)))), (q4, .inl (c4, (48, .inl (fun _ => 0)))), (q5, .inl (c5, (48, .inl (fun _ => 0)))), (q6, .inl (c6, (48, .inl (fun _ => 0)))), (q7, .inl (c7, (48, .inl (fun _ => 0))))] := hD
  have hK : va_K (dC, dI) vwCl [(c1, .boolean), (c2, .boolean), (c3, .int), (c4, .int), (c5, .int), (c6, .boolean), (c7, .int)] s := hK
  refine va_putF (D := (dC, dI)) (ci := 1) (v := .ref q7) (ty := .array .int) (C := RX1) (T := TX1) (N := 17) hx hb hg inX1 tyX1 tyX1_ok nmX1 hown hK hP hD hS 0 rfl rfl 11 (by decide) (hg _ w_357) (fun _ h9 => h9) rfl hin rfl (by decide +kernel) rfl rfl (Nat.le_of_ble_eq_true rfl) dX1_init_59 (fun H locs hP hD hS => ?_)
  have hP : va_P (dC, dI) vwCl [(h0, .inr (1, [.int 0, .int 0, .int 0, .int 0, .int 0, .ref q1, .ref q2, .ref q3, .ref q4, .ref q5, .ref q6, .ref q7, .int 0, .null, .int 0, .int 0, .int 0])), (q1, .inl (c1, (1968, .inl (fun _ => 0)))), (q2, .inl (c2, (1968, .inl (fun _ => 0)))), (q3, .inl (c3, (48, .inl (fun _ => 0)))), (q4, .inl (c4, (48, .inl (fun _ => 0)))), (q5, .inl (c5, (48, .inl (fun _ => 0)))), (q6, .inl (c6, (48, .inl (fun _ => 0)))), (q7, .inl (c7, (48, .inl (fun _ => 0))))] H := hP
  have hD : va_D A [(h0, .inr (1, [.int 0, .int 0, .int 0, .int 0, .int 0, .ref q1, .ref q2, .ref q3, .ref q4, .ref q5, .ref q6, .ref q7, .int 0, .null, .int 0, .int 0, .int 0])), (q1, .inl (c1, (1968, .inl (fun _ => 0)))), (q2, .inl (c2, (1968, .inl (fun _ => 0)))), (q3, .inl (c3, (48, .inl (fun _ => 0)))), (q4, .inl (c4, (48, .inl (fun _ => 0)))), (q5, .inl (c5, (48, .inl (fun _ => 0)))), (q6, .inl (c6, (48, .inl (fun _ => 0)))), (q7, .inl (c7, (48, .inl (fun _ => 0))))] := hD
  refine lv_aload_n hx hb dX1_init_62 rfl (lv_at hl 0 rfl) ?_
  refine lv_iconst (v := (-1)) hx hb dX1_init_63 (by decide) ?_
  refine va_put (D := (dC, dI)) (ci := 1) (v := .int (-1)) (ty := .int) (C := RX1) (T := TX1) (N := 17) hx hb hg inX1 tyX1 tyX1_ok nmX1 hown hK hP hD hS 0 rfl rfl 12 (by decide) (hg _ w_358) (fun _ h9 => h9) rfl (by decide +kernel) rfl rfl (Nat.le_of_ble_eq_true rfl) dX1_init_64 (fun H locs hP hD hS => ?_)
  have hP : va_P (dC, dI) vwCl [(h0, .inr (1, [.int 0, .int 0, .int 0, .int 0, .int 0, .ref q1, .ref q2, .ref q3, .ref q4, .ref q5, .ref q6, .ref q7, .int (-1), .null, .int 0, .int 0, .int 0])), (q1, .inl (c1, (1968, .inl (fun _ => 0)))), (q2, .inl (c2, (1968, .inl (fun _ => 0)))), (q3, .inl (c3, (48, .inl (fun _ => 0)))), (q4, .inl (c4, (48, .inl (fun _ => 0)))), (q5, .inl (c5, (48, .inl (fun _ => 0)))), (q6, .inl (c6, (48, .inl (fun _ => 0)))), (q7, .inl (c7, (48, .inl (fun _ => 0))))] H := hP
  have hD : va_D A [(h0, .inr (1, [.int 0, .int 0, .int 0, .int 0, .int 0, .ref q1, .ref q2, .ref q3, .ref q4, .ref q5, .ref q6, .ref q7, .int (-1), .null, .int 0, .int 0, .int 0])), (q1, .inl (c1, (1968, .inl (fun _ => 0)))), (q2, .inl (c2, (1968, .inl (fun _ => 0)))), (q3, .inl (c3, (48, .inl (fun _ => 0)))), (q4, .inl (c4, (48, .inl (fun _ => 0)))), (q5, .inl (c5, (48, .inl (fun _ => 0)))), (q6, .inl (c6, (48, .inl (fun _ => 0)))), (q7, .inl (c7, (48, .inl (fun _ => 0))))] := hD
  refine lv_aload_n hx hb dX1_init_67 rfl (lv_at hl 0 rfl) ?_
  refine lv_bipush (v := 48) hx hb dX1_init_68 (by decide) ?_
  refine va_newa (atype := .int) (N' := 48) (a0 := (48, .inl (fun _ => 0))) (ty := .int) (n := 48) hx hb (hg _ w_72) rfl hK hP hD hS hA (fun _ => rfl) (by decide) (by decide) (by decide) (Nat.le_of_ble_eq_true rfl) (Nat.le_of_ble_eq_true rfl) dX1_init_70 (fun q8 c8 H hK hP hD hS => ?_)
  have hP : va_P (dC, dI) vwCl [(h0, .inr (1, [.int 0, .int 0, .int 0, .int 0, .int 0, .ref q1, .ref q2, .ref q3, .ref q4, .ref q5, .ref q6, .ref q7, .int (-1), .null, .int 0, .int 0, .int 0])), (q1, .inl (c1, (1968, .inl (fun _ => 0)))), (q2, .inl (c2, (1968, .inl (fun _ => 0)))), (q3, .inl (c3, (48, .inl (fun _ => 0)))), (q4, .inl (c4, (48, .inl (fun _ => 0)))), (q5, .inl (c5, (48, .inl (fun _ => 0)))), (q6, .inl (c6, (48, .inl (fun _ => 0)))), (q7, .inl (c7, (48, .inl (fun _ => 0)))), (q8, .inl (c8, (48, .inl (fun _ => 0))))] H := hP
  have hD : va_D A [(h0, .inr (1, [.int 0, .int 0, .int 0, .int 0, .int 0, .ref q1, .ref q2, .ref q3, .ref q4, .ref q5, .ref q6, .ref q7, .int (-1), .null, .int 0, .int 0, .int 0])), (q1, .inl (c1, (1968, .inl (fun _ => 0)))), (q2, .inl (c2, (1968, .inl (fun _ => 0)))), (q3, .inl (c3, (48, .inl (fun _ => 0)))), (q4, .inl (c4, (48, .inl (fun _ => 0)))), (q5, .inl (c5, (48, .inl (fun _ => 0)))), (q6, .inl (c6, (48, .inl (fun _ => 0)))), (q7, .inl (c7, (48, .inl (fun _ => 0)))), (q8, .inl (c8, (48, .inl (fun _ => 0))))] := hD
  have hK : va_K (dC, dI) vwCl [(c1, .boolean), (c2, .boolean), (c3, .int), (c4, .int), (c5, .int), (c6, .boolean), (c7, .int), (c8, .int)] s := hK
  refine va_putF (D := (dC, dI)) (ci := 1) (v := .ref q8) (ty := .array .int) (C := RX1) (T := TX1) (N := 17) hx hb hg inX1 tyX1 tyX1_ok nmX1 hown hK hP hD hS 0 rfl rfl 13 (by decide) (hg _ w_359) (fun _ h9 => h9) rfl hin rfl (by decide +kernel) rfl rfl (Nat.le_of_ble_eq_true rfl) dX1_init_72 (fun H locs hP hD hS => ?_)
  have hP : va_P (dC, dI) vwCl [(h0, .inr (1, [.int 0, .int 0, .int 0, .int 0, .int 0, .ref q1, .ref q2, .ref q3, .ref q4, .ref q5, .ref q6, .ref q7, .int (-1), .ref q8, .int 0, .int 0, .int 0])), (q1, .inl (c1, (1968, .inl (fun _ => 0)))), (q2, .inl (c2, (1968, .inl (fun _ => 0)))), (q3, .inl (c3, (48, .inl (fun _ => 0)))), (q4, .inl (c4, (48, .inl (fun _ => 0)))), (q5, .inl (c5, (48, .inl (fun _ => 0)))), (q6, .inl (c6, (48, .inl (fun _ => 0)))), (q7, .inl (c7, (48, .inl (fun _ => 0)))), (q8, .inl (c8, (48, .inl (fun _ => 0))))] H := hP
  have hD : va_D A [(h0, .inr (1, [.int 0, .int 0, .int 0, .int 0, .int 0, .ref q1, .ref q2, .ref q3, .ref q4, .ref q5, .ref q6, .ref q7, .int (-1), .ref q8, .int 0, .int 0, .int 0])), (q1, .inl (c1, (1968, .inl (fun _ => 0)))), (q2, .inl (c2, (1968, .inl (fun _ => 0)))), (q3, .inl (c3, (48, .inl (fun _ => 0)))), (q4, .inl (c4, (48, .inl (fun _ => 0)))), (q5, .inl (c5, (48, .inl (fun _ => 0)))), (q6, .inl (c6, (48, .inl (fun _ => 0)))), (q7, .inl (c7, (48, .inl (fun _ => 0)))), (q8, .inl (c8, (48, .inl (fun _ => 0))))] := hD
  refine lv_aload_n hx hb dX1_init_75 rfl (lv_at hl 0 rfl) ?_
  refine lv_iconst (v := (-1)) hx hb dX1_init_76 (by decide) ?_
  refine va_put (D := (dC, dI)) (ci := 1) (v := .int (-1)) (ty := .int) (C := RX1) (T := TX1) (N := 17) hx hb hg inX1 tyX1 tyX1_ok nmX1 hown hK hP hD hS 0 rfl rfl 16 (by decide) (hg _ w_362) (fun _ h9 => h9) rfl (by decide +kernel) rfl rfl (Nat.le_of_ble_eq_true rfl) dX1_init_77 (fun H locs hP hD hS => ?_)
  have hP : va_P (dC, dI) vwCl [(h0, .inr (1, [.int 0, .int 0, .int 0, .int 0, .int 0, .ref q1, .ref q2, .ref q3, .ref q4, .ref q5, .ref q6, .ref q7, .int (-1), .ref q8, .int 0, .int 0, .int (-1)])), (q1, .inl (c1, (1968, .inl (fun _ => 0)))), (q2, .inl (c2, (1968, .inl (fun _ => 0)))), (q3, .inl (c3, (48, .inl (fun _ => 0)))), (q4, .inl (c4, (48, .inl (fun _ => 0)))), (q5, .inl (c5, (48, .inl (fun _ => 0)))), (q6, .inl (c6, (48, .inl (fun _ => 0)))), (q7, .inl (c7, (48, .inl (fun _ => 0)))), (q8, .inl (c8, (48, .inl (fun _ => 0))))] H := hP
  have hD : va_D A [(h0, .inr (1, [.int 0, .int 0, .int 0, .int 0, .int 0, .ref q1, .ref q2, .ref q3, .ref q4, .ref q5, .ref q6, .ref q7, .int (-1), .ref q8, .int 0, .int 0, .int (-1)])), (q1, .inl (c1, (1968, .inl (fun _ => 0)))), (q2, .inl (c2, (1968, .inl (fun _ => 0)))), (q3, .inl (c3, (48, .inl (fun _ => 0)))), (q4, .inl (c4, (48, .inl (fun _ => 0)))), (q5, .inl (c5, (48, .inl (fun _ => 0)))), (q6, .inl (c6, (48, .inl (fun _ => 0)))), (q7, .inl (c7, (48, .inl (fun _ => 0)))), (q8, .inl (c8, (48, .inl (fun _ => 0))))] := hD
  have hP9 := hP.sub (ws' := ws_sm (fun i => [h0, q1, q2, q3, q4, q5, q6, q7, q8].getD i 0) (fun i => [0, c1, c2, c3, c4, c5, c6, c7, c8].getD i 0) (fun _ => 0) (fun _ => 0) (fun _ => 0) (fun _ => 0) (fun _ => 0) (fun _ => 0) (fun _ => 0) (fun _ => 0) 0 0 0 0 0 (-1) 0 0 (-1)) [0, 1, 2, 3, 4, 5, 6, 7, 8] rfl
  have hD9 := hD.sub (ws' := ws_sm (fun i => [h0, q1, q2, q3, q4, q5, q6, q7, q8].getD i 0) (fun i => [0, c1, c2, c3, c4, c5, c6, c7, c8].getD i 0) (fun _ => 0) (fun _ => 0) (fun _ => 0) (fun _ => 0) (fun _ => 0) (fun _ => 0) (fun _ => 0) (fun _ => 0) 0 0 0 0 0 (-1) 0 0 (-1)) [0, 1, 2, 3, 4, 5, 6, 7, 8] (by decide) rfl
  have hK9 := hK.sub (tys' := ty_sm (fun i => [0, c1, c2, c3, c4, c5, c6, c7, c8].getD i 0)) [0, 1, 2, 3, 4, 5, 6, 7] rfl
  refine W.widen (k := 8) (n := 4224) (by decide) (by decide) ?_
  exact W.vret hx hb hr (fun t ht hW => ⟨⟨(fun i => [h0, q1, q2, q3, q4, q5, q6, q7, q8].getD i 0, fun i => [0, c1, c2, c3, c4, c5, c6, c7, c8].getD i 0), rfl, rfl, by rw [ht]; exact hP9, va_K.moved hW.alike hK9, hD9⟩, hS.F ht⟩) hS.2.2 dX1_init_80
set_option maxHeartbeats 4000000 in
set_option maxRecDepth 100000 in
theorem cm_isSet (l : Launch) (dC : Nat → ClassId) (dI : Nat → Nat → Nat)   (p1 : Int32) : Met l yX1_isSet wsX1_isSet ({ frames := 0, cells := 0, slots := 0, locals := 0 } : Room) (va_Pc [.int p1] (fun _ => True)) (va_Qi (fun (r : Int32) (_ : Unit) => r = sm_isSet p1) (fun (_ : Unit) t => True) ((fun _ => False))) 0 0 ((fun _ => False)) := by
  refine Met.ofW (cc := cX1_isSet) (maxL := 1) (ret := (some .boolean)) (by decide) rfl ?_
  intro p e s m args below meth c s₁ B hml hv
  obtain ⟨rfl, -⟩ := hv
  have hx := B.exec
  have hb := B.bytes
  have hr := B.returns
  have hts := atoms_spec (ws := wsX1_isSet) B.pre
  have hg : ∀ w ∈ gw, w.before _ s = true := fun w h => hts w (List.mem_cons_of_mem _ h)
  have hown : s.vm.findClass RX1 = some m.cls := findClass_of_methodNamed B.named
  have hlocks := B.notSynchronized
  refine w_in (fun H locs eH eL => ?_)
  have hS : va_S (fun _ => False) s.heap H locs := by rw [eH, eL]; exact va_S.rf
  have hP : va_P (dC, dI) vwCl [] H := fun k q h => by simp at h
  clear eH eL
  have hl := lv_entry ([.int p1]) (n := 1) (Nat.le_of_ble_eq_true rfl)
  rw [lg_entry_eq]
  generalize (lg_sl ([.int p1]) ++ List.replicate (1 - (lg_sl ([.int p1])).length) Slot.unset).toArray = ls at hl ⊢
  have hl : lv_has ls 1 [(0, .int p1)] := hl
  refine lv_iload_n hx hb dX1_isSet_0 rfl (lv_at hl 0 rfl) ?_
  refine lv_if_lt (tgt := 14) hx hb dX1_isSet_1 (by decide) (fun c_1 => ?_) (fun c_1 => ?_)
  · refine lv_iconst (v := 0) hx hb dX1_isSet_14 (by decide) ?_
    have hw : 0 = sm_isSet p1 := by unfold sm_isSet; rw [if_pos c_1]; (try rfl)
    exact W.zret (v := 0) hx hb hr rfl (fun t ht hW => ⟨⟨0, (), rfl, hw, trivial⟩, hS.F ht⟩) hS.2.2 dX1_isSet_15
  · refine lv_iload_n hx hb dX1_isSet_4 rfl (lv_at hl 0 rfl) ?_
    refine lv_ldc (v := 268435456) hx hb hown (hg _ w_417) dX1_isSet_5 ?_
    refine lv_icmp_ge (tgt := 14) hx hb dX1_isSet_7 (by decide) (fun c_7 => ?_) (fun c_7 => ?_)
    · refine lv_iconst (v := 0) hx hb dX1_isSet_14 (by decide) ?_
      have hw : 0 = sm_isSet p1 := by unfold sm_isSet; rw [if_neg c_1, if_pos c_7]; (try rfl)
      exact W.zret (v := 0) hx hb hr rfl (fun t ht hW => ⟨⟨0, (), rfl, hw, trivial⟩, hS.F ht⟩) hS.2.2 dX1_isSet_15
    · refine lv_iconst (v := 1) hx hb dX1_isSet_10 (by decide) ?_
      refine lv_goto (tgt := 15) hx hb dX1_isSet_11 (by decide) ?_
      have hw : 1 = sm_isSet p1 := by unfold sm_isSet; rw [if_neg c_1, if_neg c_7]; (try rfl)
      exact W.zret (v := 1) hx hb hr rfl (fun t ht hW => ⟨⟨1, (), rfl, hw, trivial⟩, hS.F ht⟩) hS.2.2 dX1_isSet_15
set_option maxHeartbeats 4000000 in
set_option maxRecDepth 100000 in
theorem cm_ones_L4 {p : Program} {l : Launch} {e : Env} {s : State} {m : MethodId} {args : Array Value} {below : List Frame} {meth : Method} {c : Code} {Q : State → Prop} {dC : Nat → ClassId} {dI : Nat → Nat → Nat}  {A : Nat → Prop}  (p1 : Int32) (hx : p.tables.exec = Jvm.exec) (hb : c.code = cX1_ones) (hml : c.maxLocals = 3) (hown : s.vm.findClass RX1 = some m.cls) (hg : ∀ w ∈ gw, w.before args s = true) :
    ∀ (n : Nat) (x1 x2 : Int32) (H : Heap) (locs : List Loc) (ls : Array Slot), (cnt 28 x2 n) → va_P (dC, dI) vwCl (([] : va_W)) H → va_S A s.heap H locs → lv_has ls 3 [(0, .int p1), (1, .int x1), (2, .int x2)] →
      (∀ (x1_o4 : Int32), sm_ones_L4 p1 n x1 x2 = x1_o4 → ∀ (H : Heap) (locs : List Loc) (ls : Array Slot), va_P (dC, dI) vwCl (([] : va_W)) H → va_S A s.heap H locs → lv_has ls 3 [(0, .int p1), (1, .int x1_o4)] → W p l e (headSpec wsX1_ones ({ frames := 0, cells := 0, slots := 0, locals := 0 } : Room)).room s m args below meth c H locs 0 0 Q (F0 m 24 ls [])) →
      W p l e (headSpec wsX1_ones ({ frames := 0, cells := 0, slots := 0, locals := 0 } : Room)).room s m args below meth c H locs 0 0 Q (F0 m 4 ls []) := by
  intro n
  induction n with
  | zero =>
    intro x1 x2 H locs ls hinv
    exact absurd hinv (cnt_z)
  | succ n ih =>
    intro x1 x2 H locs ls hinv hP hS hl k0
    refine lv_iload_n hx hb dX1_ones_4 rfl (lv_at hl 2 rfl) ?_
    refine lv_bipush (v := 28) hx hb dX1_ones_5 (by decide) ?_
    refine lv_icmp_ge (tgt := 24) hx hb dX1_ones_7 (by decide) (fun c_7 => ?_) (fun c_7 => ?_)
    · exact k0 x1 (by rw [sm_ones_L4_s]; rw [if_pos c_7]; (try rfl)) H locs ls hP hS (lv_sub hl [0, 1] rfl)
    · refine lv_iload_n hx hb dX1_ones_10 rfl (lv_at hl 1 rfl) ?_
      refine lv_iload_n hx hb dX1_ones_11 rfl (lv_at hl 0 rfl) ?_
      refine lv_iload_n hx hb dX1_ones_12 rfl (lv_at hl 2 rfl) ?_
      refine lv_ishr hx hb dX1_ones_13 ?_
      refine lv_iconst (v := 1) hx hb dX1_ones_14 (by decide) ?_
      refine lv_iand hx hb dX1_ones_15 ?_
      refine lv_iadd hx hb dX1_ones_16 ?_
      refine lv_istore_n (lv' := [(1, .int (x1 + ((p1 >>> (x2 &&& 31)) &&& 1))), (0, .int p1), (2, .int x2)]) hx hb dX1_ones_17 rfl hl (by decide) rfl (fun ls hl => ?_)
      refine lv_iinc (v := x2 + 1) (lv' := [(2, .int (x2 + 1)), (1, .int (x1 + ((p1 >>> (x2 &&& 31)) &&& 1))), (0, .int p1)]) hx hb dX1_ones_18 hl (k := 2) rfl rfl (by decide) rfl (fun ls hl => ?_)
      refine lv_goto (tgt := 4) hx hb dX1_ones_21 (by decide) ?_
      exact ih (x1 + ((p1 >>> (x2 &&& 31)) &&& 1)) (x2 + 1) H locs ls (cnt_s hinv c_7) hP hS (lv_sub hl [2, 1, 0] rfl) (fun x1_o4 hw H locs ls hP hS hl => k0 x1_o4 (by rw [sm_ones_L4_s]; rw [if_neg c_7]; exact hw) H locs ls hP hS hl)
set_option maxHeartbeats 4000000 in
set_option maxRecDepth 100000 in
theorem cm_ones (l : Launch) (dC : Nat → ClassId) (dI : Nat → Nat → Nat)   (p1 : Int32) : Met l yX1_ones wsX1_ones ({ frames := 0, cells := 0, slots := 0, locals := 0 } : Room) (va_Pc [.int p1] (fun _ => True)) (va_Qi (fun (r : Int32) (_ : Unit) => r = sm_ones p1) (fun (_ : Unit) t => True) ((fun _ => False))) 0 0 ((fun _ => False)) := by
  refine Met.ofW (cc := cX1_ones) (maxL := 3) (ret := (some .int)) (by decide) rfl ?_
  intro p e s m args below meth c s₁ B hml hv
  obtain ⟨rfl, -⟩ := hv
  have hx := B.exec
  have hb := B.bytes
  have hr := B.returns
  have hts := atoms_spec (ws := wsX1_ones) B.pre
  have hg : ∀ w ∈ gw, w.before _ s = true := fun w h => hts w (List.mem_cons_of_mem _ h)
  have hown : s.vm.findClass RX1 = some m.cls := findClass_of_methodNamed B.named
  have hlocks := B.notSynchronized
  refine w_in (fun H locs eH eL => ?_)
  have hS : va_S (fun _ => False) s.heap H locs := by rw [eH, eL]; exact va_S.rf
  have hP : va_P (dC, dI) vwCl [] H := fun k q h => by simp at h
  clear eH eL
  have hl := lv_entry ([.int p1]) (n := 3) (Nat.le_of_ble_eq_true rfl)
  rw [lg_entry_eq]
  generalize (lg_sl ([.int p1]) ++ List.replicate (3 - (lg_sl ([.int p1])).length) Slot.unset).toArray = ls at hl ⊢
  have hl : lv_has ls 3 [(0, .int p1)] := hl
  refine lv_iconst (v := 0) hx hb dX1_ones_0 (by decide) ?_
  refine lv_istore_n (lv' := [(1, .int 0), (0, .int p1)]) hx hb dX1_ones_1 rfl hl (by decide) rfl (fun ls hl => ?_)
  refine lv_iconst (v := 0) hx hb dX1_ones_2 (by decide) ?_
  refine lv_istore_n (lv' := [(2, .int 0), (1, .int 0), (0, .int p1)]) hx hb dX1_ones_3 rfl hl (by decide) rfl (fun ls hl => ?_)
  refine cm_ones_L4 p1 hx hb hml hown hg 29 0 0 H locs ls (cnt_0 (by decide) (by decide)) hP hS (lv_sub hl [2, 1, 0] rfl) (fun x1_o4 hw_4 H locs ls hP hS hl => ?_)
  refine lv_iload_n hx hb dX1_ones_24 rfl (lv_at hl 1 rfl) ?_
  have hw : x1_o4 = sm_ones p1 := by unfold sm_ones; rw [hw_4]; (try dsimp only); (try rfl)
  exact W.iret (v := x1_o4) hx hb hr (fun t ht hW => ⟨⟨x1_o4, (), rfl, hw, trivial⟩, hS.F ht⟩) hS.2.2 dX1_ones_25
set_option maxHeartbeats 4000000 in
set_option maxRecDepth 100000 in
theorem cm_counts (l : Launch) (dC : Nat → ClassId) (dI : Nat → Nat → Nat)   (p1 : Int32) : Met l yX1_counts wsX1_counts ({ frames := 1, cells := 0, slots := 0, locals := 22 } : Room) (va_Pc [.int p1] (fun _ => True)) (va_Qi (fun (r : Int32) (_ : Unit) => r = sm_counts p1) (fun (_ : Unit) t => True) ((fun _ => False))) 0 0 ((fun _ => False)) := by
  refine Met.ofW (cc := cX1_counts) (maxL := 1) (ret := (some .int)) (by decide) rfl ?_
  intro p e s m args below meth c s₁ B hml hv
  obtain ⟨rfl, -⟩ := hv
  have hx := B.exec
  have hb := B.bytes
  have hr := B.returns
  have hts := atoms_spec (ws := wsX1_counts) B.pre
  have hg : ∀ w ∈ gw, w.before _ s = true := fun w h => hts w (List.mem_cons_of_mem _ h)
  have hown : s.vm.findClass RX1 = some m.cls := findClass_of_methodNamed B.named
  have hlocks := B.notSynchronized
  refine w_in (fun H locs eH eL => ?_)
  have hS : va_S (fun _ => False) s.heap H locs := by rw [eH, eL]; exact va_S.rf
  have hP : va_P (dC, dI) vwCl [] H := fun k q h => by simp at h
  clear eH eL
  have hl := lv_entry ([.int p1]) (n := 1) (Nat.le_of_ble_eq_true rfl)
  rw [lg_entry_eq]
  generalize (lg_sl ([.int p1]) ++ List.replicate (1 - (lg_sl ([.int p1])).length) Slot.unset).toArray = ls at hl ⊢
  have hl : lv_has ls 1 [(0, .int p1)] := hl
  refine lv_iload_n hx hb dX1_counts_0 rfl (lv_at hl 0 rfl) ?_
  refine lv_if_ne (tgt := 8) hx hb dX1_counts_1 (by decide) (fun c_1 => ?_) (fun c_1 => ?_)
  · refine lv_iload_n hx hb dX1_counts_8 rfl (lv_at hl 0 rfl) ?_
    refine va_calli (va_runS (As := [.int p1]) (rest := []) ⟨hx, hb, hml, hown, hg⟩ (cm_ones l dC dI p1) (va_cwS 1 hg (gi_S w_421 w_422 w_2 w_423) rfl rfl rfl (by decide +kernel) ⟨Nat.le_of_ble_eq_true rfl, Nat.le_of_ble_eq_true rfl⟩) ⟨(fun _ _ _ _ q => q), (fun _ _ _ => ⟨rfl, trivial⟩)⟩ rfl rfl hl.1 rfl (lv_room (Nat.le_of_ble_eq_true rfl)) dX1_counts_9 ⟨Nat.le_of_ble_eq_true rfl, Nat.le_of_ble_eq_true rfl⟩) hS (fun q _ h => False.elim h) (fun q h => False.elim h) (fun r_9 u t H1 locs ht hvm hw_9 hB hz1 hk1 hS => ?_)
    subst hw_9
    have hP := hP.kept (fun k q hq => hk1 q.1 (hP k q hq).lt (fun h => h))
    generalize H1 = H at hP hS ⊢
    have hw : (sm_ones p1) = sm_counts p1 := by unfold sm_counts; rw [if_neg c_1]; (try rfl)
    exact W.iret (v := sm_ones p1) hx hb hr (fun t ht hW => ⟨⟨(sm_ones p1), (), rfl, hw, trivial⟩, hS.F ht⟩) hS.2.2 dX1_counts_12
  · refine lv_iconst (v := 1) hx hb dX1_counts_4 (by decide) ?_
    refine lv_goto (tgt := 12) hx hb dX1_counts_5 (by decide) ?_
    have hw : 1 = sm_counts p1 := by unfold sm_counts; rw [if_pos c_1]; (try rfl)
    exact W.iret (v := 1) hx hb hr (fun t ht hW => ⟨⟨1, (), rfl, hw, trivial⟩, hS.F ht⟩) hS.2.2 dX1_counts_12
set_option maxHeartbeats 4000000 in
set_option maxRecDepth 100000 in
theorem cm_isPlace (l : Launch) (dC : Nat → ClassId) (dI : Nat → Nat → Nat)   (p1 : Int32) : Met l yX1_isPlace wsX1_isPlace ({ frames := 0, cells := 0, slots := 0, locals := 0 } : Room) (va_Pc [.int p1] (fun _ => True)) (va_Qi (fun (r : Int32) (_ : Unit) => r = sm_isPlace p1) (fun (_ : Unit) t => True) ((fun _ => False))) 0 0 ((fun _ => False)) := by
  refine Met.ofW (cc := cX1_isPlace) (maxL := 1) (ret := (some .boolean)) (by decide) rfl ?_
  intro p e s m args below meth c s₁ B hml hv
  obtain ⟨rfl, -⟩ := hv
  have hx := B.exec
  have hb := B.bytes
  have hr := B.returns
  have hts := atoms_spec (ws := wsX1_isPlace) B.pre
  have hg : ∀ w ∈ gw, w.before _ s = true := fun w h => hts w (List.mem_cons_of_mem _ h)
  have hown : s.vm.findClass RX1 = some m.cls := findClass_of_methodNamed B.named
  have hlocks := B.notSynchronized
  refine w_in (fun H locs eH eL => ?_)
  have hS : va_S (fun _ => False) s.heap H locs := by rw [eH, eL]; exact va_S.rf
  have hP : va_P (dC, dI) vwCl [] H := fun k q h => by simp at h
  clear eH eL
  have hl := lv_entry ([.int p1]) (n := 1) (Nat.le_of_ble_eq_true rfl)
  rw [lg_entry_eq]
  generalize (lg_sl ([.int p1]) ++ List.replicate (1 - (lg_sl ([.int p1])).length) Slot.unset).toArray = ls at hl ⊢
  have hl : lv_has ls 1 [(0, .int p1)] := hl
  refine lv_iload_n hx hb dX1_isPlace_0 rfl (lv_at hl 0 rfl) ?_
  refine lv_if_lt (tgt := 14) hx hb dX1_isPlace_1 (by decide) (fun c_1 => ?_) (fun c_1 => ?_)
  · refine lv_iconst (v := 0) hx hb dX1_isPlace_14 (by decide) ?_
    have hw : 0 = sm_isPlace p1 := by unfold sm_isPlace; rw [if_pos c_1]; (try rfl)
    exact W.zret (v := 0) hx hb hr rfl (fun t ht hW => ⟨⟨0, (), rfl, hw, trivial⟩, hS.F ht⟩) hS.2.2 dX1_isPlace_15
  · refine lv_iload_n hx hb dX1_isPlace_4 rfl (lv_at hl 0 rfl) ?_
    refine lv_bipush (v := 28) hx hb dX1_isPlace_5 (by decide) ?_
    refine lv_icmp_ge (tgt := 14) hx hb dX1_isPlace_7 (by decide) (fun c_7 => ?_) (fun c_7 => ?_)
    · refine lv_iconst (v := 0) hx hb dX1_isPlace_14 (by decide) ?_
      have hw : 0 = sm_isPlace p1 := by unfold sm_isPlace; rw [if_neg c_1, if_pos c_7]; (try rfl)
      exact W.zret (v := 0) hx hb hr rfl (fun t ht hW => ⟨⟨0, (), rfl, hw, trivial⟩, hS.F ht⟩) hS.2.2 dX1_isPlace_15
    · refine lv_iconst (v := 1) hx hb dX1_isPlace_10 (by decide) ?_
      refine lv_goto (tgt := 15) hx hb dX1_isPlace_11 (by decide) ?_
      have hw : 1 = sm_isPlace p1 := by unfold sm_isPlace; rw [if_neg c_1, if_neg c_7]; (try rfl)
      exact W.zret (v := 1) hx hb hr rfl (fun t ht hW => ⟨⟨1, (), rfl, hw, trivial⟩, hS.F ht⟩) hS.2.2 dX1_isPlace_15
set_option maxHeartbeats 4000000 in
set_option maxRecDepth 100000 in
theorem cm_isFull (l : Launch) (dC : Nat → ClassId) (dI : Nat → Nat → Nat) (b : Nat → Nat) (h : Nat → ClassId) (sz : Nat) (uR uW uA uM uX uF uI uS : Nat → Int32) (ut us ur ub uo ui ul uk uh : Int32) (p1 : Int32) : Met l yX1_isFull wsX1_isFull ({ frames := 0, cells := 0, slots := 0, locals := 0 } : Room) (va_Pc [.ref (b 0), .int p1] (pr (dC, dI) (ws_sm b h uR uW uA uM uX uF uI uS ut us ur ub uo ui ul uk uh) (ty_sm h) sz)) (va_Qi (fun (r : Int32) (_ : Unit) => r = sm_isFull us ur p1) (fun (_ : Unit) t => po (dC, dI) (ws_sm b h uR uW uA uM uX uF uI uS ut us ur ub uo ui ul uk uh) (ty_sm h) (va_A (ws_sm b h uR uW uA uM uX uF uI uS ut us ur ub uo ui ul uk uh) sz) t) (va_A (ws_sm b h uR uW uA uM uX uF uI uS ut us ur ub uo ui ul uk uh) sz)) 0 0 (va_A (ws_sm b h uR uW uA uM uX uF uI uS ut us ur ub uo ui ul uk uh) sz) := by
  refine Met.ofW (cc := cX1_isFull) (maxL := 2) (ret := (some .boolean)) (by decide) rfl ?_
  intro p e s m args below meth c s₁ B hml hv
  obtain ⟨rfl, hsz, hP, hK, hD0⟩ := hv
  have hx := B.exec
  have hb := B.bytes
  have hr := B.returns
  have hts := atoms_spec (ws := wsX1_isFull) B.pre
  have hg : ∀ w ∈ gw, w.before _ s = true := fun w h => hts w (List.mem_cons_of_mem _ h)
  have hown : s.vm.findClass RX1 = some m.cls := findClass_of_methodNamed B.named
  have hlocks := B.notSynchronized
  subst hsz
  have hD := hD0.self (sz := s.heap.size)
  generalize hAe : va_A (ws_sm b h uR uW uA uM uX uF uI uS ut us ur ub uo ui ul uk uh) s.heap.size = A at hD ⊢
  have hA : ∀ q : Nat, s.heap.size ≤ q → A q := fun q h => by rw [← hAe]; exact Or.inr h
  clear hAe
  refine w_in (fun H locs eH eL => ?_)
  have hS : va_S A s.heap H locs := by rw [eH, eL]; exact va_S.rf
  have hP : va_P (dC, dI) vwCl (ws_sm b h uR uW uA uM uX uF uI uS ut us ur ub uo ui ul uk uh) H := by rw [eH]; exact hP
  clear eH eL
  have hl := lv_entry ([.ref (b 0), .int p1]) (n := 2) (Nat.le_of_ble_eq_true rfl)
  rw [lg_entry_eq]
  generalize (lg_sl ([.ref (b 0), .int p1]) ++ List.replicate (2 - (lg_sl ([.ref (b 0), .int p1])).length) Slot.unset).toArray = ls at hl ⊢
  have hl : lv_has ls 2 [(0, .ref (b 0)), (1, .int p1)] := hl
  refine lv_aload_n hx hb dX1_isFull_0 rfl (lv_at hl 0 rfl) ?_
  refine va_get (D := (dC, dI)) (ci := 1) (v := .int us) (C := RX1) (T := TX1) (N := 17) hx hb hg inX1 hown hK hP 0 rfl rfl 1 (by decide) (hg _ w_347) (fun _ h9 => h9) rfl dX1_isFull_1 ?_
  refine lv_bipush (v := 48) hx hb dX1_isFull_4 (by decide) ?_
  refine lv_icmp_eq (tgt := 21) hx hb dX1_isFull_6 (by decide) (fun c_6 => ?_) (fun c_6 => ?_)
  · refine lv_iconst (v := 1) hx hb dX1_isFull_21 (by decide) ?_
    refine lv_goto (tgt := 26) hx hb dX1_isFull_22 (by decide) ?_
    have hw : 1 = sm_isFull us ur p1 := by unfold sm_isFull; rw [if_pos c_6]; (try rfl)
    exact W.zret (v := 1) hx hb hr rfl (fun t ht hW => ⟨⟨1, (), rfl, hw, ⟨by rw [ht]; exact hP, va_K.moved hW.alike hK, hD⟩⟩, hS.F ht⟩) hS.2.2 dX1_isFull_26
  · refine lv_aload_n hx hb dX1_isFull_9 rfl (lv_at hl 0 rfl) ?_
    refine va_get (D := (dC, dI)) (ci := 1) (v := .int ur) (C := RX1) (T := TX1) (N := 17) hx hb hg inX1 hown hK hP 0 rfl rfl 2 (by decide) (hg _ w_348) (fun _ h9 => h9) rfl dX1_isFull_10 ?_
    refine lv_iload_n hx hb dX1_isFull_13 rfl (lv_at hl 1 rfl) ?_
    refine lv_iadd hx hb dX1_isFull_14 ?_
    refine lv_sipush (v := 800) hx hb dX1_isFull_15 (by decide) ?_
    refine lv_icmp_le (tgt := 25) hx hb dX1_isFull_18 (by decide) (fun c_18 => ?_) (fun c_18 => ?_)
    · refine lv_iconst (v := 0) hx hb dX1_isFull_25 (by decide) ?_
      have hw : 0 = sm_isFull us ur p1 := by unfold sm_isFull; rw [if_neg c_6, if_pos c_18]; (try rfl)
      exact W.zret (v := 0) hx hb hr rfl (fun t ht hW => ⟨⟨0, (), rfl, hw, ⟨by rw [ht]; exact hP, va_K.moved hW.alike hK, hD⟩⟩, hS.F ht⟩) hS.2.2 dX1_isFull_26
    · refine lv_iconst (v := 1) hx hb dX1_isFull_21 (by decide) ?_
      refine lv_goto (tgt := 26) hx hb dX1_isFull_22 (by decide) ?_
      have hw : 1 = sm_isFull us ur p1 := by unfold sm_isFull; rw [if_neg c_6, if_neg c_18]; (try rfl)
      exact W.zret (v := 1) hx hb hr rfl (fun t ht hW => ⟨⟨1, (), rfl, hw, ⟨by rw [ht]; exact hP, va_K.moved hW.alike hK, hD⟩⟩, hS.F ht⟩) hS.2.2 dX1_isFull_26
set_option maxHeartbeats 4000000 in
set_option maxRecDepth 100000 in
theorem cm_comes_L7 {p : Program} {l : Launch} {e : Env} {s : State} {m : MethodId} {args : Array Value} {below : List Frame} {meth : Method} {c : Code} {Q : State → Prop} {dC : Nat → ClassId} {dI : Nat → Nat → Nat} {b : Nat → Nat} {h : Nat → ClassId} {A : Nat → Prop} (uR uW uA uM uX uF uI uS : Nat → Int32) (ut us ur ub uo ui ul uk uh : Int32) (p1 x2 : Int32) (hx : p.tables.exec = Jvm.exec) (hb : c.code = cX1_comes) (hml : c.maxLocals = 4) (hown : s.vm.findClass RX1 = some m.cls) (hg : ∀ w ∈ gw, w.before args s = true) (hA : ∀ q : Nat, s.heap.size ≤ q → A q) (hK : va_K (dC, dI) vwCl (ty_sm h) s) (hs : 0 ≤ x2.toInt ∧ x2.toInt < 48) :
    ∀ (n : Nat) (x3 : Int32) (uR uW : Nat → Int32) (H : Heap) (locs : List Loc) (ls : Array Slot), (cnt 41 x3 n) → va_P (dC, dI) vwCl (ws_sm b h uR uW uA uM uX uF uI uS ut us ur ub uo ui ul uk uh) H → va_D A (ws_sm b h uR uW uA uM uX uF uI uS ut us ur ub uo ui ul uk uh) → va_S A s.heap H locs → lv_has ls 4 [(0, .ref (b 0)), (1, .int p1), (2, .int x2), (3, .int x3)] →
      (∀ (uR_o7 uW_o7 : Nat → Int32), sm_comes_L7 x2 n x3 uR uW = (uR_o7, uW_o7) → ∀ (H : Heap) (locs : List Loc) (ls : Array Slot), va_P (dC, dI) vwCl (ws_sm b h uR_o7 uW_o7 uA uM uX uF uI uS ut us ur ub uo ui ul uk uh) H → va_D A (ws_sm b h uR_o7 uW_o7 uA uM uX uF uI uS ut us ur ub uo ui ul uk uh) → va_S A s.heap H locs → lv_has ls 4 [(0, .ref (b 0)), (1, .int p1), (2, .int x2)] → W p l e (headSpec wsX1_comes ({ frames := 0, cells := 0, slots := 0, locals := 0 } : Room)).room s m args below meth c H locs 0 0 Q (F0 m 43 ls [])) →
      W p l e (headSpec wsX1_comes ({ frames := 0, cells := 0, slots := 0, locals := 0 } : Room)).room s m args below meth c H locs 0 0 Q (F0 m 7 ls []) := by
  intro n
  induction n with
  | zero =>
    intro x3 uR uW H locs ls hinv
    exact absurd hinv (cnt_z)
  | succ n ih =>
    intro x3 uR uW H locs ls hinv hP hD hS hl k0
    refine lv_iload_n hx hb dX1_comes_7 rfl (lv_at hl 3 rfl) ?_
    refine lv_bipush (v := 41) hx hb dX1_comes_8 (by decide) ?_
    refine lv_icmp_ge (tgt := 43) hx hb dX1_comes_10 (by decide) (fun c_10 => ?_) (fun c_10 => ?_)
    · exact k0 uR uW (by rw [sm_comes_L7_s]; rw [if_pos c_10]; (try rfl)) H locs ls hP hD hS (lv_sub hl [0, 1, 2] rfl)
    · refine lv_aload_n hx hb dX1_comes_13 rfl (lv_at hl 0 rfl) ?_
      refine va_get (D := (dC, dI)) (ci := 1) (v := .ref (b 1)) (C := RX1) (T := TX1) (N := 17) hx hb hg inX1 hown hK hP 0 rfl rfl 5 (by decide) (hg _ w_351) (fun _ h9 => h9) rfl dX1_comes_14 ?_
      refine lv_bipush (v := 41) hx hb dX1_comes_17 (by decide) ?_
      refine lv_iload_n hx hb dX1_comes_19 rfl (lv_at hl 2 rfl) ?_
      refine lv_imul hx hb dX1_comes_20 ?_
      refine lv_iload_n hx hb dX1_comes_21 rfl (lv_at hl 3 rfl) ?_
      refine lv_iadd hx hb dX1_comes_22 ?_
      refine lv_iconst (v := 0) hx hb dX1_comes_23 (by decide) ?_
      refine va_zast hx hb hK hP hD hS 1 0 rfl rfl (th_in hs (cnt_rg hinv c_10)) dX1_comes_24 (fun H locs hP hD hS => ?_)
      have hP : va_P (dC, dI) vwCl (ws_sm b h (upd uR ((41 * x2) + x3).toNatClampNeg 0) uW uA uM uX uF uI uS ut us ur ub uo ui ul uk uh) H := hP
      have hD : va_D A (ws_sm b h (upd uR ((41 * x2) + x3).toNatClampNeg 0) uW uA uM uX uF uI uS ut us ur ub uo ui ul uk uh) := hD
      refine lv_aload_n hx hb dX1_comes_25 rfl (lv_at hl 0 rfl) ?_
      refine va_get (D := (dC, dI)) (ci := 1) (v := .ref (b 2)) (C := RX1) (T := TX1) (N := 17) hx hb hg inX1 hown hK hP 0 rfl rfl 6 (by decide) (hg _ w_352) (fun _ h9 => h9) rfl dX1_comes_26 ?_
      refine lv_bipush (v := 41) hx hb dX1_comes_29 (by decide) ?_
      refine lv_iload_n hx hb dX1_comes_31 rfl (lv_at hl 2 rfl) ?_
      refine lv_imul hx hb dX1_comes_32 ?_
      refine lv_iload_n hx hb dX1_comes_33 rfl (lv_at hl 3 rfl) ?_
      refine lv_iadd hx hb dX1_comes_34 ?_
      refine lv_iconst (v := 0) hx hb dX1_comes_35 (by decide) ?_
      refine va_zast hx hb hK hP hD hS 2 1 rfl rfl (th_in hs (cnt_rg hinv c_10)) dX1_comes_36 (fun H locs hP hD hS => ?_)
      have hP : va_P (dC, dI) vwCl (ws_sm b h (upd uR ((41 * x2) + x3).toNatClampNeg 0) (upd uW ((41 * x2) + x3).toNatClampNeg 0) uA uM uX uF uI uS ut us ur ub uo ui ul uk uh) H := hP
      have hD : va_D A (ws_sm b h (upd uR ((41 * x2) + x3).toNatClampNeg 0) (upd uW ((41 * x2) + x3).toNatClampNeg 0) uA uM uX uF uI uS ut us ur ub uo ui ul uk uh) := hD
      refine lv_iinc (v := x3 + 1) (lv' := [(3, .int (x3 + 1)), (0, .ref (b 0)), (1, .int p1), (2, .int x2)]) hx hb dX1_comes_37 hl (k := 3) rfl rfl (by decide) rfl (fun ls hl => ?_)
      refine lv_goto (tgt := 7) hx hb dX1_comes_40 (by decide) ?_
      exact ih (x3 + 1) (upd uR ((41 * x2) + x3).toNatClampNeg 0) (upd uW ((41 * x2) + x3).toNatClampNeg 0) H locs ls (cnt_s hinv c_10) hP hD hS (lv_sub hl [1, 2, 3, 0] rfl) (fun uR_o7 uW_o7 hw H locs ls hP hD hS hl => k0 uR_o7 uW_o7 (by rw [sm_comes_L7_s]; rw [if_neg c_10]; exact hw) H locs ls hP hD hS hl)
set_option maxHeartbeats 4000000 in
set_option maxRecDepth 100000 in
theorem cm_comes (l : Launch) (dC : Nat → ClassId) (dI : Nat → Nat → Nat) (b : Nat → Nat) (h : Nat → ClassId) (sz : Nat) (uR uW uA uM uX uF uI uS : Nat → Int32) (ut us ur ub uo ui ul uk uh : Int32) (p1 : Int32) (hs : 0 ≤ us.toInt ∧ us.toInt < 48) : Met l yX1_comes wsX1_comes ({ frames := 0, cells := 0, slots := 0, locals := 0 } : Room) (va_Pc [.ref (b 0), .int p1] (pr (dC, dI) (ws_sm b h uR uW uA uM uX uF uI uS ut us ur ub uo ui ul uk uh) (ty_sm h) sz)) (va_Qi (fun (r : Int32) (u : (Nat → Int32) × (Nat → Int32) × (Nat → Int32) × (Nat → Int32) × (Nat → Int32) × (Nat → Int32) × (Nat → Int32) × Int32 × Int32 × Int32 × Int32) => sm_comes uR uW uA uM uX uF uI us ur ui p1 = (r, u)) (fun (u : (Nat → Int32) × (Nat → Int32) × (Nat → Int32) × (Nat → Int32) × (Nat → Int32) × (Nat → Int32) × (Nat → Int32) × Int32 × Int32 × Int32 × Int32) t => match u with | (uR', uW', uA', uM', uX', uF', uI', us', ur', ul', uh') => po (dC, dI) (ws_sm b h uR' uW' uA' uM' uX' uF' uI' uS ut us' ur' ub uo ui ul' uk uh') (ty_sm h) (va_A (ws_sm b h uR uW uA uM uX uF uI uS ut us ur ub uo ui ul uk uh) sz) t) (va_A (ws_sm b h uR uW uA uM uX uF uI uS ut us ur ub uo ui ul uk uh) sz)) 0 0 (va_A (ws_sm b h uR uW uA uM uX uF uI uS ut us ur ub uo ui ul uk uh) sz) := by
  refine Met.ofW (cc := cX1_comes) (maxL := 4) (ret := (some .int)) (by decide) rfl ?_
  intro p e s m args below meth c s₁ B hml hv
  obtain ⟨rfl, hsz, hP, hK, hD0⟩ := hv
  have hx := B.exec
  have hb := B.bytes
  have hr := B.returns
  have hts := atoms_spec (ws := wsX1_comes) B.pre
  have hg : ∀ w ∈ gw, w.before _ s = true := fun w h => hts w (List.mem_cons_of_mem _ h)
  have hown : s.vm.findClass RX1 = some m.cls := findClass_of_methodNamed B.named
  have hlocks := B.notSynchronized
  subst hsz
  have hD := hD0.self (sz := s.heap.size)
  generalize hAe : va_A (ws_sm b h uR uW uA uM uX uF uI uS ut us ur ub uo ui ul uk uh) s.heap.size = A at hD ⊢
  have hA : ∀ q : Nat, s.heap.size ≤ q → A q := fun q h => by rw [← hAe]; exact Or.inr h
  clear hAe
  refine w_in (fun H locs eH eL => ?_)
  have hS : va_S A s.heap H locs := by rw [eH, eL]; exact va_S.rf
  have hP : va_P (dC, dI) vwCl (ws_sm b h uR uW uA uM uX uF uI uS ut us ur ub uo ui ul uk uh) H := by rw [eH]; exact hP
  clear eH eL
  have hl := lv_entry ([.ref (b 0), .int p1]) (n := 4) (Nat.le_of_ble_eq_true rfl)
  rw [lg_entry_eq]
  generalize (lg_sl ([.ref (b 0), .int p1]) ++ List.replicate (4 - (lg_sl ([.ref (b 0), .int p1])).length) Slot.unset).toArray = ls at hl ⊢
  have hl : lv_has ls 4 [(0, .ref (b 0)), (1, .int p1)] := hl
  refine lv_aload_n hx hb dX1_comes_0 rfl (lv_at hl 0 rfl) ?_
  refine va_get (D := (dC, dI)) (ci := 1) (v := .int us) (C := RX1) (T := TX1) (N := 17) hx hb hg inX1 hown hK hP 0 rfl rfl 1 (by decide) (hg _ w_347) (fun _ h9 => h9) rfl dX1_comes_1 ?_
  refine lv_istore_n (lv' := [(2, .int us), (0, .ref (b 0)), (1, .int p1)]) hx hb dX1_comes_4 rfl hl (by decide) rfl (fun ls hl => ?_)
  refine lv_iconst (v := 0) hx hb dX1_comes_5 (by decide) ?_
  refine lv_istore_n (lv' := [(3, .int 0), (2, .int us), (0, .ref (b 0)), (1, .int p1)]) hx hb dX1_comes_6 rfl hl (by decide) rfl (fun ls hl => ?_)
  refine cm_comes_L7 uR uW uA uM uX uF uI uS ut us ur ub uo ui ul uk uh p1 us hx hb hml hown hg hA hK hs 42 0 uR uW H locs ls (cnt_0 (by decide) (by decide)) hP hD hS (lv_sub hl [2, 3, 1, 0] rfl) (fun uR_o7 uW_o7 hw_7 H locs ls hP hD hS hl => ?_)
  refine lv_aload_n hx hb dX1_comes_43 rfl (lv_at hl 0 rfl) ?_
  refine va_get (D := (dC, dI)) (ci := 1) (v := .ref (b 3)) (C := RX1) (T := TX1) (N := 17) hx hb hg inX1 hown hK hP 0 rfl rfl 7 (by decide) (hg _ w_353) (fun _ h9 => h9) rfl dX1_comes_44 ?_
  refine lv_iload_n hx hb dX1_comes_47 rfl (lv_at hl 2 rfl) ?_
  refine lv_iconst (v := (-1)) hx hb dX1_comes_48 (by decide) ?_
  refine va_iast hx hb hK hP hD hS 3 2 rfl rfl (ix_k hs) dX1_comes_49 (fun H locs hP hD hS => ?_)
  have hP : va_P (dC, dI) vwCl (ws_sm b h uR_o7 uW_o7 (upd uA us.toNatClampNeg (-1)) uM uX uF uI uS ut us ur ub uo ui ul uk uh) H := hP
  have hD : va_D A (ws_sm b h uR_o7 uW_o7 (upd uA us.toNatClampNeg (-1)) uM uX uF uI uS ut us ur ub uo ui ul uk uh) := hD
  refine lv_aload_n hx hb dX1_comes_50 rfl (lv_at hl 0 rfl) ?_
  refine va_get (D := (dC, dI)) (ci := 1) (v := .ref (b 4)) (C := RX1) (T := TX1) (N := 17) hx hb hg inX1 hown hK hP 0 rfl rfl 8 (by decide) (hg _ w_354) (fun _ h9 => h9) rfl dX1_comes_51 ?_
  refine lv_iload_n hx hb dX1_comes_54 rfl (lv_at hl 2 rfl) ?_
  refine lv_iconst (v := 0) hx hb dX1_comes_55 (by decide) ?_
  refine va_iast hx hb hK hP hD hS 4 3 rfl rfl (ix_k hs) dX1_comes_56 (fun H locs hP hD hS => ?_)
  have hP : va_P (dC, dI) vwCl (ws_sm b h uR_o7 uW_o7 (upd uA us.toNatClampNeg (-1)) (upd uM us.toNatClampNeg 0) uX uF uI uS ut us ur ub uo ui ul uk uh) H := hP
  have hD : va_D A (ws_sm b h uR_o7 uW_o7 (upd uA us.toNatClampNeg (-1)) (upd uM us.toNatClampNeg 0) uX uF uI uS ut us ur ub uo ui ul uk uh) := hD
  refine lv_aload_n hx hb dX1_comes_57 rfl (lv_at hl 0 rfl) ?_
  refine va_get (D := (dC, dI)) (ci := 1) (v := .ref (b 5)) (C := RX1) (T := TX1) (N := 17) hx hb hg inX1 hown hK hP 0 rfl rfl 9 (by decide) (hg _ w_355) (fun _ h9 => h9) rfl dX1_comes_58 ?_
  refine lv_iload_n hx hb dX1_comes_61 rfl (lv_at hl 2 rfl) ?_
  refine lv_iconst (v := 0) hx hb dX1_comes_62 (by decide) ?_
  refine va_iast hx hb hK hP hD hS 5 4 rfl rfl (ix_k hs) dX1_comes_63 (fun H locs hP hD hS => ?_)
  have hP : va_P (dC, dI) vwCl (ws_sm b h uR_o7 uW_o7 (upd uA us.toNatClampNeg (-1)) (upd uM us.toNatClampNeg 0) (upd uX us.toNatClampNeg 0) uF uI uS ut us ur ub uo ui ul uk uh) H := hP
  have hD : va_D A (ws_sm b h uR_o7 uW_o7 (upd uA us.toNatClampNeg (-1)) (upd uM us.toNatClampNeg 0) (upd uX us.toNatClampNeg 0) uF uI uS ut us ur ub uo ui ul uk uh) := hD
  refine lv_aload_n hx hb dX1_comes_64 rfl (lv_at hl 0 rfl) ?_
  refine va_get (D := (dC, dI)) (ci := 1) (v := .ref (b 6)) (C := RX1) (T := TX1) (N := 17) hx hb hg inX1 hown hK hP 0 rfl rfl 10 (by decide) (hg _ w_356) (fun _ h9 => h9) rfl dX1_comes_65 ?_
  refine lv_iload_n hx hb dX1_comes_68 rfl (lv_at hl 2 rfl) ?_
  refine lv_iconst (v := 0) hx hb dX1_comes_69 (by decide) ?_
  refine va_zast hx hb hK hP hD hS 6 5 rfl rfl (ix_k hs) dX1_comes_70 (fun H locs hP hD hS => ?_)
  have hP : va_P (dC, dI) vwCl (ws_sm b h uR_o7 uW_o7 (upd uA us.toNatClampNeg (-1)) (upd uM us.toNatClampNeg 0) (upd uX us.toNatClampNeg 0) (upd uF us.toNatClampNeg 0) uI uS ut us ur ub uo ui ul uk uh) H := hP
  have hD : va_D A (ws_sm b h uR_o7 uW_o7 (upd uA us.toNatClampNeg (-1)) (upd uM us.toNatClampNeg 0) (upd uX us.toNatClampNeg 0) (upd uF us.toNatClampNeg 0) uI uS ut us ur ub uo ui ul uk uh) := hD
  refine lv_aload_n hx hb dX1_comes_71 rfl (lv_at hl 0 rfl) ?_
  refine va_get (D := (dC, dI)) (ci := 1) (v := .ref (b 7)) (C := RX1) (T := TX1) (N := 17) hx hb hg inX1 hown hK hP 0 rfl rfl 11 (by decide) (hg _ w_357) (fun _ h9 => h9) rfl dX1_comes_72 ?_
  refine lv_iload_n hx hb dX1_comes_75 rfl (lv_at hl 2 rfl) ?_
  refine lv_aload_n hx hb dX1_comes_76 rfl (lv_at hl 0 rfl) ?_
  refine va_get (D := (dC, dI)) (ci := 1) (v := .int ui) (C := RX1) (T := TX1) (N := 17) hx hb hg inX1 hown hK hP 0 rfl rfl 12 (by decide) (hg _ w_358) (fun _ h9 => h9) rfl dX1_comes_77 ?_
  refine va_iast hx hb hK hP hD hS 7 6 rfl rfl (ix_k hs) dX1_comes_80 (fun H locs hP hD hS => ?_)
  have hP : va_P (dC, dI) vwCl (ws_sm b h uR_o7 uW_o7 (upd uA us.toNatClampNeg (-1)) (upd uM us.toNatClampNeg 0) (upd uX us.toNatClampNeg 0) (upd uF us.toNatClampNeg 0) (upd uI us.toNatClampNeg ui) uS ut us ur ub uo ui ul uk uh) H := hP
  have hD : va_D A (ws_sm b h uR_o7 uW_o7 (upd uA us.toNatClampNeg (-1)) (upd uM us.toNatClampNeg 0) (upd uX us.toNatClampNeg 0) (upd uF us.toNatClampNeg 0) (upd uI us.toNatClampNeg ui) uS ut us ur ub uo ui ul uk uh) := hD
  refine lv_aload_n hx hb dX1_comes_81 rfl (lv_at hl 0 rfl) ?_
  refine lv_dup hx hb dX1_comes_82 rfl ?_
  refine va_get (D := (dC, dI)) (ci := 1) (v := .int ur) (C := RX1) (T := TX1) (N := 17) hx hb hg inX1 hown hK hP 0 rfl rfl 2 (by decide) (hg _ w_348) (fun _ h9 => h9) rfl dX1_comes_83 ?_
  refine lv_iload_n hx hb dX1_comes_86 rfl (lv_at hl 1 rfl) ?_
  refine lv_iadd hx hb dX1_comes_87 ?_
  refine va_put (D := (dC, dI)) (ci := 1) (v := .int (ur + p1)) (ty := .int) (C := RX1) (T := TX1) (N := 17) hx hb hg inX1 tyX1 tyX1_ok nmX1 hown hK hP hD hS 0 rfl rfl 2 (by decide) (hg _ w_348) (fun _ h9 => h9) rfl (by decide +kernel) rfl rfl (Nat.le_of_ble_eq_true rfl) dX1_comes_88 (fun H locs hP hD hS => ?_)
  have hP : va_P (dC, dI) vwCl (ws_sm b h uR_o7 uW_o7 (upd uA us.toNatClampNeg (-1)) (upd uM us.toNatClampNeg 0) (upd uX us.toNatClampNeg 0) (upd uF us.toNatClampNeg 0) (upd uI us.toNatClampNeg ui) uS ut us (ur + p1) ub uo ui ul uk uh) H := hP
  have hD : va_D A (ws_sm b h uR_o7 uW_o7 (upd uA us.toNatClampNeg (-1)) (upd uM us.toNatClampNeg 0) (upd uX us.toNatClampNeg 0) (upd uF us.toNatClampNeg 0) (upd uI us.toNatClampNeg ui) uS ut us (ur + p1) ub uo ui ul uk uh) := hD
  refine lv_aload_n hx hb dX1_comes_91 rfl (lv_at hl 0 rfl) ?_
  refine lv_dup hx hb dX1_comes_92 rfl ?_
  refine va_get (D := (dC, dI)) (ci := 1) (v := .int us) (C := RX1) (T := TX1) (N := 17) hx hb hg inX1 hown hK hP 0 rfl rfl 1 (by decide) (hg _ w_347) (fun _ h9 => h9) rfl dX1_comes_93 ?_
  refine lv_iconst (v := 1) hx hb dX1_comes_96 (by decide) ?_
  refine lv_iadd hx hb dX1_comes_97 ?_
  refine va_put (D := (dC, dI)) (ci := 1) (v := .int (us + 1)) (ty := .int) (C := RX1) (T := TX1) (N := 17) hx hb hg inX1 tyX1 tyX1_ok nmX1 hown hK hP hD hS 0 rfl rfl 1 (by decide) (hg _ w_347) (fun _ h9 => h9) rfl (by decide +kernel) rfl rfl (Nat.le_of_ble_eq_true rfl) dX1_comes_98 (fun H locs hP hD hS => ?_)
  have hP : va_P (dC, dI) vwCl (ws_sm b h uR_o7 uW_o7 (upd uA us.toNatClampNeg (-1)) (upd uM us.toNatClampNeg 0) (upd uX us.toNatClampNeg 0) (upd uF us.toNatClampNeg 0) (upd uI us.toNatClampNeg ui) uS ut (us + 1) (ur + p1) ub uo ui ul uk uh) H := hP
  have hD : va_D A (ws_sm b h uR_o7 uW_o7 (upd uA us.toNatClampNeg (-1)) (upd uM us.toNatClampNeg 0) (upd uX us.toNatClampNeg 0) (upd uF us.toNatClampNeg 0) (upd uI us.toNatClampNeg ui) uS ut (us + 1) (ur + p1) ub uo ui ul uk uh) := hD
  refine lv_aload_n hx hb dX1_comes_101 rfl (lv_at hl 0 rfl) ?_
  refine lv_iconst (v := 0) hx hb dX1_comes_102 (by decide) ?_
  refine va_put (D := (dC, dI)) (ci := 1) (v := .int 0) (ty := .boolean) (C := RX1) (T := TX1) (N := 17) hx hb hg inX1 tyX1 tyX1_ok nmX1 hown hK hP hD hS 0 rfl rfl 14 (by decide) (hg _ w_360) (fun _ h9 => h9) rfl (by decide +kernel) rfl rfl (Nat.le_of_ble_eq_true rfl) dX1_comes_103 (fun H locs hP hD hS => ?_)
  have hP : va_P (dC, dI) vwCl (ws_sm b h uR_o7 uW_o7 (upd uA us.toNatClampNeg (-1)) (upd uM us.toNatClampNeg 0) (upd uX us.toNatClampNeg 0) (upd uF us.toNatClampNeg 0) (upd uI us.toNatClampNeg ui) uS ut (us + 1) (ur + p1) ub uo ui 0 uk uh) H := hP
  have hD : va_D A (ws_sm b h uR_o7 uW_o7 (upd uA us.toNatClampNeg (-1)) (upd uM us.toNatClampNeg 0) (upd uX us.toNatClampNeg 0) (upd uF us.toNatClampNeg 0) (upd uI us.toNatClampNeg ui) uS ut (us + 1) (ur + p1) ub uo ui 0 uk uh) := hD
  refine lv_aload_n hx hb dX1_comes_106 rfl (lv_at hl 0 rfl) ?_
  refine lv_iconst (v := (-1)) hx hb dX1_comes_107 (by decide) ?_
  refine va_put (D := (dC, dI)) (ci := 1) (v := .int (-1)) (ty := .int) (C := RX1) (T := TX1) (N := 17) hx hb hg inX1 tyX1 tyX1_ok nmX1 hown hK hP hD hS 0 rfl rfl 16 (by decide) (hg _ w_362) (fun _ h9 => h9) rfl (by decide +kernel) rfl rfl (Nat.le_of_ble_eq_true rfl) dX1_comes_108 (fun H locs hP hD hS => ?_)
  have hP : va_P (dC, dI) vwCl (ws_sm b h uR_o7 uW_o7 (upd uA us.toNatClampNeg (-1)) (upd uM us.toNatClampNeg 0) (upd uX us.toNatClampNeg 0) (upd uF us.toNatClampNeg 0) (upd uI us.toNatClampNeg ui) uS ut (us + 1) (ur + p1) ub uo ui 0 uk (-1)) H := hP
  have hD : va_D A (ws_sm b h uR_o7 uW_o7 (upd uA us.toNatClampNeg (-1)) (upd uM us.toNatClampNeg 0) (upd uX us.toNatClampNeg 0) (upd uF us.toNatClampNeg 0) (upd uI us.toNatClampNeg ui) uS ut (us + 1) (ur + p1) ub uo ui 0 uk (-1)) := hD
  refine lv_iload_n hx hb dX1_comes_111 rfl (lv_at hl 2 rfl) ?_
  have hw : sm_comes uR uW uA uM uX uF uI us ur ui p1 = (us, uR_o7, uW_o7, upd uA us.toNatClampNeg (-1), upd uM us.toNatClampNeg 0, upd uX us.toNatClampNeg 0, upd uF us.toNatClampNeg 0, upd uI us.toNatClampNeg ui, us + 1, ur + p1, 0, (-1)) := by unfold sm_comes; rw [hw_7]; (try dsimp only); (try rfl)
  exact W.iret (v := us) hx hb hr (fun t ht hW => ⟨⟨us, (uR_o7, uW_o7, upd uA us.toNatClampNeg (-1), upd uM us.toNatClampNeg 0, upd uX us.toNatClampNeg 0, upd uF us.toNatClampNeg 0, upd uI us.toNatClampNeg ui, us + 1, ur + p1, 0, (-1)), rfl, hw, ⟨by rw [ht]; exact hP, va_K.moved hW.alike hK, hD⟩⟩, hS.F ht⟩) hS.2.2 dX1_comes_112
set_option maxHeartbeats 4000000 in
set_option maxRecDepth 100000 in
theorem cm_reads_L2 {p : Program} {l : Launch} {e : Env} {s : State} {m : MethodId} {args : Array Value} {below : List Frame} {meth : Method} {c : Code} {Q : State → Prop} {dC : Nat → ClassId} {dI : Nat → Nat → Nat} {b : Nat → Nat} {h : Nat → ClassId} {A : Nat → Prop} (uR uW uA uM uX uF uI uS : Nat → Int32) (ut us ur ub uo ui ul uk uh : Int32) (p1 p2 : Int32) (hx : p.tables.exec = Jvm.exec) (hb : c.code = cX1_reads) (hml : c.maxLocals = 4) (hown : s.vm.findClass RX1 = some m.cls) (hg : ∀ w ∈ gw, w.before args s = true) (hA : ∀ q : Nat, s.heap.size ≤ q → A q) (hK : va_K (dC, dI) vwCl (ty_sm h) s) (hs : 0 ≤ p1.toInt ∧ p1.toInt < 48) :
    ∀ (n : Nat) (x3 : Int32) (uR : Nat → Int32) (H : Heap) (locs : List Loc) (ls : Array Slot), (cnt 28 x3 n) → va_P (dC, dI) vwCl (ws_sm b h uR uW uA uM uX uF uI uS ut us ur ub uo ui ul uk uh) H → va_D A (ws_sm b h uR uW uA uM uX uF uI uS ut us ur ub uo ui ul uk uh) → va_S A s.heap H locs → lv_has ls 4 [(0, .ref (b 0)), (1, .int p1), (2, .int p2), (3, .int x3)] →
      (∀ (uR_o2 : Nat → Int32), sm_reads_L2 p1 p2 n x3 uR = uR_o2 → ∀ (H : Heap) (locs : List Loc) (ls : Array Slot), va_P (dC, dI) vwCl (ws_sm b h uR_o2 uW uA uM uX uF uI uS ut us ur ub uo ui ul uk uh) H → va_D A (ws_sm b h uR_o2 uW uA uM uX uF uI uS ut us ur ub uo ui ul uk uh) → va_S A s.heap H locs → lv_has ls 4 [(0, .ref (b 0)), (1, .int p1), (2, .int p2)] → W p l e (headSpec wsX1_reads ({ frames := 0, cells := 0, slots := 0, locals := 0 } : Room)).room s m args below meth c H locs 0 0 Q (F0 m 56 ls [])) →
      W p l e (headSpec wsX1_reads ({ frames := 0, cells := 0, slots := 0, locals := 0 } : Room)).room s m args below meth c H locs 0 0 Q (F0 m 2 ls []) := by
  intro n
  induction n with
  | zero =>
    intro x3 uR H locs ls hinv
    exact absurd hinv (cnt_z)
  | succ n ih =>
    intro x3 uR H locs ls hinv hP hD hS hl k0
    refine lv_iload_n hx hb dX1_reads_2 rfl (lv_at hl 3 rfl) ?_
    refine lv_bipush (v := 28) hx hb dX1_reads_3 (by decide) ?_
    refine lv_icmp_ge (tgt := 56) hx hb dX1_reads_5 (by decide) (fun c_5 => ?_) (fun c_5 => ?_)
    · exact k0 uR (by rw [sm_reads_L2_s]; rw [if_pos c_5]; (try rfl)) H locs ls hP hD hS (lv_sub hl [0, 1, 2] rfl)
    · refine lv_iload_n hx hb dX1_reads_8 rfl (lv_at hl 2 rfl) ?_
      refine lv_iload_n hx hb dX1_reads_9 rfl (lv_at hl 3 rfl) ?_
      refine lv_ishr hx hb dX1_reads_10 ?_
      refine lv_iconst (v := 1) hx hb dX1_reads_11 (by decide) ?_
      refine lv_iand hx hb dX1_reads_12 ?_
      refine lv_iconst (v := 1) hx hb dX1_reads_13 (by decide) ?_
      refine lv_icmp_ne (tgt := 50) hx hb dX1_reads_14 (by decide) (fun c_14 => ?_) (fun c_14 => ?_)
      · refine lv_iinc (v := x3 + 1) (lv' := [(3, .int (x3 + 1)), (0, .ref (b 0)), (1, .int p1), (2, .int p2)]) hx hb dX1_reads_50 hl (k := 3) rfl rfl (by decide) rfl (fun ls hl => ?_)
        refine lv_goto (tgt := 2) hx hb dX1_reads_53 (by decide) ?_
        exact ih (x3 + 1) uR H locs ls (cnt_s hinv c_5) hP hD hS (lv_sub hl [1, 2, 3, 0] rfl) (fun uR_o2 hw H locs ls hP hD hS hl => k0 uR_o2 (by rw [sm_reads_L2_s]; rw [if_neg c_5, if_neg c_14]; exact hw) H locs ls hP hD hS hl)
      · refine lv_aload_n hx hb dX1_reads_17 rfl (lv_at hl 0 rfl) ?_
        refine va_get (D := (dC, dI)) (ci := 1) (v := .ref (b 1)) (C := RX1) (T := TX1) (N := 17) hx hb hg inX1 hown hK hP 0 rfl rfl 5 (by decide) (hg _ w_351) (fun _ h9 => h9) rfl dX1_reads_18 ?_
        refine lv_bipush (v := 41) hx hb dX1_reads_21 (by decide) ?_
        refine lv_iload_n hx hb dX1_reads_23 rfl (lv_at hl 1 rfl) ?_
        refine lv_imul hx hb dX1_reads_24 ?_
        refine lv_iload_n hx hb dX1_reads_25 rfl (lv_at hl 3 rfl) ?_
        refine lv_iadd hx hb dX1_reads_26 ?_
        refine lv_iconst (v := 1) hx hb dX1_reads_27 (by decide) ?_
        refine va_zast hx hb hK hP hD hS 1 0 rfl rfl (th_in hs (w41 (cnt_rg28 hinv c_5))) dX1_reads_28 (fun H locs hP hD hS => ?_)
        have hP : va_P (dC, dI) vwCl (ws_sm b h (upd uR ((41 * p1) + x3).toNatClampNeg 1) uW uA uM uX uF uI uS ut us ur ub uo ui ul uk uh) H := hP
        have hD : va_D A (ws_sm b h (upd uR ((41 * p1) + x3).toNatClampNeg 1) uW uA uM uX uF uI uS ut us ur ub uo ui ul uk uh) := hD
        refine lv_iload_n hx hb dX1_reads_29 rfl (lv_at hl 3 rfl) ?_
        refine lv_bipush (v := 15) hx hb dX1_reads_30 (by decide) ?_
        refine lv_icmp_le (tgt := 50) hx hb dX1_reads_32 (by decide) (fun c_32 => ?_) (fun c_32 => ?_)
        · refine lv_iinc (v := x3 + 1) (lv' := [(3, .int (x3 + 1)), (0, .ref (b 0)), (1, .int p1), (2, .int p2)]) hx hb dX1_reads_50 hl (k := 3) rfl rfl (by decide) rfl (fun ls hl => ?_)
          refine lv_goto (tgt := 2) hx hb dX1_reads_53 (by decide) ?_
          exact ih (x3 + 1) (upd uR ((41 * p1) + x3).toNatClampNeg 1) H locs ls (cnt_s hinv c_5) hP hD hS (lv_sub hl [1, 2, 3, 0] rfl) (fun uR_o2 hw H locs ls hP hD hS hl => k0 uR_o2 (by rw [sm_reads_L2_s]; rw [if_neg c_5, if_pos c_14, if_pos c_32]; exact hw) H locs ls hP hD hS hl)
        · refine lv_aload_n hx hb dX1_reads_35 rfl (lv_at hl 0 rfl) ?_
          refine va_get (D := (dC, dI)) (ci := 1) (v := .ref (b 1)) (C := RX1) (T := TX1) (N := 17) hx hb hg inX1 hown hK hP 0 rfl rfl 5 (by decide) (hg _ w_351) (fun _ h9 => h9) rfl dX1_reads_36 ?_
          refine lv_bipush (v := 41) hx hb dX1_reads_39 (by decide) ?_
          refine lv_iload_n hx hb dX1_reads_41 rfl (lv_at hl 1 rfl) ?_
          refine lv_imul hx hb dX1_reads_42 ?_
          refine lv_iload_n hx hb dX1_reads_43 rfl (lv_at hl 3 rfl) ?_
          refine lv_iadd hx hb dX1_reads_44 ?_
          refine lv_bipush (v := 12) hx hb dX1_reads_45 (by decide) ?_
          refine lv_iadd hx hb dX1_reads_47 ?_
          refine lv_iconst (v := 1) hx hb dX1_reads_48 (by decide) ?_
          refine va_zast hx hb hK hP hD hS 1 0 rfl rfl (th_in12 hs (cnt_rg28 hinv c_5)) dX1_reads_49 (fun H locs hP hD hS => ?_)
          have hP : va_P (dC, dI) vwCl (ws_sm b h (upd (upd uR ((41 * p1) + x3).toNatClampNeg 1) (((41 * p1) + x3) + 12).toNatClampNeg 1) uW uA uM uX uF uI uS ut us ur ub uo ui ul uk uh) H := hP
          have hD : va_D A (ws_sm b h (upd (upd uR ((41 * p1) + x3).toNatClampNeg 1) (((41 * p1) + x3) + 12).toNatClampNeg 1) uW uA uM uX uF uI uS ut us ur ub uo ui ul uk uh) := hD
          refine lv_iinc (v := x3 + 1) (lv' := [(3, .int (x3 + 1)), (0, .ref (b 0)), (1, .int p1), (2, .int p2)]) hx hb dX1_reads_50 hl (k := 3) rfl rfl (by decide) rfl (fun ls hl => ?_)
          refine lv_goto (tgt := 2) hx hb dX1_reads_53 (by decide) ?_
          exact ih (x3 + 1) (upd (upd uR ((41 * p1) + x3).toNatClampNeg 1) (((41 * p1) + x3) + 12).toNatClampNeg 1) H locs ls (cnt_s hinv c_5) hP hD hS (lv_sub hl [1, 2, 3, 0] rfl) (fun uR_o2 hw H locs ls hP hD hS hl => k0 uR_o2 (by rw [sm_reads_L2_s]; rw [if_neg c_5, if_pos c_14, if_neg c_32]; exact hw) H locs ls hP hD hS hl)
set_option maxHeartbeats 4000000 in
set_option maxRecDepth 100000 in
theorem cm_reads (l : Launch) (dC : Nat → ClassId) (dI : Nat → Nat → Nat) (b : Nat → Nat) (h : Nat → ClassId) (sz : Nat) (uR uW uA uM uX uF uI uS : Nat → Int32) (ut us ur ub uo ui ul uk uh : Int32) (p1 p2 : Int32) (hs : 0 ≤ p1.toInt ∧ p1.toInt < 48) : Met l yX1_reads wsX1_reads ({ frames := 0, cells := 0, slots := 0, locals := 0 } : Room) (va_Pc [.ref (b 0), .int p1, .int p2] (pr (dC, dI) (ws_sm b h uR uW uA uM uX uF uI uS ut us ur ub uo ui ul uk uh) (ty_sm h) sz)) (va_Qv (fun (u : (Nat → Int32)) => sm_reads uR p1 p2 = u) (fun (uR' : (Nat → Int32)) t => po (dC, dI) (ws_sm b h uR' uW uA uM uX uF uI uS ut us ur ub uo ui ul uk uh) (ty_sm h) (va_A (ws_sm b h uR uW uA uM uX uF uI uS ut us ur ub uo ui ul uk uh) sz) t) (va_A (ws_sm b h uR uW uA uM uX uF uI uS ut us ur ub uo ui ul uk uh) sz)) 0 0 (va_A (ws_sm b h uR uW uA uM uX uF uI uS ut us ur ub uo ui ul uk uh) sz) := by
  refine Met.ofW (cc := cX1_reads) (maxL := 4) (ret := none) (by decide) rfl ?_
  intro p e s m args below meth c s₁ B hml hv
  obtain ⟨rfl, hsz, hP, hK, hD0⟩ := hv
  have hx := B.exec
  have hb := B.bytes
  have hr := B.returns
  have hts := atoms_spec (ws := wsX1_reads) B.pre
  have hg : ∀ w ∈ gw, w.before _ s = true := fun w h => hts w (List.mem_cons_of_mem _ h)
  have hown : s.vm.findClass RX1 = some m.cls := findClass_of_methodNamed B.named
  have hlocks := B.notSynchronized
  subst hsz
  have hD := hD0.self (sz := s.heap.size)
  generalize hAe : va_A (ws_sm b h uR uW uA uM uX uF uI uS ut us ur ub uo ui ul uk uh) s.heap.size = A at hD ⊢
  have hA : ∀ q : Nat, s.heap.size ≤ q → A q := fun q h => by rw [← hAe]; exact Or.inr h
  clear hAe
  refine w_in (fun H locs eH eL => ?_)
  have hS : va_S A s.heap H locs := by rw [eH, eL]; exact va_S.rf
  have hP : va_P (dC, dI) vwCl (ws_sm b h uR uW uA uM uX uF uI uS ut us ur ub uo ui ul uk uh) H := by rw [eH]; exact hP
  clear eH eL
  have hl := lv_entry ([.ref (b 0), .int p1, .int p2]) (n := 4) (Nat.le_of_ble_eq_true rfl)
  rw [lg_entry_eq]
  generalize (lg_sl ([.ref (b 0), .int p1, .int p2]) ++ List.replicate (4 - (lg_sl ([.ref (b 0), .int p1, .int p2])).length) Slot.unset).toArray = ls at hl ⊢
  have hl : lv_has ls 4 [(0, .ref (b 0)), (1, .int p1), (2, .int p2)] := hl
  refine lv_iconst (v := 0) hx hb dX1_reads_0 (by decide) ?_
  refine lv_istore_n (lv' := [(3, .int 0), (0, .ref (b 0)), (1, .int p1), (2, .int p2)]) hx hb dX1_reads_1 rfl hl (by decide) rfl (fun ls hl => ?_)
  refine cm_reads_L2 uR uW uA uM uX uF uI uS ut us ur ub uo ui ul uk uh p1 p2 hx hb hml hown hg hA hK hs 29 0 uR H locs ls (cnt_0 (by decide) (by decide)) hP hD hS (lv_sub hl [1, 2, 3, 0] rfl) (fun uR_o2 hw_2 H locs ls hP hD hS hl => ?_)
  have hw : sm_reads uR p1 p2 = uR_o2 := by unfold sm_reads; rw [hw_2]; (try dsimp only); (try rfl)
  exact W.vret hx hb hr (fun t ht hW => ⟨⟨uR_o2, rfl, hw, ⟨by rw [ht]; exact hP, va_K.moved hW.alike hK, hD⟩⟩, hS.F ht⟩) hS.2.2 dX1_reads_56
set_option maxHeartbeats 4000000 in
set_option maxRecDepth 100000 in
theorem cm_writes (l : Launch) (dC : Nat → ClassId) (dI : Nat → Nat → Nat) (b : Nat → Nat) (h : Nat → ClassId) (sz : Nat) (uR uW uA uM uX uF uI uS : Nat → Int32) (ut us ur ub uo ui ul uk uh : Int32) (p1 p2 : Int32) (hs : 0 ≤ p1.toInt ∧ p1.toInt < 48) (ht9 : 0 ≤ p2.toInt ∧ p2.toInt < 41) : Met l yX1_writes wsX1_writes ({ frames := 0, cells := 0, slots := 0, locals := 0 } : Room) (va_Pc [.ref (b 0), .int p1, .int p2] (pr (dC, dI) (ws_sm b h uR uW uA uM uX uF uI uS ut us ur ub uo ui ul uk uh) (ty_sm h) sz)) (va_Qv (fun (u : (Nat → Int32) × (Nat → Int32)) => sm_writes uR uW p1 p2 = u) (fun (u : (Nat → Int32) × (Nat → Int32)) t => match u with | (uR', uW') => po (dC, dI) (ws_sm b h uR' uW' uA uM uX uF uI uS ut us ur ub uo ui ul uk uh) (ty_sm h) (va_A (ws_sm b h uR uW uA uM uX uF uI uS ut us ur ub uo ui ul uk uh) sz) t) (va_A (ws_sm b h uR uW uA uM uX uF uI uS ut us ur ub uo ui ul uk uh) sz)) 0 0 (va_A (ws_sm b h uR uW uA uM uX uF uI uS ut us ur ub uo ui ul uk uh) sz) := by
  refine Met.ofW (cc := cX1_writes) (maxL := 3) (ret := none) (by decide) rfl ?_
  intro p e s m args below meth c s₁ B hml hv
  obtain ⟨rfl, hsz, hP, hK, hD0⟩ := hv
  have hx := B.exec
  have hb := B.bytes
  have hr := B.returns
  have hts := atoms_spec (ws := wsX1_writes) B.pre
  have hg : ∀ w ∈ gw, w.before _ s = true := fun w h => hts w (List.mem_cons_of_mem _ h)
  have hown : s.vm.findClass RX1 = some m.cls := findClass_of_methodNamed B.named
  have hlocks := B.notSynchronized
  subst hsz
  have hD := hD0.self (sz := s.heap.size)
  generalize hAe : va_A (ws_sm b h uR uW uA uM uX uF uI uS ut us ur ub uo ui ul uk uh) s.heap.size = A at hD ⊢
  have hA : ∀ q : Nat, s.heap.size ≤ q → A q := fun q h => by rw [← hAe]; exact Or.inr h
  clear hAe
  refine w_in (fun H locs eH eL => ?_)
  have hS : va_S A s.heap H locs := by rw [eH, eL]; exact va_S.rf
  have hP : va_P (dC, dI) vwCl (ws_sm b h uR uW uA uM uX uF uI uS ut us ur ub uo ui ul uk uh) H := by rw [eH]; exact hP
  clear eH eL
  have hl := lv_entry ([.ref (b 0), .int p1, .int p2]) (n := 3) (Nat.le_of_ble_eq_true rfl)
  rw [lg_entry_eq]
  generalize (lg_sl ([.ref (b 0), .int p1, .int p2]) ++ List.replicate (3 - (lg_sl ([.ref (b 0), .int p1, .int p2])).length) Slot.unset).toArray = ls at hl ⊢
  have hl : lv_has ls 3 [(0, .ref (b 0)), (1, .int p1), (2, .int p2)] := hl
  refine lv_aload_n hx hb dX1_writes_0 rfl (lv_at hl 0 rfl) ?_
  refine va_get (D := (dC, dI)) (ci := 1) (v := .ref (b 2)) (C := RX1) (T := TX1) (N := 17) hx hb hg inX1 hown hK hP 0 rfl rfl 6 (by decide) (hg _ w_352) (fun _ h9 => h9) rfl dX1_writes_1 ?_
  refine lv_bipush (v := 41) hx hb dX1_writes_4 (by decide) ?_
  refine lv_iload_n hx hb dX1_writes_6 rfl (lv_at hl 1 rfl) ?_
  refine lv_imul hx hb dX1_writes_7 ?_
  refine lv_iload_n hx hb dX1_writes_8 rfl (lv_at hl 2 rfl) ?_
  refine lv_iadd hx hb dX1_writes_9 ?_
  refine lv_iconst (v := 1) hx hb dX1_writes_10 (by decide) ?_
  refine va_zast hx hb hK hP hD hS 2 1 rfl rfl (th_in hs ht9) dX1_writes_11 (fun H locs hP hD hS => ?_)
  have hP : va_P (dC, dI) vwCl (ws_sm b h uR (upd uW ((41 * p1) + p2).toNatClampNeg 1) uA uM uX uF uI uS ut us ur ub uo ui ul uk uh) H := hP
  have hD : va_D A (ws_sm b h uR (upd uW ((41 * p1) + p2).toNatClampNeg 1) uA uM uX uF uI uS ut us ur ub uo ui ul uk uh) := hD
  refine lv_iload_n hx hb dX1_writes_12 rfl (lv_at hl 2 rfl) ?_
  refine lv_bipush (v := 15) hx hb dX1_writes_13 (by decide) ?_
  refine lv_icmp_le (tgt := 39) hx hb dX1_writes_15 (by decide) (fun c_15 => ?_) (fun c_15 => ?_)
  · have hw : sm_writes uR uW p1 p2 = (uR, upd uW ((41 * p1) + p2).toNatClampNeg 1) := by unfold sm_writes; rw [if_pos c_15]; (try rfl)
    exact W.vret hx hb hr (fun t ht hW => ⟨⟨(uR, upd uW ((41 * p1) + p2).toNatClampNeg 1), rfl, hw, ⟨by rw [ht]; exact hP, va_K.moved hW.alike hK, hD⟩⟩, hS.F ht⟩) hS.2.2 dX1_writes_39
  · refine lv_iload_n hx hb dX1_writes_18 rfl (lv_at hl 2 rfl) ?_
    refine lv_bipush (v := 28) hx hb dX1_writes_19 (by decide) ?_
    refine lv_icmp_ge (tgt := 39) hx hb dX1_writes_21 (by decide) (fun c_21 => ?_) (fun c_21 => ?_)
    · have hw : sm_writes uR uW p1 p2 = (uR, upd uW ((41 * p1) + p2).toNatClampNeg 1) := by unfold sm_writes; rw [if_neg c_15, if_pos c_21]; (try rfl)
      exact W.vret hx hb hr (fun t ht hW => ⟨⟨(uR, upd uW ((41 * p1) + p2).toNatClampNeg 1), rfl, hw, ⟨by rw [ht]; exact hP, va_K.moved hW.alike hK, hD⟩⟩, hS.F ht⟩) hS.2.2 dX1_writes_39
    · refine lv_aload_n hx hb dX1_writes_24 rfl (lv_at hl 0 rfl) ?_
      refine va_get (D := (dC, dI)) (ci := 1) (v := .ref (b 1)) (C := RX1) (T := TX1) (N := 17) hx hb hg inX1 hown hK hP 0 rfl rfl 5 (by decide) (hg _ w_351) (fun _ h9 => h9) rfl dX1_writes_25 ?_
      refine lv_bipush (v := 41) hx hb dX1_writes_28 (by decide) ?_
      refine lv_iload_n hx hb dX1_writes_30 rfl (lv_at hl 1 rfl) ?_
      refine lv_imul hx hb dX1_writes_31 ?_
      refine lv_iload_n hx hb dX1_writes_32 rfl (lv_at hl 2 rfl) ?_
      refine lv_iadd hx hb dX1_writes_33 ?_
      refine lv_bipush (v := 12) hx hb dX1_writes_34 (by decide) ?_
      refine lv_iadd hx hb dX1_writes_36 ?_
      refine lv_iconst (v := 1) hx hb dX1_writes_37 (by decide) ?_
      refine va_zast hx hb hK hP hD hS 1 0 rfl rfl (th_in12 hs (rg28 ht9 c_21)) dX1_writes_38 (fun H locs hP hD hS => ?_)
      have hP : va_P (dC, dI) vwCl (ws_sm b h (upd uR (((41 * p1) + p2) + 12).toNatClampNeg 1) (upd uW ((41 * p1) + p2).toNatClampNeg 1) uA uM uX uF uI uS ut us ur ub uo ui ul uk uh) H := hP
      have hD : va_D A (ws_sm b h (upd uR (((41 * p1) + p2) + 12).toNatClampNeg 1) (upd uW ((41 * p1) + p2).toNatClampNeg 1) uA uM uX uF uI uS ut us ur ub uo ui ul uk uh) := hD
      have hw : sm_writes uR uW p1 p2 = (upd uR (((41 * p1) + p2) + 12).toNatClampNeg 1, upd uW ((41 * p1) + p2).toNatClampNeg 1) := by unfold sm_writes; rw [if_neg c_15, if_neg c_21]; (try rfl)
      exact W.vret hx hb hr (fun t ht hW => ⟨⟨(upd uR (((41 * p1) + p2) + 12).toNatClampNeg 1, upd uW ((41 * p1) + p2).toNatClampNeg 1), rfl, hw, ⟨by rw [ht]; exact hP, va_K.moved hW.alike hK, hD⟩⟩, hS.F ht⟩) hS.2.2 dX1_writes_39
set_option maxHeartbeats 4000000 in
set_option maxRecDepth 100000 in
theorem cm_thrown (l : Launch) (dC : Nat → ClassId) (dI : Nat → Nat → Nat) (b : Nat → Nat) (h : Nat → ClassId) (sz : Nat) (uR uW uA uM uX uF uI uS : Nat → Int32) (ut us ur ub uo ui ul uk uh : Int32)  : Met l yX1_thrown wsX1_thrown ({ frames := 0, cells := 0, slots := 0, locals := 0 } : Room) (va_Pc [.ref (b 0)] (pr (dC, dI) (ws_sm b h uR uW uA uM uX uF uI uS ut us ur ub uo ui ul uk uh) (ty_sm h) sz)) (va_Qi (fun (r : Int32) (_ : Unit) => r = sm_thrown ut) (fun (_ : Unit) t => po (dC, dI) (ws_sm b h uR uW uA uM uX uF uI uS ut us ur ub uo ui ul uk uh) (ty_sm h) (va_A (ws_sm b h uR uW uA uM uX uF uI uS ut us ur ub uo ui ul uk uh) sz) t) (va_A (ws_sm b h uR uW uA uM uX uF uI uS ut us ur ub uo ui ul uk uh) sz)) 0 0 (va_A (ws_sm b h uR uW uA uM uX uF uI uS ut us ur ub uo ui ul uk uh) sz) := by
  refine Met.ofW (cc := cX1_thrown) (maxL := 1) (ret := (some .int)) (by decide) rfl ?_
  intro p e s m args below meth c s₁ B hml hv
  obtain ⟨rfl, hsz, hP, hK, hD0⟩ := hv
  have hx := B.exec
  have hb := B.bytes
  have hr := B.returns
  have hts := atoms_spec (ws := wsX1_thrown) B.pre
  have hg : ∀ w ∈ gw, w.before _ s = true := fun w h => hts w (List.mem_cons_of_mem _ h)
  have hown : s.vm.findClass RX1 = some m.cls := findClass_of_methodNamed B.named
  have hlocks := B.notSynchronized
  subst hsz
  have hD := hD0.self (sz := s.heap.size)
  generalize hAe : va_A (ws_sm b h uR uW uA uM uX uF uI uS ut us ur ub uo ui ul uk uh) s.heap.size = A at hD ⊢
  have hA : ∀ q : Nat, s.heap.size ≤ q → A q := fun q h => by rw [← hAe]; exact Or.inr h
  clear hAe
  refine w_in (fun H locs eH eL => ?_)
  have hS : va_S A s.heap H locs := by rw [eH, eL]; exact va_S.rf
  have hP : va_P (dC, dI) vwCl (ws_sm b h uR uW uA uM uX uF uI uS ut us ur ub uo ui ul uk uh) H := by rw [eH]; exact hP
  clear eH eL
  have hl := lv_entry ([.ref (b 0)]) (n := 1) (Nat.le_of_ble_eq_true rfl)
  rw [lg_entry_eq]
  generalize (lg_sl ([.ref (b 0)]) ++ List.replicate (1 - (lg_sl ([.ref (b 0)])).length) Slot.unset).toArray = ls at hl ⊢
  have hl : lv_has ls 1 [(0, .ref (b 0))] := hl
  refine lv_aload_n hx hb dX1_thrown_0 rfl (lv_at hl 0 rfl) ?_
  refine va_get (D := (dC, dI)) (ci := 1) (v := .int ut) (C := RX1) (T := TX1) (N := 17) hx hb hg inX1 hown hK hP 0 rfl rfl 0 (by decide) (hg _ w_346) (fun _ h9 => h9) rfl dX1_thrown_1 ?_
  have hw : ut = sm_thrown ut := rfl
  exact W.iret (v := ut) hx hb hr (fun t ht hW => ⟨⟨ut, (), rfl, hw, ⟨by rw [ht]; exact hP, va_K.moved hW.alike hK, hD⟩⟩, hS.F ht⟩) hS.2.2 dX1_thrown_4
set_option maxHeartbeats 4000000 in
set_option maxRecDepth 100000 in
theorem cm_clear (l : Launch) (dC : Nat → ClassId) (dI : Nat → Nat → Nat) (b : Nat → Nat) (h : Nat → ClassId) (sz : Nat) (uR uW uA uM uX uF uI uS : Nat → Int32) (ut us ur ub uo ui ul uk uh : Int32)  : Met l yX1_clear wsX1_clear ({ frames := 0, cells := 0, slots := 0, locals := 0 } : Room) (va_Pc [.ref (b 0)] (pr (dC, dI) (ws_sm b h uR uW uA uM uX uF uI uS ut us ur ub uo ui ul uk uh) (ty_sm h) sz)) (va_Qv (fun (u : Int32 × Int32 × Int32 × Int32 × Int32 × Int32 × Int32 × Int32) => sm_clear = u) (fun (u : Int32 × Int32 × Int32 × Int32 × Int32 × Int32 × Int32 × Int32) t => match u with | (ut', us', ur', ub', uo', ui', ul', uh') => po (dC, dI) (ws_sm b h uR uW uA uM uX uF uI uS ut' us' ur' ub' uo' ui' ul' uk uh') (ty_sm h) (va_A (ws_sm b h uR uW uA uM uX uF uI uS ut us ur ub uo ui ul uk uh) sz) t) (va_A (ws_sm b h uR uW uA uM uX uF uI uS ut us ur ub uo ui ul uk uh) sz)) 0 0 (va_A (ws_sm b h uR uW uA uM uX uF uI uS ut us ur ub uo ui ul uk uh) sz) := by
  refine Met.ofW (cc := cX1_clear) (maxL := 1) (ret := none) (by decide) rfl ?_
  intro p e s m args below meth c s₁ B hml hv
  obtain ⟨rfl, hsz, hP, hK, hD0⟩ := hv
  have hx := B.exec
  have hb := B.bytes
  have hr := B.returns
  have hts := atoms_spec (ws := wsX1_clear) B.pre
  have hg : ∀ w ∈ gw, w.before _ s = true := fun w h => hts w (List.mem_cons_of_mem _ h)
  have hown : s.vm.findClass RX1 = some m.cls := findClass_of_methodNamed B.named
  have hlocks := B.notSynchronized
  subst hsz
  have hD := hD0.self (sz := s.heap.size)
  generalize hAe : va_A (ws_sm b h uR uW uA uM uX uF uI uS ut us ur ub uo ui ul uk uh) s.heap.size = A at hD ⊢
  have hA : ∀ q : Nat, s.heap.size ≤ q → A q := fun q h => by rw [← hAe]; exact Or.inr h
  clear hAe
  refine w_in (fun H locs eH eL => ?_)
  have hS : va_S A s.heap H locs := by rw [eH, eL]; exact va_S.rf
  have hP : va_P (dC, dI) vwCl (ws_sm b h uR uW uA uM uX uF uI uS ut us ur ub uo ui ul uk uh) H := by rw [eH]; exact hP
  clear eH eL
  have hl := lv_entry ([.ref (b 0)]) (n := 1) (Nat.le_of_ble_eq_true rfl)
  rw [lg_entry_eq]
  generalize (lg_sl ([.ref (b 0)]) ++ List.replicate (1 - (lg_sl ([.ref (b 0)])).length) Slot.unset).toArray = ls at hl ⊢
  have hl : lv_has ls 1 [(0, .ref (b 0))] := hl
  refine lv_aload_n hx hb dX1_clear_0 rfl (lv_at hl 0 rfl) ?_
  refine lv_iconst (v := 0) hx hb dX1_clear_1 (by decide) ?_
  refine va_put (D := (dC, dI)) (ci := 1) (v := .int 0) (ty := .int) (C := RX1) (T := TX1) (N := 17) hx hb hg inX1 tyX1 tyX1_ok nmX1 hown hK hP hD hS 0 rfl rfl 0 (by decide) (hg _ w_346) (fun _ h9 => h9) rfl (by decide +kernel) rfl rfl (Nat.le_of_ble_eq_true rfl) dX1_clear_2 (fun H locs hP hD hS => ?_)
  have hP : va_P (dC, dI) vwCl (ws_sm b h uR uW uA uM uX uF uI uS 0 us ur ub uo ui ul uk uh) H := hP
  have hD : va_D A (ws_sm b h uR uW uA uM uX uF uI uS 0 us ur ub uo ui ul uk uh) := hD
  refine lv_aload_n hx hb dX1_clear_5 rfl (lv_at hl 0 rfl) ?_
  refine lv_iconst (v := 0) hx hb dX1_clear_6 (by decide) ?_
  refine va_put (D := (dC, dI)) (ci := 1) (v := .int 0) (ty := .int) (C := RX1) (T := TX1) (N := 17) hx hb hg inX1 tyX1 tyX1_ok nmX1 hown hK hP hD hS 0 rfl rfl 1 (by decide) (hg _ w_347) (fun _ h9 => h9) rfl (by decide +kernel) rfl rfl (Nat.le_of_ble_eq_true rfl) dX1_clear_7 (fun H locs hP hD hS => ?_)
  have hP : va_P (dC, dI) vwCl (ws_sm b h uR uW uA uM uX uF uI uS 0 0 ur ub uo ui ul uk uh) H := hP
  have hD : va_D A (ws_sm b h uR uW uA uM uX uF uI uS 0 0 ur ub uo ui ul uk uh) := hD
  refine lv_aload_n hx hb dX1_clear_10 rfl (lv_at hl 0 rfl) ?_
  refine lv_iconst (v := 0) hx hb dX1_clear_11 (by decide) ?_
  refine va_put (D := (dC, dI)) (ci := 1) (v := .int 0) (ty := .int) (C := RX1) (T := TX1) (N := 17) hx hb hg inX1 tyX1 tyX1_ok nmX1 hown hK hP hD hS 0 rfl rfl 2 (by decide) (hg _ w_348) (fun _ h9 => h9) rfl (by decide +kernel) rfl rfl (Nat.le_of_ble_eq_true rfl) dX1_clear_12 (fun H locs hP hD hS => ?_)
  have hP : va_P (dC, dI) vwCl (ws_sm b h uR uW uA uM uX uF uI uS 0 0 0 ub uo ui ul uk uh) H := hP
  have hD : va_D A (ws_sm b h uR uW uA uM uX uF uI uS 0 0 0 ub uo ui ul uk uh) := hD
  refine lv_aload_n hx hb dX1_clear_15 rfl (lv_at hl 0 rfl) ?_
  refine lv_iconst (v := 0) hx hb dX1_clear_16 (by decide) ?_
  refine va_put (D := (dC, dI)) (ci := 1) (v := .int 0) (ty := .int) (C := RX1) (T := TX1) (N := 17) hx hb hg inX1 tyX1 tyX1_ok nmX1 hown hK hP hD hS 0 rfl rfl 3 (by decide) (hg _ w_349) (fun _ h9 => h9) rfl (by decide +kernel) rfl rfl (Nat.le_of_ble_eq_true rfl) dX1_clear_17 (fun H locs hP hD hS => ?_)
  have hP : va_P (dC, dI) vwCl (ws_sm b h uR uW uA uM uX uF uI uS 0 0 0 0 uo ui ul uk uh) H := hP
  have hD : va_D A (ws_sm b h uR uW uA uM uX uF uI uS 0 0 0 0 uo ui ul uk uh) := hD
  refine lv_aload_n hx hb dX1_clear_20 rfl (lv_at hl 0 rfl) ?_
  refine lv_iconst (v := 0) hx hb dX1_clear_21 (by decide) ?_
  refine va_put (D := (dC, dI)) (ci := 1) (v := .int 0) (ty := .int) (C := RX1) (T := TX1) (N := 17) hx hb hg inX1 tyX1 tyX1_ok nmX1 hown hK hP hD hS 0 rfl rfl 4 (by decide) (hg _ w_350) (fun _ h9 => h9) rfl (by decide +kernel) rfl rfl (Nat.le_of_ble_eq_true rfl) dX1_clear_22 (fun H locs hP hD hS => ?_)
  have hP : va_P (dC, dI) vwCl (ws_sm b h uR uW uA uM uX uF uI uS 0 0 0 0 0 ui ul uk uh) H := hP
  have hD : va_D A (ws_sm b h uR uW uA uM uX uF uI uS 0 0 0 0 0 ui ul uk uh) := hD
  refine lv_aload_n hx hb dX1_clear_25 rfl (lv_at hl 0 rfl) ?_
  refine lv_iconst (v := (-1)) hx hb dX1_clear_26 (by decide) ?_
  refine va_put (D := (dC, dI)) (ci := 1) (v := .int (-1)) (ty := .int) (C := RX1) (T := TX1) (N := 17) hx hb hg inX1 tyX1 tyX1_ok nmX1 hown hK hP hD hS 0 rfl rfl 12 (by decide) (hg _ w_358) (fun _ h9 => h9) rfl (by decide +kernel) rfl rfl (Nat.le_of_ble_eq_true rfl) dX1_clear_27 (fun H locs hP hD hS => ?_)
  have hP : va_P (dC, dI) vwCl (ws_sm b h uR uW uA uM uX uF uI uS 0 0 0 0 0 (-1) ul uk uh) H := hP
  have hD : va_D A (ws_sm b h uR uW uA uM uX uF uI uS 0 0 0 0 0 (-1) ul uk uh) := hD
  refine lv_aload_n hx hb dX1_clear_30 rfl (lv_at hl 0 rfl) ?_
  refine lv_iconst (v := 0) hx hb dX1_clear_31 (by decide) ?_
  refine va_put (D := (dC, dI)) (ci := 1) (v := .int 0) (ty := .boolean) (C := RX1) (T := TX1) (N := 17) hx hb hg inX1 tyX1 tyX1_ok nmX1 hown hK hP hD hS 0 rfl rfl 14 (by decide) (hg _ w_360) (fun _ h9 => h9) rfl (by decide +kernel) rfl rfl (Nat.le_of_ble_eq_true rfl) dX1_clear_32 (fun H locs hP hD hS => ?_)
  have hP : va_P (dC, dI) vwCl (ws_sm b h uR uW uA uM uX uF uI uS 0 0 0 0 0 (-1) 0 uk uh) H := hP
  have hD : va_D A (ws_sm b h uR uW uA uM uX uF uI uS 0 0 0 0 0 (-1) 0 uk uh) := hD
  refine lv_aload_n hx hb dX1_clear_35 rfl (lv_at hl 0 rfl) ?_
  refine lv_iconst (v := (-1)) hx hb dX1_clear_36 (by decide) ?_
  refine va_put (D := (dC, dI)) (ci := 1) (v := .int (-1)) (ty := .int) (C := RX1) (T := TX1) (N := 17) hx hb hg inX1 tyX1 tyX1_ok nmX1 hown hK hP hD hS 0 rfl rfl 16 (by decide) (hg _ w_362) (fun _ h9 => h9) rfl (by decide +kernel) rfl rfl (Nat.le_of_ble_eq_true rfl) dX1_clear_37 (fun H locs hP hD hS => ?_)
  have hP : va_P (dC, dI) vwCl (ws_sm b h uR uW uA uM uX uF uI uS 0 0 0 0 0 (-1) 0 uk (-1)) H := hP
  have hD : va_D A (ws_sm b h uR uW uA uM uX uF uI uS 0 0 0 0 0 (-1) 0 uk (-1)) := hD
  have hw : sm_clear = (0, 0, 0, 0, 0, (-1), 0, (-1)) := rfl
  exact W.vret hx hb hr (fun t ht hW => ⟨⟨(0, 0, 0, 0, 0, (-1), 0, (-1)), rfl, hw, ⟨by rw [ht]; exact hP, va_K.moved hW.alike hK, hD⟩⟩, hS.F ht⟩) hS.2.2 dX1_clear_40
