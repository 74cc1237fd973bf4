set_option maxHeartbeats 4000000 in
set_option maxRecDepth 100000 in
theorem ci_count (l : Launch) (dC : Nat → ClassId) (dI : Nat → Nat → Nat)   (p1 : Int32) : Met l yJ6_bitCount wsJ6_bitCount ({ frames := 0, cells := 0, slots := 0, locals := 0 } : Room) (va_Pc [.int p1] (fun _ => True)) (va_Qi (fun (r : Int32) (_ : Unit) => r = ib_count p1) (fun (_ : Unit) t => True) ((fun _ => False))) 0 0 ((fun _ => False)) := by
  refine Met.ofW (cc := cJ6_bitCount) (maxL := 1) (ret := (some .int)) (by decide) rfl ?_
  intro p e s m args below meth c s₁ B hml hv
  obtain ⟨rfl, -⟩ := hv
  have hx := B.exec
  have hb := B.bytes
  have hr := B.returns
  have hts := atoms_spec (ws := wsJ6_bitCount) B.pre
  have hg : ∀ w ∈ gw, w.before _ s = true := fun w h => hts w (List.mem_cons_of_mem _ h)
  have hown : s.vm.findClass RJ6 = some m.cls := findClass_of_methodNamed B.named
  have hlocks := B.notSynchronized
  refine w_in (fun H locs eH eL => ?_)
  have hS : va_S (fun _ => False) s.heap H locs := by rw [eH, eL]; exact va_S.rf
  have hP : va_P (dC, dI) vwCl [] H := fun k q h => by simp at h
  clear eH eL
  have hl := lv_entry ([.int p1]) (n := 1) (Nat.le_of_ble_eq_true rfl)
  rw [lg_entry_eq]
  generalize (lg_sl ([.int p1]) ++ List.replicate (1 - (lg_sl ([.int p1])).length) Slot.unset).toArray = ls at hl ⊢
  have hl : lv_has ls 1 [(0, .int p1)] := hl
  refine lv_iload_n hx hb dJ6_bitCount_0 rfl (lv_at hl 0 rfl) ?_
  refine lv_iload_n hx hb dJ6_bitCount_1 rfl (lv_at hl 0 rfl) ?_
  refine lv_iconst (v := 1) hx hb dJ6_bitCount_2 (by decide) ?_
  refine lv_iushr (v := iu p1 1) hx hb dJ6_bitCount_3 rfl ?_
  refine lv_ldcw (v := 1431655765) hx hb hown (hg _ w_196) dJ6_bitCount_4 ?_
  refine lv_iand hx hb dJ6_bitCount_7 ?_
  refine lv_isub hx hb dJ6_bitCount_8 ?_
  refine lv_istore_n (lv' := [(0, .int (p1 - ((iu p1 1) &&& 1431655765)))]) hx hb dJ6_bitCount_9 rfl hl (by decide) rfl (fun ls hl => ?_)
  refine lv_iload_n hx hb dJ6_bitCount_10 rfl (lv_at hl 0 rfl) ?_
  refine lv_ldcw (v := 858993459) hx hb hown (hg _ w_197) dJ6_bitCount_11 ?_
  refine lv_iand hx hb dJ6_bitCount_14 ?_
  refine lv_iload_n hx hb dJ6_bitCount_15 rfl (lv_at hl 0 rfl) ?_
  refine lv_iconst (v := 2) hx hb dJ6_bitCount_16 (by decide) ?_
  refine lv_iushr (v := iu (p1 - ((iu p1 1) &&& 1431655765)) 2) hx hb dJ6_bitCount_17 rfl ?_
  refine lv_ldcw (v := 858993459) hx hb hown (hg _ w_197) dJ6_bitCount_18 ?_
  refine lv_iand hx hb dJ6_bitCount_21 ?_
  refine lv_iadd hx hb dJ6_bitCount_22 ?_
  refine lv_istore_n (lv' := [(0, .int (((p1 - ((iu p1 1) &&& 1431655765)) &&& 858993459) + ((iu (p1 - ((iu p1 1) &&& 1431655765)) 2) &&& 858993459)))]) hx hb dJ6_bitCount_23 rfl hl (by decide) rfl (fun ls hl => ?_)
  refine lv_iload_n hx hb dJ6_bitCount_24 rfl (lv_at hl 0 rfl) ?_
  refine lv_iload_n hx hb dJ6_bitCount_25 rfl (lv_at hl 0 rfl) ?_
  refine lv_iconst (v := 4) hx hb dJ6_bitCount_26 (by decide) ?_
  refine lv_iushr (v := iu (((p1 - ((iu p1 1) &&& 1431655765)) &&& 858993459) + ((iu (p1 - ((iu p1 1) &&& 1431655765)) 2) &&& 858993459)) 4) hx hb dJ6_bitCount_27 rfl ?_
  refine lv_iadd hx hb dJ6_bitCount_28 ?_
  refine lv_ldcw (v := 252645135) hx hb hown (hg _ w_198) dJ6_bitCount_29 ?_
  refine lv_iand hx hb dJ6_bitCount_32 ?_
  refine lv_istore_n (lv' := [(0, .int (((((p1 - ((iu p1 1) &&& 1431655765)) &&& 858993459) + ((iu (p1 - ((iu p1 1) &&& 1431655765)) 2) &&& 858993459)) + (iu (((p1 - ((iu p1 1) &&& 1431655765)) &&& 858993459) + ((iu (p1 - ((iu p1 1) &&& 1431655765)) 2) &&& 858993459)) 4)) &&& 252645135))]) hx hb dJ6_bitCount_33 rfl hl (by decide) rfl (fun ls hl => ?_)
  refine lv_iload_n hx hb dJ6_bitCount_34 rfl (lv_at hl 0 rfl) ?_
  refine lv_iload_n hx hb dJ6_bitCount_35 rfl (lv_at hl 0 rfl) ?_
  refine lv_bipush (v := 8) hx hb dJ6_bitCount_36 (by decide) ?_
  refine lv_iushr (v := iu (((((p1 - ((iu p1 1) &&& 1431655765)) &&& 858993459) + ((iu (p1 - ((iu p1 1) &&& 1431655765)) 2) &&& 858993459)) + (iu (((p1 - ((iu p1 1) &&& 1431655765)) &&& 858993459) + ((iu (p1 - ((iu p1 1) &&& 1431655765)) 2) &&& 858993459)) 4)) &&& 252645135) 8) hx hb dJ6_bitCount_38 rfl ?_
  refine lv_iadd hx hb dJ6_bitCount_39 ?_
  refine lv_istore_n (lv' := [(0, .int ((((((p1 - ((iu p1 1) &&& 1431655765)) &&& 858993459) + ((iu (p1 - ((iu p1 1) &&& 1431655765)) 2) &&& 858993459)) + (iu (((p1 - ((iu p1 1) &&& 1431655765)) &&& 858993459) + ((iu (p1 - ((iu p1 1) &&& 1431655765)) 2) &&& 858993459)) 4)) &&& 252645135) + (iu (((((p1 - ((iu p1 1) &&& 1431655765)) &&& 858993459) + ((iu (p1 - ((iu p1 1) &&& 1431655765)) 2) &&& 858993459)) + (iu (((p1 - ((iu p1 1) &&& 1431655765)) &&& 858993459) + ((iu (p1 - ((iu p1 1) &&& 1431655765)) 2) &&& 858993459)) 4)) &&& 252645135) 8)))]) hx hb dJ6_bitCount_40 rfl hl (by decide) rfl (fun ls hl => ?_)
  refine lv_iload_n hx hb dJ6_bitCount_41 rfl (lv_at hl 0 rfl) ?_
  refine lv_iload_n hx hb dJ6_bitCount_42 rfl (lv_at hl 0 rfl) ?_
  refine lv_bipush (v := 16) hx hb dJ6_bitCount_43 (by decide) ?_
  refine lv_iushr (v := iu ((((((p1 - ((iu p1 1) &&& 1431655765)) &&& 858993459) + ((iu (p1 - ((iu p1 1) &&& 1431655765)) 2) &&& 858993459)) + (iu (((p1 - ((iu p1 1) &&& 1431655765)) &&& 858993459) + ((iu (p1 - ((iu p1 1) &&& 1431655765)) 2) &&& 858993459)) 4)) &&& 252645135) + (iu (((((p1 - ((iu p1 1) &&& 1431655765)) &&& 858993459) + ((iu (p1 - ((iu p1 1) &&& 1431655765)) 2) &&& 858993459)) + (iu (((p1 - ((iu p1 1) &&& 1431655765)) &&& 858993459) + ((iu (p1 - ((iu p1 1) &&& 1431655765)) 2) &&& 858993459)) 4)) &&& 252645135) 8)) 16) hx hb dJ6_bitCount_45 rfl ?_
  refine lv_iadd hx hb dJ6_bitCount_46 ?_
  refine lv_istore_n (lv' := [(0, .int (((((((p1 - ((iu p1 1) &&& 1431655765)) &&& 858993459) + ((iu (p1 - ((iu p1 1) &&& 1431655765)) 2) &&& 858993459)) + (iu (((p1 - ((iu p1 1) &&& 1431655765)) &&& 858993459) + ((iu (p1 - ((iu p1 1) &&& 1431655765)) 2) &&& 858993459)) 4)) &&& 252645135) + (iu (((((p1 - ((iu p1 1) &&& 1431655765)) &&& 858993459) + ((iu (p1 - ((iu p1 1) &&& 1431655765)) 2) &&& 858993459)) + (iu (((p1 - ((iu p1 1) &&& 1431655765)) &&& 858993459) + ((iu (p1 - ((iu p1 1) &&& 1431655765)) 2) &&& 858993459)) 4)) &&& 252645135) 8)) + (iu ((((((p1 - ((iu p1 1) &&& 1431655765)) &&& 858993459) + ((iu (p1 - ((iu p1 1) &&& 1431655765)) 2) &&& 858993459)) + (iu (((p1 - ((iu p1 1) &&& 1431655765)) &&& 858993459) + ((iu (p1 - ((iu p1 1) &&& 1431655765)) 2) &&& 858993459)) 4)) &&& 252645135) + (iu (((((p1 - ((iu p1 1) &&& 1431655765)) &&& 858993459) + ((iu (p1 - ((iu p1 1) &&& 1431655765)) 2) &&& 858993459)) + (iu (((p1 - ((iu p1 1) &&& 1431655765)) &&& 858993459) + ((iu (p1 - ((iu p1 1) &&& 1431655765)) 2) &&& 858993459)) 4)) &&& 252645135) 8)) 16)))]) hx hb dJ6_bitCount_47 rfl hl (by decide) rfl (fun ls hl => ?_)
  refine lv_iload_n hx hb dJ6_bitCount_48 rfl (lv_at hl 0 rfl) ?_
  refine lv_bipush (v := 63) hx hb dJ6_bitCount_49 (by decide) ?_
  refine lv_iand hx hb dJ6_bitCount_51 ?_
  have hw : ((((((((p1 - ((iu p1 1) &&& 1431655765)) &&& 858993459) + ((iu (p1 - ((iu p1 1) &&& 1431655765)) 2) &&& 858993459)) + (iu (((p1 - ((iu p1 1) &&& 1431655765)) &&& 858993459) + ((iu (p1 - ((iu p1 1) &&& 1431655765)) 2) &&& 858993459)) 4)) &&& 252645135) + (iu (((((p1 - ((iu p1 1) &&& 1431655765)) &&& 858993459) + ((iu (p1 - ((iu p1 1) &&& 1431655765)) 2) &&& 858993459)) + (iu (((p1 - ((iu p1 1) &&& 1431655765)) &&& 858993459) + ((iu (p1 - ((iu p1 1) &&& 1431655765)) 2) &&& 858993459)) 4)) &&& 252645135) 8)) + (iu ((((((p1 - ((iu p1 1) &&& 1431655765)) &&& 858993459) + ((iu (p1 - ((iu p1 1) &&& 1431655765)) 2) &&& 858993459)) + (iu (((p1 - ((iu p1 1) &&& 1431655765)) &&& 858993459) + ((iu (p1 - ((iu p1 1) &&& 1431655765)) 2) &&& 858993459)) 4)) &&& 252645135) + (iu (((((p1 - ((iu p1 1) &&& 1431655765)) &&& 858993459) + ((iu (p1 - ((iu p1 1) &&& 1431655765)) 2) &&& 858993459)) + (iu (((p1 - ((iu p1 1) &&& 1431655765)) &&& 858993459) + ((iu (p1 - ((iu p1 1) &&& 1431655765)) 2) &&& 858993459)) 4)) &&& 252645135) 8)) 16)) &&& 63) = ib_count p1 := rfl
  exact W.iret (v := (((((((p1 - ((iu p1 1) &&& 1431655765)) &&& 858993459) + ((iu (p1 - ((iu p1 1) &&& 1431655765)) 2) &&& 858993459)) + (iu (((p1 - ((iu p1 1) &&& 1431655765)) &&& 858993459) + ((iu (p1 - ((iu p1 1) &&& 1431655765)) 2) &&& 858993459)) 4)) &&& 252645135) + (iu (((((p1 - ((iu p1 1) &&& 1431655765)) &&& 858993459) + ((iu (p1 - ((iu p1 1) &&& 1431655765)) 2) &&& 858993459)) + (iu (((p1 - ((iu p1 1) &&& 1431655765)) &&& 858993459) + ((iu (p1 - ((iu p1 1) &&& 1431655765)) 2) &&& 858993459)) 4)) &&& 252645135) 8)) + (iu ((((((p1 - ((iu p1 1) &&& 1431655765)) &&& 858993459) + ((iu (p1 - ((iu p1 1) &&& 1431655765)) 2) &&& 858993459)) + (iu (((p1 - ((iu p1 1) &&& 1431655765)) &&& 858993459) + ((iu (p1 - ((iu p1 1) &&& 1431655765)) 2) &&& 858993459)) 4)) &&& 252645135) + (iu (((((p1 - ((iu p1 1) &&& 1431655765)) &&& 858993459) + ((iu (p1 - ((iu p1 1) &&& 1431655765)) 2) &&& 858993459)) + (iu (((p1 - ((iu p1 1) &&& 1431655765)) &&& 858993459) + ((iu (p1 - ((iu p1 1) &&& 1431655765)) 2) &&& 858993459)) 4)) &&& 252645135) 8)) 16)) &&& 63) hx hb hr (fun t ht hW => ⟨⟨((((((((p1 - ((iu p1 1) &&& 1431655765)) &&& 858993459) + ((iu (p1 - ((iu p1 1) &&& 1431655765)) 2) &&& 858993459)) + (iu (((p1 - ((iu p1 1) &&& 1431655765)) &&& 858993459) + ((iu (p1 - ((iu p1 1) &&& 1431655765)) 2) &&& 858993459)) 4)) &&& 252645135) + (iu (((((p1 - ((iu p1 1) &&& 1431655765)) &&& 858993459) + ((iu (p1 - ((iu p1 1) &&& 1431655765)) 2) &&& 858993459)) + (iu (((p1 - ((iu p1 1) &&& 1431655765)) &&& 858993459) + ((iu (p1 - ((iu p1 1) &&& 1431655765)) 2) &&& 858993459)) 4)) &&& 252645135) 8)) + (iu ((((((p1 - ((iu p1 1) &&& 1431655765)) &&& 858993459) + ((iu (p1 - ((iu p1 1) &&& 1431655765)) 2) &&& 858993459)) + (iu (((p1 - ((iu p1 1) &&& 1431655765)) &&& 858993459) + ((iu (p1 - ((iu p1 1) &&& 1431655765)) 2) &&& 858993459)) 4)) &&& 252645135) + (iu (((((p1 - ((iu p1 1) &&& 1431655765)) &&& 858993459) + ((iu (p1 - ((iu p1 1) &&& 1431655765)) 2) &&& 858993459)) + (iu (((p1 - ((iu p1 1) &&& 1431655765)) &&& 858993459) + ((iu (p1 - ((iu p1 1) &&& 1431655765)) 2) &&& 858993459)) 4)) &&& 252645135) 8)) 16)) &&& 63), (), rfl, hw, trivial⟩, hS.F ht⟩) hS.2.2 dJ6_bitCount_52
set_option maxHeartbeats 4000000 in
set_option maxRecDepth 100000 in
theorem cs_init (l : Launch) (dC : Nat → ClassId) (dI : Nat → Nat → Nat) (h0 sz : Nat) : Met l yX0_init wsX0_init ({ frames := 1, cells := 11, slots := 380, locals := 12 } : Room) (va_Pc [.ref h0] (pr (dC, dI) [(h0, .inr (0, [.null, .null, .null, .null, .null, .null, .null, .null, .null, .null, .null, .int 0, .int 0, .int 0, .int 0, .int 0, .int 0]))] [] sz)) (va_Qv (fun (u : (Nat → Nat) × (Nat → ClassId)) => u.1 0 = h0) (fun (u : (Nat → Nat) × (Nat → ClassId)) t => po (dC, dI) (ws_sl u.1 u.2 (fun _ => 0) (fun _ => 0) (fun _ => 0) (fun _ => 0) (fun _ => 0) (fun _ => 0) (fun _ => 0) (fun _ => 0) (fun _ => 0) (fun _ => 0) (fun _ => 0) 0 0 0 0 0 (-1)) (ty_sl u.2) (va_A [(h0, .inr (0, [.null, .null, .null, .null, .null, .null, .null, .null, .null, .null, .null, .int 0, .int 0, .int 0, .int 0, .int 0, .int 0]))] sz) t) (va_A [(h0, .inr (0, [.null, .null, .null, .null, .null, .null, .null, .null, .null, .null, .null, .int 0, .int 0, .int 0, .int 0, .int 0, .int 0]))] sz)) 11 380 (va_A [(h0, .inr (0, [.null, .null, .null, .null, .null, .null, .null, .null, .null, .null, .null, .int 0, .int 0, .int 0, .int 0, .int 0, .int 0]))] sz) := by
  refine Met.ofW (cc := cX0_init) (maxL := 1) (ret := none) (by decide) rfl ?_
  intro p e s m args below meth c s₁ B hml hv
  obtain ⟨rfl, hsz, hP, hK, hD0⟩ := hv
  have hx := B.exec
  have hb := B.bytes
  have hr := B.returns
  have hts := atoms_spec (ws := wsX0_init) B.pre
  have hg : ∀ w ∈ gw, w.before _ s = true := fun w h => hts w (List.mem_cons_of_mem _ h)
  have hown : s.vm.findClass RX0 = some m.cls := findClass_of_methodNamed B.named
  have hlocks := B.notSynchronized
  have hin : meth.name = "<init>" := (name_of_methodNamed B.named B.method).1
  subst hsz
  have hD := hD0.self (sz := s.heap.size)
  generalize hAe : va_A [(h0, .inr (0, [.null, .null, .null, .null, .null, .null, .null, .null, .null, .null, .null, .int 0, .int 0, .int 0, .int 0, .int 0, .int 0]))] s.heap.size = A at hD ⊢
  have hA : ∀ q : Nat, s.heap.size ≤ q → A q := fun q h => by rw [← hAe]; exact Or.inr h
  clear hAe
  refine w_in (fun H locs eH eL => ?_)
  have hS : va_S A s.heap H locs := by rw [eH, eL]; exact va_S.rf
  have hP : va_P (dC, dI) vwCl [(h0, .inr (0, [.null, .null, .null, .null, .null, .null, .null, .null, .null, .null, .null, .int 0, .int 0, .int 0, .int 0, .int 0, .int 0]))] H := by rw [eH]; exact hP
  clear eH eL
  have hl := lv_entry ([.ref h0]) (n := 1) (Nat.le_of_ble_eq_true rfl)
  rw [lg_entry_eq]
  generalize (lg_sl ([.ref h0]) ++ List.replicate (1 - (lg_sl ([.ref h0])).length) Slot.unset).toArray = ls at hl ⊢
  have hl : lv_has ls 1 [(0, .ref h0)] := hl
  refine lv_aload_n hx hb dX0_init_0 rfl (lv_at hl 0 rfl) ?_
  refine W.objInit hx hb hown (hg _ w_16) (hg _ w_17) (hg _ w_18) rfl (by rw [hml]; exact hl.1) rfl dX0_init_1 (Nat.le_of_ble_eq_true rfl) (Nat.le_of_ble_eq_true rfl) ?_
  refine W.eq (g2 := F0 m 4 ls []) rfl ?_
  refine lv_aload_n hx hb dX0_init_4 rfl (lv_at hl 0 rfl) ?_
  refine lv_bipush (v := 48) hx hb dX0_init_5 (by decide) ?_
  refine va_newa (atype := .long) (N' := 48) (a0 := (48, .inr (.inl (fun _ => 0)))) (ty := .long) (n := 48) hx hb (hg _ w_71) rfl hK hP hD hS hA (fun _ => rfl) (by decide) (by decide) (by decide) (Nat.le_of_ble_eq_true rfl) (Nat.le_of_ble_eq_true rfl) dX0_init_7 (fun q1 c1 H hK hP hD hS => ?_)
  have hP : va_P (dC, dI) vwCl [(h0, .inr (0, [.null, .null, .null, .null, .null, .null, .null, .null, .null, .null, .null, .int 0, .int 0, .int 0, .int 0, .int 0, .int 0])), (q1, .inl (c1, (48, .inr (.inl (fun _ => 0)))))] H := hP
  have hD : va_D A [(h0, .inr (0, [.null, .null, .null, .null, .null, .null, .null, .null, .null, .null, .null, .int 0, .int 0, .int 0, .int 0, .int 0, .int 0])), (q1, .inl (c1, (48, .inr (.inl (fun _ => 0)))))] := hD
  have hK : va_K (dC, dI) vwCl [(c1, .long)] s := hK
  refine va_putF (D := (dC, dI)) (ci := 0) (v := .ref q1) (ty := .array .long) (C := RX0) (T := TX0) (N := 17) hx hb hg inX0 tyX0 tyX0_ok nmX0 hown hK hP hD hS 0 rfl rfl 0 (by decide) (hg _ w_19) (fun _ h9 => h9) rfl hin rfl (by decide +kernel) rfl rfl (Nat.le_of_ble_eq_true rfl) dX0_init_9 (fun H locs hP hD hS => ?_)
  have hP : va_P (dC, dI) vwCl [(h0, .inr (0, [.ref q1, .null, .null, .null, .null, .null, .null, .null, .null, .null, .null, .int 0, .int 0, .int 0, .int 0, .int 0, .int 0])), (q1, .inl (c1, (48, .inr (.inl (fun _ => 0)))))] H := hP
  have hD : va_D A [(h0, .inr (0, [.ref q1, .null, .null, .null, .null, .null, .null, .null, .null, .null, .null, .int 0, .int 0, .int 0, .int 0, .int 0, .int 0])), (q1, .inl (c1, (48, .inr (.inl (fun _ => 0)))))] := hD
  refine lv_aload_n hx hb dX0_init_12 rfl (lv_at hl 0 rfl) ?_
  refine lv_bipush (v := 48) hx hb dX0_init_13 (by decide) ?_
  refine va_newa (atype := .long) (N' := 48) (a0 := (48, .inr (.inl (fun _ => 0)))) (ty := .long) (n := 48) hx hb (hg _ w_71) rfl hK hP hD hS hA (fun _ => rfl) (by decide) (by decide) (by decide) (Nat.le_of_ble_eq_true rfl) (Nat.le_of_ble_eq_true rfl) dX0_init_15 (fun q2 c2 H hK hP hD hS => ?_)
  have hP : va_P (dC, dI) vwCl [(h0, .inr (0, [.ref q1, .null, .null, .null, .null, .null, .null, .null, .null, .null, .null, .int 0, .int 0, .int 0, .int 0, .int 0, .int 0])), (q1, .inl (c1, (48, .inr (.inl (fun _ => 0))))), (q2, .inl (c2, (48, .inr (.inl (fun _ => 0)))))] H := hP
  have hD : va_D A [(h0, .inr (0, [.ref q1, .null, .null, .null, .null, .null, .null, .null, .null, .null, .null, .int 0, .int 0, .int 0, .int 0, .int 0, .int 0])), (q1, .inl (c1, (48, .inr (.inl (fun _ => 0))))), (q2, .inl (c2, (48, .inr (.inl (fun _ => 0)))))] := hD
  have hK : va_K (dC, dI) vwCl [(c1, .long), (c2, .long)] s := hK
  refine va_putF (D := (dC, dI)) (ci := 0) (v := .ref q2) (ty := .array .long) (C := RX0) (T := TX0) (N := 17) hx hb hg inX0 tyX0 tyX0_ok nmX0 hown hK hP hD hS 0 rfl rfl 1 (by decide) (hg _ w_20) (fun _ h9 => h9) rfl hin rfl (by decide +kernel) rfl rfl (Nat.le_of_ble_eq_true rfl) dX0_init_17 (fun H locs hP hD hS => ?_)
  have hP : va_P (dC, dI) vwCl [(h0, .inr (0, [.ref q1, .ref q2, .null, .null, .null, .null, .null, .null, .null, .null, .null, .int 0, .int 0, .int 0, .int 0, .int 0, .int 0])), (q1, .inl (c1, (48, .inr (.inl (fun _ => 0))))), (q2, .inl (c2, (48, .inr (.inl (fun _ => 0)))))] H := hP
  have hD : va_D A [(h0, .inr (0, [.ref q1, .ref q2, .null, .null, .null, .null, .null, .null, .null, .null, .null, .int 0, .int 0, .int 0, .int 0, .int 0, .int 0])), (q1, .inl (c1, (48, .inr (.inl (fun _ => 0))))), (q2, .inl (c2, (48, .inr (.inl (fun _ => 0)))))] := hD
  refine lv_aload_n hx hb dX0_init_20 rfl (lv_at hl 0 rfl) ?_
  refine lv_bipush (v := 48) hx hb dX0_init_21 (by decide) ?_
  refine va_newa (atype := .int) (N' := 48) (a0 := (48, .inl (fun _ => 0))) (ty := .int) (n := 48) hx hb (hg _ w_72) rfl hK hP hD hS hA (fun _ => rfl) (by decide) (by decide) (by decide) (Nat.le_of_ble_eq_true rfl) (Nat.le_of_ble_eq_true rfl) dX0_init_23 (fun q3 c3 H hK hP hD hS => ?_)
  have hP : va_P (dC, dI) vwCl [(h0, .inr (0, [.ref q1, .ref q2, .null, .null, .null, .null, .null, .null, .null, .null, .null, .int 0, .int 0, .int 0, .int 0, .int 0, .int 0])), (q1, .inl (c1, (48, .inr (.inl (fun _ => 0))))), (q2, .inl (c2, (48, .inr (.inl (fun _ => 0))))), (q3, .inl (c3, (48, .inl (fun _ => 0))))] H := hP
  have hD : va_D A [(h0, .inr (0, [.ref q1, .ref q2, .null, .null, .null, .null, .null, .null, .null, .null, .null, .int 0, .int 0, .int 0, .int 0, .int 0, .int 0])), (q1, .inl (c1, (48, .inr (.inl (fun _ => 0))))), (q2, .inl (c2, (48, .inr (.inl (fun _ => 0))))), (q3, .inl (c3, (48, .inl (fun _ => 0))))] := hD
  have hK : va_K (dC, dI) vwCl [(c1, .long), (c2, .long), (c3, .int)] s := hK
  refine va_putF (D := (dC, dI)) (ci := 0) (v := .ref q3) (ty := .array .int) (C := RX0) (T := TX0) (N := 17) hx hb hg inX0 tyX0 tyX0_ok nmX0 hown hK hP hD hS 0 rfl rfl 2 (by decide) (hg _ w_21) (fun _ h9 => h9) rfl hin rfl (by decide +kernel) rfl rfl (Nat.le_of_ble_eq_true rfl) dX0_init_25 (fun H locs hP hD hS => ?_)
  have hP : va_P (dC, dI) vwCl [(h0, .inr (0, [.ref q1, .ref q2, .ref q3, .null, .null, .null, .null, .null, .null, .null, .null, .int 0, .int 0, .int 0, .int 0, .int 0, .int 0])), (q1, .inl (c1, (48, .inr (.inl (fun _ => 0))))), (q2, .inl (c2, (48, .inr (.inl (fun _ => 0))))), (q3, .inl (c3, (48, .inl (fun _ => 0))))] H := hP
  have hD : va_D A [(h0, .inr (0, [.ref q1, .ref q2, .ref q3, .null, .null, .null, .null, .null, .null, .null, .null, .int 0, .int 0, .int 0, .int 0, .int 0, .int 0])), (q1, .inl (c1, (48, .inr (.inl (fun _ => 0))))), (q2, .inl (c2, (48, .inr (.inl (fun _ => 0))))), (q3, .inl (c3, (48, .inl (fun _ => 0))))] := hD
  refine lv_aload_n hx hb dX0_init_28 rfl (lv_at hl 0 rfl) ?_
  refine lv_bipush (v := 48) hx hb dX0_init_29 (by decide) ?_
  refine va_newa (atype := .int) (N' := 48) (a0 := (48, .inl (fun _ => 0))) (ty := .int) (n := 48) hx hb (hg _ w_72) rfl hK hP hD hS hA (fun _ => rfl) (by decide) (by decide) (by decide) (Nat.le_of_ble_eq_true rfl) (Nat.le_of_ble_eq_true rfl) dX0_init_31 (fun q4 c4 H hK hP hD hS => ?_)
  have hP : va_P (dC, dI) vwCl [(h0, .inr (0, [.ref q1, .ref q2, .ref q3, .null, .null, .null, .null, .null, .null, .null, .null, .int 0, .int 0, .int 0, .int 0, .int 0, .int 0])), (q1, .inl (c1, (48, .inr (.inl (fun _ => 0))))), (q2, .inl (c2, (48, .inr (.inl (fun _ => 0))))), (q3, .inl (c3, (48, .inl (fun _ => 0)))), (q4, .inl (c4, (48, .inl (fun _ => 0))))] H := hP
  have hD : va_D A [(h0, .inr (0, [.ref q1, .ref q2, .ref q3, .null, .null, .null, .null, .null, .null, .null, .null, .int 0, .int 0, .int 0, .int 0, .int 0, .int 0])), (q1, .inl (c1, (48, .inr (.inl (fun _ => 0))))), (q2, .inl (c2, (48, .inr (.inl (fun _ => 0))))), (q3, .inl (c3, (48, .inl (fun _ => 0)))), (q4, .inl (c4, (48, .inl (fun _ => 0))))] := hD
  have hK : va_K (dC, dI) vwCl [(c1, .long), (c2, .long), (c3, .int), (c4, .int)] s := hK
  refine va_putF (D := (dC, dI)) (ci := 0) (v := .ref q4) (ty := .array .int) (C := RX0) (T := TX0) (N := 17) hx hb hg inX0 tyX0 tyX0_ok nmX0 hown hK hP hD hS 0 rfl rfl 3 (by decide) (hg _ w_22) (fun _ h9 => h9) rfl hin rfl (by decide +kernel) rfl rfl (Nat.le_of_ble_eq_true rfl) dX0_init_33 (fun H locs hP hD hS => ?_)
  have hP : va_P (dC, dI) vwCl [(h0, .inr (0, [.ref q1, .ref q2, .ref q3, .ref q4, .null, .null, .null, .null, .null, .null, .null, .int 0, .int 0, .int 0, .int 0, .int 0, .int 0])), (q1, .inl (c1, (48, .inr (.inl (fun _ => 0))))), (q2, .inl (c2, (48, .inr (.inl (fun _ => 0))))), (q3, .inl (c3, (48, .inl (fun _ => 0)))), (q4, .inl (c4, (48, .inl (fun _ => 0))))] H := hP
  have hD : va_D A [(h0, .inr (0, [.ref q1, .ref q2, .ref q3, .ref q4, .null, .null, .null, .null, .null, .null, .null, .int 0, .int 0, .int 0, .int 0, .int 0, .int 0])), (q1, .inl (c1, (48, .inr (.inl (fun _ => 0))))), (q2, .inl (c2, (48, .inr (.inl (fun _ => 0))))), (q3, .inl (c3, (48, .inl (fun _ => 0)))), (q4, .inl (c4, (48, .inl (fun _ => 0))))] := hD
  refine lv_aload_n hx hb dX0_init_36 rfl (lv_at hl 0 rfl) ?_
  refine lv_bipush (v := 48) hx hb dX0_init_37 (by decide) ?_
  refine va_newa (atype := .int) (N' := 48) (a0 := (48, .inl (fun _ => 0))) (ty := .int) (n := 48) hx hb (hg _ w_72) rfl hK hP hD hS hA (fun _ => rfl) (by decide) (by decide) (by decide) (Nat.le_of_ble_eq_true rfl) (Nat.le_of_ble_eq_true rfl) dX0_init_39 (fun q5 c5 H hK hP hD hS => ?_)
  have hP : va_P (dC, dI) vwCl [(h0, .inr (0, [.ref q1, .ref q2, .ref q3, .ref q4, .null, .null, .null, .null, .null, .null, .null, .int 0, .int 0, .int 0, .int 0, .int 0, .int 0])), (q1, .inl (c1, (48, .inr (.inl (fun _ => 0))))), (q2, .inl (c2, (48, .inr (.inl (fun _ => 0))))), (q3, .inl (c3, (48, .inl (fun _ => 0)))), (q4, .inl (c4, (48, .inl (fun _ => 0)))), (q5, .inl (c5, (48, .inl (fun _ => 0))))] H := hP
  have hD : va_D A [(h0, .inr (0, [.ref q1, .ref q2, .ref q3, .ref q4, .null, .null, .null, .null, .null, .null, .null, .int 0, .int 0, .int 0, .int 0, .int 0, .int 0])), (q1, .inl (c1, (48, .inr (.inl (fun _ => 0))))), (q2, .inl (c2, (48, .inr (.inl (fun _ => 0))))), (q3, .inl (c3, (48, .inl (fun _ => 0)))), (q4, .inl (c4, (48, .inl (fun _ => 0)))), (q5, .inl (c5, (48, .inl (fun _ => 0))))] := hD
  have hK : va_K (dC, dI) vwCl [(c1, .long), (c2, .long), (c3, .int), (c4, .int), (c5, .int)] s := hK
  refine va_putF (D := (dC, dI)) (ci := 0) (v := .ref q5) (ty := .array .int) (C := RX0) (T := TX0) (N := 17) hx hb hg inX0 tyX0 tyX0_ok nmX0 hown hK hP hD hS 0 rfl rfl 4 (by decide) (hg _ w_23) (fun _ h9 => h9) rfl hin rfl (by decide +kernel) rfl rfl (Nat.le_of_ble_eq_true rfl) dX0_init_41 (fun H locs hP hD hS => ?_)
  have hP : va_P (dC, dI) vwCl [(h0, .inr (0, [.ref q1, .ref q2, .ref q3, .ref q4, .ref q5, .null, .null, .null, .null, .null, .null, .int 0, .int 0, .int 0, .int 0, .int 0, .int 0])), (q1, .inl (c1, (48, .inr (.inl (fun _ => 0))))), (q2, .inl (c2, (48, .inr (.inl (fun _ => 0))))), (q3, .inl (c3, (48, .inl (fun _ => 0)))), (q4, .inl (c4, (48, .inl (fun _ => 0)))), (q5, .inl (c5, (48, .inl (fun _ => 0))))] H := hP
  have hD : va_D A [(h0, .inr (0, [.ref q1, .ref q2, .ref q3, .ref q4, .ref q5, .null, .null, .null, .null, .null, .null, .int 0, .int 0, .int 0, .int 0, .int 0, .int 0])), (q1, .inl (c1, (48, .inr (.inl (fun _ => 0))))), (q2, .inl (c2, (48, .inr (.inl (fun _ => 0))))), (q3, .inl (c3, (48, .inl (fun _ => 0)))), (q4, .inl (c4, (48, .inl (fun _ => 0)))), (q5, .inl (c5, (48, .inl (fun _ => 0))))] := hD
  refine lv_aload_n hx hb dX0_init_44 rfl (lv_at hl 0 rfl) ?_
  refine lv_bipush (v := 48) hx hb dX0_init_45 (by decide) ?_
  refine va_newa (atype := .int) (N' := 48) (a0 := (48, .inl (fun _ => 0))) (ty := .int) (n := 48) hx hb (hg _ w_72) rfl hK hP hD hS hA (fun _ => rfl) (by decide) (by decide) (by decide) (Nat.le_of_ble_eq_true rfl) (Nat.le_of_ble_eq_true rfl) dX0_init_47 (fun q6 c6 H hK hP hD hS => ?_)
  have hP : va_P (dC, dI) vwCl [(h0, .inr (0, [.ref q1, .ref q2, .ref q3, .ref q4, .ref q5, .null, .null, .null, .null, .null, .null, .int 0, .int 0, .int 0, .int 0, .int 0, .int 0])), (q1, .inl (c1, (48, .inr (.inl (fun _ => 0))))), (q2, .inl (c2, (48, .inr (.inl (fun _ => 0))))), (q3, .inl (c3, (48, .inl (fun _ => 0)))), (q4, .inl (c4, (48, .inl (fun _ => 0)))), (q5, .inl (c5, (48, .inl (fun _ => 0)))), (q6, .inl (c6, (48, .inl (fun _ => 0))))] H := hP
  have hD : va_D A [(h0, .inr (0, [.ref q1, .ref q2, .ref q3, .ref q4, .ref q5, .null, .null, .null, .null, .null, .null, .int 0, .int 0, .int 0, .int 0, .int 0, .int 0])), (q1, .inl (c1, (48, .inr (.inl (fun _ => 0))))), (q2, .inl (c2, (48, .inr (.inl (fun _ => 0))))), (q3, .inl (c3, (48, .inl (fun _ => 0)))), (q4, .inl (c4, (48, .inl (fun _ => 0)))), (q5, .inl (c5, (48, .inl (fun _ => 0)))), (q6, .inl (c6, (48, .inl (fun _ => 0))))] := hD
  have hK : va_K (dC, dI) vwCl [(c1, .long), (c2, .long), (c3, .int), (c4, .int), (c5, .int), (c6, .int)] s := hK
  refine va_putF (D := (dC, dI)) (ci := 0) (v := .ref q6) (ty := .array .int) (C := RX0) (T := TX0) (N := 17) hx hb hg inX0 tyX0 tyX0_ok nmX0 hown hK hP hD hS 0 rfl rfl 5 (by decide) (hg _ w_24) (fun _ h9 => h9) rfl hin rfl (by decide +kernel) rfl rfl (Nat.le_of_ble_eq_true rfl) dX0_init_49 (fun H locs hP hD hS => ?_)
  have hP : va_P (dC, dI) vwCl [(h0, .inr (0, [.ref q1, .ref q2, .ref q3, .ref q4, .ref q5, .ref q6, .null, .null, .null, .null, .null, .int 0, .int 0, .int 0, .int 0, .int 0, .int 0])), (q1, .inl (c1, (48, .inr (.inl (fun _ => 0))))), (q2, .inl (c2, (48, .inr (.inl (fun _ => 0))))), (q3, .inl (c3, (48, .inl (fun _ => 0)))), (q4, .inl (c4, (48, .inl (fun _ => 0)))), (q5, .inl (c5, (48, .inl (fun _ => 0)))), (q6, .inl (c6, (48, .inl (fun _ => 0))))] H := hP
  have hD : va_D A [(h0, .inr (0, [.ref q1, .ref q2, .ref q3, .ref q4, .ref q5, .ref q6, .null, .null, .null, .null, .null, .int 0, .int 0, .int 0, .int 0, .int 0, .int 0])), (q1, .inl (c1, (48, .inr (.inl (fun _ => 0))))), (q2, .inl (c2, (48, .inr (.inl (fun _ => 0))))), (q3, .inl (c3, (48, .inl (fun _ => 0)))), (q4, .inl (c4, (48, .inl (fun _ => 0)))), (q5, .inl (c5, (48, .inl (fun _ => 0)))), (q6, .inl (c6, (48, .inl (fun _ => 0))))] := hD
  refine lv_aload_n hx hb dX0_init_52 rfl (lv_at hl 0 rfl) ?_
  refine lv_bipush (v := 48) hx hb dX0_init_53 (by decide) ?_
  refine va_newa (atype := .int) (N' := 48) (a0 := (48, .inl (fun _ => 0))) (ty := .int) (n := 48) hx hb (hg _ w_72) rfl hK hP hD hS hA (fun _ => rfl) (by decide) (by decide) (by decide) (Nat.le_of_ble_eq_true rfl) (Nat.le_of_ble_eq_true rfl) dX0_init_55 (fun q7 c7 H hK hP hD hS => ?_)
  have hP : va_P (dC, dI) vwCl [(h0, .inr (0, [.ref q1, .ref q2, .ref q3, .ref q4, .ref q5, .ref q6, .null, .null, .null, .null, .null, .int 0, .int 0, .int 0, .int 0, .int 0, .int 0])), (q1, .inl (c1, (48, .inr (.inl (fun _ => 0))))), (q2, .inl (c2, (48, .inr (.inl (fun _ => 0))))), (q3, .inl (c3, (48, .inl (fun _ => 0)))), (q4, .inl (c4, (48, .inl (fun _ => 0)))), (q5, .inl (c5, (48, .inl (fun _ => 0)))), (q6, .inl (c6, (48, .inl (fun _ => 0)))), (q7, .inl (c7, (48, .inl (fun _ => 0))))] H := hP
  have hD : va_D A [(h0, .inr (0, [.ref q1, .ref q2, .ref q3, .ref q4, .ref q5, .ref q6, .null, .null, .null, .null, .null, .int 0, .int 0, .int 0, .int 0, .int 0, .int 0])), (q1, .inl (c1, (48, .inr (.inl (fun _ => 0))))), (q2, .inl (c2, (48, .inr (.inl (fun _ => 0))))), (q3, .inl (c3, (48, .inl (fun _ => 0)))), (q4, .inl (c4, (48, .inl (fun _ => 0)))), (q5, .inl (c5, (48, .inl (fun _ => 0)))), (q6, .inl (c6, (48, .inl (fun _ => 0)))), (q7, .inl (c7, (48, .inl (fun _ => 0))))] := hD
  have hK : va_K (dC, dI) vwCl [(c1, .long), (c2, .long), (c3, .int), (c4, .int), (c5, .int), (c6, .int), (c7, .int)] s := hK
  refine va_putF (D := (dC, dI)) (ci := 0) (v := .ref q7) (ty := .array .int) (C := RX0) (T := TX0) (N := 17) hx hb hg inX0 tyX0 tyX0_ok nmX0 hown hK hP hD hS 0 rfl rfl 6 (by decide) (hg _ w_25) (fun _ h9 => h9) rfl hin rfl (by decide +kernel) rfl rfl (Nat.le_of_ble_eq_true rfl) dX0_init_57 (fun H locs hP hD hS => ?_)
  have hP : va_P (dC, dI) vwCl [(h0, .inr (0, [.ref q1, .ref q2, .ref q3, .ref q4, .ref q5, .ref q6, .ref q7, .null, .null, .null, .null, .int 0, .int 0, .int 0, .int 0, .int 0, .int 0])), (q1, .inl (c1, (48, .inr (.inl (fun _ => 0))))), (q2, .inl (c2, (48, .inr (.inl (fun _ => 0))))), (q3, .inl (c3, (48, .inl (fun _ => 0)))), (q4, .inl (c4, (48, .inl (fun _ => 0)))), (q5, .inl (c5, (48, .inl (fun _ => 0)))), (q6, .inl (c6, (48, .inl (fun _ => 0)))), (q7, .inl (c7, (48, .inl (fun _ => 0))))] H := hP
  have hD : va_D A [(h0, .inr (0, [.ref q1, .ref q2, .ref q3, .ref q4, .ref q5, .ref q6, .ref q7, .null, .null, .null, .null, .int 0, .int 0, .int 0, .int 0, .int 0, .int 0])), (q1, .inl (c1, (48, .inr (.inl (fun _ => 0))))), (q2, .inl (c2, (48, .inr (.inl (fun _ => 0))))), (q3, .inl (c3, (48, .inl (fun _ => 0)))), (q4, .inl (c4, (48, .inl (fun _ => 0)))), (q5, .inl (c5, (48, .inl (fun _ => 0)))), (q6, .inl (c6, (48, .inl (fun _ => 0)))), (q7, .inl (c7, (48, .inl (fun _ => 0))))] := hD
  refine lv_aload_n hx hb dX0_init_60 rfl (lv_at hl 0 rfl) ?_
  refine lv_bipush (v := 8) hx hb dX0_init_61 (by decide) ?_
  refine va_newa (atype := .int) (N' := 8) (a0 := (8, .inl (fun _ => 0))) (ty := .int) (n := 8) hx hb (hg _ w_72) rfl hK hP hD hS hA (fun _ => rfl) (by decide) (by decide) (by decide) (Nat.le_of_ble_eq_true rfl) (Nat.le_of_ble_eq_true rfl) dX0_init_63 (fun q8 c8 H hK hP hD hS => ?_)
  have hP : va_P (dC, dI) vwCl [(h0, .inr (0, [.ref q1, .ref q2, .ref q3, .ref q4, .ref q5, .ref q6, .ref q7, .null, .null, .null, .null, .int 0, .int 0, .int 0, .int 0, .int 0, .int 0])), (q1, .inl (c1, (48, .inr (.inl (fun _ => 0))))), (q2, .inl (c2, (48, .inr (.inl (fun _ => 0))))), (q3, .inl (c3, (48, .inl (fun _ => 0)))), (q4, .inl (c4, (48, .inl (fun _ => 0)))), (q5, .inl (c5, (48, .inl (fun _ => 0)))), (q6, .inl (c6, (48, .inl (fun _ => 0)))), (q7, .inl (c7, (48, .inl (fun _ => 0)))), (q8, .inl (c8, (8, .inl (fun _ => 0))))] H := hP
  have hD : va_D A [(h0, .inr (0, [.ref q1, .ref q2, .ref q3, .ref q4, .ref q5, .ref q6, .ref q7, .null, .null, .null, .null, .int 0, .int 0, .int 0, .int 0, .int 0, .int 0])), (q1, .inl (c1, (48, .inr (.inl (fun _ => 0))))), (q2, .inl (c2, (48, .inr (.inl (fun _ => 0))))), (q3, .inl (c3, (48, .inl (fun _ => 0)))), (q4, .inl (c4, (48, .inl (fun _ => 0)))), (q5, .inl (c5, (48, .inl (fun _ => 0)))), (q6, .inl (c6, (48, .inl (fun _ => 0)))), (q7, .inl (c7, (48, .inl (fun _ => 0)))), (q8, .inl (c8, (8, .inl (fun _ => 0))))] := hD
  have hK : va_K (dC, dI) vwCl [(c1, .long), (c2, .long), (c3, .int), (c4, .int), (c5, .int), (c6, .int), (c7, .int), (c8, .int)] s := hK
  refine va_putF (D := (dC, dI)) (ci := 0) (v := .ref q8) (ty := .array .int) (C := RX0) (T := TX0) (N := 17) hx hb hg inX0 tyX0 tyX0_ok nmX0 hown hK hP hD hS 0 rfl rfl 7 (by decide) (hg _ w_26) (fun _ h9 => h9) rfl hin rfl (by decide +kernel) rfl rfl (Nat.le_of_ble_eq_true rfl) dX0_init_65 (fun H locs hP hD hS => ?_)
  have hP : va_P (dC, dI) vwCl [(h0, .inr (0, [.ref q1, .ref q2, .ref q3, .ref q4, .ref q5, .ref q6, .ref q7, .ref q8, .null, .null, .null, .int 0, .int 0, .int 0, .int 0, .int 0, .int 0])), (q1, .inl (c1, (48, .inr (.inl (fun _ => 0))))), (q2, .inl (c2, (48, .inr (.inl (fun _ => 0))))), (q3, .inl (c3, (48, .inl (fun _ => 0)))), (q4, .inl (c4, (48, .inl (fun _ => 0)))), (q5, .inl (c5, (48, .inl (fun _ => 0)))), (q6, .inl (c6, (48, .inl (fun _ => 0)))), (q7, .inl (c7, (48, .inl (fun _ => 0)))), (q8, .inl (c8, (8, .inl (fun _ => 0))))] H := hP
  have hD : va_D A [(h0, .inr (0, [.ref q1, .ref q2, .ref q3, .ref q4, .ref q5, .ref q6, .ref q7, .ref q8, .null, .null, .null, .int 0, .int 0, .int 0, .int 0, .int 0, .int 0])), (q1, .inl (c1, (48, .inr (.inl (fun _ => 0))))), (q2, .inl (c2, (48, .inr (.inl (fun _ => 0))))), (q3, .inl (c3, (48, .inl (fun _ => 0)))), (q4, .inl (c4, (48, .inl (fun _ => 0)))), (q5, .inl (c5, (48, .inl (fun _ => 0)))), (q6, .inl (c6, (48, .inl (fun _ => 0)))), (q7, .inl (c7, (48, .inl (fun _ => 0)))), (q8, .inl (c8, (8, .inl (fun _ => 0))))] := hD
  refine lv_aload_n hx hb dX0_init_68 rfl (lv_at hl 0 rfl) ?_
  refine lv_bipush (v := 12) hx hb dX0_init_69 (by decide) ?_
  refine va_newa (atype := .int) (N' := 12) (a0 := (12, .inl (fun _ => 0))) (ty := .int) (n := 12) hx hb (hg _ w_72) rfl hK hP hD hS hA (fun _ => rfl) (by decide) (by decide) (by decide) (Nat.le_of_ble_eq_true rfl) (Nat.le_of_ble_eq_true rfl) dX0_init_71 (fun q9 c9 H hK hP hD hS => ?_)
  have hP : va_P (dC, dI) vwCl [(h0, .inr (0, [.ref q1, .ref q2, .ref q3, .ref q4, .ref q5, .ref q6, .ref q7, .ref q8, .null, .null, .null, .int 0, .int 0, .int 0, .int 0, .int 0, .int 0])), (q1, .inl (c1, (48, .inr (.inl (fun _ => 0))))), (q2, .inl (c2, (48, .inr (.inl (fun _ => 0))))), (q3, .inl (c3, (48, .inl (fun _ => 0)))), (q4, .inl (c4, (48, .inl (fun _ => 0)))), (q5, .inl (c5, (48, .inl (fun _ => 0)))), (q6, .inl (c6, (48, .inl (fun _ => 0)))), (q7, .inl (c7, (48, .inl (fun _ => 0)))), (q8, .inl (c8, (8, .inl (fun _ => 0)))), (q9, .inl (c9, (12, .inl (fun _ => 0))))] H := hP
  have hD : va_D A [(h0, .inr (0, [.ref q1, .ref q2, .ref q3, .ref q4, .ref q5, .ref q6, .ref q7, .ref q8, .null, .null, .null, .int 0, .int 0, .int 0, .int 0, .int 0, .int 0])), (q1, .inl (c1, (48, .inr (.inl (fun _ => 0))))), (q2, .inl (c2, (48, .inr (.inl (fun _ => 0))))), (q3, .inl (c3, (48, .inl (fun _ => 0)))), (q4, .inl (c4, (48, .inl (fun _ => 0)))), (q5, .inl (c5, (48, .inl (fun _ => 0)))), (q6, .inl (c6, (48, .inl (fun _ => 0)))), (q7, .inl (c7, (48, .inl (fun _ => 0)))), (q8, .inl (c8, (8, .inl (fun _ => 0)))), (q9, .inl (c9, (12, .inl (fun _ => 0))))] := hD
  have hK : va_K (dC, dI) vwCl [(c1, .long), (c2, .long), (c3, .int), (c4, .int), (c5, .int), (c6, .int), (c7, .int), (c8, .int), (c9, .int)] s := hK
  refine va_putF (D := (dC, dI)) (ci := 0) (v := .ref q9) (ty := .array .int) (C := RX0) (T := TX0) (N := 17) hx hb hg inX0 tyX0 tyX0_ok nmX0 hown hK hP hD hS 0 rfl rfl 8 (by decide) (hg _ w_27) (fun _ h9 => h9) rfl hin rfl (by decide +kernel) rfl rfl (Nat.le_of_ble_eq_true rfl) dX0_init_73 (fun H locs hP hD hS => ?_)
  have hP : va_P (dC, dI) vwCl [(h0, .inr (0, [.ref q1, .ref q2, .ref q3, .ref q4, .ref q5, .ref q6, .ref q7, .ref q8, .ref q9, .null, .null, .int 0, .int 0, .int 0, .int 0, .int 0, .int 0])), (q1, .inl (c1, (48, .inr (.inl (fun _ => 0))))), (q2, .inl (c2, (48, .inr (.inl (fun _ => 0))))), (q3, .inl (c3, (48, .inl (fun _ => 0)))), (q4, .inl (c4, (48, .inl (fun _ => 0)))), (q5, .inl (c5, (48, .inl (fun _ => 0)))), (q6, .inl (c6, (48, .inl (fun _ => 0)))), (q7, .inl (c7, (48, .inl (fun _ => 0)))), (q8, .inl (c8, (8, .inl (fun _ => 0)))), (q9, .inl (c9, (12, .inl (fun _ => 0))))] H := hP
  have hD : va_D A [(h0, .inr (0, [.ref q1, .ref q2, .ref q3, .ref q4, .ref q5, .ref q6, .ref q7, .ref q8, .ref q9, .null, .null, .int 0, .int 0, .int 0, .int 0, .int 0, .int 0])), (q1, .inl (c1, (48, .inr (.inl (fun _ => 0))))), (q2, .inl (c2, (48, .inr (.inl (fun _ => 0))))), (q3, .inl (c3, (48, .inl (fun _ => 0)))), (q4, .inl (c4, (48, .inl (fun _ => 0)))), (q5, .inl (c5, (48, .inl (fun _ => 0)))), (q6, .inl (c6, (48, .inl (fun _ => 0)))), (q7, .inl (c7, (48, .inl (fun _ => 0)))), (q8, .inl (c8, (8, .inl (fun _ => 0)))), (q9, .inl (c9, (12, .inl (fun _ => 0))))] := hD
  refine lv_aload_n hx hb dX0_init_76 rfl (lv_at hl 0 rfl) ?_
  refine lv_bipush (v := 12) hx hb dX0_init_77 (by decide) ?_
  refine va_newa (atype := .int) (N' := 12) (a0 := (12, .inl (fun _ => 0))) (ty := .int) (n := 12) hx hb (hg _ w_72) rfl hK hP hD hS hA (fun _ => rfl) (by decide) (by decide) (by decide) (Nat.le_of_ble_eq_true rfl) (Nat.le_of_ble_eq_true rfl) dX0_init_79 (fun q10 c10 H hK hP hD hS => ?_)
  have hP : va_P (dC, dI) vwCl [(h0, .inr (0, [.ref q1, .ref q2, .ref q3, .ref q4, .ref q5, .ref q6, .ref q7, .ref q8, .ref q9, .null, .null, .int 0, .int 0, .int 0, .int 0, .int 0, .int 0])), (q1, .inl (c1, (48, .inr (.inl (fun _ => 0))))), (q2, .inl (c2, (48, .inr (.inl (fun _ => 0))))), (q3, .inl (c3, (48, .inl (fun _ => 0)))), (q4, .inl (c4, (48, .inl (fun _ => 0)))), (q5, .inl (c5, (48, .inl (fun _ => 0)))), (q6, .inl (c6, (48, .inl (fun _ => 0)))), (q7, .inl (c7, (48, .inl (fun _ => 0)))), (q8, .inl (c8, (8, .inl (fun _ => 0)))), (q9, .inl (c9, (12, .inl (fun _ => 0)))), (q10, .inl (c10, (12, .inl (fun _ => 0))))] H := hP
  have hD : va_D A [(h0, .inr (0, [.ref q1, .ref q2, .ref q3, .ref q4, .ref q5, .ref q6, .ref q7, .ref q8, .ref q9, .null, .null, .int 0, .int 0, .int 0, .int 0, .int 0, .int 0])), (q1, .inl (c1, (48, .inr (.inl (fun _ => 0))))), (q2, .inl (c2, (48, .inr (.inl (fun _ => 0))))), (q3, .inl (c3, (48, .inl (fun _ => 0)))), (q4, .inl (c4, (48, .inl (fun _ => 0)))), (q5, .inl (c5, (48, .inl (fun _ => 0)))), (q6, .inl (c6, (48, .inl (fun _ => 0)))), (q7, .inl (c7, (48, .inl (fun _ => 0)))), (q8, .inl (c8, (8, .inl (fun _ => 0)))), (q9, .inl (c9, (12, .inl (fun _ => 0)))), (q10, .inl (c10, (12, .inl (fun _ => 0))))] := hD
  have hK : va_K (dC, dI) vwCl [(c1, .long), (c2, .long), (c3, .int), (c4, .int), (c5, .int), (c6, .int), (c7, .int), (c8, .int), (c9, .int), (c10, .int)] s := hK
  refine va_putF (D := (dC, dI)) (ci := 0) (v := .ref q10) (ty := .array .int) (C := RX0) (T := TX0) (N := 17) hx hb hg inX0 tyX0 tyX0_ok nmX0 hown hK hP hD hS 0 rfl rfl 9 (by decide) (hg _ w_28) (fun _ h9 => h9) rfl hin rfl (by decide +kernel) rfl rfl (Nat.le_of_ble_eq_true rfl) dX0_init_81 (fun H locs hP hD hS => ?_)
  have hP : va_P (dC, dI) vwCl [(h0, .inr (0, [.ref q1, .ref q2, .ref q3, .ref q4, .ref q5, .ref q6, .ref q7, .ref q8, .ref q9, .ref q10, .null, .int 0, .int 0, .int 0, .int 0, .int 0, .int 0])), (q1, .inl (c1, (48, .inr (.inl (fun _ => 0))))), (q2, .inl (c2, (48, .inr (.inl (fun _ => 0))))), (q3, .inl (c3, (48, .inl (fun _ => 0)))), (q4, .inl (c4, (48, .inl (fun _ => 0)))), (q5, .inl (c5, (48, .inl (fun _ => 0)))), (q6, .inl (c6, (48, .inl (fun _ => 0)))), (q7, .inl (c7, (48, .inl (fun _ => 0)))), (q8, .inl (c8, (8, .inl (fun _ => 0)))), (q9, .inl (c9, (12, .inl (fun _ => 0)))), (q10, .inl (c10, (12, .inl (fun _ => 0))))] H := hP
  have hD : va_D A [(h0, .inr (0, [.ref q1, .ref q2, .ref q3, .ref q4, .ref q5, .ref q6, .ref q7, .ref q8, .ref q9, .ref q10, .null, .int 0, .int 0, .int 0, .int 0, .int 0, .int 0])), (q1, .inl (c1, (48, .inr (.inl (fun _ => 0))))), (q2, .inl (c2, (48, .inr (.inl (fun _ => 0))))), (q3, .inl (c3, (48, .inl (fun _ => 0)))), (q4, .inl (c4, (48, .inl (fun _ => 0)))), (q5, .inl (c5, (48, .inl (fun _ => 0)))), (q6, .inl (c6, (48, .inl (fun _ => 0)))), (q7, .inl (c7, (48, .inl (fun _ => 0)))), (q8, .inl (c8, (8, .inl (fun _ => 0)))), (q9, .inl (c9, (12, .inl (fun _ => 0)))), (q10, .inl (c10, (12, .inl (fun _ => 0))))] := hD
  refine lv_aload_n hx hb dX0_init_84 rfl (lv_at hl 0 rfl) ?_
  refine lv_bipush (v := 12) hx hb dX0_init_85 (by decide) ?_
  refine va_newa (atype := .int) (N' := 12) (a0 := (12, .inl (fun _ => 0))) (ty := .int) (n := 12) hx hb (hg _ w_72) rfl hK hP hD hS hA (fun _ => rfl) (by decide) (by decide) (by decide) (Nat.le_of_ble_eq_true rfl) (Nat.le_of_ble_eq_true rfl) dX0_init_87 (fun q11 c11 H hK hP hD hS => ?_)
  have hP : va_P (dC, dI) vwCl [(h0, .inr (0, [.ref q1, .ref q2, .ref q3, .ref q4, .ref q5, .ref q6, .ref q7, .ref q8, .ref q9, .ref q10, .null, .int 0, .int 0, .int 0, .int 0, .int 0, .int 0])), (q1, .inl (c1, (48, .inr (.inl (fun _ => 0))))), (q2, .inl (c2, (48, .inr (.inl (fun _ => 0))))), (q3, .inl (c3, (48, .inl (fun _ => 0)))), (q4, .inl (c4, (48, .inl (fun _ => 0)))), (q5, .inl (c5, (48, .inl (fun _ => 0)))), (q6, .inl (c6, (48, .inl (fun _ => 0)))), (q7, .inl (c7, (48, .inl (fun _ => 0)))), (q8, .inl (c8, (8, .inl (fun _ => 0)))), (q9, .inl (c9, (12, .inl (fun _ => 0)))), (q10, .inl (c10, (12, .inl (fun _ => 0)))), (q11, .inl (c11, (12, .inl (fun _ => 0))))] H := hP
  have hD : va_D A [(h0, .inr (0, [.ref q1, .ref q2, .ref q3, .ref q4, .ref q5, .ref q6, .ref q7, .ref q8, .ref q9, .ref q10, .null, .int 0, .int 0, .int 0, .int 0, .int 0, .int 0])), (q1, .inl (c1, (48, .inr (.inl (fun _ => 0))))), (q2, .inl (c2, (48, .inr (.inl (fun _ => 0))))), (q3, .inl (c3, (48, .inl (fun _ => 0)))), (q4, .inl (c4, (48, .inl (fun _ => 0)))), (q5, .inl (c5, (48, .inl (fun _ => 0)))), (q6, .inl (c6, (48, .inl (fun _ => 0)))), (q7, .inl (c7, (48, .inl (fun _ => 0)))), (q8, .inl (c8, (8, .inl (fun _ => 0)))), (q9, .inl (c9, (12, .inl (fun _ => 0)))), (q10, .inl (c10, (12, .inl (fun _ => 0)))), (q11, .inl (c11, (12, .inl (fun _ => 0))))] := hD
  have hK : va_K (dC, dI) vwCl [(c1, .long), (c2, .long), (c3, .int), (c4, .int), (c5, .int), (c6, .int), (c7, .int), (c8, .int), (c9, .int), (c10, .int), (c11, .int)] s := hK
  refine va_putF (D := (dC, dI)) (ci := 0) (v := .ref q11) (ty := .array .int) (C := RX0) (T := TX0) (N := 17) hx hb hg inX0 tyX0 tyX0_ok nmX0 hown hK hP hD hS 0 rfl rfl 10 (by decide) (hg _ w_29) (fun _ h9 => h9) rfl hin rfl (by decide +kernel) rfl rfl (Nat.le_of_ble_eq_true rfl) dX0_init_89 (fun H locs hP hD hS => ?_)
  have hP : va_P (dC, dI) vwCl [(h0, .inr (0, [.ref q1, .ref q2, .ref q3, .ref q4, .ref q5, .ref q6, .ref q7, .ref q8, .ref q9, .ref q10, .ref q11, .int 0, .int 0, .int 0, .int 0, .int 0, .int 0])), (q1, .inl (c1, (48, .inr (.inl (fun _ => 0))))), (q2, .inl (c2, (48, .inr (.inl (fun _ => 0))))), (q3, .inl (c3, (48, .inl (fun _ => 0)))), (q4, .inl (c4, (48, .inl (fun _ => 0)))), (q5, .inl (c5, (48, .inl (fun _ => 0)))), (q6, .inl (c6, (48, .inl (fun _ => 0)))), (q7, .inl (c7, (48, .inl (fun _ => 0)))), (q8, .inl (c8, (8, .inl (fun _ => 0)))), (q9, .inl (c9, (12, .inl (fun _ => 0)))), (q10, .inl (c10, (12, .inl (fun _ => 0)))), (q11, .inl (c11, (12, .inl (fun _ => 0))))] H := hP
  have hD : va_D A [(h0, .inr (0, [.ref q1, .ref q2, .ref q3, .ref q4, .ref q5, .ref q6, .ref q7, .ref q8, .ref q9, .ref q10, .ref q11, .int 0, .int 0, .int 0, .int 0, .int 0, .int 0])), (q1, .inl (c1, (48, .inr (.inl (fun _ => 0))))), (q2, .inl (c2, (48, .inr (.inl (fun _ => 0))))), (q3, .inl (c3, (48, .inl (fun _ => 0)))), (q4, .inl (c4, (48, .inl (fun _ => 0)))), (q5, .inl (c5, (48, .inl (fun _ => 0)))), (q6, .inl (c6, (48, .inl (fun _ => 0)))), (q7, .inl (c7, (48, .inl (fun _ => 0)))), (q8, .inl (c8, (8, .inl (fun _ => 0)))), (q9, .inl (c9, (12, .inl (fun _ => 0)))), (q10, .inl (c10, (12, .inl (fun _ => 0)))), (q11, .inl (c11, (12, .inl (fun _ => 0))))] := hD
  refine lv_aload_n hx hb dX0_init_92 rfl (lv_at hl 0 rfl) ?_
  refine lv_iconst (v := (-1)) hx hb dX0_init_93 (by decide) ?_
  refine va_put (D := (dC, dI)) (ci := 0) (v := .int (-1)) (ty := .int) (C := RX0) (T := TX0) (N := 17) hx hb hg inX0 tyX0 tyX0_ok nmX0 hown hK hP hD hS 0 rfl rfl 16 (by decide) (hg _ w_35) (fun _ h9 => h9) rfl (by decide +kernel) rfl rfl (Nat.le_of_ble_eq_true rfl) dX0_init_94 (fun H locs hP hD hS => ?_)
  have hP : va_P (dC, dI) vwCl [(h0, .inr (0, [.ref q1, .ref q2, .ref q3, .ref q4, .ref q5, .ref q6, .ref q7, .ref q8, .ref q9, .ref q10, .ref q11, .int 0, .int 0, .int 0, .int 0, .int 0, .int (-1)])), (q1, .inl (c1, (48, .inr (.inl (fun _ => 0))))), (q2, .inl (c2, (48, .inr (.inl (fun _ => 0))))), (q3, .inl (c3, (48, .inl (fun _ => 0)))), (q4, .inl (c4, (48, .inl (fun _ => 0)))), (q5, .inl (c5, (48, .inl (fun _ => 0)))), (q6, .inl (c6, (48, .inl (fun _ => 0)))), (q7, .inl (c7, (48, .inl (fun _ => 0)))), (q8, .inl (c8, (8, .inl (fun _ => 0)))), (q9, .inl (c9, (12, .inl (fun _ => 0)))), (q10, .inl (c10, (12, .inl (fun _ => 0)))), (q11, .inl (c11, (12, .inl (fun _ => 0))))] H := hP
  have hD : va_D A [(h0, .inr (0, [.ref q1, .ref q2, .ref q3, .ref q4, .ref q5, .ref q6, .ref q7, .ref q8, .ref q9, .ref q10, .ref q11, .int 0, .int 0, .int 0, .int 0, .int 0, .int (-1)])), (q1, .inl (c1, (48, .inr (.inl (fun _ => 0))))), (q2, .inl (c2, (48, .inr (.inl (fun _ => 0))))), (q3, .inl (c3, (48, .inl (fun _ => 0)))), (q4, .inl (c4, (48, .inl (fun _ => 0)))), (q5, .inl (c5, (48, .inl (fun _ => 0)))), (q6, .inl (c6, (48, .inl (fun _ => 0)))), (q7, .inl (c7, (48, .inl (fun _ => 0)))), (q8, .inl (c8, (8, .inl (fun _ => 0)))), (q9, .inl (c9, (12, .inl (fun _ => 0)))), (q10, .inl (c10, (12, .inl (fun _ => 0)))), (q11, .inl (c11, (12, .inl (fun _ => 0))))] := hD
  have hP9 := hP.sub (ws' := ws_sl (fun i => [h0, q1, q2, q3, q4, q5, q6, q7, q8, q9, q10, q11].getD i 0) (fun i => [0, c1, c2, c3, c4, c5, c6, c7, c8, c9, c10, c11].getD i 0) (fun _ => 0) (fun _ => 0) (fun _ => 0) (fun _ => 0) (fun _ => 0) (fun _ => 0) (fun _ => 0) (fun _ => 0) (fun _ => 0) (fun _ => 0) (fun _ => 0) 0 0 0 0 0 (-1)) [0, 1, 2, 3, 4, 5, 6, 7, 8, 9, 10, 11] rfl
  have hD9 := hD.sub (ws' := ws_sl (fun i => [h0, q1, q2, q3, q4, q5, q6, q7, q8, q9, q10, q11].getD i 0) (fun i => [0, c1, c2, c3, c4, c5, c6, c7, c8, c9, c10, c11].getD i 0) (fun _ => 0) (fun _ => 0) (fun _ => 0) (fun _ => 0) (fun _ => 0) (fun _ => 0) (fun _ => 0) (fun _ => 0) (fun _ => 0) (fun _ => 0) (fun _ => 0) 0 0 0 0 0 (-1)) [0, 1, 2, 3, 4, 5, 6, 7, 8, 9, 10, 11] (by decide) rfl
  have hK9 := hK.sub (tys' := ty_sl (fun i => [0, c1, c2, c3, c4, c5, c6, c7, c8, c9, c10, c11].getD i 0)) [0, 1, 2, 3, 4, 5, 6, 7, 8, 9, 10] rfl
  refine W.widen (k := 11) (n := 380) (by decide) (by decide) ?_
  exact W.vret hx hb hr (fun t ht hW => ⟨⟨(fun i => [h0, q1, q2, q3, q4, q5, q6, q7, q8, q9, q10, q11].getD i 0, fun i => [0, c1, c2, c3, c4, c5, c6, c7, c8, c9, c10, c11].getD i 0), rfl, rfl, by rw [ht]; exact hP9, va_K.moved hW.alike hK9, hD9⟩, hS.F ht⟩) hS.2.2 dX0_init_97
set_option maxHeartbeats 4000000 in
set_option maxRecDepth 100000 in
theorem cs_requirePlace (l : Launch) (dC : Nat → ClassId) (dI : Nat → Nat → Nat)   (p1 : Int32)  (hok : sl_requirePlace p1 = .inl ()) : Met l yX0_requirePlace wsX0_requirePlace ({ frames := 6, cells := 0, slots := 0, locals := 82 } : Room) (va_Pc [.int p1] (fun _ => True)) (va_Qv (fun (_ : Unit) => True) (fun (_ : Unit) t => True) ((fun _ => False))) 0 0 ((fun _ => False)) := by
  refine Met.ofW (cc := cX0_requirePlace) (maxL := 1) (ret := none) (by decide) rfl ?_
  intro p e s m args below meth c s₁ B hml hv
  obtain ⟨rfl, -⟩ := hv
  have hx := B.exec
  have hb := B.bytes
  have hr := B.returns
  have hts := atoms_spec (ws := wsX0_requirePlace) B.pre
  have hg : ∀ w ∈ gw, w.before _ s = true := fun w h => hts w (List.mem_cons_of_mem _ h)
  have hown : s.vm.findClass RX0 = some m.cls := findClass_of_methodNamed B.named
  have hlocks := B.notSynchronized
  refine w_in (fun H locs eH eL => ?_)
  have hS : va_S (fun _ => False) s.heap H locs := by rw [eH, eL]; exact va_S.rf
  have hP : va_P (dC, dI) vwCl [] H := fun k q h => by simp at h
  clear eH eL
  have hl := lv_entry ([.int p1]) (n := 1) (Nat.le_of_ble_eq_true rfl)
  rw [lg_entry_eq]
  generalize (lg_sl ([.int p1]) ++ List.replicate (1 - (lg_sl ([.int p1])).length) Slot.unset).toArray = ls at hl ⊢
  have hl : lv_has ls 1 [(0, .int p1)] := hl
  refine lv_iload_n hx hb dX0_requirePlace_0 rfl (lv_at hl 0 rfl) ?_
  refine lv_if_lt (tgt := 10) hx hb dX0_requirePlace_1 (by decide) (fun c_1 => ?_) (fun c_1 => ?_)
  · have hw : sl_requirePlace p1 = .inr xIO := by unfold sl_requirePlace; rw [if_pos c_1]; (try rfl)
    exact absurd (hw.symm.trans hok) (by intro h9; cases h9)
  · refine lv_iload_n hx hb dX0_requirePlace_4 rfl (lv_at hl 0 rfl) ?_
    refine lv_bipush (v := 28) hx hb dX0_requirePlace_5 (by decide) ?_
    refine lv_icmp_lt (tgt := 20) hx hb dX0_requirePlace_7 (by decide) (fun c_7 => ?_) (fun c_7 => ?_)
    · have hw : sl_requirePlace p1 = .inl () := by unfold sl_requirePlace; rw [if_neg c_1, if_pos c_7]; (try rfl)
      exact W.vret hx hb hr (fun t ht hW => ⟨⟨(), rfl, trivial, trivial⟩, hS.F ht⟩) hS.2.2 dX0_requirePlace_20
    · have hw : sl_requirePlace p1 = .inr xIO := by unfold sl_requirePlace; rw [if_neg c_1, if_neg c_7]; (try rfl)
      exact absurd (hw.symm.trans hok) (by intro h9; cases h9)
set_option maxHeartbeats 4000000 in
set_option maxRecDepth 100000 in
theorem cs_requirePlace_x (l : Launch) (hl9 : l.stackTraces = false) (dC : Nat → ClassId) (dI : Nat → Nat → Nat)  (sx : Nat → Nat) (sz : Nat)  (p1 : Int32) (E9 : String) (hno : sl_requirePlace p1 = .inr E9) : vx_Met l yX0_requirePlace wsX0_requirePlace ({ frames := 6, cells := 1, slots := 6, locals := 82 } : Room) (va_Pc [.int p1] (prx0 sz sx)) (va_Qv (fun (_ : Unit) => False) (fun (_ : Unit) _ => True) (va_A (([] : va_W)) sz)) (vx_X (fun _ : Unit => True) (fun E _ t => E = E9) (va_A (([] : va_W)) sz)) 1 6 (va_A (([] : va_W)) sz) := by
  refine vx_ofW (cc := cX0_requirePlace) (maxL := 1) (ret := none) (by decide) rfl ?_
  intro p e s m args below meth c s₁ B hml hEx hv
  obtain ⟨rfl, hsz, hX9⟩ := hv
  have hx := B.exec
  have hb := B.bytes
  have hr := B.returns
  have hts := atoms_spec (ws := wsX0_requirePlace) B.pre
  have hg : ∀ w ∈ gw, w.before _ s = true := fun w h => hts w (List.mem_cons_of_mem _ h)
  have hown : s.vm.findClass RX0 = some m.cls := findClass_of_methodNamed B.named
  have hlocks := B.notSynchronized
  subst hsz
  generalize hAe : va_A (([] : va_W)) s.heap.size = A at hX9 ⊢
  have hA : ∀ q : Nat, s.heap.size ≤ q → A q := fun q h => by rw [← hAe]; exact Or.inr h
  clear hAe
  refine w_in (fun H locs eH eL => ?_)
  have hS : va_S A s.heap H locs := by rw [eH, eL]; exact va_S.rf
  have hP : va_P (dC, dI) vwCl [] H := fun k q h => by simp at h
  have hD : va_D A ([] : va_W) := ⟨fun i j p q h => by simp at h, fun k q h => by simp at h⟩
  clear eH eL
  have hl := lv_entry ([.int p1]) (n := 1) (Nat.le_of_ble_eq_true rfl)
  rw [lg_entry_eq]
  generalize (lg_sl ([.int p1]) ++ List.replicate (1 - (lg_sl ([.int p1])).length) Slot.unset).toArray = ls at hl ⊢
  have hl : lv_has ls 1 [(0, .int p1)] := hl
  refine lv_iload_n hx hb dX0_requirePlace_0 rfl (lv_at hl 0 rfl) ?_
  refine lv_if_lt (tgt := 10) hx hb dX0_requirePlace_1 (by decide) (fun c_1 => ?_) (fun c_1 => ?_)
  · have hw : sl_requirePlace p1 = .inr xIO := by unfold sl_requirePlace; rw [if_pos c_1]; (try rfl)
    have he := Sum.inr.inj (hno.symm.trans hw)
    exact vx_throwS (own := RX0) (cls := "java/lang/IndexOutOfBoundsException") (names := ["java/lang/RuntimeException", "java/lang/Exception"]) hx hb hl9 hown (by decide +kernel) (by decide +kernel) (hg _ w_109) (hg _ w_6) (hX9.2.2.1 (150, "no such place") (by decide +kernel)) (hat_xIO_93 hg hX9) (by decide +kernel) hX9.1 hX9.2.1 hS (hl.1.trans hml.symm) dX0_requirePlace_10 dX0_requirePlace_13 dX0_requirePlace_14 dX0_requirePlace_16 dX0_requirePlace_19 (fun x hx => (hEx x hx).elim) (Nat.le_of_ble_eq_true rfl) (Nat.le_of_ble_eq_true rfl) (Nat.le_of_ble_eq_true rfl) (Nat.le_of_ble_eq_true rfl) hlocks (fun t ha hsz hk => ⟨(), trivial, he.symm, Nat.le_trans hS.1 hsz, fun q h1 h2 => (hk q (Nat.lt_of_lt_of_le h1 hS.1)).trans (hS.2.1 q h1 h2)⟩) hS.2.2 (Nat.le_of_ble_eq_true rfl) (Nat.le_of_ble_eq_true rfl)
  · refine lv_iload_n hx hb dX0_requirePlace_4 rfl (lv_at hl 0 rfl) ?_
    refine lv_bipush (v := 28) hx hb dX0_requirePlace_5 (by decide) ?_
    refine lv_icmp_lt (tgt := 20) hx hb dX0_requirePlace_7 (by decide) (fun c_7 => ?_) (fun c_7 => ?_)
    · exfalso
      have h9 := hno
      unfold sl_requirePlace at h9
      rw [if_neg c_1, if_pos c_7] at h9
      first | (cases h9; done) | ((repeat' split at h9) <;> cases h9)
    · have hw : sl_requirePlace p1 = .inr xIO := by unfold sl_requirePlace; rw [if_neg c_1, if_neg c_7]; (try rfl)
      have he := Sum.inr.inj (hno.symm.trans hw)
      exact vx_throwS (own := RX0) (cls := "java/lang/IndexOutOfBoundsException") (names := ["java/lang/RuntimeException", "java/lang/Exception"]) hx hb hl9 hown (by decide +kernel) (by decide +kernel) (hg _ w_109) (hg _ w_6) (hX9.2.2.1 (150, "no such place") (by decide +kernel)) (hat_xIO_93 hg hX9) (by decide +kernel) hX9.1 hX9.2.1 hS (hl.1.trans hml.symm) dX0_requirePlace_10 dX0_requirePlace_13 dX0_requirePlace_14 dX0_requirePlace_16 dX0_requirePlace_19 (fun x hx => (hEx x hx).elim) (Nat.le_of_ble_eq_true rfl) (Nat.le_of_ble_eq_true rfl) (Nat.le_of_ble_eq_true rfl) (Nat.le_of_ble_eq_true rfl) hlocks (fun t ha hsz hk => ⟨(), trivial, he.symm, Nat.le_trans hS.1 hsz, fun q h1 h2 => (hk q (Nat.lt_of_lt_of_le h1 hS.1)).trans (hS.2.1 q h1 h2)⟩) hS.2.2 (Nat.le_of_ble_eq_true rfl) (Nat.le_of_ble_eq_true rfl)
set_option maxHeartbeats 4000000 in
set_option maxRecDepth 100000 in
theorem cs_requireArray (l : Launch) (dC : Nat → ClassId) (dI : Nat → Nat → Nat)   (p1 : Int32)  (hok : sl_requireArray p1 = .inl ()) : Met l yX0_requireArray wsX0_requireArray ({ frames := 6, cells := 0, slots := 0, locals := 82 } : Room) (va_Pc [.int p1] (fun _ => True)) (va_Qv (fun (_ : Unit) => True) (fun (_ : Unit) t => True) ((fun _ => False))) 0 0 ((fun _ => False)) := by
  refine Met.ofW (cc := cX0_requireArray) (maxL := 1) (ret := none) (by decide) rfl ?_
  intro p e s m args below meth c s₁ B hml hv
  obtain ⟨rfl, -⟩ := hv
  have hx := B.exec
  have hb := B.bytes
  have hr := B.returns
  have hts := atoms_spec (ws := wsX0_requireArray) B.pre
  have hg : ∀ w ∈ gw, w.before _ s = true := fun w h => hts w (List.mem_cons_of_mem _ h)
  have hown : s.vm.findClass RX0 = some m.cls := findClass_of_methodNamed B.named
  have hlocks := B.notSynchronized
  refine w_in (fun H locs eH eL => ?_)
  have hS : va_S (fun _ => False) s.heap H locs := by rw [eH, eL]; exact va_S.rf
  have hP : va_P (dC, dI) vwCl [] H := fun k q h => by simp at h
  clear eH eL
  have hl := lv_entry ([.int p1]) (n := 1) (Nat.le_of_ble_eq_true rfl)
  rw [lg_entry_eq]
  generalize (lg_sl ([.int p1]) ++ List.replicate (1 - (lg_sl ([.int p1])).length) Slot.unset).toArray = ls at hl ⊢
  have hl : lv_has ls 1 [(0, .int p1)] := hl
  refine lv_iload_n hx hb dX0_requireArray_0 rfl (lv_at hl 0 rfl) ?_
  refine lv_if_lt (tgt := 10) hx hb dX0_requireArray_1 (by decide) (fun c_1 => ?_) (fun c_1 => ?_)
  · have hw : sl_requireArray p1 = .inr xIO := by unfold sl_requireArray; rw [if_pos c_1]; (try rfl)
    exact absurd (hw.symm.trans hok) (by intro h9; cases h9)
  · refine lv_iload_n hx hb dX0_requireArray_4 rfl (lv_at hl 0 rfl) ?_
    refine lv_bipush (v := 8) hx hb dX0_requireArray_5 (by decide) ?_
    refine lv_icmp_lt (tgt := 20) hx hb dX0_requireArray_7 (by decide) (fun c_7 => ?_) (fun c_7 => ?_)
    · have hw : sl_requireArray p1 = .inl () := by unfold sl_requireArray; rw [if_neg c_1, if_pos c_7]; (try rfl)
      exact W.vret hx hb hr (fun t ht hW => ⟨⟨(), rfl, trivial, trivial⟩, hS.F ht⟩) hS.2.2 dX0_requireArray_20
    · have hw : sl_requireArray p1 = .inr xIO := by unfold sl_requireArray; rw [if_neg c_1, if_neg c_7]; (try rfl)
      exact absurd (hw.symm.trans hok) (by intro h9; cases h9)
set_option maxHeartbeats 4000000 in
set_option maxRecDepth 100000 in
theorem cs_requireArray_x (l : Launch) (hl9 : l.stackTraces = false) (dC : Nat → ClassId) (dI : Nat → Nat → Nat)  (sx : Nat → Nat) (sz : Nat)  (p1 : Int32) (E9 : String) (hno : sl_requireArray p1 = .inr E9) : vx_Met l yX0_requireArray wsX0_requireArray ({ frames := 6, cells := 1, slots := 6, locals := 82 } : Room) (va_Pc [.int p1] (prx0 sz sx)) (va_Qv (fun (_ : Unit) => False) (fun (_ : Unit) _ => True) (va_A (([] : va_W)) sz)) (vx_X (fun _ : Unit => True) (fun E _ t => E = E9) (va_A (([] : va_W)) sz)) 1 6 (va_A (([] : va_W)) sz) := by
  refine vx_ofW (cc := cX0_requireArray) (maxL := 1) (ret := none) (by decide) rfl ?_
  intro p e s m args below meth c s₁ B hml hEx hv
  obtain ⟨rfl, hsz, hX9⟩ := hv
  have hx := B.exec
  have hb := B.bytes
  have hr := B.returns
  have hts := atoms_spec (ws := wsX0_requireArray) B.pre
  have hg : ∀ w ∈ gw, w.before _ s = true := fun w h => hts w (List.mem_cons_of_mem _ h)
  have hown : s.vm.findClass RX0 = some m.cls := findClass_of_methodNamed B.named
  have hlocks := B.notSynchronized
  subst hsz
  generalize hAe : va_A (([] : va_W)) s.heap.size = A at hX9 ⊢
  have hA : ∀ q : Nat, s.heap.size ≤ q → A q := fun q h => by rw [← hAe]; exact Or.inr h
  clear hAe
  refine w_in (fun H locs eH eL => ?_)
  have hS : va_S A s.heap H locs := by rw [eH, eL]; exact va_S.rf
  have hP : va_P (dC, dI) vwCl [] H := fun k q h => by simp at h
  have hD : va_D A ([] : va_W) := ⟨fun i j p q h => by simp at h, fun k q h => by simp at h⟩
  clear eH eL
  have hl := lv_entry ([.int p1]) (n := 1) (Nat.le_of_ble_eq_true rfl)
  rw [lg_entry_eq]
  generalize (lg_sl ([.int p1]) ++ List.replicate (1 - (lg_sl ([.int p1])).length) Slot.unset).toArray = ls at hl ⊢
  have hl : lv_has ls 1 [(0, .int p1)] := hl
  refine lv_iload_n hx hb dX0_requireArray_0 rfl (lv_at hl 0 rfl) ?_
  refine lv_if_lt (tgt := 10) hx hb dX0_requireArray_1 (by decide) (fun c_1 => ?_) (fun c_1 => ?_)
  · have hw : sl_requireArray p1 = .inr xIO := by unfold sl_requireArray; rw [if_pos c_1]; (try rfl)
    have he := Sum.inr.inj (hno.symm.trans hw)
    exact vx_throwS (own := RX0) (cls := "java/lang/IndexOutOfBoundsException") (names := ["java/lang/RuntimeException", "java/lang/Exception"]) hx hb hl9 hown (by decide +kernel) (by decide +kernel) (hg _ w_109) (hg _ w_6) (hX9.2.2.1 (152, "no such array") (by decide +kernel)) (hat_xIO_93 hg hX9) (by decide +kernel) hX9.1 hX9.2.1 hS (hl.1.trans hml.symm) dX0_requireArray_10 dX0_requireArray_13 dX0_requireArray_14 dX0_requireArray_16 dX0_requireArray_19 (fun x hx => (hEx x hx).elim) (Nat.le_of_ble_eq_true rfl) (Nat.le_of_ble_eq_true rfl) (Nat.le_of_ble_eq_true rfl) (Nat.le_of_ble_eq_true rfl) hlocks (fun t ha hsz hk => ⟨(), trivial, he.symm, Nat.le_trans hS.1 hsz, fun q h1 h2 => (hk q (Nat.lt_of_lt_of_le h1 hS.1)).trans (hS.2.1 q h1 h2)⟩) hS.2.2 (Nat.le_of_ble_eq_true rfl) (Nat.le_of_ble_eq_true rfl)
  · refine lv_iload_n hx hb dX0_requireArray_4 rfl (lv_at hl 0 rfl) ?_
    refine lv_bipush (v := 8) hx hb dX0_requireArray_5 (by decide) ?_
    refine lv_icmp_lt (tgt := 20) hx hb dX0_requireArray_7 (by decide) (fun c_7 => ?_) (fun c_7 => ?_)
    · exfalso
      have h9 := hno
      unfold sl_requireArray at h9
      rw [if_neg c_1, if_pos c_7] at h9
      first | (cases h9; done) | ((repeat' split at h9) <;> cases h9)
    · have hw : sl_requireArray p1 = .inr xIO := by unfold sl_requireArray; rw [if_neg c_1, if_neg c_7]; (try rfl)
      have he := Sum.inr.inj (hno.symm.trans hw)
      exact vx_throwS (own := RX0) (cls := "java/lang/IndexOutOfBoundsException") (names := ["java/lang/RuntimeException", "java/lang/Exception"]) hx hb hl9 hown (by decide +kernel) (by decide +kernel) (hg _ w_109) (hg _ w_6) (hX9.2.2.1 (152, "no such array") (by decide +kernel)) (hat_xIO_93 hg hX9) (by decide +kernel) hX9.1 hX9.2.1 hS (hl.1.trans hml.symm) dX0_requireArray_10 dX0_requireArray_13 dX0_requireArray_14 dX0_requireArray_16 dX0_requireArray_19 (fun x hx => (hEx x hx).elim) (Nat.le_of_ble_eq_true rfl) (Nat.le_of_ble_eq_true rfl) (Nat.le_of_ble_eq_true rfl) (Nat.le_of_ble_eq_true rfl) hlocks (fun t ha hsz hk => ⟨(), trivial, he.symm, Nat.le_trans hS.1 hsz, fun q h1 h2 => (hk q (Nat.lt_of_lt_of_le h1 hS.1)).trans (hS.2.1 q h1 h2)⟩) hS.2.2 (Nat.le_of_ble_eq_true rfl) (Nat.le_of_ble_eq_true rfl)
set_option maxHeartbeats 4000000 in
set_option maxRecDepth 100000 in
theorem cs_requireReadable (l : Launch) (dC : Nat → ClassId) (dI : Nat → Nat → Nat)   (p1 : Int32)  (hok : sl_requireReadable p1 = .inl ()) : Met l yX0_requireReadable wsX0_requireReadable ({ frames := 6, cells := 0, slots := 0, locals := 82 } : Room) (va_Pc [.int p1] (fun _ => True)) (va_Qv (fun (_ : Unit) => True) (fun (_ : Unit) t => True) ((fun _ => False))) 0 0 ((fun _ => False)) := by
  refine Met.ofW (cc := cX0_requireReadable) (maxL := 1) (ret := none) (by decide) rfl ?_
  intro p e s m args below meth c s₁ B hml hv
  obtain ⟨rfl, -⟩ := hv
  have hx := B.exec
  have hb := B.bytes
  have hr := B.returns
  have hts := atoms_spec (ws := wsX0_requireReadable) B.pre
  have hg : ∀ w ∈ gw, w.before _ s = true := fun w h => hts w (List.mem_cons_of_mem _ h)
  have hown : s.vm.findClass RX0 = some m.cls := findClass_of_methodNamed B.named
  have hlocks := B.notSynchronized
  refine w_in (fun H locs eH eL => ?_)
  have hS : va_S (fun _ => False) s.heap H locs := by rw [eH, eL]; exact va_S.rf
  have hP : va_P (dC, dI) vwCl [] H := fun k q h => by simp at h
  clear eH eL
  have hl := lv_entry ([.int p1]) (n := 1) (Nat.le_of_ble_eq_true rfl)
  rw [lg_entry_eq]
  generalize (lg_sl ([.int p1]) ++ List.replicate (1 - (lg_sl ([.int p1])).length) Slot.unset).toArray = ls at hl ⊢
  have hl : lv_has ls 1 [(0, .int p1)] := hl
  refine lv_iload_n hx hb dX0_requireReadable_0 rfl (lv_at hl 0 rfl) ?_
  refine lv_bipush (v := 28) hx hb dX0_requireReadable_1 (by decide) ?_
  refine lv_iushr (v := iu p1 28) hx hb dX0_requireReadable_3 rfl ?_
  refine lv_if_eq (tgt := 17) hx hb dX0_requireReadable_4 (by decide) (fun c_4 => ?_) (fun c_4 => ?_)
  · have hw : sl_requireReadable p1 = .inl () := by unfold sl_requireReadable; rw [if_pos c_4]; (try rfl)
    exact W.vret hx hb hr (fun t ht hW => ⟨⟨(), rfl, trivial, trivial⟩, hS.F ht⟩) hS.2.2 dX0_requireReadable_17
  · have hw : sl_requireReadable p1 = .inr xIO := by unfold sl_requireReadable; rw [if_neg c_4]; (try rfl)
    exact absurd (hw.symm.trans hok) (by intro h9; cases h9)
set_option maxHeartbeats 4000000 in
set_option maxRecDepth 100000 in
theorem cs_requireReadable_x (l : Launch) (hl9 : l.stackTraces = false) (dC : Nat → ClassId) (dI : Nat → Nat → Nat)  (sx : Nat → Nat) (sz : Nat)  (p1 : Int32) (E9 : String) (hno : sl_requireReadable p1 = .inr E9) : vx_Met l yX0_requireReadable wsX0_requireReadable ({ frames := 6, cells := 1, slots := 6, locals := 82 } : Room) (va_Pc [.int p1] (prx0 sz sx)) (va_Qv (fun (_ : Unit) => False) (fun (_ : Unit) _ => True) (va_A (([] : va_W)) sz)) (vx_X (fun _ : Unit => True) (fun E _ t => E = E9) (va_A (([] : va_W)) sz)) 1 6 (va_A (([] : va_W)) sz) := by
  refine vx_ofW (cc := cX0_requireReadable) (maxL := 1) (ret := none) (by decide) rfl ?_
  intro p e s m args below meth c s₁ B hml hEx hv
  obtain ⟨rfl, hsz, hX9⟩ := hv
  have hx := B.exec
  have hb := B.bytes
  have hr := B.returns
  have hts := atoms_spec (ws := wsX0_requireReadable) B.pre
  have hg : ∀ w ∈ gw, w.before _ s = true := fun w h => hts w (List.mem_cons_of_mem _ h)
  have hown : s.vm.findClass RX0 = some m.cls := findClass_of_methodNamed B.named
  have hlocks := B.notSynchronized
  subst hsz
  generalize hAe : va_A (([] : va_W)) s.heap.size = A at hX9 ⊢
  have hA : ∀ q : Nat, s.heap.size ≤ q → A q := fun q h => by rw [← hAe]; exact Or.inr h
  clear hAe
  refine w_in (fun H locs eH eL => ?_)
  have hS : va_S A s.heap H locs := by rw [eH, eL]; exact va_S.rf
  have hP : va_P (dC, dI) vwCl [] H := fun k q h => by simp at h
  have hD : va_D A ([] : va_W) := ⟨fun i j p q h => by simp at h, fun k q h => by simp at h⟩
  clear eH eL
  have hl := lv_entry ([.int p1]) (n := 1) (Nat.le_of_ble_eq_true rfl)
  rw [lg_entry_eq]
  generalize (lg_sl ([.int p1]) ++ List.replicate (1 - (lg_sl ([.int p1])).length) Slot.unset).toArray = ls at hl ⊢
  have hl : lv_has ls 1 [(0, .int p1)] := hl
  refine lv_iload_n hx hb dX0_requireReadable_0 rfl (lv_at hl 0 rfl) ?_
  refine lv_bipush (v := 28) hx hb dX0_requireReadable_1 (by decide) ?_
  refine lv_iushr (v := iu p1 28) hx hb dX0_requireReadable_3 rfl ?_
  refine lv_if_eq (tgt := 17) hx hb dX0_requireReadable_4 (by decide) (fun c_4 => ?_) (fun c_4 => ?_)
  · exfalso
    have h9 := hno
    unfold sl_requireReadable at h9
    rw [if_pos c_4] at h9
    first | (cases h9; done) | ((repeat' split at h9) <;> cases h9)
  · have hw : sl_requireReadable p1 = .inr xIO := by unfold sl_requireReadable; rw [if_neg c_4]; (try rfl)
    have he := Sum.inr.inj (hno.symm.trans hw)
    exact vx_throwS (own := RX0) (cls := "java/lang/IndexOutOfBoundsException") (names := ["java/lang/RuntimeException", "java/lang/Exception"]) hx hb hl9 hown (by decide +kernel) (by decide +kernel) (hg _ w_109) (hg _ w_6) (hX9.2.2.1 (154, "bits that are no place") (by decide +kernel)) (hat_xIO_93 hg hX9) (by decide +kernel) hX9.1 hX9.2.1 hS (hl.1.trans hml.symm) dX0_requireReadable_7 dX0_requireReadable_10 dX0_requireReadable_11 dX0_requireReadable_13 dX0_requireReadable_16 (fun x hx => (hEx x hx).elim) (Nat.le_of_ble_eq_true rfl) (Nat.le_of_ble_eq_true rfl) (Nat.le_of_ble_eq_true rfl) (Nat.le_of_ble_eq_true rfl) hlocks (fun t ha hsz hk => ⟨(), trivial, he.symm, Nat.le_trans hS.1 hsz, fun q h1 h2 => (hk q (Nat.lt_of_lt_of_le h1 hS.1)).trans (hS.2.1 q h1 h2)⟩) hS.2.2 (Nat.le_of_ble_eq_true rfl) (Nat.le_of_ble_eq_true rfl)
set_option maxHeartbeats 4000000 in
set_option maxRecDepth 100000 in
theorem cs_validitiesOf (l : Launch) (dC : Nat → ClassId) (dI : Nat → Nat → Nat)   (p1 : Int32) : Met l yX0_validitiesOf wsX0_validitiesOf ({ frames := 0, cells := 0, slots := 0, locals := 0 } : Room) (va_Pc [.int p1] (fun _ => True)) (va_Ql (fun (r : Int64) (_ : Unit) => r = sl_validitiesOf p1) (fun (_ : Unit) t => True) ((fun _ => False))) 0 0 ((fun _ => False)) := by
  refine Met.ofW (cc := cX0_validitiesOf) (maxL := 1) (ret := (some .long)) (by decide) rfl ?_
  intro p e s m args below meth c s₁ B hml hv
  obtain ⟨rfl, -⟩ := hv
  have hx := B.exec
  have hb := B.bytes
  have hr := B.returns
  have hts := atoms_spec (ws := wsX0_validitiesOf) B.pre
  have hg : ∀ w ∈ gw, w.before _ s = true := fun w h => hts w (List.mem_cons_of_mem _ h)
  have hown : s.vm.findClass RX0 = some m.cls := findClass_of_methodNamed B.named
  have hlocks := B.notSynchronized
  refine w_in (fun H locs eH eL => ?_)
  have hS : va_S (fun _ => False) s.heap H locs := by rw [eH, eL]; exact va_S.rf
  have hP : va_P (dC, dI) vwCl [] H := fun k q h => by simp at h
  clear eH eL
  have hl := lv_entry ([.int p1]) (n := 1) (Nat.le_of_ble_eq_true rfl)
  rw [lg_entry_eq]
  generalize (lg_sl ([.int p1]) ++ List.replicate (1 - (lg_sl ([.int p1])).length) Slot.unset).toArray = ls at hl ⊢
  have hl : lv_has ls 1 [(0, .int p1)] := hl
  refine lv_iload_n hx hb dX0_validitiesOf_0 rfl (lv_at hl 0 rfl) ?_
  refine lv_bipush (v := 16) hx hb dX0_validitiesOf_1 (by decide) ?_
  refine lv_iushr (v := iu p1 16) hx hb dX0_validitiesOf_3 rfl ?_
  refine lv_i2l hx hb dX0_validitiesOf_4 rfl ?_
  refine lv_bipush (v := 28) hx hb dX0_validitiesOf_5 (by decide) ?_
  refine lv_lshl (v := jl ((iu p1 16).toInt64) 28) hx hb dX0_validitiesOf_7 rfl ?_
  have hw : (jl ((iu p1 16).toInt64) 28) = sl_validitiesOf p1 := rfl
  exact W.lret (v := jl ((iu p1 16).toInt64) 28) hx hb hr (fun t ht hW => ⟨⟨(jl ((iu p1 16).toInt64) 28), (), rfl, hw, trivial⟩, hS.F ht⟩) hS.2.2 dX0_validitiesOf_8
set_option maxHeartbeats 4000000 in
set_option maxRecDepth 100000 in
theorem cs_reading (l : Launch) (dC : Nat → ClassId) (dI : Nat → Nat → Nat)   (p1 : Int32) : Met l yX0_reading wsX0_reading ({ frames := 1, cells := 0, slots := 0, locals := 20 } : Room) (va_Pc [.int p1] (fun _ => True)) (va_Ql (fun (r : Int64) (_ : Unit) => r = sl_reading p1) (fun (_ : Unit) t => True) ((fun _ => False))) 0 0 ((fun _ => False)) := by
  refine Met.ofW (cc := cX0_reading) (maxL := 1) (ret := (some .long)) (by decide) rfl ?_
  intro p e s m args below meth c s₁ B hml hv
  obtain ⟨rfl, -⟩ := hv
  have hx := B.exec
  have hb := B.bytes
  have hr := B.returns
  have hts := atoms_spec (ws := wsX0_reading) B.pre
  have hg : ∀ w ∈ gw, w.before _ s = true := fun w h => hts w (List.mem_cons_of_mem _ h)
  have hown : s.vm.findClass RX0 = some m.cls := findClass_of_methodNamed B.named
  have hlocks := B.notSynchronized
  refine w_in (fun H locs eH eL => ?_)
  have hS : va_S (fun _ => False) s.heap H locs := by rw [eH, eL]; exact va_S.rf
  have hP : va_P (dC, dI) vwCl [] H := fun k q h => by simp at h
  clear eH eL
  have hl := lv_entry ([.int p1]) (n := 1) (Nat.le_of_ble_eq_true rfl)
  rw [lg_entry_eq]
  generalize (lg_sl ([.int p1]) ++ List.replicate (1 - (lg_sl ([.int p1])).length) Slot.unset).toArray = ls at hl ⊢
  have hl : lv_has ls 1 [(0, .int p1)] := hl
  refine lv_iload_n hx hb dX0_reading_0 rfl (lv_at hl 0 rfl) ?_
  refine lv_i2l hx hb dX0_reading_1 rfl ?_
  refine lv_iload_n hx hb dX0_reading_2 rfl (lv_at hl 0 rfl) ?_
  refine va_calll (va_runS (As := [.int p1]) (rest := [.long p1.toInt64]) ⟨hx, hb, hml, hown, hg⟩ (cs_validitiesOf l dC dI p1) (va_cwS 1 hg (gi_S w_187 w_188 w_1 w_189) rfl rfl rfl (by decide +kernel) ⟨Nat.le_of_ble_eq_true rfl, Nat.le_of_ble_eq_true rfl⟩) ⟨(fun _ _ _ _ q => q), (fun _ _ _ => ⟨rfl, trivial⟩)⟩ rfl rfl hl.1 rfl (lv_room (Nat.le_of_ble_eq_true rfl)) dX0_reading_3 ⟨Nat.le_of_ble_eq_true rfl, Nat.le_of_ble_eq_true rfl⟩) hS (fun q _ h => False.elim h) (fun q h => False.elim h) (fun r_3 u t H1 locs ht hvm hw_3 hB hz1 hk1 hS => ?_)
  subst hw_3
  have hP := hP.kept (fun k q hq => hk1 q.1 (hP k q hq).lt (fun h => h))
  generalize H1 = H at hP hS ⊢
  refine lv_lor hx hb dX0_reading_6 ?_
  have hw : (p1.toInt64 ||| (sl_validitiesOf p1)) = sl_reading p1 := rfl
  exact W.lret (v := p1.toInt64 ||| (sl_validitiesOf p1)) hx hb hr (fun t ht hW => ⟨⟨(p1.toInt64 ||| (sl_validitiesOf p1)), (), rfl, hw, trivial⟩, hS.F ht⟩) hS.2.2 dX0_reading_7
set_option maxHeartbeats 4000000 in
set_option maxRecDepth 100000 in
theorem cs_readingAndWriting (l : Launch) (dC : Nat → ClassId) (dI : Nat → Nat → Nat)   (p1 p2 : Int32) : Met l yX0_readingAndWriting wsX0_readingAndWriting ({ frames := 2, cells := 0, slots := 0, locals := 40 } : Room) (va_Pc [.int p1, .int p2] (fun _ => True)) (va_Ql (fun (r : Int64) (_ : Unit) => r = sl_readingAndWriting p1 p2) (fun (_ : Unit) t => True) ((fun _ => False))) 0 0 ((fun _ => False)) := by
  refine Met.ofW (cc := cX0_readingAndWriting) (maxL := 2) (ret := (some .long)) (by decide) rfl ?_
  intro p e s m args below meth c s₁ B hml hv
  obtain ⟨rfl, -⟩ := hv
  have hx := B.exec
  have hb := B.bytes
  have hr := B.returns
  have hts := atoms_spec (ws := wsX0_readingAndWriting) B.pre
  have hg : ∀ w ∈ gw, w.before _ s = true := fun w h => hts w (List.mem_cons_of_mem _ h)
  have hown : s.vm.findClass RX0 = some m.cls := findClass_of_methodNamed B.named
  have hlocks := B.notSynchronized
  refine w_in (fun H locs eH eL => ?_)
  have hS : va_S (fun _ => False) s.heap H locs := by rw [eH, eL]; exact va_S.rf
  have hP : va_P (dC, dI) vwCl [] H := fun k q h => by simp at h
  clear eH eL
  have hl := lv_entry ([.int p1, .int p2]) (n := 2) (Nat.le_of_ble_eq_true rfl)
  rw [lg_entry_eq]
  generalize (lg_sl ([.int p1, .int p2]) ++ List.replicate (2 - (lg_sl ([.int p1, .int p2])).length) Slot.unset).toArray = ls at hl ⊢
  have hl : lv_has ls 2 [(0, .int p1), (1, .int p2)] := hl
  refine lv_iload_n hx hb dX0_readingAndWriting_0 rfl (lv_at hl 0 rfl) ?_
  refine va_calll (va_runS (As := [.int p1]) (rest := []) ⟨hx, hb, hml, hown, hg⟩ (cs_reading l dC dI p1) (va_cwS 1 hg (gi_S w_184 w_185 w_1 w_186) rfl rfl rfl (by decide +kernel) ⟨Nat.le_of_ble_eq_true rfl, Nat.le_of_ble_eq_true rfl⟩) ⟨(fun _ _ _ _ q => q), (fun _ _ _ => ⟨rfl, trivial⟩)⟩ rfl rfl hl.1 rfl (lv_room (Nat.le_of_ble_eq_true rfl)) dX0_readingAndWriting_1 ⟨Nat.le_of_ble_eq_true rfl, Nat.le_of_ble_eq_true rfl⟩) hS (fun q _ h => False.elim h) (fun q h => False.elim h) (fun r_1 u t H1 locs ht hvm hw_1 hB hz1 hk1 hS => ?_)
  subst hw_1
  have hP := hP.kept (fun k q hq => hk1 q.1 (hP k q hq).lt (fun h => h))
  generalize H1 = H at hP hS ⊢
  refine lv_iconst (v := 1) hx hb dX0_readingAndWriting_4 (by decide) ?_
  refine lv_iload_n hx hb dX0_readingAndWriting_5 rfl (lv_at hl 1 rfl) ?_
  refine lv_ishl hx hb dX0_readingAndWriting_6 ?_
  refine va_calll (va_runS (As := [.int (1 <<< (p2 &&& 31))]) (rest := [.long (sl_reading p1)]) ⟨hx, hb, hml, hown, hg⟩ (cs_validitiesOf l dC dI (1 <<< (p2 &&& 31))) (va_cwS 1 hg (gi_S w_187 w_188 w_1 w_189) rfl rfl rfl (by decide +kernel) ⟨Nat.le_of_ble_eq_true rfl, Nat.le_of_ble_eq_true rfl⟩) ⟨(fun _ _ _ _ q => q), (fun _ _ _ => ⟨rfl, trivial⟩)⟩ rfl rfl hl.1 rfl (lv_room (Nat.le_of_ble_eq_true rfl)) dX0_readingAndWriting_7 ⟨Nat.le_of_ble_eq_true rfl, Nat.le_of_ble_eq_true rfl⟩) hS (fun q _ h => False.elim h) (fun q h => False.elim h) (fun r_7 u t H1 locs ht hvm hw_7 hB hz1 hk1 hS => ?_)
  subst hw_7
  have hP := hP.kept (fun k q hq => hk1 q.1 (hP k q hq).lt (fun h => h))
  generalize H1 = H at hP hS ⊢
  refine lv_lor hx hb dX0_readingAndWriting_10 ?_
  have hw : ((sl_reading p1) ||| (sl_validitiesOf (1 <<< (p2 &&& 31)))) = sl_readingAndWriting p1 p2 := rfl
  exact W.lret (v := (sl_reading p1) ||| (sl_validitiesOf (1 <<< (p2 &&& 31)))) hx hb hr (fun t ht hW => ⟨⟨((sl_reading p1) ||| (sl_validitiesOf (1 <<< (p2 &&& 31)))), (), rfl, hw, trivial⟩, hS.F ht⟩) hS.2.2 dX0_readingAndWriting_11
set_option maxHeartbeats 4000000 in
set_option maxRecDepth 100000 in
theorem cs_costOf (l : Launch) (dC : Nat → ClassId) (dI : Nat → Nat → Nat)   (p1 : Int32) : Met l yX0_costOf wsX0_costOf ({ frames := 1, cells := 0, slots := 0, locals := 21 } : Room) (va_Pc [.int p1] (fun _ => True)) (va_Qi (fun (r : Int32) (_ : Unit) => r = sl_costOf p1) (fun (_ : Unit) t => True) ((fun _ => False))) 0 0 ((fun _ => False)) := by
  refine Met.ofW (cc := cX0_costOf) (maxL := 1) (ret := (some .int)) (by decide) rfl ?_
  intro p e s m args below meth c s₁ B hml hv
  obtain ⟨rfl, -⟩ := hv
  have hx := B.exec
  have hb := B.bytes
  have hr := B.returns
  have hts := atoms_spec (ws := wsX0_costOf) B.pre
  have hg : ∀ w ∈ gw, w.before _ s = true := fun w h => hts w (List.mem_cons_of_mem _ h)
  have hown : s.vm.findClass RX0 = some m.cls := findClass_of_methodNamed B.named
  have hlocks := B.notSynchronized
  refine w_in (fun H locs eH eL => ?_)
  have hS : va_S (fun _ => False) s.heap H locs := by rw [eH, eL]; exact va_S.rf
  have hP : va_P (dC, dI) vwCl [] H := fun k q h => by simp at h
  clear eH eL
  have hl := lv_entry ([.int p1]) (n := 1) (Nat.le_of_ble_eq_true rfl)
  rw [lg_entry_eq]
  generalize (lg_sl ([.int p1]) ++ List.replicate (1 - (lg_sl ([.int p1])).length) Slot.unset).toArray = ls at hl ⊢
  have hl : lv_has ls 1 [(0, .int p1)] := hl
  refine lv_iconst (v := 1) hx hb dX0_costOf_0 (by decide) ?_
  refine lv_iload_n hx hb dX0_costOf_1 rfl (lv_at hl 0 rfl) ?_
  refine va_calli (va_runS (As := [.int p1]) (rest := [.int 1]) ⟨hx, hb, hml, hown, hg⟩ (ci_count l dC dI p1) (va_cwS 1 hg (gi_S w_193 w_194 w_7 w_195) rfl rfl rfl (by decide +kernel) ⟨Nat.le_of_ble_eq_true rfl, Nat.le_of_ble_eq_true rfl⟩) ⟨(fun _ _ _ _ q => q), (fun _ _ _ => ⟨rfl, trivial⟩)⟩ rfl rfl hl.1 rfl (lv_room (Nat.le_of_ble_eq_true rfl)) dX0_costOf_2 ⟨Nat.le_of_ble_eq_true rfl, Nat.le_of_ble_eq_true rfl⟩) hS (fun q _ h => False.elim h) (fun q h => False.elim h) (fun r_2 u t H1 locs ht hvm hw_2 hB hz1 hk1 hS => ?_)
  subst hw_2
  have hP := hP.kept (fun k q hq => hk1 q.1 (hP k q hq).lt (fun h => h))
  generalize H1 = H at hP hS ⊢
  refine va_mmax hx hb (hml.trans hl.1.symm) hown (hg _ w_199) (hg _ w_200) (hg _ w_8) (hg _ w_201) (Nat.le_of_ble_eq_true rfl) (Nat.le_of_ble_eq_true rfl) (Nat.le_of_ble_eq_true rfl) (Nat.le_of_ble_eq_true rfl) dX0_costOf_5 ?_
  have hw : (if 1 < (ib_count p1) then (ib_count p1) else 1) = sl_costOf p1 := rfl
  exact W.iret (v := if 1 < (ib_count p1) then (ib_count p1) else 1) hx hb hr (fun t ht hW => ⟨⟨(if 1 < (ib_count p1) then (ib_count p1) else 1), (), rfl, hw, trivial⟩, hS.F ht⟩) hS.2.2 dX0_costOf_8
set_option maxHeartbeats 4000000 in
set_option maxRecDepth 100000 in
theorem cs_need (l : Launch) (dC : Nat → ClassId) (dI : Nat → Nat → Nat) (a : Nat → Nat) (k : Nat → ClassId) (sz : Nat) (rd wr : Nat → Int64) (ay ia mo wo so oi si mi wi : Nat → Int32) (ns nt nf np sl hs : Int32) (p1 p2 p3 : Int32) : Met l yX0_need wsX0_need ({ frames := 0, cells := 0, slots := 0, locals := 0 } : Room) (va_Pc [.ref (a 0), .int p1, .int p2, .int p3] (pr (dC, dI) (ws_sl a k rd wr ay ia mo wo so oi si mi wi ns nt nf np sl hs) (ty_sl k) sz)) (va_Qv (fun (u : (Nat → Int32) × (Nat → Int32)) => sl_need mo wo p1 p2 p3 = u) (fun (u : (Nat → Int32) × (Nat → Int32)) t => match u with | (mo', wo') => po (dC, dI) (ws_sl a k rd wr ay ia mo' wo' so oi si mi wi ns nt nf np sl hs) (ty_sl k) (va_A (ws_sl a k rd wr ay ia mo wo so oi si mi wi ns nt nf np sl hs) sz) t) (va_A (ws_sl a k rd wr ay ia mo wo so oi si mi wi ns nt nf np sl hs) sz)) 0 0 (va_A (ws_sl a k rd wr ay ia mo wo so oi si mi wi ns nt nf np sl hs) sz) := by
  refine Met.ofW (cc := cX0_need) (maxL := 4) (ret := none) (by decide) rfl ?_
  intro p e s m args below meth c s₁ B hml hv
  obtain ⟨rfl, hsz, hP, hK, hD0⟩ := hv
  have hx := B.exec
  have hb := B.bytes
  have hr := B.returns
  have hts := atoms_spec (ws := wsX0_need) B.pre
  have hg : ∀ w ∈ gw, w.before _ s = true := fun w h => hts w (List.mem_cons_of_mem _ h)
  have hown : s.vm.findClass RX0 = some m.cls := findClass_of_methodNamed B.named
  have hlocks := B.notSynchronized
  subst hsz
  have hD := hD0.self (sz := s.heap.size)
  generalize hAe : va_A (ws_sl a k rd wr ay ia mo wo so oi si mi wi ns nt nf np sl hs) s.heap.size = A at hD ⊢
  have hA : ∀ q : Nat, s.heap.size ≤ q → A q := fun q h => by rw [← hAe]; exact Or.inr h
  clear hAe
  refine w_in (fun H locs eH eL => ?_)
  have hS : va_S A s.heap H locs := by rw [eH, eL]; exact va_S.rf
  have hP : va_P (dC, dI) vwCl (ws_sl a k rd wr ay ia mo wo so oi si mi wi ns nt nf np sl hs) H := by rw [eH]; exact hP
  clear eH eL
  have hl := lv_entry ([.ref (a 0), .int p1, .int p2, .int p3]) (n := 4) (Nat.le_of_ble_eq_true rfl)
  rw [lg_entry_eq]
  generalize (lg_sl ([.ref (a 0), .int p1, .int p2, .int p3]) ++ List.replicate (4 - (lg_sl ([.ref (a 0), .int p1, .int p2, .int p3])).length) Slot.unset).toArray = ls at hl ⊢
  have hl : lv_has ls 4 [(0, .ref (a 0)), (1, .int p1), (2, .int p2), (3, .int p3)] := hl
  refine lv_iload_n hx hb dX0_need_0 rfl (lv_at hl 1 rfl) ?_
  refine lv_if_lt (tgt := 24) hx hb dX0_need_1 (by decide) (fun c_1 => ?_) (fun c_1 => ?_)
  · have hw : sl_need mo wo p1 p2 p3 = (mo, wo) := by unfold sl_need; rw [if_pos c_1]; (try rfl)
    exact W.vret hx hb hr (fun t ht hW => ⟨⟨(mo, wo), rfl, hw, ⟨by rw [ht]; exact hP, va_K.moved hW.alike hK, hD⟩⟩, hS.F ht⟩) hS.2.2 dX0_need_24
  · refine lv_iload_n hx hb dX0_need_4 rfl (lv_at hl 1 rfl) ?_
    refine lv_bipush (v := 48) hx hb dX0_need_5 (by decide) ?_
    refine lv_icmp_ge (tgt := 24) hx hb dX0_need_7 (by decide) (fun c_7 => ?_) (fun c_7 => ?_)
    · have hw : sl_need mo wo p1 p2 p3 = (mo, wo) := by unfold sl_need; rw [if_neg c_1, if_pos c_7]; (try rfl)
      exact W.vret hx hb hr (fun t ht hW => ⟨⟨(mo, wo), rfl, hw, ⟨by rw [ht]; exact hP, va_K.moved hW.alike hK, hD⟩⟩, hS.F ht⟩) hS.2.2 dX0_need_24
    · refine lv_aload_n hx hb dX0_need_10 rfl (lv_at hl 0 rfl) ?_
      refine va_get (D := (dC, dI)) (ci := 0) (v := .ref (a 5)) (C := RX0) (T := TX0) (N := 17) hx hb hg inX0 hown hK hP 0 rfl rfl 4 (by decide) (hg _ w_23) (fun _ h9 => h9) rfl dX0_need_11 ?_
      refine lv_iload_n hx hb dX0_need_14 rfl (lv_at hl 1 rfl) ?_
      refine lv_iload_n hx hb dX0_need_15 rfl (lv_at hl 2 rfl) ?_
      refine va_iast hx hb hK hP hD hS 5 4 rfl rfl (ix_le c_1 c_7 (by decide)) dX0_need_16 (fun H locs hP hD hS => ?_)
      have hP : va_P (dC, dI) vwCl (ws_sl a k rd wr ay ia (upd mo p1.toNatClampNeg p2) wo so oi si mi wi ns nt nf np sl hs) H := hP
      have hD : va_D A (ws_sl a k rd wr ay ia (upd mo p1.toNatClampNeg p2) wo so oi si mi wi ns nt nf np sl hs) := hD
      refine lv_aload_n hx hb dX0_need_17 rfl (lv_at hl 0 rfl) ?_
      refine va_get (D := (dC, dI)) (ci := 0) (v := .ref (a 6)) (C := RX0) (T := TX0) (N := 17) hx hb hg inX0 hown hK hP 0 rfl rfl 5 (by decide) (hg _ w_24) (fun _ h9 => h9) rfl dX0_need_18 ?_
      refine lv_iload_n hx hb dX0_need_21 rfl (lv_at hl 1 rfl) ?_
      refine lv_iload_n hx hb dX0_need_22 rfl (lv_at hl 3 rfl) ?_
      refine va_iast hx hb hK hP hD hS 6 5 rfl rfl (ix_le c_1 c_7 (by decide)) dX0_need_23 (fun H locs hP hD hS => ?_)
      have hP : va_P (dC, dI) vwCl (ws_sl a k rd wr ay ia (upd mo p1.toNatClampNeg p2) (upd wo p1.toNatClampNeg p3) so oi si mi wi ns nt nf np sl hs) H := hP
      have hD : va_D A (ws_sl a k rd wr ay ia (upd mo p1.toNatClampNeg p2) (upd wo p1.toNatClampNeg p3) so oi si mi wi ns nt nf np sl hs) := hD
      have hw : sl_need mo wo p1 p2 p3 = (upd mo p1.toNatClampNeg p2, upd wo p1.toNatClampNeg p3) := by unfold sl_need; rw [if_neg c_1, if_neg c_7]; (try rfl)
      exact W.vret hx hb hr (fun t ht hW => ⟨⟨(upd mo p1.toNatClampNeg p2, upd wo p1.toNatClampNeg p3), rfl, hw, ⟨by rw [ht]; exact hP, va_K.moved hW.alike hK, hD⟩⟩, hS.F ht⟩) hS.2.2 dX0_need_24
set_option maxHeartbeats 4000000 in
set_option maxRecDepth 100000 in
theorem cs_innermostIf (l : Launch) (dC : Nat → ClassId) (dI : Nat → Nat → Nat) (a : Nat → Nat) (k : Nat → ClassId) (sz : Nat) (rd wr : Nat → Int64) (ay ia mo wo so oi si mi wi : Nat → Int32) (ns nt nf np sl hs : Int32)  : Met l yX0_innermostIf wsX0_innermostIf ({ frames := 0, cells := 0, slots := 0, locals := 0 } : Room) (va_Pc [.ref (a 0)] (pr (dC, dI) (ws_sl a k rd wr ay ia mo wo so oi si mi wi ns nt nf np sl hs) (ty_sl k) sz)) (va_Qi (fun (r : Int32) (_ : Unit) => r = sl_innermostIf oi nf) (fun (_ : Unit) t => po (dC, dI) (ws_sl a k rd wr ay ia mo wo so oi si mi wi ns nt nf np sl hs) (ty_sl k) (va_A (ws_sl a k rd wr ay ia mo wo so oi si mi wi ns nt nf np sl hs) sz) t) (va_A (ws_sl a k rd wr ay ia mo wo so oi si mi wi ns nt nf np sl hs) sz)) 0 0 (va_A (ws_sl a k rd wr ay ia mo wo so oi si mi wi ns nt nf np sl hs) sz) := by
  refine Met.ofW (cc := cX0_innermostIf) (maxL := 1) (ret := (some .int)) (by decide) rfl ?_
  intro p e s m args below meth c s₁ B hml hv
  obtain ⟨rfl, hsz, hP, hK, hD0⟩ := hv
  have hx := B.exec
  have hb := B.bytes
  have hr := B.returns
  have hts := atoms_spec (ws := wsX0_innermostIf) B.pre
  have hg : ∀ w ∈ gw, w.before _ s = true := fun w h => hts w (List.mem_cons_of_mem _ h)
  have hown : s.vm.findClass RX0 = some m.cls := findClass_of_methodNamed B.named
  have hlocks := B.notSynchronized
  subst hsz
  have hD := hD0.self (sz := s.heap.size)
  generalize hAe : va_A (ws_sl a k rd wr ay ia mo wo so oi si mi wi ns nt nf np sl hs) s.heap.size = A at hD ⊢
  have hA : ∀ q : Nat, s.heap.size ≤ q → A q := fun q h => by rw [← hAe]; exact Or.inr h
  clear hAe
  refine w_in (fun H locs eH eL => ?_)
  have hS : va_S A s.heap H locs := by rw [eH, eL]; exact va_S.rf
  have hP : va_P (dC, dI) vwCl (ws_sl a k rd wr ay ia mo wo so oi si mi wi ns nt nf np sl hs) H := by rw [eH]; exact hP
  clear eH eL
  have hl := lv_entry ([.ref (a 0)]) (n := 1) (Nat.le_of_ble_eq_true rfl)
  rw [lg_entry_eq]
  generalize (lg_sl ([.ref (a 0)]) ++ List.replicate (1 - (lg_sl ([.ref (a 0)])).length) Slot.unset).toArray = ls at hl ⊢
  have hl : lv_has ls 1 [(0, .ref (a 0))] := hl
  refine lv_aload_n hx hb dX0_innermostIf_0 rfl (lv_at hl 0 rfl) ?_
  refine va_get (D := (dC, dI)) (ci := 0) (v := .int nf) (C := RX0) (T := TX0) (N := 17) hx hb hg inX0 hown hK hP 0 rfl rfl 13 (by decide) (hg _ w_32) (fun _ h9 => h9) rfl dX0_innermostIf_1 ?_
  refine lv_iconst (v := 1) hx hb dX0_innermostIf_4 (by decide) ?_
  refine lv_icmp_lt (tgt := 31) hx hb dX0_innermostIf_5 (by decide) (fun c_5 => ?_) (fun c_5 => ?_)
  · refine lv_iconst (v := (-1)) hx hb dX0_innermostIf_31 (by decide) ?_
    have hw : (-1) = sl_innermostIf oi nf := by unfold sl_innermostIf; rw [if_pos c_5]; (try rfl)
    exact W.iret (v := (-1)) hx hb hr (fun t ht hW => ⟨⟨(-1), (), rfl, hw, ⟨by rw [ht]; exact hP, va_K.moved hW.alike hK, hD⟩⟩, hS.F ht⟩) hS.2.2 dX0_innermostIf_32
  · refine lv_aload_n hx hb dX0_innermostIf_8 rfl (lv_at hl 0 rfl) ?_
    refine va_get (D := (dC, dI)) (ci := 0) (v := .int nf) (C := RX0) (T := TX0) (N := 17) hx hb hg inX0 hown hK hP 0 rfl rfl 13 (by decide) (hg _ w_32) (fun _ h9 => h9) rfl dX0_innermostIf_9 ?_
    refine lv_bipush (v := 8) hx hb dX0_innermostIf_12 (by decide) ?_
    refine lv_icmp_gt (tgt := 31) hx hb dX0_innermostIf_14 (by decide) (fun c_14 => ?_) (fun c_14 => ?_)
    · refine lv_iconst (v := (-1)) hx hb dX0_innermostIf_31 (by decide) ?_
      have hw : (-1) = sl_innermostIf oi nf := by unfold sl_innermostIf; rw [if_neg c_5, if_pos c_14]; (try rfl)
      exact W.iret (v := (-1)) hx hb hr (fun t ht hW => ⟨⟨(-1), (), rfl, hw, ⟨by rw [ht]; exact hP, va_K.moved hW.alike hK, hD⟩⟩, hS.F ht⟩) hS.2.2 dX0_innermostIf_32
    · refine lv_aload_n hx hb dX0_innermostIf_17 rfl (lv_at hl 0 rfl) ?_
      refine va_get (D := (dC, dI)) (ci := 0) (v := .ref (a 8)) (C := RX0) (T := TX0) (N := 17) hx hb hg inX0 hown hK hP 0 rfl rfl 7 (by decide) (hg _ w_26) (fun _ h9 => h9) rfl dX0_innermostIf_18 ?_
      refine lv_aload_n hx hb dX0_innermostIf_21 rfl (lv_at hl 0 rfl) ?_
      refine va_get (D := (dC, dI)) (ci := 0) (v := .int nf) (C := RX0) (T := TX0) (N := 17) hx hb hg inX0 hown hK hP 0 rfl rfl 13 (by decide) (hg _ w_32) (fun _ h9 => h9) rfl dX0_innermostIf_22 ?_
      refine lv_iconst (v := 1) hx hb dX0_innermostIf_25 (by decide) ?_
      refine lv_isub hx hb dX0_innermostIf_26 ?_
      refine va_iald hx hb hK hP 8 7 rfl rfl (ix_m1 c_5 c_14) dX0_innermostIf_27 ?_
      refine lv_goto (tgt := 32) hx hb dX0_innermostIf_28 (by decide) ?_
      have hw : (oi (nf - 1).toNatClampNeg) = sl_innermostIf oi nf := by unfold sl_innermostIf; rw [if_neg c_5, if_neg c_14]; (try rfl)
      exact W.iret (v := oi (nf - 1).toNatClampNeg) hx hb hr (fun t ht hW => ⟨⟨(oi (nf - 1).toNatClampNeg), (), rfl, hw, ⟨by rw [ht]; exact hP, va_K.moved hW.alike hK, hD⟩⟩, hS.F ht⟩) hS.2.2 dX0_innermostIf_32
set_option maxHeartbeats 4000000 in
set_option maxRecDepth 100000 in
theorem cs_forgetStages (l : Launch) (dC : Nat → ClassId) (dI : Nat → Nat → Nat) (a : Nat → Nat) (k : Nat → ClassId) (sz : Nat) (rd wr : Nat → Int64) (ay ia mo wo so oi si mi wi : Nat → Int32) (ns nt nf np sl hs : Int32)  : Met l yX0_forgetStages wsX0_forgetStages ({ frames := 0, cells := 0, slots := 0, locals := 0 } : Room) (va_Pc [.ref (a 0)] (pr (dC, dI) (ws_sl a k rd wr ay ia mo wo so oi si mi wi ns nt nf np sl hs) (ty_sl k) sz)) (va_Qv (fun (u : Int32 × Int32) => sl_forgetStages = u) (fun (u : Int32 × Int32) t => match u with | (sl', hs') => po (dC, dI) (ws_sl a k rd wr ay ia mo wo so oi si mi wi ns nt nf np sl' hs') (ty_sl k) (va_A (ws_sl a k rd wr ay ia mo wo so oi si mi wi ns nt nf np sl hs) sz) t) (va_A (ws_sl a k rd wr ay ia mo wo so oi si mi wi ns nt nf np sl hs) sz)) 0 0 (va_A (ws_sl a k rd wr ay ia mo wo so oi si mi wi ns nt nf np sl hs) sz) := by
  refine Met.ofW (cc := cX0_forgetStages) (maxL := 1) (ret := none) (by decide) rfl ?_
  intro p e s m args below meth c s₁ B hml hv
  obtain ⟨rfl, hsz, hP, hK, hD0⟩ := hv
  have hx := B.exec
  have hb := B.bytes
  have hr := B.returns
  have hts := atoms_spec (ws := wsX0_forgetStages) B.pre
  have hg : ∀ w ∈ gw, w.before _ s = true := fun w h => hts w (List.mem_cons_of_mem _ h)
  have hown : s.vm.findClass RX0 = some m.cls := findClass_of_methodNamed B.named
  have hlocks := B.notSynchronized
  subst hsz
  have hD := hD0.self (sz := s.heap.size)
  generalize hAe : va_A (ws_sl a k rd wr ay ia mo wo so oi si mi wi ns nt nf np sl hs) s.heap.size = A at hD ⊢
  have hA : ∀ q : Nat, s.heap.size ≤ q → A q := fun q h => by rw [← hAe]; exact Or.inr h
  clear hAe
  refine w_in (fun H locs eH eL => ?_)
  have hS : va_S A s.heap H locs := by rw [eH, eL]; exact va_S.rf
  have hP : va_P (dC, dI) vwCl (ws_sl a k rd wr ay ia mo wo so oi si mi wi ns nt nf np sl hs) H := by rw [eH]; exact hP
  clear eH eL
  have hl := lv_entry ([.ref (a 0)]) (n := 1) (Nat.le_of_ble_eq_true rfl)
  rw [lg_entry_eq]
  generalize (lg_sl ([.ref (a 0)]) ++ List.replicate (1 - (lg_sl ([.ref (a 0)])).length) Slot.unset).toArray = ls at hl ⊢
  have hl : lv_has ls 1 [(0, .ref (a 0))] := hl
  refine lv_aload_n hx hb dX0_forgetStages_0 rfl (lv_at hl 0 rfl) ?_
  refine lv_iconst (v := 0) hx hb dX0_forgetStages_1 (by decide) ?_
  refine va_put (D := (dC, dI)) (ci := 0) (v := .int 0) (ty := .int) (C := RX0) (T := TX0) (N := 17) hx hb hg inX0 tyX0 tyX0_ok nmX0 hown hK hP hD hS 0 rfl rfl 15 (by decide) (hg _ w_34) (fun _ h9 => h9) rfl (by decide +kernel) rfl rfl (Nat.le_of_ble_eq_true rfl) dX0_forgetStages_2 (fun H locs hP hD hS => ?_)
  have hP : va_P (dC, dI) vwCl (ws_sl a k rd wr ay ia mo wo so oi si mi wi ns nt nf np 0 hs) H := hP
  have hD : va_D A (ws_sl a k rd wr ay ia mo wo so oi si mi wi ns nt nf np 0 hs) := hD
  refine lv_aload_n hx hb dX0_forgetStages_5 rfl (lv_at hl 0 rfl) ?_
  refine lv_iconst (v := (-1)) hx hb dX0_forgetStages_6 (by decide) ?_
  refine va_put (D := (dC, dI)) (ci := 0) (v := .int (-1)) (ty := .int) (C := RX0) (T := TX0) (N := 17) hx hb hg inX0 tyX0 tyX0_ok nmX0 hown hK hP hD hS 0 rfl rfl 16 (by decide) (hg _ w_35) (fun _ h9 => h9) rfl (by decide +kernel) rfl rfl (Nat.le_of_ble_eq_true rfl) dX0_forgetStages_7 (fun H locs hP hD hS => ?_)
  have hP : va_P (dC, dI) vwCl (ws_sl a k rd wr ay ia mo wo so oi si mi wi ns nt nf np 0 (-1)) H := hP
  have hD : va_D A (ws_sl a k rd wr ay ia mo wo so oi si mi wi ns nt nf np 0 (-1)) := hD
  have hw : sl_forgetStages = (0, (-1)) := rfl
  exact W.vret hx hb hr (fun t ht hW => ⟨⟨(0, (-1)), rfl, hw, ⟨by rw [ht]; exact hP, va_K.moved hW.alike hK, hD⟩⟩, hS.F ht⟩) hS.2.2 dX0_forgetStages_10
set_option maxHeartbeats 4000000 in
set_option maxRecDepth 100000 in
theorem cs_emptyStages_L2 {p : Program} {l : Launch} {e : Env} {s : State} {m : MethodId} {args : Array Value} {below : List Frame} {meth : Method} {c : Code} {Q : State → Prop} {dC : Nat → ClassId} {dI : Nat → Nat → Nat} {a : Nat → Nat} {k : Nat → ClassId} {A : Nat → Prop} (rd wr : Nat → Int64) (ay ia mo wo so oi si mi wi : Nat → Int32) (ns nt nf np sl hs : Int32)  (hx : p.tables.exec = Jvm.exec) (hb : c.code = cX0_emptyStages) (hml : c.maxLocals = 2) (hown : s.vm.findClass RX0 = some m.cls) (hg : ∀ w ∈ gw, w.before args s = true) (hA : ∀ q : Nat, s.heap.size ≤ q → A q) (hK : va_K (dC, dI) vwCl (ty_sl k) s) :
    ∀ (n : Nat) (x1 : Int32) (si mi wi : Nat → Int32) (H : Heap) (locs : List Loc) (ls : Array Slot), (cnt 12 x1 n) → va_P (dC, dI) vwCl (ws_sl a k rd wr ay ia mo wo so oi si mi wi ns nt nf np sl hs) H → va_D A (ws_sl a k rd wr ay ia mo wo so oi si mi wi ns nt nf np sl hs) → va_S A s.heap H locs → lv_has ls 2 [(0, .ref (a 0)), (1, .int x1)] →
      (∀ (si_o2 mi_o2 wi_o2 : Nat → Int32), sl_emptyStages_L2 n x1 si mi wi = (si_o2, mi_o2, wi_o2) → ∀ (H : Heap) (locs : List Loc) (ls : Array Slot), va_P (dC, dI) vwCl (ws_sl a k rd wr ay ia mo wo so oi si_o2 mi_o2 wi_o2 ns nt nf np sl hs) H → va_D A (ws_sl a k rd wr ay ia mo wo so oi si_o2 mi_o2 wi_o2 ns nt nf np sl hs) → va_S A s.heap H locs → lv_has ls 2 [(0, .ref (a 0))] → W p l e (headSpec wsX0_emptyStages ({ frames := 0, cells := 0, slots := 0, locals := 0 } : Room)).room s m args below meth c H locs 0 0 Q (F0 m 35 ls [])) →
      W p l e (headSpec wsX0_emptyStages ({ frames := 0, cells := 0, slots := 0, locals := 0 } : Room)).room s m args below meth c H locs 0 0 Q (F0 m 2 ls []) := by
  intro n
  induction n with
  | zero =>
    intro x1 si mi wi H locs ls hinv
    exact absurd hinv (cnt_z)
  | succ n ih =>
    intro x1 si mi wi H locs ls hinv hP hD hS hl k0
    refine lv_iload_n hx hb dX0_emptyStages_2 rfl (lv_at hl 1 rfl) ?_
    refine lv_bipush (v := 12) hx hb dX0_emptyStages_3 (by decide) ?_
    refine lv_icmp_ge (tgt := 35) hx hb dX0_emptyStages_5 (by decide) (fun c_5 => ?_) (fun c_5 => ?_)
    · exact k0 si mi wi (by rw [sl_emptyStages_L2_s]; rw [if_pos c_5]; (try rfl)) H locs ls hP hD hS (lv_sub hl [0] rfl)
    · refine lv_aload_n hx hb dX0_emptyStages_8 rfl (lv_at hl 0 rfl) ?_
      refine va_get (D := (dC, dI)) (ci := 0) (v := .ref (a 9)) (C := RX0) (T := TX0) (N := 17) hx hb hg inX0 hown hK hP 0 rfl rfl 8 (by decide) (hg _ w_27) (fun _ h9 => h9) rfl dX0_emptyStages_9 ?_
      refine lv_iload_n hx hb dX0_emptyStages_12 rfl (lv_at hl 1 rfl) ?_
      refine lv_iconst (v := 0) hx hb dX0_emptyStages_13 (by decide) ?_
      refine va_iast hx hb hK hP hD hS 9 8 rfl rfl (cnt_in hinv c_5 (by decide)) dX0_emptyStages_14 (fun H locs hP hD hS => ?_)
      have hP : va_P (dC, dI) vwCl (ws_sl a k rd wr ay ia mo wo so oi (upd si x1.toNatClampNeg 0) mi wi ns nt nf np sl hs) H := hP
      have hD : va_D A (ws_sl a k rd wr ay ia mo wo so oi (upd si x1.toNatClampNeg 0) mi wi ns nt nf np sl hs) := hD
      refine lv_aload_n hx hb dX0_emptyStages_15 rfl (lv_at hl 0 rfl) ?_
      refine va_get (D := (dC, dI)) (ci := 0) (v := .ref (a 10)) (C := RX0) (T := TX0) (N := 17) hx hb hg inX0 hown hK hP 0 rfl rfl 9 (by decide) (hg _ w_28) (fun _ h9 => h9) rfl dX0_emptyStages_16 ?_
      refine lv_iload_n hx hb dX0_emptyStages_19 rfl (lv_at hl 1 rfl) ?_
      refine lv_iconst (v := 0) hx hb dX0_emptyStages_20 (by decide) ?_
      refine va_iast hx hb hK hP hD hS 10 9 rfl rfl (cnt_in hinv c_5 (by decide)) dX0_emptyStages_21 (fun H locs hP hD hS => ?_)
      have hP : va_P (dC, dI) vwCl (ws_sl a k rd wr ay ia mo wo so oi (upd si x1.toNatClampNeg 0) (upd mi x1.toNatClampNeg 0) wi ns nt nf np sl hs) H := hP
      have hD : va_D A (ws_sl a k rd wr ay ia mo wo so oi (upd si x1.toNatClampNeg 0) (upd mi x1.toNatClampNeg 0) wi ns nt nf np sl hs) := hD
      refine lv_aload_n hx hb dX0_emptyStages_22 rfl (lv_at hl 0 rfl) ?_
      refine va_get (D := (dC, dI)) (ci := 0) (v := .ref (a 11)) (C := RX0) (T := TX0) (N := 17) hx hb hg inX0 hown hK hP 0 rfl rfl 10 (by decide) (hg _ w_29) (fun _ h9 => h9) rfl dX0_emptyStages_23 ?_
      refine lv_iload_n hx hb dX0_emptyStages_26 rfl (lv_at hl 1 rfl) ?_
      refine lv_iconst (v := 0) hx hb dX0_emptyStages_27 (by decide) ?_
      refine va_iast hx hb hK hP hD hS 11 10 rfl rfl (cnt_in hinv c_5 (by decide)) dX0_emptyStages_28 (fun H locs hP hD hS => ?_)
      have hP : va_P (dC, dI) vwCl (ws_sl a k rd wr ay ia mo wo so oi (upd si x1.toNatClampNeg 0) (upd mi x1.toNatClampNeg 0) (upd wi x1.toNatClampNeg 0) ns nt nf np sl hs) H := hP
      have hD : va_D A (ws_sl a k rd wr ay ia mo wo so oi (upd si x1.toNatClampNeg 0) (upd mi x1.toNatClampNeg 0) (upd wi x1.toNatClampNeg 0) ns nt nf np sl hs) := hD
      refine lv_iinc (v := x1 + 1) (lv' := [(1, .int (x1 + 1)), (0, .ref (a 0))]) hx hb dX0_emptyStages_29 hl (k := 1) rfl rfl (by decide) rfl (fun ls hl => ?_)
      refine lv_goto (tgt := 2) hx hb dX0_emptyStages_32 (by decide) ?_
      exact ih (x1 + 1) (upd si x1.toNatClampNeg 0) (upd mi x1.toNatClampNeg 0) (upd wi x1.toNatClampNeg 0) H locs ls (cnt_s hinv c_5) hP hD hS (lv_sub hl [1, 0] rfl) (fun si_o2 mi_o2 wi_o2 hw H locs ls hP hD hS hl => k0 si_o2 mi_o2 wi_o2 (by rw [sl_emptyStages_L2_s]; rw [if_neg c_5]; exact hw) H locs ls hP hD hS hl)
set_option maxHeartbeats 4000000 in
set_option maxRecDepth 100000 in
theorem cs_emptyStages (l : Launch) (dC : Nat → ClassId) (dI : Nat → Nat → Nat) (a : Nat → Nat) (k : Nat → ClassId) (sz : Nat) (rd wr : Nat → Int64) (ay ia mo wo so oi si mi wi : Nat → Int32) (ns nt nf np sl hs : Int32)  : Met l yX0_emptyStages wsX0_emptyStages ({ frames := 0, cells := 0, slots := 0, locals := 0 } : Room) (va_Pc [.ref (a 0)] (pr (dC, dI) (ws_sl a k rd wr ay ia mo wo so oi si mi wi ns nt nf np sl hs) (ty_sl k) sz)) (va_Qv (fun (u : (Nat → Int32) × (Nat → Int32) × (Nat → Int32)) => sl_emptyStages si mi wi = u) (fun (u : (Nat → Int32) × (Nat → Int32) × (Nat → Int32)) t => match u with | (si', mi', wi') => po (dC, dI) (ws_sl a k rd wr ay ia mo wo so oi si' mi' wi' ns nt nf np sl hs) (ty_sl k) (va_A (ws_sl a k rd wr ay ia mo wo so oi si mi wi ns nt nf np sl hs) sz) t) (va_A (ws_sl a k rd wr ay ia mo wo so oi si mi wi ns nt nf np sl hs) sz)) 0 0 (va_A (ws_sl a k rd wr ay ia mo wo so oi si mi wi ns nt nf np sl hs) sz) := by
  refine Met.ofW (cc := cX0_emptyStages) (maxL := 2) (ret := none) (by decide) rfl ?_
  intro p e s m args below meth c s₁ B hml hv
  obtain ⟨rfl, hsz, hP, hK, hD0⟩ := hv
  have hx := B.exec
  have hb := B.bytes
  have hr := B.returns
  have hts := atoms_spec (ws := wsX0_emptyStages) B.pre
  have hg : ∀ w ∈ gw, w.before _ s = true := fun w h => hts w (List.mem_cons_of_mem _ h)
  have hown : s.vm.findClass RX0 = some m.cls := findClass_of_methodNamed B.named
  have hlocks := B.notSynchronized
  subst hsz
  have hD := hD0.self (sz := s.heap.size)
  generalize hAe : va_A (ws_sl a k rd wr ay ia mo wo so oi si mi wi ns nt nf np sl hs) s.heap.size = A at hD ⊢
  have hA : ∀ q : Nat, s.heap.size ≤ q → A q := fun q h => by rw [← hAe]; exact Or.inr h
  clear hAe
  refine w_in (fun H locs eH eL => ?_)
  have hS : va_S A s.heap H locs := by rw [eH, eL]; exact va_S.rf
  have hP : va_P (dC, dI) vwCl (ws_sl a k rd wr ay ia mo wo so oi si mi wi ns nt nf np sl hs) H := by rw [eH]; exact hP
  clear eH eL
  have hl := lv_entry ([.ref (a 0)]) (n := 2) (Nat.le_of_ble_eq_true rfl)
  rw [lg_entry_eq]
  generalize (lg_sl ([.ref (a 0)]) ++ List.replicate (2 - (lg_sl ([.ref (a 0)])).length) Slot.unset).toArray = ls at hl ⊢
  have hl : lv_has ls 2 [(0, .ref (a 0))] := hl
  refine lv_iconst (v := 0) hx hb dX0_emptyStages_0 (by decide) ?_
  refine lv_istore_n (lv' := [(1, .int 0), (0, .ref (a 0))]) hx hb dX0_emptyStages_1 rfl hl (by decide) rfl (fun ls hl => ?_)
  refine cs_emptyStages_L2 rd wr ay ia mo wo so oi si mi wi ns nt nf np sl hs hx hb hml hown hg hA hK 13 0 si mi wi H locs ls (cnt_0 (by decide) (by decide)) hP hD hS (lv_sub hl [1, 0] rfl) (fun si_o2 mi_o2 wi_o2 hw_2 H locs ls hP hD hS hl => ?_)
  have hw : sl_emptyStages si mi wi = (si_o2, mi_o2, wi_o2) := by unfold sl_emptyStages; rw [hw_2]; (try dsimp only); (try rfl)
  exact W.vret hx hb hr (fun t ht hW => ⟨⟨(si_o2, mi_o2, wi_o2), rfl, hw, ⟨by rw [ht]; exact hP, va_K.moved hW.alike hK, hD⟩⟩, hS.F ht⟩) hS.2.2 dX0_emptyStages_35
