set_option maxHeartbeats 4000000 in
set_option maxRecDepth 100000 in
theorem cm_apply (l : Launch) (dC : Nat → ClassId) (dI : Nat → Nat → Nat) (b : Nat → Nat) (h : Nat → ClassId) (sz : Nat) (uR uW uA uM uX uF uI uS : Nat → Int32) (ut us ur ub uo ui ul uk uh : Int32) (p1 p2 p3 : Int32) (hu : 0 ≤ us.toInt ∧ us.toInt ≤ 48) : Met l yX1_apply wsX1_apply ({ frames := 1, cells := 0, slots := 0, locals := 23 } : Room) (va_Pc [.ref (b 0), .int p1, .int p2, .int p3] (pr (dC, dI) (ws_sm b h uR uW uA uM uX uF uI uS ut us ur ub uo ui ul uk uh) (ty_sm h) sz)) (va_Qi (fun (r : Int32) (u : (Nat → Int32) × (Nat → Int32) × (Nat → Int32) × (Nat → Int32) × (Nat → Int32) × (Nat → Int32) × (Nat → Int32) × Int32 × Int32 × Int32 × Int32 × Int32 × Int32) => sm_apply uR uW uA uM uX uF uI us ur ub ui ul uh p1 p2 p3 = (r, u)) (fun (u : (Nat → Int32) × (Nat → Int32) × (Nat → Int32) × (Nat → Int32) × (Nat → Int32) × (Nat → Int32) × (Nat → Int32) × Int32 × Int32 × Int32 × Int32 × Int32 × Int32) t => match u with | (uR', uW', uA', uM', uX', uF', uI', ut', us', ur', ub', ul', uh') => po (dC, dI) (ws_sm b h uR' uW' uA' uM' uX' uF' uI' uS ut' us' ur' ub' uo ui ul' uk uh') (ty_sm h) (va_A (ws_sm b h uR uW uA uM uX uF uI uS ut us ur ub uo ui ul uk uh) sz) t) (va_A (ws_sm b h uR uW uA uM uX uF uI uS ut us ur ub uo ui ul uk uh) sz)) 0 0 (va_A (ws_sm b h uR uW uA uM uX uF uI uS ut us ur ub uo ui ul uk uh) sz) := by
  refine Met.ofW (cc := cX1_apply) (maxL := 7) (ret := (some .int)) (by decide) rfl ?_
  intro p e s m args below meth c s₁ B hml hv
  obtain ⟨rfl, hsz, hP, hK, hD0⟩ := hv
  have hx := B.exec
  have hb := B.bytes
  have hr := B.returns
  have hts := atoms_spec (ws := wsX1_apply) B.pre
  have hg : ∀ w ∈ gw, w.before _ s = true := fun w h => hts w (List.mem_cons_of_mem _ h)
  have hown : s.vm.findClass RX1 = some m.cls := findClass_of_methodNamed B.named
  have hlocks := B.notSynchronized
  subst hsz
  have hD := hD0.self (sz := s.heap.size)
  generalize hAe : va_A (ws_sm b h uR uW uA uM uX uF uI uS ut us ur ub uo ui ul uk uh) s.heap.size = A at hD ⊢
  have hA : ∀ q : Nat, s.heap.size ≤ q → A q := fun q h => by rw [← hAe]; exact Or.inr h
  clear hAe
  refine w_in (fun H locs eH eL => ?_)
  have hS : va_S A s.heap H locs := by rw [eH, eL]; exact va_S.rf
  have hP : va_P (dC, dI) vwCl (ws_sm b h uR uW uA uM uX uF uI uS ut us ur ub uo ui ul uk uh) H := by rw [eH]; exact hP
  clear eH eL
  have hl := lv_entry ([.ref (b 0), .int p1, .int p2, .int p3]) (n := 7) (Nat.le_of_ble_eq_true rfl)
  rw [lg_entry_eq]
  generalize (lg_sl ([.ref (b 0), .int p1, .int p2, .int p3]) ++ List.replicate (7 - (lg_sl ([.ref (b 0), .int p1, .int p2, .int p3])).length) Slot.unset).toArray = ls at hl ⊢
  have hl : lv_has ls 7 [(0, .ref (b 0)), (1, .int p1), (2, .int p2), (3, .int p3)] := hl
  refine lv_iload_n hx hb dX1_apply_0 rfl (lv_at hl 1 rfl) ?_
  refine va_calli (va_runS (As := [.int p1]) (rest := []) ⟨hx, hb, hml, hown, hg⟩ (cm_ones l dC dI p1) (va_cwS 1 hg (gi_S w_421 w_422 w_2 w_423) rfl rfl rfl (by decide +kernel) ⟨Nat.le_of_ble_eq_true rfl, Nat.le_of_ble_eq_true rfl⟩) ⟨(fun _ _ _ _ q => q), (fun _ _ _ => ⟨rfl, trivial⟩)⟩ rfl rfl hl.1 rfl (lv_room (Nat.le_of_ble_eq_true rfl)) dX1_apply_1 ⟨Nat.le_of_ble_eq_true rfl, Nat.le_of_ble_eq_true rfl⟩) hS (fun q _ h => False.elim h) (fun q h => False.elim h) (fun r_1 u t H1 locs ht hvm hw_1 hB hz1 hk1 hS => ?_)
  subst hw_1
  have hP := hP.kept (fun k q hq => hk1 q.1 (hP k q hq).lt (fun h => h))
  generalize H1 = H at hP hS ⊢
  have hP : va_P (dC, dI) vwCl (ws_sm b h uR uW uA uM uX uF uI uS ut us ur ub uo ui ul uk uh) H := hP
  have hD : va_D A (ws_sm b h uR uW uA uM uX uF uI uS ut us ur ub uo ui ul uk uh) := hD
  refine lv_istore (lv' := [(4, .int (sm_ones p1)), (0, .ref (b 0)), (1, .int p1), (2, .int p2), (3, .int p3)]) hx hb dX1_apply_4 hl (by decide) rfl (fun ls hl => ?_)
  refine lv_iload_n hx hb dX1_apply_6 rfl (lv_at hl 3 rfl) ?_
  refine lv_iconst (v := 1) hx hb dX1_apply_7 (by decide) ?_
  refine lv_icmp_lt (tgt := 29) hx hb dX1_apply_8 (by decide) (fun c_8 => ?_) (fun c_8 => ?_)
  · refine lv_iconst (v := 1) hx hb dX1_apply_29 (by decide) ?_
    refine lv_goto (tgt := 34) hx hb dX1_apply_30 (by decide) ?_
    refine lv_istore (lv' := [(5, .int 1), (4, .int (sm_ones p1)), (0, .ref (b 0)), (1, .int p1), (2, .int p2), (3, .int p3)]) hx hb dX1_apply_34 hl (by decide) rfl (fun ls hl => ?_)
    refine lv_aload_n hx hb dX1_apply_36 rfl (lv_at hl 2 rfl) ?_
    refine lv_iload_n hx hb dX1_apply_37 rfl (lv_at hl 5 rfl) ?_
    refine va_calli (va_runS (As := [.int p3]) (rest := [.ref (b 0)]) ⟨hx, hb, hml, hown, hg⟩ (cm_isPlace l dC dI p3) (va_cwS 1 hg (gi_S w_411 w_412 w_2 w_413) rfl rfl rfl (by decide +kernel) ⟨Nat.le_of_ble_eq_true rfl, Nat.le_of_ble_eq_true rfl⟩) ⟨(fun _ _ _ _ q => q), (fun _ _ _ => ⟨rfl, trivial⟩)⟩ rfl rfl hl.1 rfl (lv_room (Nat.le_of_ble_eq_true rfl)) dX1_apply_38 ⟨Nat.le_of_ble_eq_true rfl, Nat.le_of_ble_eq_true rfl⟩) hS (fun q _ h => False.elim h) (fun q h => False.elim h) (fun r_38 u t H1 locs ht hvm hw_38 hB hz1 hk1 hS => ?_)
    subst hw_38
    have hP := hP.kept (fun k q hq => hk1 q.1 (hP k q hq).lt (fun h => h))
    generalize H1 = H at hP hS ⊢
    have hP : va_P (dC, dI) vwCl (ws_sm b h uR uW uA uM uX uF uI uS ut us ur ub uo ui ul uk uh) H := hP
    have hD : va_D A (ws_sm b h uR uW uA uM uX uF uI uS ut us ur ub uo ui ul uk uh) := hD
    refine lv_if_eq (tgt := 51) hx hb dX1_apply_41 (by decide) (fun c_41 => ?_) (fun c_41 => ?_)
    · refine lv_iconst (v := 1) hx hb dX1_apply_51 (by decide) ?_
      refine lv_goto (tgt := 89) hx hb dX1_apply_52 (by decide) ?_
      refine va_put (D := (dC, dI)) (ci := 1) (v := .int 1) (ty := .int) (C := RX1) (T := TX1) (N := 17) hx hb hg inX1 tyX1 tyX1_ok nmX1 hown hK hP hD hS 0 rfl rfl 0 (by decide) (hg _ w_346) (fun _ h9 => h9) rfl (by decide +kernel) rfl rfl (Nat.le_of_ble_eq_true rfl) dX1_apply_89 (fun H locs hP hD hS => ?_)
      have hP : va_P (dC, dI) vwCl (ws_sm b h uR uW uA uM uX uF uI uS 1 us ur ub uo ui ul uk uh) H := hP
      have hD : va_D A (ws_sm b h uR uW uA uM uX uF uI uS 1 us ur ub uo ui ul uk uh) := hD
      refine lv_aload_n hx hb dX1_apply_92 rfl (lv_at hl 2 rfl) ?_
      refine va_get (D := (dC, dI)) (ci := 1) (v := .int 1) (C := RX1) (T := TX1) (N := 17) hx hb hg inX1 hown hK hP 0 rfl rfl 0 (by decide) (hg _ w_346) (fun _ h9 => h9) rfl dX1_apply_93 ?_
      refine lv_if_le (tgt := 101) hx hb dX1_apply_96 (by decide) (fun c_96 => ?_) (fun c_96 => ?_)
      · exact absurd c_96 (by decide)
      · refine lv_iconst (v := 0) hx hb dX1_apply_99 (by decide) ?_
        have hw : sm_apply uR uW uA uM uX uF uI us ur ub ui ul uh p1 p2 p3 = (0, uR, uW, uA, uM, uX, uF, uI, 1, us, ur, ub, ul, uh) := by unfold sm_apply; rw [if_pos c_8, if_pos c_41]; (try rfl)
        exact W.iret (v := 0) hx hb hr (fun t ht hW => ⟨⟨0, (uR, uW, uA, uM, uX, uF, uI, 1, us, ur, ub, ul, uh), rfl, hw, ⟨by rw [ht]; exact hP, va_K.moved hW.alike hK, hD⟩⟩, hS.F ht⟩) hS.2.2 dX1_apply_100
    · refine lv_iload_n hx hb dX1_apply_44 rfl (lv_at hl 3 rfl) ?_
      refine va_calli (va_runS (As := [.int p1]) (rest := [.ref (b 0)]) ⟨hx, hb, hml, hown, hg⟩ (cm_isSet l dC dI p1) (va_cwS 1 hg (gi_S w_414 w_415 w_2 w_416) rfl rfl rfl (by decide +kernel) ⟨Nat.le_of_ble_eq_true rfl, Nat.le_of_ble_eq_true rfl⟩) ⟨(fun _ _ _ _ q => q), (fun _ _ _ => ⟨rfl, trivial⟩)⟩ rfl rfl hl.1 rfl (lv_room (Nat.le_of_ble_eq_true rfl)) dX1_apply_45 ⟨Nat.le_of_ble_eq_true rfl, Nat.le_of_ble_eq_true rfl⟩) hS (fun q _ h => False.elim h) (fun q h => False.elim h) (fun r_45 u t H1 locs ht hvm hw_45 hB hz1 hk1 hS => ?_)
      subst hw_45
      have hP := hP.kept (fun k q hq => hk1 q.1 (hP k q hq).lt (fun h => h))
      generalize H1 = H at hP hS ⊢
      have hP : va_P (dC, dI) vwCl (ws_sm b h uR uW uA uM uX uF uI uS ut us ur ub uo ui ul uk uh) H := hP
      have hD : va_D A (ws_sm b h uR uW uA uM uX uF uI uS ut us ur ub uo ui ul uk uh) := hD
      refine lv_if_ne (tgt := 55) hx hb dX1_apply_48 (by decide) (fun c_48 => ?_) (fun c_48 => ?_)
      · refine lv_iload hx hb dX1_apply_55 (lv_at hl 0 rfl) ?_
        refine lv_if_eq (tgt := 64) hx hb dX1_apply_57 (by decide) (fun c_57 => ?_) (fun c_57 => ?_)
        · exact absurd c_57 (by decide)
        · refine lv_iconst (v := 2) hx hb dX1_apply_60 (by decide) ?_
          refine lv_goto (tgt := 89) hx hb dX1_apply_61 (by decide) ?_
          refine va_put (D := (dC, dI)) (ci := 1) (v := .int 2) (ty := .int) (C := RX1) (T := TX1) (N := 17) hx hb hg inX1 tyX1 tyX1_ok nmX1 hown hK hP hD hS 0 rfl rfl 0 (by decide) (hg _ w_346) (fun _ h9 => h9) rfl (by decide +kernel) rfl rfl (Nat.le_of_ble_eq_true rfl) dX1_apply_89 (fun H locs hP hD hS => ?_)
          have hP : va_P (dC, dI) vwCl (ws_sm b h uR uW uA uM uX uF uI uS 2 us ur ub uo ui ul uk uh) H := hP
          have hD : va_D A (ws_sm b h uR uW uA uM uX uF uI uS 2 us ur ub uo ui ul uk uh) := hD
          refine lv_aload_n hx hb dX1_apply_92 rfl (lv_at hl 2 rfl) ?_
          refine va_get (D := (dC, dI)) (ci := 1) (v := .int 2) (C := RX1) (T := TX1) (N := 17) hx hb hg inX1 hown hK hP 0 rfl rfl 0 (by decide) (hg _ w_346) (fun _ h9 => h9) rfl dX1_apply_93 ?_
          refine lv_if_le (tgt := 101) hx hb dX1_apply_96 (by decide) (fun c_96 => ?_) (fun c_96 => ?_)
          · exact absurd c_96 (by decide)
          · refine lv_iconst (v := 0) hx hb dX1_apply_99 (by decide) ?_
            have hw : sm_apply uR uW uA uM uX uF uI us ur ub ui ul uh p1 p2 p3 = (0, uR, uW, uA, uM, uX, uF, uI, 2, us, ur, ub, ul, uh) := by unfold sm_apply; rw [if_pos c_8, if_neg c_41, if_neg c_48]; (try rfl)
            exact W.iret (v := 0) hx hb hr (fun t ht hW => ⟨⟨0, (uR, uW, uA, uM, uX, uF, uI, 2, us, ur, ub, ul, uh), rfl, hw, ⟨by rw [ht]; exact hP, va_K.moved hW.alike hK, hD⟩⟩, hS.F ht⟩) hS.2.2 dX1_apply_100
      · refine lv_iconst (v := 1) hx hb dX1_apply_51 (by decide) ?_
        refine lv_goto (tgt := 89) hx hb dX1_apply_52 (by decide) ?_
        refine va_put (D := (dC, dI)) (ci := 1) (v := .int 1) (ty := .int) (C := RX1) (T := TX1) (N := 17) hx hb hg inX1 tyX1 tyX1_ok nmX1 hown hK hP hD hS 0 rfl rfl 0 (by decide) (hg _ w_346) (fun _ h9 => h9) rfl (by decide +kernel) rfl rfl (Nat.le_of_ble_eq_true rfl) dX1_apply_89 (fun H locs hP hD hS => ?_)
        have hP : va_P (dC, dI) vwCl (ws_sm b h uR uW uA uM uX uF uI uS 1 us ur ub uo ui ul uk uh) H := hP
        have hD : va_D A (ws_sm b h uR uW uA uM uX uF uI uS 1 us ur ub uo ui ul uk uh) := hD
        refine lv_aload_n hx hb dX1_apply_92 rfl (lv_at hl 2 rfl) ?_
        refine va_get (D := (dC, dI)) (ci := 1) (v := .int 1) (C := RX1) (T := TX1) (N := 17) hx hb hg inX1 hown hK hP 0 rfl rfl 0 (by decide) (hg _ w_346) (fun _ h9 => h9) rfl dX1_apply_93 ?_
        refine lv_if_le (tgt := 101) hx hb dX1_apply_96 (by decide) (fun c_96 => ?_) (fun c_96 => ?_)
        · exact absurd c_96 (by decide)
        · refine lv_iconst (v := 0) hx hb dX1_apply_99 (by decide) ?_
          have hw : sm_apply uR uW uA uM uX uF uI us ur ub ui ul uh p1 p2 p3 = (0, uR, uW, uA, uM, uX, uF, uI, 1, us, ur, ub, ul, uh) := by unfold sm_apply; rw [if_pos c_8, if_neg c_41, if_pos c_48]; (try rfl)
          exact W.iret (v := 0) hx hb hr (fun t ht hW => ⟨⟨0, (uR, uW, uA, uM, uX, uF, uI, 1, us, ur, ub, ul, uh), rfl, hw, ⟨by rw [ht]; exact hP, va_K.moved hW.alike hK, hD⟩⟩, hS.F ht⟩) hS.2.2 dX1_apply_100
  · refine lv_iload_n hx hb dX1_apply_11 rfl (lv_at hl 3 rfl) ?_
    refine lv_bipush (v := 32) hx hb dX1_apply_12 (by decide) ?_
    refine lv_icmp_gt (tgt := 29) hx hb dX1_apply_14 (by decide) (fun c_14 => ?_) (fun c_14 => ?_)
    · refine lv_iconst (v := 1) hx hb dX1_apply_29 (by decide) ?_
      refine lv_goto (tgt := 34) hx hb dX1_apply_30 (by decide) ?_
      refine lv_istore (lv' := [(5, .int 1), (4, .int (sm_ones p1)), (0, .ref (b 0)), (1, .int p1), (2, .int p2), (3, .int p3)]) hx hb dX1_apply_34 hl (by decide) rfl (fun ls hl => ?_)
      refine lv_aload_n hx hb dX1_apply_36 rfl (lv_at hl 2 rfl) ?_
      refine lv_iload_n hx hb dX1_apply_37 rfl (lv_at hl 5 rfl) ?_
      refine va_calli (va_runS (As := [.int p3]) (rest := [.ref (b 0)]) ⟨hx, hb, hml, hown, hg⟩ (cm_isPlace l dC dI p3) (va_cwS 1 hg (gi_S w_411 w_412 w_2 w_413) rfl rfl rfl (by decide +kernel) ⟨Nat.le_of_ble_eq_true rfl, Nat.le_of_ble_eq_true rfl⟩) ⟨(fun _ _ _ _ q => q), (fun _ _ _ => ⟨rfl, trivial⟩)⟩ rfl rfl hl.1 rfl (lv_room (Nat.le_of_ble_eq_true rfl)) dX1_apply_38 ⟨Nat.le_of_ble_eq_true rfl, Nat.le_of_ble_eq_true rfl⟩) hS (fun q _ h => False.elim h) (fun q h => False.elim h) (fun r_38 u t H1 locs ht hvm hw_38 hB hz1 hk1 hS => ?_)
      subst hw_38
      have hP := hP.kept (fun k q hq => hk1 q.1 (hP k q hq).lt (fun h => h))
      generalize H1 = H at hP hS ⊢
      have hP : va_P (dC, dI) vwCl (ws_sm b h uR uW uA uM uX uF uI uS ut us ur ub uo ui ul uk uh) H := hP
      have hD : va_D A (ws_sm b h uR uW uA uM uX uF uI uS ut us ur ub uo ui ul uk uh) := hD
      refine lv_if_eq (tgt := 51) hx hb dX1_apply_41 (by decide) (fun c_41 => ?_) (fun c_41 => ?_)
      · refine lv_iconst (v := 1) hx hb dX1_apply_51 (by decide) ?_
        refine lv_goto (tgt := 89) hx hb dX1_apply_52 (by decide) ?_
        refine va_put (D := (dC, dI)) (ci := 1) (v := .int 1) (ty := .int) (C := RX1) (T := TX1) (N := 17) hx hb hg inX1 tyX1 tyX1_ok nmX1 hown hK hP hD hS 0 rfl rfl 0 (by decide) (hg _ w_346) (fun _ h9 => h9) rfl (by decide +kernel) rfl rfl (Nat.le_of_ble_eq_true rfl) dX1_apply_89 (fun H locs hP hD hS => ?_)
        have hP : va_P (dC, dI) vwCl (ws_sm b h uR uW uA uM uX uF uI uS 1 us ur ub uo ui ul uk uh) H := hP
        have hD : va_D A (ws_sm b h uR uW uA uM uX uF uI uS 1 us ur ub uo ui ul uk uh) := hD
        refine lv_aload_n hx hb dX1_apply_92 rfl (lv_at hl 2 rfl) ?_
        refine va_get (D := (dC, dI)) (ci := 1) (v := .int 1) (C := RX1) (T := TX1) (N := 17) hx hb hg inX1 hown hK hP 0 rfl rfl 0 (by decide) (hg _ w_346) (fun _ h9 => h9) rfl dX1_apply_93 ?_
        refine lv_if_le (tgt := 101) hx hb dX1_apply_96 (by decide) (fun c_96 => ?_) (fun c_96 => ?_)
        · exact absurd c_96 (by decide)
        · refine lv_iconst (v := 0) hx hb dX1_apply_99 (by decide) ?_
          have hw : sm_apply uR uW uA uM uX uF uI us ur ub ui ul uh p1 p2 p3 = (0, uR, uW, uA, uM, uX, uF, uI, 1, us, ur, ub, ul, uh) := by unfold sm_apply; rw [if_neg c_8, if_pos c_14, if_pos c_41]; (try rfl)
          exact W.iret (v := 0) hx hb hr (fun t ht hW => ⟨⟨0, (uR, uW, uA, uM, uX, uF, uI, 1, us, ur, ub, ul, uh), rfl, hw, ⟨by rw [ht]; exact hP, va_K.moved hW.alike hK, hD⟩⟩, hS.F ht⟩) hS.2.2 dX1_apply_100
      · refine lv_iload_n hx hb dX1_apply_44 rfl (lv_at hl 3 rfl) ?_
        refine va_calli (va_runS (As := [.int p1]) (rest := [.ref (b 0)]) ⟨hx, hb, hml, hown, hg⟩ (cm_isSet l dC dI p1) (va_cwS 1 hg (gi_S w_414 w_415 w_2 w_416) rfl rfl rfl (by decide +kernel) ⟨Nat.le_of_ble_eq_true rfl, Nat.le_of_ble_eq_true rfl⟩) ⟨(fun _ _ _ _ q => q), (fun _ _ _ => ⟨rfl, trivial⟩)⟩ rfl rfl hl.1 rfl (lv_room (Nat.le_of_ble_eq_true rfl)) dX1_apply_45 ⟨Nat.le_of_ble_eq_true rfl, Nat.le_of_ble_eq_true rfl⟩) hS (fun q _ h => False.elim h) (fun q h => False.elim h) (fun r_45 u t H1 locs ht hvm hw_45 hB hz1 hk1 hS => ?_)
        subst hw_45
        have hP := hP.kept (fun k q hq => hk1 q.1 (hP k q hq).lt (fun h => h))
        generalize H1 = H at hP hS ⊢
        have hP : va_P (dC, dI) vwCl (ws_sm b h uR uW uA uM uX uF uI uS ut us ur ub uo ui ul uk uh) H := hP
        have hD : va_D A (ws_sm b h uR uW uA uM uX uF uI uS ut us ur ub uo ui ul uk uh) := hD
        refine lv_if_ne (tgt := 55) hx hb dX1_apply_48 (by decide) (fun c_48 => ?_) (fun c_48 => ?_)
        · refine lv_iload hx hb dX1_apply_55 (lv_at hl 0 rfl) ?_
          refine lv_if_eq (tgt := 64) hx hb dX1_apply_57 (by decide) (fun c_57 => ?_) (fun c_57 => ?_)
          · exact absurd c_57 (by decide)
          · refine lv_iconst (v := 2) hx hb dX1_apply_60 (by decide) ?_
            refine lv_goto (tgt := 89) hx hb dX1_apply_61 (by decide) ?_
            refine va_put (D := (dC, dI)) (ci := 1) (v := .int 2) (ty := .int) (C := RX1) (T := TX1) (N := 17) hx hb hg inX1 tyX1 tyX1_ok nmX1 hown hK hP hD hS 0 rfl rfl 0 (by decide) (hg _ w_346) (fun _ h9 => h9) rfl (by decide +kernel) rfl rfl (Nat.le_of_ble_eq_true rfl) dX1_apply_89 (fun H locs hP hD hS => ?_)
            have hP : va_P (dC, dI) vwCl (ws_sm b h uR uW uA uM uX uF uI uS 2 us ur ub uo ui ul uk uh) H := hP
            have hD : va_D A (ws_sm b h uR uW uA uM uX uF uI uS 2 us ur ub uo ui ul uk uh) := hD
            refine lv_aload_n hx hb dX1_apply_92 rfl (lv_at hl 2 rfl) ?_
            refine va_get (D := (dC, dI)) (ci := 1) (v := .int 2) (C := RX1) (T := TX1) (N := 17) hx hb hg inX1 hown hK hP 0 rfl rfl 0 (by decide) (hg _ w_346) (fun _ h9 => h9) rfl dX1_apply_93 ?_
            refine lv_if_le (tgt := 101) hx hb dX1_apply_96 (by decide) (fun c_96 => ?_) (fun c_96 => ?_)
            · exact absurd c_96 (by decide)
            · refine lv_iconst (v := 0) hx hb dX1_apply_99 (by decide) ?_
              have hw : sm_apply uR uW uA uM uX uF uI us ur ub ui ul uh p1 p2 p3 = (0, uR, uW, uA, uM, uX, uF, uI, 2, us, ur, ub, ul, uh) := by unfold sm_apply; rw [if_neg c_8, if_pos c_14, if_neg c_41, if_neg c_48]; (try rfl)
              exact W.iret (v := 0) hx hb hr (fun t ht hW => ⟨⟨0, (uR, uW, uA, uM, uX, uF, uI, 2, us, ur, ub, ul, uh), rfl, hw, ⟨by rw [ht]; exact hP, va_K.moved hW.alike hK, hD⟩⟩, hS.F ht⟩) hS.2.2 dX1_apply_100
        · refine lv_iconst (v := 1) hx hb dX1_apply_51 (by decide) ?_
          refine lv_goto (tgt := 89) hx hb dX1_apply_52 (by decide) ?_
          refine va_put (D := (dC, dI)) (ci := 1) (v := .int 1) (ty := .int) (C := RX1) (T := TX1) (N := 17) hx hb hg inX1 tyX1 tyX1_ok nmX1 hown hK hP hD hS 0 rfl rfl 0 (by decide) (hg _ w_346) (fun _ h9 => h9) rfl (by decide +kernel) rfl rfl (Nat.le_of_ble_eq_true rfl) dX1_apply_89 (fun H locs hP hD hS => ?_)
          have hP : va_P (dC, dI) vwCl (ws_sm b h uR uW uA uM uX uF uI uS 1 us ur ub uo ui ul uk uh) H := hP
          have hD : va_D A (ws_sm b h uR uW uA uM uX uF uI uS 1 us ur ub uo ui ul uk uh) := hD
          refine lv_aload_n hx hb dX1_apply_92 rfl (lv_at hl 2 rfl) ?_
          refine va_get (D := (dC, dI)) (ci := 1) (v := .int 1) (C := RX1) (T := TX1) (N := 17) hx hb hg inX1 hown hK hP 0 rfl rfl 0 (by decide) (hg _ w_346) (fun _ h9 => h9) rfl dX1_apply_93 ?_
          refine lv_if_le (tgt := 101) hx hb dX1_apply_96 (by decide) (fun c_96 => ?_) (fun c_96 => ?_)
          · exact absurd c_96 (by decide)
          · refine lv_iconst (v := 0) hx hb dX1_apply_99 (by decide) ?_
            have hw : sm_apply uR uW uA uM uX uF uI us ur ub ui ul uh p1 p2 p3 = (0, uR, uW, uA, uM, uX, uF, uI, 1, us, ur, ub, ul, uh) := by unfold sm_apply; rw [if_neg c_8, if_pos c_14, if_neg c_41, if_pos c_48]; (try rfl)
            exact W.iret (v := 0) hx hb hr (fun t ht hW => ⟨⟨0, (uR, uW, uA, uM, uX, uF, uI, 1, us, ur, ub, ul, uh), rfl, hw, ⟨by rw [ht]; exact hP, va_K.moved hW.alike hK, hD⟩⟩, hS.F ht⟩) hS.2.2 dX1_apply_100
    · refine lv_iload hx hb dX1_apply_17 (lv_at hl 0 rfl) ?_
      refine lv_iconst (v := 1) hx hb dX1_apply_19 (by decide) ?_
      refine lv_icmp_lt (tgt := 29) hx hb dX1_apply_20 (by decide) (fun c_20 => ?_) (fun c_20 => ?_)
      · refine lv_iconst (v := 1) hx hb dX1_apply_29 (by decide) ?_
        refine lv_goto (tgt := 34) hx hb dX1_apply_30 (by decide) ?_
        refine lv_istore (lv' := [(5, .int 1), (4, .int (sm_ones p1)), (0, .ref (b 0)), (1, .int p1), (2, .int p2), (3, .int p3)]) hx hb dX1_apply_34 hl (by decide) rfl (fun ls hl => ?_)
        refine lv_aload_n hx hb dX1_apply_36 rfl (lv_at hl 2 rfl) ?_
        refine lv_iload_n hx hb dX1_apply_37 rfl (lv_at hl 5 rfl) ?_
        refine va_calli (va_runS (As := [.int p3]) (rest := [.ref (b 0)]) ⟨hx, hb, hml, hown, hg⟩ (cm_isPlace l dC dI p3) (va_cwS 1 hg (gi_S w_411 w_412 w_2 w_413) rfl rfl rfl (by decide +kernel) ⟨Nat.le_of_ble_eq_true rfl, Nat.le_of_ble_eq_true rfl⟩) ⟨(fun _ _ _ _ q => q), (fun _ _ _ => ⟨rfl, trivial⟩)⟩ rfl rfl hl.1 rfl (lv_room (Nat.le_of_ble_eq_true rfl)) dX1_apply_38 ⟨Nat.le_of_ble_eq_true rfl, Nat.le_of_ble_eq_true rfl⟩) hS (fun q _ h => False.elim h) (fun q h => False.elim h) (fun r_38 u t H1 locs ht hvm hw_38 hB hz1 hk1 hS => ?_)
        subst hw_38
        have hP := hP.kept (fun k q hq => hk1 q.1 (hP k q hq).lt (fun h => h))
        generalize H1 = H at hP hS ⊢
        have hP : va_P (dC, dI) vwCl (ws_sm b h uR uW uA uM uX uF uI uS ut us ur ub uo ui ul uk uh) H := hP
        have hD : va_D A (ws_sm b h uR uW uA uM uX uF uI uS ut us ur ub uo ui ul uk uh) := hD
        refine lv_if_eq (tgt := 51) hx hb dX1_apply_41 (by decide) (fun c_41 => ?_) (fun c_41 => ?_)
        · refine lv_iconst (v := 1) hx hb dX1_apply_51 (by decide) ?_
          refine lv_goto (tgt := 89) hx hb dX1_apply_52 (by decide) ?_
          refine va_put (D := (dC, dI)) (ci := 1) (v := .int 1) (ty := .int) (C := RX1) (T := TX1) (N := 17) hx hb hg inX1 tyX1 tyX1_ok nmX1 hown hK hP hD hS 0 rfl rfl 0 (by decide) (hg _ w_346) (fun _ h9 => h9) rfl (by decide +kernel) rfl rfl (Nat.le_of_ble_eq_true rfl) dX1_apply_89 (fun H locs hP hD hS => ?_)
          have hP : va_P (dC, dI) vwCl (ws_sm b h uR uW uA uM uX uF uI uS 1 us ur ub uo ui ul uk uh) H := hP
          have hD : va_D A (ws_sm b h uR uW uA uM uX uF uI uS 1 us ur ub uo ui ul uk uh) := hD
          refine lv_aload_n hx hb dX1_apply_92 rfl (lv_at hl 2 rfl) ?_
          refine va_get (D := (dC, dI)) (ci := 1) (v := .int 1) (C := RX1) (T := TX1) (N := 17) hx hb hg inX1 hown hK hP 0 rfl rfl 0 (by decide) (hg _ w_346) (fun _ h9 => h9) rfl dX1_apply_93 ?_
          refine lv_if_le (tgt := 101) hx hb dX1_apply_96 (by decide) (fun c_96 => ?_) (fun c_96 => ?_)
          · exact absurd c_96 (by decide)
          · refine lv_iconst (v := 0) hx hb dX1_apply_99 (by decide) ?_
            have hw : sm_apply uR uW uA uM uX uF uI us ur ub ui ul uh p1 p2 p3 = (0, uR, uW, uA, uM, uX, uF, uI, 1, us, ur, ub, ul, uh) := by unfold sm_apply; rw [if_neg c_8, if_neg c_14, if_pos c_20, if_pos c_41]; (try rfl)
            exact W.iret (v := 0) hx hb hr (fun t ht hW => ⟨⟨0, (uR, uW, uA, uM, uX, uF, uI, 1, us, ur, ub, ul, uh), rfl, hw, ⟨by rw [ht]; exact hP, va_K.moved hW.alike hK, hD⟩⟩, hS.F ht⟩) hS.2.2 dX1_apply_100
        · refine lv_iload_n hx hb dX1_apply_44 rfl (lv_at hl 3 rfl) ?_
          refine va_calli (va_runS (As := [.int p1]) (rest := [.ref (b 0)]) ⟨hx, hb, hml, hown, hg⟩ (cm_isSet l dC dI p1) (va_cwS 1 hg (gi_S w_414 w_415 w_2 w_416) rfl rfl rfl (by decide +kernel) ⟨Nat.le_of_ble_eq_true rfl, Nat.le_of_ble_eq_true rfl⟩) ⟨(fun _ _ _ _ q => q), (fun _ _ _ => ⟨rfl, trivial⟩)⟩ rfl rfl hl.1 rfl (lv_room (Nat.le_of_ble_eq_true rfl)) dX1_apply_45 ⟨Nat.le_of_ble_eq_true rfl, Nat.le_of_ble_eq_true rfl⟩) hS (fun q _ h => False.elim h) (fun q h => False.elim h) (fun r_45 u t H1 locs ht hvm hw_45 hB hz1 hk1 hS => ?_)
          subst hw_45
          have hP := hP.kept (fun k q hq => hk1 q.1 (hP k q hq).lt (fun h => h))
          generalize H1 = H at hP hS ⊢
          have hP : va_P (dC, dI) vwCl (ws_sm b h uR uW uA uM uX uF uI uS ut us ur ub uo ui ul uk uh) H := hP
          have hD : va_D A (ws_sm b h uR uW uA uM uX uF uI uS ut us ur ub uo ui ul uk uh) := hD
          refine lv_if_ne (tgt := 55) hx hb dX1_apply_48 (by decide) (fun c_48 => ?_) (fun c_48 => ?_)
          · refine lv_iload hx hb dX1_apply_55 (lv_at hl 0 rfl) ?_
            refine lv_if_eq (tgt := 64) hx hb dX1_apply_57 (by decide) (fun c_57 => ?_) (fun c_57 => ?_)
            · exact absurd c_57 (by decide)
            · refine lv_iconst (v := 2) hx hb dX1_apply_60 (by decide) ?_
              refine lv_goto (tgt := 89) hx hb dX1_apply_61 (by decide) ?_
              refine va_put (D := (dC, dI)) (ci := 1) (v := .int 2) (ty := .int) (C := RX1) (T := TX1) (N := 17) hx hb hg inX1 tyX1 tyX1_ok nmX1 hown hK hP hD hS 0 rfl rfl 0 (by decide) (hg _ w_346) (fun _ h9 => h9) rfl (by decide +kernel) rfl rfl (Nat.le_of_ble_eq_true rfl) dX1_apply_89 (fun H locs hP hD hS => ?_)
              have hP : va_P (dC, dI) vwCl (ws_sm b h uR uW uA uM uX uF uI uS 2 us ur ub uo ui ul uk uh) H := hP
              have hD : va_D A (ws_sm b h uR uW uA uM uX uF uI uS 2 us ur ub uo ui ul uk uh) := hD
              refine lv_aload_n hx hb dX1_apply_92 rfl (lv_at hl 2 rfl) ?_
              refine va_get (D := (dC, dI)) (ci := 1) (v := .int 2) (C := RX1) (T := TX1) (N := 17) hx hb hg inX1 hown hK hP 0 rfl rfl 0 (by decide) (hg _ w_346) (fun _ h9 => h9) rfl dX1_apply_93 ?_
              refine lv_if_le (tgt := 101) hx hb dX1_apply_96 (by decide) (fun c_96 => ?_) (fun c_96 => ?_)
              · exact absurd c_96 (by decide)
              · refine lv_iconst (v := 0) hx hb dX1_apply_99 (by decide) ?_
                have hw : sm_apply uR uW uA uM uX uF uI us ur ub ui ul uh p1 p2 p3 = (0, uR, uW, uA, uM, uX, uF, uI, 2, us, ur, ub, ul, uh) := by unfold sm_apply; rw [if_neg c_8, if_neg c_14, if_pos c_20, if_neg c_41, if_neg c_48]; (try rfl)
                exact W.iret (v := 0) hx hb hr (fun t ht hW => ⟨⟨0, (uR, uW, uA, uM, uX, uF, uI, 2, us, ur, ub, ul, uh), rfl, hw, ⟨by rw [ht]; exact hP, va_K.moved hW.alike hK, hD⟩⟩, hS.F ht⟩) hS.2.2 dX1_apply_100
          · refine lv_iconst (v := 1) hx hb dX1_apply_51 (by decide) ?_
            refine lv_goto (tgt := 89) hx hb dX1_apply_52 (by decide) ?_
            refine va_put (D := (dC, dI)) (ci := 1) (v := .int 1) (ty := .int) (C := RX1) (T := TX1) (N := 17) hx hb hg inX1 tyX1 tyX1_ok nmX1 hown hK hP hD hS 0 rfl rfl 0 (by decide) (hg _ w_346) (fun _ h9 => h9) rfl (by decide +kernel) rfl rfl (Nat.le_of_ble_eq_true rfl) dX1_apply_89 (fun H locs hP hD hS => ?_)
            have hP : va_P (dC, dI) vwCl (ws_sm b h uR uW uA uM uX uF uI uS 1 us ur ub uo ui ul uk uh) H := hP
            have hD : va_D A (ws_sm b h uR uW uA uM uX uF uI uS 1 us ur ub uo ui ul uk uh) := hD
            refine lv_aload_n hx hb dX1_apply_92 rfl (lv_at hl 2 rfl) ?_
            refine va_get (D := (dC, dI)) (ci := 1) (v := .int 1) (C := RX1) (T := TX1) (N := 17) hx hb hg inX1 hown hK hP 0 rfl rfl 0 (by decide) (hg _ w_346) (fun _ h9 => h9) rfl dX1_apply_93 ?_
            refine lv_if_le (tgt := 101) hx hb dX1_apply_96 (by decide) (fun c_96 => ?_) (fun c_96 => ?_)
            · exact absurd c_96 (by decide)
            · refine lv_iconst (v := 0) hx hb dX1_apply_99 (by decide) ?_
              have hw : sm_apply uR uW uA uM uX uF uI us ur ub ui ul uh p1 p2 p3 = (0, uR, uW, uA, uM, uX, uF, uI, 1, us, ur, ub, ul, uh) := by unfold sm_apply; rw [if_neg c_8, if_neg c_14, if_pos c_20, if_neg c_41, if_pos c_48]; (try rfl)
              exact W.iret (v := 0) hx hb hr (fun t ht hW => ⟨⟨0, (uR, uW, uA, uM, uX, uF, uI, 1, us, ur, ub, ul, uh), rfl, hw, ⟨by rw [ht]; exact hP, va_K.moved hW.alike hK, hD⟩⟩, hS.F ht⟩) hS.2.2 dX1_apply_100
      · refine lv_iload hx hb dX1_apply_23 (lv_at hl 0 rfl) ?_
        refine lv_iconst (v := 4) hx hb dX1_apply_25 (by decide) ?_
        refine lv_icmp_le (tgt := 33) hx hb dX1_apply_26 (by decide) (fun c_26 => ?_) (fun c_26 => ?_)
        · refine lv_iconst (v := 0) hx hb dX1_apply_33 (by decide) ?_
          refine lv_istore (lv' := [(5, .int 0), (4, .int (sm_ones p1)), (0, .ref (b 0)), (1, .int p1), (2, .int p2), (3, .int p3)]) hx hb dX1_apply_34 hl (by decide) rfl (fun ls hl => ?_)
          refine lv_aload_n hx hb dX1_apply_36 rfl (lv_at hl 2 rfl) ?_
          refine lv_iload_n hx hb dX1_apply_37 rfl (lv_at hl 5 rfl) ?_
          refine va_calli (va_runS (As := [.int p3]) (rest := [.ref (b 0)]) ⟨hx, hb, hml, hown, hg⟩ (cm_isPlace l dC dI p3) (va_cwS 1 hg (gi_S w_411 w_412 w_2 w_413) rfl rfl rfl (by decide +kernel) ⟨Nat.le_of_ble_eq_true rfl, Nat.le_of_ble_eq_true rfl⟩) ⟨(fun _ _ _ _ q => q), (fun _ _ _ => ⟨rfl, trivial⟩)⟩ rfl rfl hl.1 rfl (lv_room (Nat.le_of_ble_eq_true rfl)) dX1_apply_38 ⟨Nat.le_of_ble_eq_true rfl, Nat.le_of_ble_eq_true rfl⟩) hS (fun q _ h => False.elim h) (fun q h => False.elim h) (fun r_38 u t H1 locs ht hvm hw_38 hB hz1 hk1 hS => ?_)
          subst hw_38
          have hP := hP.kept (fun k q hq => hk1 q.1 (hP k q hq).lt (fun h => h))
          generalize H1 = H at hP hS ⊢
          have hP : va_P (dC, dI) vwCl (ws_sm b h uR uW uA uM uX uF uI uS ut us ur ub uo ui ul uk uh) H := hP
          have hD : va_D A (ws_sm b h uR uW uA uM uX uF uI uS ut us ur ub uo ui ul uk uh) := hD
          refine lv_if_eq (tgt := 51) hx hb dX1_apply_41 (by decide) (fun c_41 => ?_) (fun c_41 => ?_)
          · refine lv_iconst (v := 1) hx hb dX1_apply_51 (by decide) ?_
            refine lv_goto (tgt := 89) hx hb dX1_apply_52 (by decide) ?_
            refine va_put (D := (dC, dI)) (ci := 1) (v := .int 1) (ty := .int) (C := RX1) (T := TX1) (N := 17) hx hb hg inX1 tyX1 tyX1_ok nmX1 hown hK hP hD hS 0 rfl rfl 0 (by decide) (hg _ w_346) (fun _ h9 => h9) rfl (by decide +kernel) rfl rfl (Nat.le_of_ble_eq_true rfl) dX1_apply_89 (fun H locs hP hD hS => ?_)
            have hP : va_P (dC, dI) vwCl (ws_sm b h uR uW uA uM uX uF uI uS 1 us ur ub uo ui ul uk uh) H := hP
            have hD : va_D A (ws_sm b h uR uW uA uM uX uF uI uS 1 us ur ub uo ui ul uk uh) := hD
            refine lv_aload_n hx hb dX1_apply_92 rfl (lv_at hl 2 rfl) ?_
            refine va_get (D := (dC, dI)) (ci := 1) (v := .int 1) (C := RX1) (T := TX1) (N := 17) hx hb hg inX1 hown hK hP 0 rfl rfl 0 (by decide) (hg _ w_346) (fun _ h9 => h9) rfl dX1_apply_93 ?_
            refine lv_if_le (tgt := 101) hx hb dX1_apply_96 (by decide) (fun c_96 => ?_) (fun c_96 => ?_)
            · exact absurd c_96 (by decide)
            · refine lv_iconst (v := 0) hx hb dX1_apply_99 (by decide) ?_
              have hw : sm_apply uR uW uA uM uX uF uI us ur ub ui ul uh p1 p2 p3 = (0, uR, uW, uA, uM, uX, uF, uI, 1, us, ur, ub, ul, uh) := by unfold sm_apply; rw [if_neg c_8, if_neg c_14, if_neg c_20, if_pos c_26, if_pos c_41]; (try rfl)
              exact W.iret (v := 0) hx hb hr (fun t ht hW => ⟨⟨0, (uR, uW, uA, uM, uX, uF, uI, 1, us, ur, ub, ul, uh), rfl, hw, ⟨by rw [ht]; exact hP, va_K.moved hW.alike hK, hD⟩⟩, hS.F ht⟩) hS.2.2 dX1_apply_100
          · refine lv_iload_n hx hb dX1_apply_44 rfl (lv_at hl 3 rfl) ?_
            refine va_calli (va_runS (As := [.int p1]) (rest := [.ref (b 0)]) ⟨hx, hb, hml, hown, hg⟩ (cm_isSet l dC dI p1) (va_cwS 1 hg (gi_S w_414 w_415 w_2 w_416) rfl rfl rfl (by decide +kernel) ⟨Nat.le_of_ble_eq_true rfl, Nat.le_of_ble_eq_true rfl⟩) ⟨(fun _ _ _ _ q => q), (fun _ _ _ => ⟨rfl, trivial⟩)⟩ rfl rfl hl.1 rfl (lv_room (Nat.le_of_ble_eq_true rfl)) dX1_apply_45 ⟨Nat.le_of_ble_eq_true rfl, Nat.le_of_ble_eq_true rfl⟩) hS (fun q _ h => False.elim h) (fun q h => False.elim h) (fun r_45 u t H1 locs ht hvm hw_45 hB hz1 hk1 hS => ?_)
            subst hw_45
            have hP := hP.kept (fun k q hq => hk1 q.1 (hP k q hq).lt (fun h => h))
            generalize H1 = H at hP hS ⊢
            have hP : va_P (dC, dI) vwCl (ws_sm b h uR uW uA uM uX uF uI uS ut us ur ub uo ui ul uk uh) H := hP
            have hD : va_D A (ws_sm b h uR uW uA uM uX uF uI uS ut us ur ub uo ui ul uk uh) := hD
            refine lv_if_ne (tgt := 55) hx hb dX1_apply_48 (by decide) (fun c_48 => ?_) (fun c_48 => ?_)
            · refine lv_iload hx hb dX1_apply_55 (lv_at hl 0 rfl) ?_
              refine lv_if_eq (tgt := 64) hx hb dX1_apply_57 (by decide) (fun c_57 => ?_) (fun c_57 => ?_)
              · refine lv_aload_n hx hb dX1_apply_64 rfl (lv_at hl 2 rfl) ?_
                refine lv_iload hx hb dX1_apply_65 (lv_at hl 1 rfl) ?_
                refine lv_iconst (v := 1) hx hb dX1_apply_67 (by decide) ?_
                refine lv_iadd hx hb dX1_apply_68 ?_
                have hFc := va_free (wc := ws_sm b h uR uW uA uM uX uF uI uS ut us ur ub uo ui ul uk uh) hD hS hA [0, 1, 2, 3, 4, 5, 6, 7, 8] rfl
                refine va_calli (va_runV (As := [.int ((sm_ones p1) + 1)]) (rest := [.ref (b 0)]) ⟨hx, hb, hml, hown, hg⟩ (cm_isFull l dC dI b h H.size uR uW uA uM uX uF uI uS ut us ur ub uo ui ul uk uh ((sm_ones p1) + 1)) (cwV 1 hg (gi_V w_424 w_426 s_11 w_2 w_427) rfl rfl rfl (by decide +kernel) ⟨Nat.le_of_ble_eq_true rfl, Nat.le_of_ble_eq_true rfl⟩) ⟨pr_bl, va_recv hK hP (ci := 1) (q0 := 0) rfl rfl, pr_ok hK hP hD⟩ rfl rfl hl.1 rfl (lv_room (Nat.le_of_ble_eq_true rfl)) dX1_apply_69 ⟨Nat.le_of_ble_eq_true rfl, Nat.le_of_ble_eq_true rfl⟩) hS (fun q _ h => hFc q h) hFc (fun r_69 u t H1 locs ht hvm hw_69 hB hz1 hk1 hS => ?_)
                subst hw_69
                obtain ⟨hP, hK1, hD1⟩ := hB
                rw [ht] at hP
                have hD := hD1.weaken (fun _ q _ h => hFc q.1 h)
                generalize H1 = H at hP hS ⊢
                have hP : va_P (dC, dI) vwCl (ws_sm b h uR uW uA uM uX uF uI uS ut us ur ub uo ui ul uk uh) H := hP
                have hD : va_D A (ws_sm b h uR uW uA uM uX uF uI uS ut us ur ub uo ui ul uk uh) := hD
                refine lv_if_ne (tgt := 84) hx hb dX1_apply_72 (by decide) (fun c_72 => ?_) (fun c_72 => ?_)
                · refine lv_iconst (v := 3) hx hb dX1_apply_84 (by decide) ?_
                  refine lv_goto (tgt := 89) hx hb dX1_apply_85 (by decide) ?_
                  refine va_put (D := (dC, dI)) (ci := 1) (v := .int 3) (ty := .int) (C := RX1) (T := TX1) (N := 17) hx hb hg inX1 tyX1 tyX1_ok nmX1 hown hK hP hD hS 0 rfl rfl 0 (by decide) (hg _ w_346) (fun _ h9 => h9) rfl (by decide +kernel) rfl rfl (Nat.le_of_ble_eq_true rfl) dX1_apply_89 (fun H locs hP hD hS => ?_)
                  have hP : va_P (dC, dI) vwCl (ws_sm b h uR uW uA uM uX uF uI uS 3 us ur ub uo ui ul uk uh) H := hP
                  have hD : va_D A (ws_sm b h uR uW uA uM uX uF uI uS 3 us ur ub uo ui ul uk uh) := hD
                  refine lv_aload_n hx hb dX1_apply_92 rfl (lv_at hl 2 rfl) ?_
                  refine va_get (D := (dC, dI)) (ci := 1) (v := .int 3) (C := RX1) (T := TX1) (N := 17) hx hb hg inX1 hown hK hP 0 rfl rfl 0 (by decide) (hg _ w_346) (fun _ h9 => h9) rfl dX1_apply_93 ?_
                  refine lv_if_le (tgt := 101) hx hb dX1_apply_96 (by decide) (fun c_96 => ?_) (fun c_96 => ?_)
                  · exact absurd c_96 (by decide)
                  · refine lv_iconst (v := 0) hx hb dX1_apply_99 (by decide) ?_
                    have hw : sm_apply uR uW uA uM uX uF uI us ur ub ui ul uh p1 p2 p3 = (0, uR, uW, uA, uM, uX, uF, uI, 3, us, ur, ub, ul, uh) := by unfold sm_apply; rw [if_neg c_8, if_neg c_14, if_neg c_20, if_pos c_26, if_neg c_41, if_neg c_48, if_neg c_72]; (try rfl)
                    exact W.iret (v := 0) hx hb hr (fun t ht hW => ⟨⟨0, (uR, uW, uA, uM, uX, uF, uI, 3, us, ur, ub, ul, uh), rfl, hw, ⟨by rw [ht]; exact hP, va_K.moved hW.alike hK, hD⟩⟩, hS.F ht⟩) hS.2.2 dX1_apply_100
                · refine lv_aload_n hx hb dX1_apply_75 rfl (lv_at hl 2 rfl) ?_
                  refine va_get (D := (dC, dI)) (ci := 1) (v := .int ub) (C := RX1) (T := TX1) (N := 17) hx hb hg inX1 hown hK hP 0 rfl rfl 3 (by decide) (hg _ w_349) (fun _ h9 => h9) rfl dX1_apply_76 ?_
                  refine lv_bipush (v := 8) hx hb dX1_apply_79 (by decide) ?_
                  refine lv_icmp_ne (tgt := 88) hx hb dX1_apply_81 (by decide) (fun c_81 => ?_) (fun c_81 => ?_)
                  · refine lv_iconst (v := 0) hx hb dX1_apply_88 (by decide) ?_
                    refine va_put (D := (dC, dI)) (ci := 1) (v := .int 0) (ty := .int) (C := RX1) (T := TX1) (N := 17) hx hb hg inX1 tyX1 tyX1_ok nmX1 hown hK hP hD hS 0 rfl rfl 0 (by decide) (hg _ w_346) (fun _ h9 => h9) rfl (by decide +kernel) rfl rfl (Nat.le_of_ble_eq_true rfl) dX1_apply_89 (fun H locs hP hD hS => ?_)
                    have hP : va_P (dC, dI) vwCl (ws_sm b h uR uW uA uM uX uF uI uS 0 us ur ub uo ui ul uk uh) H := hP
                    have hD : va_D A (ws_sm b h uR uW uA uM uX uF uI uS 0 us ur ub uo ui ul uk uh) := hD
                    refine lv_aload_n hx hb dX1_apply_92 rfl (lv_at hl 2 rfl) ?_
                    refine va_get (D := (dC, dI)) (ci := 1) (v := .int 0) (C := RX1) (T := TX1) (N := 17) hx hb hg inX1 hown hK hP 0 rfl rfl 0 (by decide) (hg _ w_346) (fun _ h9 => h9) rfl dX1_apply_93 ?_
                    refine lv_if_le (tgt := 101) hx hb dX1_apply_96 (by decide) (fun c_96 => ?_) (fun c_96 => ?_)
                    · refine lv_aload_n hx hb dX1_apply_101 rfl (lv_at hl 2 rfl) ?_
                      refine lv_iload hx hb dX1_apply_102 (lv_at hl 1 rfl) ?_
                      refine lv_iconst (v := 1) hx hb dX1_apply_104 (by decide) ?_
                      refine lv_iadd hx hb dX1_apply_105 ?_
                      have hFc := va_free (wc := ws_sm b h uR uW uA uM uX uF uI uS 0 us ur ub uo ui ul uk uh) hD hS hA [0, 1, 2, 3, 4, 5, 6, 7, 8] rfl
                      refine va_calli (va_runV (As := [.int ((sm_ones p1) + 1)]) (rest := []) ⟨hx, hb, hml, hown, hg⟩ (cm_comes l dC dI b h H.size uR uW uA uM uX uF uI uS 0 us ur ub uo ui ul uk uh ((sm_ones p1) + 1) (nf_rg hu c_72)) (cwV 1 hg (gi_V w_428 w_430 s_12 w_2 w_431) rfl rfl rfl (by decide +kernel) ⟨Nat.le_of_ble_eq_true rfl, Nat.le_of_ble_eq_true rfl⟩) ⟨pr_bl, va_recv hK hP (ci := 1) (q0 := 0) rfl rfl, pr_ok hK hP hD⟩ rfl rfl hl.1 rfl (lv_room (Nat.le_of_ble_eq_true rfl)) dX1_apply_106 ⟨Nat.le_of_ble_eq_true rfl, Nat.le_of_ble_eq_true rfl⟩) hS (fun q _ h => hFc q h) hFc (fun r_106 u t H1 locs ht hvm hw_106 hB hz1 hk1 hS => ?_)
                      obtain ⟨uR_106, uW_106, uA_106, uM_106, uX_106, uF_106, uI_106, us_106, ur_106, ul_106, uh_106⟩ := u
                      obtain ⟨hP, hK1, hD1⟩ := hB
                      rw [ht] at hP
                      have hD := hD1.weaken (fun _ q _ h => hFc q.1 h)
                      generalize H1 = H at hP hS ⊢
                      have hP : va_P (dC, dI) vwCl (ws_sm b h uR_106 uW_106 uA_106 uM_106 uX_106 uF_106 uI_106 uS 0 us_106 ur_106 ub uo ui ul_106 uk uh_106) H := hP
                      have hD : va_D A (ws_sm b h uR_106 uW_106 uA_106 uM_106 uX_106 uF_106 uI_106 uS 0 us_106 ur_106 ub uo ui ul_106 uk uh_106) := hD
                      refine lv_istore (lv' := [(6, .int r_106), (5, .int 0), (4, .int (sm_ones p1)), (0, .ref (b 0)), (1, .int p1), (2, .int p2), (3, .int p3)]) hx hb dX1_apply_109 hl (by decide) rfl (fun ls hl => ?_)
                      refine lv_aload_n hx hb dX1_apply_111 rfl (lv_at hl 3 rfl) ?_
                      refine lv_iload hx hb dX1_apply_112 (lv_at hl 0 rfl) ?_
                      refine lv_iload_n hx hb dX1_apply_114 rfl (lv_at hl 4 rfl) ?_
                      have hFc := va_free (wc := ws_sm b h uR_106 uW_106 uA_106 uM_106 uX_106 uF_106 uI_106 uS 0 us_106 ur_106 ub uo ui ul_106 uk uh_106) hD hS hA [0, 1, 2, 3, 4, 5, 6, 7, 8] rfl
                      refine va_callv (va_runV (As := [.int r_106, .int p1]) (rest := []) ⟨hx, hb, hml, hown, hg⟩ (cm_reads l dC dI b h H.size uR_106 uW_106 uA_106 uM_106 uX_106 uF_106 uI_106 uS 0 us_106 ur_106 ub uo ui ul_106 uk uh_106 r_106 p1 (cm_rg hw_106 (nf_rg hu c_72))) (cwV 2 hg (gi_V w_432 w_434 s_13 w_2 w_435) rfl rfl rfl (by decide +kernel) ⟨Nat.le_of_ble_eq_true rfl, Nat.le_of_ble_eq_true rfl⟩) ⟨pr_bl, va_recv hK hP (ci := 1) (q0 := 0) rfl rfl, pr_ok hK hP hD⟩ rfl rfl hl.1 rfl (lv_room (Nat.le_of_ble_eq_true rfl)) dX1_apply_115 ⟨Nat.le_of_ble_eq_true rfl, Nat.le_of_ble_eq_true rfl⟩) hS (fun q _ h => hFc q h) hFc (fun u t H1 locs ht hvm hw_115 hB hz1 hk1 hS => ?_)
                      obtain ⟨uR_115, rfl⟩ : ∃ z, z = u := ⟨_, rfl⟩
                      obtain ⟨hP, hK1, hD1⟩ := hB
                      rw [ht] at hP
                      have hD := hD1.weaken (fun _ q _ h => hFc q.1 h)
                      generalize H1 = H at hP hS ⊢
                      have hP : va_P (dC, dI) vwCl (ws_sm b h uR_115 uW_106 uA_106 uM_106 uX_106 uF_106 uI_106 uS 0 us_106 ur_106 ub uo ui ul_106 uk uh_106) H := hP
                      have hD : va_D A (ws_sm b h uR_115 uW_106 uA_106 uM_106 uX_106 uF_106 uI_106 uS 0 us_106 ur_106 ub uo ui ul_106 uk uh_106) := hD
                      refine lv_aload_n hx hb dX1_apply_118 rfl (lv_at hl 3 rfl) ?_
                      refine lv_iload hx hb dX1_apply_119 (lv_at hl 0 rfl) ?_
                      refine lv_iload_n hx hb dX1_apply_121 rfl (lv_at hl 6 rfl) ?_
                      have hFc := va_free (wc := ws_sm b h uR_115 uW_106 uA_106 uM_106 uX_106 uF_106 uI_106 uS 0 us_106 ur_106 ub uo ui ul_106 uk uh_106) hD hS hA [0, 1, 2, 3, 4, 5, 6, 7, 8] rfl
                      refine va_callv (va_runV (As := [.int r_106, .int p3]) (rest := []) ⟨hx, hb, hml, hown, hg⟩ (cm_writes l dC dI b h H.size uR_115 uW_106 uA_106 uM_106 uX_106 uF_106 uI_106 uS 0 us_106 ur_106 ub uo ui ul_106 uk uh_106 r_106 p3 (cm_rg hw_106 (nf_rg hu c_72)) (pl_rg c_41)) (cwV 2 hg (gi_V w_436 w_438 s_14 w_2 w_439) rfl rfl rfl (by decide +kernel) ⟨Nat.le_of_ble_eq_true rfl, Nat.le_of_ble_eq_true rfl⟩) ⟨pr_bl, va_recv hK hP (ci := 1) (q0 := 0) rfl rfl, pr_ok hK hP hD⟩ rfl rfl hl.1 rfl (lv_room (Nat.le_of_ble_eq_true rfl)) dX1_apply_122 ⟨Nat.le_of_ble_eq_true rfl, Nat.le_of_ble_eq_true rfl⟩) hS (fun q _ h => hFc q h) hFc (fun u t H1 locs ht hvm hw_122 hB hz1 hk1 hS => ?_)
                      obtain ⟨uR_122, uW_122⟩ := u
                      obtain ⟨hP, hK1, hD1⟩ := hB
                      rw [ht] at hP
                      have hD := hD1.weaken (fun _ q _ h => hFc q.1 h)
                      generalize H1 = H at hP hS ⊢
                      have hP : va_P (dC, dI) vwCl (ws_sm b h uR_122 uW_122 uA_106 uM_106 uX_106 uF_106 uI_106 uS 0 us_106 ur_106 ub uo ui ul_106 uk uh_106) H := hP
                      have hD : va_D A (ws_sm b h uR_122 uW_122 uA_106 uM_106 uX_106 uF_106 uI_106 uS 0 us_106 ur_106 ub uo ui ul_106 uk uh_106) := hD
                      refine lv_aload_n hx hb dX1_apply_125 rfl (lv_at hl 3 rfl) ?_
                      refine va_get (D := (dC, dI)) (ci := 1) (v := .ref (b 4)) (C := RX1) (T := TX1) (N := 17) hx hb hg inX1 hown hK hP 0 rfl rfl 8 (by decide) (hg _ w_354) (fun _ h9 => h9) rfl dX1_apply_126 ?_
                      refine lv_iload hx hb dX1_apply_129 (lv_at hl 0 rfl) ?_
                      refine lv_iload_n hx hb dX1_apply_131 rfl (lv_at hl 5 rfl) ?_
                      refine lv_bipush (v := 16) hx hb dX1_apply_132 (by decide) ?_
                      refine lv_iload hx hb dX1_apply_134 (lv_at hl 2 rfl) ?_
                      refine lv_imul hx hb dX1_apply_136 ?_
                      refine lv_bipush (v := 8) hx hb dX1_apply_137 (by decide) ?_
                      refine lv_iadd hx hb dX1_apply_139 ?_
                      refine lv_imul hx hb dX1_apply_140 ?_
                      refine va_iast hx hb hK hP hD hS 4 3 rfl rfl (ix_k (cm_rg hw_106 (nf_rg hu c_72))) dX1_apply_141 (fun H locs hP hD hS => ?_)
                      have hP : va_P (dC, dI) vwCl (ws_sm b h uR_122 uW_122 uA_106 (upd uM_106 r_106.toNatClampNeg (p2 * ((16 * (sm_ones p1)) + 8))) uX_106 uF_106 uI_106 uS 0 us_106 ur_106 ub uo ui ul_106 uk uh_106) H := hP
                      have hD : va_D A (ws_sm b h uR_122 uW_122 uA_106 (upd uM_106 r_106.toNatClampNeg (p2 * ((16 * (sm_ones p1)) + 8))) uX_106 uF_106 uI_106 uS 0 us_106 ur_106 ub uo ui ul_106 uk uh_106) := hD
                      refine lv_aload_n hx hb dX1_apply_142 rfl (lv_at hl 3 rfl) ?_
                      refine va_get (D := (dC, dI)) (ci := 1) (v := .ref (b 5)) (C := RX1) (T := TX1) (N := 17) hx hb hg inX1 hown hK hP 0 rfl rfl 9 (by decide) (hg _ w_355) (fun _ h9 => h9) rfl dX1_apply_143 ?_
                      refine lv_iload hx hb dX1_apply_146 (lv_at hl 0 rfl) ?_
                      refine lv_bipush (v := 8) hx hb dX1_apply_148 (by decide) ?_
                      refine lv_iload hx hb dX1_apply_150 (lv_at hl 2 rfl) ?_
                      refine lv_imul hx hb dX1_apply_152 ?_
                      refine va_iast hx hb hK hP hD hS 5 4 rfl rfl (ix_k (cm_rg hw_106 (nf_rg hu c_72))) dX1_apply_153 (fun H locs hP hD hS => ?_)
                      have hP : va_P (dC, dI) vwCl (ws_sm b h uR_122 uW_122 uA_106 (upd uM_106 r_106.toNatClampNeg (p2 * ((16 * (sm_ones p1)) + 8))) (upd uX_106 r_106.toNatClampNeg (8 * (sm_ones p1))) uF_106 uI_106 uS 0 us_106 ur_106 ub uo ui ul_106 uk uh_106) H := hP
                      have hD : va_D A (ws_sm b h uR_122 uW_122 uA_106 (upd uM_106 r_106.toNatClampNeg (p2 * ((16 * (sm_ones p1)) + 8))) (upd uX_106 r_106.toNatClampNeg (8 * (sm_ones p1))) uF_106 uI_106 uS 0 us_106 ur_106 ub uo ui ul_106 uk uh_106) := hD
                      refine lv_aload_n hx hb dX1_apply_154 rfl (lv_at hl 3 rfl) ?_
                      refine lv_dup hx hb dX1_apply_155 rfl ?_
                      refine va_get (D := (dC, dI)) (ci := 1) (v := .int ub) (C := RX1) (T := TX1) (N := 17) hx hb hg inX1 hown hK hP 0 rfl rfl 3 (by decide) (hg _ w_349) (fun _ h9 => h9) rfl dX1_apply_156 ?_
                      refine lv_iconst (v := 1) hx hb dX1_apply_159 (by decide) ?_
                      refine lv_iadd hx hb dX1_apply_160 ?_
                      refine va_put (D := (dC, dI)) (ci := 1) (v := .int (ub + 1)) (ty := .int) (C := RX1) (T := TX1) (N := 17) hx hb hg inX1 tyX1 tyX1_ok nmX1 hown hK hP hD hS 0 rfl rfl 3 (by decide) (hg _ w_349) (fun _ h9 => h9) rfl (by decide +kernel) rfl rfl (Nat.le_of_ble_eq_true rfl) dX1_apply_161 (fun H locs hP hD hS => ?_)
                      have hP : va_P (dC, dI) vwCl (ws_sm b h uR_122 uW_122 uA_106 (upd uM_106 r_106.toNatClampNeg (p2 * ((16 * (sm_ones p1)) + 8))) (upd uX_106 r_106.toNatClampNeg (8 * (sm_ones p1))) uF_106 uI_106 uS 0 us_106 ur_106 (ub + 1) uo ui ul_106 uk uh_106) H := hP
                      have hD : va_D A (ws_sm b h uR_122 uW_122 uA_106 (upd uM_106 r_106.toNatClampNeg (p2 * ((16 * (sm_ones p1)) + 8))) (upd uX_106 r_106.toNatClampNeg (8 * (sm_ones p1))) uF_106 uI_106 uS 0 us_106 ur_106 (ub + 1) uo ui ul_106 uk uh_106) := hD
                      refine lv_iload hx hb dX1_apply_164 (lv_at hl 0 rfl) ?_
                      have hw : sm_apply uR uW uA uM uX uF uI us ur ub ui ul uh p1 p2 p3 = (r_106, uR_122, uW_122, uA_106, upd uM_106 r_106.toNatClampNeg (p2 * ((16 * (sm_ones p1)) + 8)), upd uX_106 r_106.toNatClampNeg (8 * (sm_ones p1)), uF_106, uI_106, 0, us_106, ur_106, ub + 1, ul_106, uh_106) := by unfold sm_apply; rw [if_neg c_8, if_neg c_14, if_neg c_20, if_pos c_26, if_neg c_41, if_neg c_48, if_pos c_72, if_neg c_81, hw_106]; (try dsimp only); rw [hw_115]; (try dsimp only); rw [hw_122]; (try dsimp only); (try rfl)
                      exact W.iret (v := r_106) hx hb hr (fun t ht hW => ⟨⟨r_106, (uR_122, uW_122, uA_106, upd uM_106 r_106.toNatClampNeg (p2 * ((16 * (sm_ones p1)) + 8)), upd uX_106 r_106.toNatClampNeg (8 * (sm_ones p1)), uF_106, uI_106, 0, us_106, ur_106, ub + 1, ul_106, uh_106), rfl, hw, ⟨by rw [ht]; exact hP, va_K.moved hW.alike hK, hD⟩⟩, hS.F ht⟩) hS.2.2 dX1_apply_166
                    · exact absurd c_96 (by decide)
                  · refine lv_iconst (v := 3) hx hb dX1_apply_84 (by decide) ?_
                    refine lv_goto (tgt := 89) hx hb dX1_apply_85 (by decide) ?_
                    refine va_put (D := (dC, dI)) (ci := 1) (v := .int 3) (ty := .int) (C := RX1) (T := TX1) (N := 17) hx hb hg inX1 tyX1 tyX1_ok nmX1 hown hK hP hD hS 0 rfl rfl 0 (by decide) (hg _ w_346) (fun _ h9 => h9) rfl (by decide +kernel) rfl rfl (Nat.le_of_ble_eq_true rfl) dX1_apply_89 (fun H locs hP hD hS => ?_)
                    have hP : va_P (dC, dI) vwCl (ws_sm b h uR uW uA uM uX uF uI uS 3 us ur ub uo ui ul uk uh) H := hP
                    have hD : va_D A (ws_sm b h uR uW uA uM uX uF uI uS 3 us ur ub uo ui ul uk uh) := hD
                    refine lv_aload_n hx hb dX1_apply_92 rfl (lv_at hl 2 rfl) ?_
                    refine va_get (D := (dC, dI)) (ci := 1) (v := .int 3) (C := RX1) (T := TX1) (N := 17) hx hb hg inX1 hown hK hP 0 rfl rfl 0 (by decide) (hg _ w_346) (fun _ h9 => h9) rfl dX1_apply_93 ?_
                    refine lv_if_le (tgt := 101) hx hb dX1_apply_96 (by decide) (fun c_96 => ?_) (fun c_96 => ?_)
                    · exact absurd c_96 (by decide)
                    · refine lv_iconst (v := 0) hx hb dX1_apply_99 (by decide) ?_
                      have hw : sm_apply uR uW uA uM uX uF uI us ur ub ui ul uh p1 p2 p3 = (0, uR, uW, uA, uM, uX, uF, uI, 3, us, ur, ub, ul, uh) := by unfold sm_apply; rw [if_neg c_8, if_neg c_14, if_neg c_20, if_pos c_26, if_neg c_41, if_neg c_48, if_pos c_72, if_pos c_81]; (try rfl)
                      exact W.iret (v := 0) hx hb hr (fun t ht hW => ⟨⟨0, (uR, uW, uA, uM, uX, uF, uI, 3, us, ur, ub, ul, uh), rfl, hw, ⟨by rw [ht]; exact hP, va_K.moved hW.alike hK, hD⟩⟩, hS.F ht⟩) hS.2.2 dX1_apply_100
              · exact absurd c_57 (by decide)
            · refine lv_iconst (v := 1) hx hb dX1_apply_51 (by decide) ?_
              refine lv_goto (tgt := 89) hx hb dX1_apply_52 (by decide) ?_
              refine va_put (D := (dC, dI)) (ci := 1) (v := .int 1) (ty := .int) (C := RX1) (T := TX1) (N := 17) hx hb hg inX1 tyX1 tyX1_ok nmX1 hown hK hP hD hS 0 rfl rfl 0 (by decide) (hg _ w_346) (fun _ h9 => h9) rfl (by decide +kernel) rfl rfl (Nat.le_of_ble_eq_true rfl) dX1_apply_89 (fun H locs hP hD hS => ?_)
              have hP : va_P (dC, dI) vwCl (ws_sm b h uR uW uA uM uX uF uI uS 1 us ur ub uo ui ul uk uh) H := hP
              have hD : va_D A (ws_sm b h uR uW uA uM uX uF uI uS 1 us ur ub uo ui ul uk uh) := hD
              refine lv_aload_n hx hb dX1_apply_92 rfl (lv_at hl 2 rfl) ?_
              refine va_get (D := (dC, dI)) (ci := 1) (v := .int 1) (C := RX1) (T := TX1) (N := 17) hx hb hg inX1 hown hK hP 0 rfl rfl 0 (by decide) (hg _ w_346) (fun _ h9 => h9) rfl dX1_apply_93 ?_
              refine lv_if_le (tgt := 101) hx hb dX1_apply_96 (by decide) (fun c_96 => ?_) (fun c_96 => ?_)
              · exact absurd c_96 (by decide)
              · refine lv_iconst (v := 0) hx hb dX1_apply_99 (by decide) ?_
                have hw : sm_apply uR uW uA uM uX uF uI us ur ub ui ul uh p1 p2 p3 = (0, uR, uW, uA, uM, uX, uF, uI, 1, us, ur, ub, ul, uh) := by unfold sm_apply; rw [if_neg c_8, if_neg c_14, if_neg c_20, if_pos c_26, if_neg c_41, if_pos c_48]; (try rfl)
                exact W.iret (v := 0) hx hb hr (fun t ht hW => ⟨⟨0, (uR, uW, uA, uM, uX, uF, uI, 1, us, ur, ub, ul, uh), rfl, hw, ⟨by rw [ht]; exact hP, va_K.moved hW.alike hK, hD⟩⟩, hS.F ht⟩) hS.2.2 dX1_apply_100
        · refine lv_iconst (v := 1) hx hb dX1_apply_29 (by decide) ?_
          refine lv_goto (tgt := 34) hx hb dX1_apply_30 (by decide) ?_
          refine lv_istore (lv' := [(5, .int 1), (4, .int (sm_ones p1)), (0, .ref (b 0)), (1, .int p1), (2, .int p2), (3, .int p3)]) hx hb dX1_apply_34 hl (by decide) rfl (fun ls hl => ?_)
          refine lv_aload_n hx hb dX1_apply_36 rfl (lv_at hl 2 rfl) ?_
          refine lv_iload_n hx hb dX1_apply_37 rfl (lv_at hl 5 rfl) ?_
          refine va_calli (va_runS (As := [.int p3]) (rest := [.ref (b 0)]) ⟨hx, hb, hml, hown, hg⟩ (cm_isPlace l dC dI p3) (va_cwS 1 hg (gi_S w_411 w_412 w_2 w_413) rfl rfl rfl (by decide +kernel) ⟨Nat.le_of_ble_eq_true rfl, Nat.le_of_ble_eq_true rfl⟩) ⟨(fun _ _ _ _ q => q), (fun _ _ _ => ⟨rfl, trivial⟩)⟩ rfl rfl hl.1 rfl (lv_room (Nat.le_of_ble_eq_true rfl)) dX1_apply_38 ⟨Nat.le_of_ble_eq_true rfl, Nat.le_of_ble_eq_true rfl⟩) hS (fun q _ h => False.elim h) (fun q h => False.elim h) (fun r_38 u t H1 locs ht hvm hw_38 hB hz1 hk1 hS => ?_)
          subst hw_38
          have hP := hP.kept (fun k q hq => hk1 q.1 (hP k q hq).lt (fun h => h))
          generalize H1 = H at hP hS ⊢
          have hP : va_P (dC, dI) vwCl (ws_sm b h uR uW uA uM uX uF uI uS ut us ur ub uo ui ul uk uh) H := hP
          have hD : va_D A (ws_sm b h uR uW uA uM uX uF uI uS ut us ur ub uo ui ul uk uh) := hD
          refine lv_if_eq (tgt := 51) hx hb dX1_apply_41 (by decide) (fun c_41 => ?_) (fun c_41 => ?_)
          · refine lv_iconst (v := 1) hx hb dX1_apply_51 (by decide) ?_
            refine lv_goto (tgt := 89) hx hb dX1_apply_52 (by decide) ?_
            refine va_put (D := (dC, dI)) (ci := 1) (v := .int 1) (ty := .int) (C := RX1) (T := TX1) (N := 17) hx hb hg inX1 tyX1 tyX1_ok nmX1 hown hK hP hD hS 0 rfl rfl 0 (by decide) (hg _ w_346) (fun _ h9 => h9) rfl (by decide +kernel) rfl rfl (Nat.le_of_ble_eq_true rfl) dX1_apply_89 (fun H locs hP hD hS => ?_)
            have hP : va_P (dC, dI) vwCl (ws_sm b h uR uW uA uM uX uF uI uS 1 us ur ub uo ui ul uk uh) H := hP
            have hD : va_D A (ws_sm b h uR uW uA uM uX uF uI uS 1 us ur ub uo ui ul uk uh) := hD
            refine lv_aload_n hx hb dX1_apply_92 rfl (lv_at hl 2 rfl) ?_
            refine va_get (D := (dC, dI)) (ci := 1) (v := .int 1) (C := RX1) (T := TX1) (N := 17) hx hb hg inX1 hown hK hP 0 rfl rfl 0 (by decide) (hg _ w_346) (fun _ h9 => h9) rfl dX1_apply_93 ?_
            refine lv_if_le (tgt := 101) hx hb dX1_apply_96 (by decide) (fun c_96 => ?_) (fun c_96 => ?_)
            · exact absurd c_96 (by decide)
            · refine lv_iconst (v := 0) hx hb dX1_apply_99 (by decide) ?_
              have hw : sm_apply uR uW uA uM uX uF uI us ur ub ui ul uh p1 p2 p3 = (0, uR, uW, uA, uM, uX, uF, uI, 1, us, ur, ub, ul, uh) := by unfold sm_apply; rw [if_neg c_8, if_neg c_14, if_neg c_20, if_neg c_26, if_pos c_41]; (try rfl)
              exact W.iret (v := 0) hx hb hr (fun t ht hW => ⟨⟨0, (uR, uW, uA, uM, uX, uF, uI, 1, us, ur, ub, ul, uh), rfl, hw, ⟨by rw [ht]; exact hP, va_K.moved hW.alike hK, hD⟩⟩, hS.F ht⟩) hS.2.2 dX1_apply_100
          · refine lv_iload_n hx hb dX1_apply_44 rfl (lv_at hl 3 rfl) ?_
            refine va_calli (va_runS (As := [.int p1]) (rest := [.ref (b 0)]) ⟨hx, hb, hml, hown, hg⟩ (cm_isSet l dC dI p1) (va_cwS 1 hg (gi_S w_414 w_415 w_2 w_416) rfl rfl rfl (by decide +kernel) ⟨Nat.le_of_ble_eq_true rfl, Nat.le_of_ble_eq_true rfl⟩) ⟨(fun _ _ _ _ q => q), (fun _ _ _ => ⟨rfl, trivial⟩)⟩ rfl rfl hl.1 rfl (lv_room (Nat.le_of_ble_eq_true rfl)) dX1_apply_45 ⟨Nat.le_of_ble_eq_true rfl, Nat.le_of_ble_eq_true rfl⟩) hS (fun q _ h => False.elim h) (fun q h => False.elim h) (fun r_45 u t H1 locs ht hvm hw_45 hB hz1 hk1 hS => ?_)
            subst hw_45
            have hP := hP.kept (fun k q hq => hk1 q.1 (hP k q hq).lt (fun h => h))
            generalize H1 = H at hP hS ⊢
            have hP : va_P (dC, dI) vwCl (ws_sm b h uR uW uA uM uX uF uI uS ut us ur ub uo ui ul uk uh) H := hP
            have hD : va_D A (ws_sm b h uR uW uA uM uX uF uI uS ut us ur ub uo ui ul uk uh) := hD
            refine lv_if_ne (tgt := 55) hx hb dX1_apply_48 (by decide) (fun c_48 => ?_) (fun c_48 => ?_)
            · refine lv_iload hx hb dX1_apply_55 (lv_at hl 0 rfl) ?_
              refine lv_if_eq (tgt := 64) hx hb dX1_apply_57 (by decide) (fun c_57 => ?_) (fun c_57 => ?_)
              · exact absurd c_57 (by decide)
              · refine lv_iconst (v := 2) hx hb dX1_apply_60 (by decide) ?_
                refine lv_goto (tgt := 89) hx hb dX1_apply_61 (by decide) ?_
                refine va_put (D := (dC, dI)) (ci := 1) (v := .int 2) (ty := .int) (C := RX1) (T := TX1) (N := 17) hx hb hg inX1 tyX1 tyX1_ok nmX1 hown hK hP hD hS 0 rfl rfl 0 (by decide) (hg _ w_346) (fun _ h9 => h9) rfl (by decide +kernel) rfl rfl (Nat.le_of_ble_eq_true rfl) dX1_apply_89 (fun H locs hP hD hS => ?_)
                have hP : va_P (dC, dI) vwCl (ws_sm b h uR uW uA uM uX uF uI uS 2 us ur ub uo ui ul uk uh) H := hP
                have hD : va_D A (ws_sm b h uR uW uA uM uX uF uI uS 2 us ur ub uo ui ul uk uh) := hD
                refine lv_aload_n hx hb dX1_apply_92 rfl (lv_at hl 2 rfl) ?_
                refine va_get (D := (dC, dI)) (ci := 1) (v := .int 2) (C := RX1) (T := TX1) (N := 17) hx hb hg inX1 hown hK hP 0 rfl rfl 0 (by decide) (hg _ w_346) (fun _ h9 => h9) rfl dX1_apply_93 ?_
                refine lv_if_le (tgt := 101) hx hb dX1_apply_96 (by decide) (fun c_96 => ?_) (fun c_96 => ?_)
                · exact absurd c_96 (by decide)
                · refine lv_iconst (v := 0) hx hb dX1_apply_99 (by decide) ?_
                  have hw : sm_apply uR uW uA uM uX uF uI us ur ub ui ul uh p1 p2 p3 = (0, uR, uW, uA, uM, uX, uF, uI, 2, us, ur, ub, ul, uh) := by unfold sm_apply; rw [if_neg c_8, if_neg c_14, if_neg c_20, if_neg c_26, if_neg c_41, if_neg c_48]; (try rfl)
                  exact W.iret (v := 0) hx hb hr (fun t ht hW => ⟨⟨0, (uR, uW, uA, uM, uX, uF, uI, 2, us, ur, ub, ul, uh), rfl, hw, ⟨by rw [ht]; exact hP, va_K.moved hW.alike hK, hD⟩⟩, hS.F ht⟩) hS.2.2 dX1_apply_100
            · refine lv_iconst (v := 1) hx hb dX1_apply_51 (by decide) ?_
              refine lv_goto (tgt := 89) hx hb dX1_apply_52 (by decide) ?_
              refine va_put (D := (dC, dI)) (ci := 1) (v := .int 1) (ty := .int) (C := RX1) (T := TX1) (N := 17) hx hb hg inX1 tyX1 tyX1_ok nmX1 hown hK hP hD hS 0 rfl rfl 0 (by decide) (hg _ w_346) (fun _ h9 => h9) rfl (by decide +kernel) rfl rfl (Nat.le_of_ble_eq_true rfl) dX1_apply_89 (fun H locs hP hD hS => ?_)
              have hP : va_P (dC, dI) vwCl (ws_sm b h uR uW uA uM uX uF uI uS 1 us ur ub uo ui ul uk uh) H := hP
              have hD : va_D A (ws_sm b h uR uW uA uM uX uF uI uS 1 us ur ub uo ui ul uk uh) := hD
              refine lv_aload_n hx hb dX1_apply_92 rfl (lv_at hl 2 rfl) ?_
              refine va_get (D := (dC, dI)) (ci := 1) (v := .int 1) (C := RX1) (T := TX1) (N := 17) hx hb hg inX1 hown hK hP 0 rfl rfl 0 (by decide) (hg _ w_346) (fun _ h9 => h9) rfl dX1_apply_93 ?_
              refine lv_if_le (tgt := 101) hx hb dX1_apply_96 (by decide) (fun c_96 => ?_) (fun c_96 => ?_)
              · exact absurd c_96 (by decide)
              · refine lv_iconst (v := 0) hx hb dX1_apply_99 (by decide) ?_
                have hw : sm_apply uR uW uA uM uX uF uI us ur ub ui ul uh p1 p2 p3 = (0, uR, uW, uA, uM, uX, uF, uI, 1, us, ur, ub, ul, uh) := by unfold sm_apply; rw [if_neg c_8, if_neg c_14, if_neg c_20, if_neg c_26, if_neg c_41, if_pos c_48]; (try rfl)
                exact W.iret (v := 0) hx hb hr (fun t ht hW => ⟨⟨0, (uR, uW, uA, uM, uX, uF, uI, 1, us, ur, ub, ul, uh), rfl, hw, ⟨by rw [ht]; exact hP, va_K.moved hW.alike hK, hD⟩⟩, hS.F ht⟩) hS.2.2 dX1_apply_100
