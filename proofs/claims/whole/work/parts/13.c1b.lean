set_option maxHeartbeats 4000000 in
set_option maxRecDepth 100000 in
theorem cm_assign (l : Launch) (dC : Nat → ClassId) (dI : Nat → Nat → Nat) (b : Nat → Nat) (h : Nat → ClassId) (sz : Nat) (uR uW uA uM uX uF uI uS : Nat → Int32) (ut us ur ub uo ui ul uk uh : Int32) (p1 p2 : Int32) (hu : 0 ≤ us.toInt ∧ us.toInt ≤ 48) : Met l yX1_assign wsX1_assign ({ frames := 2, cells := 0, slots := 0, locals := 42 } : Room) (va_Pc [.ref (b 0), .int p1, .int p2] (pr (dC, dI) (ws_sm b h uR uW uA uM uX uF uI uS ut us ur ub uo ui ul uk uh) (ty_sm h) sz)) (va_Qi (fun (r : Int32) (u : (Nat → Int32) × (Nat → Int32) × (Nat → Int32) × (Nat → Int32) × (Nat → Int32) × (Nat → Int32) × (Nat → Int32) × Int32 × Int32 × Int32 × Int32 × Int32) => sm_assign uR uW uA uM uX uF uI us ur ui ul uh p1 p2 = (r, u)) (fun (u : (Nat → Int32) × (Nat → Int32) × (Nat → Int32) × (Nat → Int32) × (Nat → Int32) × (Nat → Int32) × (Nat → Int32) × Int32 × Int32 × Int32 × Int32 × Int32) t => match u with | (uR', uW', uA', uM', uX', uF', uI', ut', us', ur', ul', uh') => po (dC, dI) (ws_sm b h uR' uW' uA' uM' uX' uF' uI' uS ut' us' ur' ub uo ui ul' uk uh') (ty_sm h) (va_A (ws_sm b h uR uW uA uM uX uF uI uS ut us ur ub uo ui ul uk uh) sz) t) (va_A (ws_sm b h uR uW uA uM uX uF uI uS ut us ur ub uo ui ul uk uh) sz)) 0 0 (va_A (ws_sm b h uR uW uA uM uX uF uI uS ut us ur ub uo ui ul uk uh) sz) := by
  refine Met.ofW (cc := cX1_assign) (maxL := 4) (ret := (some .int)) (by decide) rfl ?_
  intro p e s m args below meth c s₁ B hml hv
  obtain ⟨rfl, hsz, hP, hK, hD0⟩ := hv
  have hx := B.exec
  have hb := B.bytes
  have hr := B.returns
  have hts := atoms_spec (ws := wsX1_assign) B.pre
  have hg : ∀ w ∈ gw, w.before _ s = true := fun w h => hts w (List.mem_cons_of_mem _ h)
  have hown : s.vm.findClass RX1 = some m.cls := findClass_of_methodNamed B.named
  have hlocks := B.notSynchronized
  subst hsz
  have hD := hD0.self (sz := s.heap.size)
  generalize hAe : va_A (ws_sm b h uR uW uA uM uX uF uI uS ut us ur ub uo ui ul uk uh) s.heap.size = A at hD ⊢
  have hA : ∀ q : Nat, s.heap.size ≤ q → A q := fun q h => by rw [← hAe]; exact Or.inr h
  clear hAe
  refine w_in (fun H locs eH eL => ?_)
  have hS : va_S A s.heap H locs := by rw [eH, eL]; exact va_S.rf
  have hP : va_P (dC, dI) vwCl (ws_sm b h uR uW uA uM uX uF uI uS ut us ur ub uo ui ul uk uh) H := by rw [eH]; exact hP
  clear eH eL
  have hl := lv_entry ([.ref (b 0), .int p1, .int p2]) (n := 4) (Nat.le_of_ble_eq_true rfl)
  rw [lg_entry_eq]
  generalize (lg_sl ([.ref (b 0), .int p1, .int p2]) ++ List.replicate (4 - (lg_sl ([.ref (b 0), .int p1, .int p2])).length) Slot.unset).toArray = ls at hl ⊢
  have hl : lv_has ls 4 [(0, .ref (b 0)), (1, .int p1), (2, .int p2)] := hl
  refine lv_aload_n hx hb dX1_assign_0 rfl (lv_at hl 0 rfl) ?_
  refine lv_iload_n hx hb dX1_assign_1 rfl (lv_at hl 1 rfl) ?_
  refine va_calli (va_runS (As := [.int p1]) (rest := [.ref (b 0)]) ⟨hx, hb, hml, hown, hg⟩ (cm_isPlace l dC dI p1) (va_cwS 1 hg (gi_S w_411 w_412 w_2 w_413) rfl rfl rfl (by decide +kernel) ⟨Nat.le_of_ble_eq_true rfl, Nat.le_of_ble_eq_true rfl⟩) ⟨(fun _ _ _ _ q => q), (fun _ _ _ => ⟨rfl, trivial⟩)⟩ rfl rfl hl.1 rfl (lv_room (Nat.le_of_ble_eq_true rfl)) dX1_assign_2 ⟨Nat.le_of_ble_eq_true rfl, Nat.le_of_ble_eq_true rfl⟩) hS (fun q _ h => False.elim h) (fun q h => False.elim h) (fun r_2 u t H1 locs ht hvm hw_2 hB hz1 hk1 hS => ?_)
  subst hw_2
  have hP := hP.kept (fun k q hq => hk1 q.1 (hP k q hq).lt (fun h => h))
  generalize H1 = H at hP hS ⊢
  have hP : va_P (dC, dI) vwCl (ws_sm b h uR uW uA uM uX uF uI uS ut us ur ub uo ui ul uk uh) H := hP
  have hD : va_D A (ws_sm b h uR uW uA uM uX uF uI uS ut us ur ub uo ui ul uk uh) := hD
  refine lv_if_eq (tgt := 15) hx hb dX1_assign_5 (by decide) (fun c_5 => ?_) (fun c_5 => ?_)
  · refine lv_iconst (v := 1) hx hb dX1_assign_15 (by decide) ?_
    refine lv_goto (tgt := 35) hx hb dX1_assign_16 (by decide) ?_
    refine va_put (D := (dC, dI)) (ci := 1) (v := .int 1) (ty := .int) (C := RX1) (T := TX1) (N := 17) hx hb hg inX1 tyX1 tyX1_ok nmX1 hown hK hP hD hS 0 rfl rfl 0 (by decide) (hg _ w_346) (fun _ h9 => h9) rfl (by decide +kernel) rfl rfl (Nat.le_of_ble_eq_true rfl) dX1_assign_35 (fun H locs hP hD hS => ?_)
    have hP : va_P (dC, dI) vwCl (ws_sm b h uR uW uA uM uX uF uI uS 1 us ur ub uo ui ul uk uh) H := hP
    have hD : va_D A (ws_sm b h uR uW uA uM uX uF uI uS 1 us ur ub uo ui ul uk uh) := hD
    refine lv_aload_n hx hb dX1_assign_38 rfl (lv_at hl 0 rfl) ?_
    refine va_get (D := (dC, dI)) (ci := 1) (v := .int 1) (C := RX1) (T := TX1) (N := 17) hx hb hg inX1 hown hK hP 0 rfl rfl 0 (by decide) (hg _ w_346) (fun _ h9 => h9) rfl dX1_assign_39 ?_
    refine lv_if_le (tgt := 47) hx hb dX1_assign_42 (by decide) (fun c_42 => ?_) (fun c_42 => ?_)
    · exact absurd c_42 (by decide)
    · refine lv_iconst (v := 0) hx hb dX1_assign_45 (by decide) ?_
      have hw : sm_assign uR uW uA uM uX uF uI us ur ui ul uh p1 p2 = (0, uR, uW, uA, uM, uX, uF, uI, 1, us, ur, ul, uh) := by unfold sm_assign; rw [if_pos c_5]; (try rfl)
      exact W.iret (v := 0) hx hb hr (fun t ht hW => ⟨⟨0, (uR, uW, uA, uM, uX, uF, uI, 1, us, ur, ul, uh), rfl, hw, ⟨by rw [ht]; exact hP, va_K.moved hW.alike hK, hD⟩⟩, hS.F ht⟩) hS.2.2 dX1_assign_46
  · refine lv_iload_n hx hb dX1_assign_8 rfl (lv_at hl 2 rfl) ?_
    refine va_calli (va_runS (As := [.int p2]) (rest := [.ref (b 0)]) ⟨hx, hb, hml, hown, hg⟩ (cm_isSet l dC dI p2) (va_cwS 1 hg (gi_S w_414 w_415 w_2 w_416) rfl rfl rfl (by decide +kernel) ⟨Nat.le_of_ble_eq_true rfl, Nat.le_of_ble_eq_true rfl⟩) ⟨(fun _ _ _ _ q => q), (fun _ _ _ => ⟨rfl, trivial⟩)⟩ rfl rfl hl.1 rfl (lv_room (Nat.le_of_ble_eq_true rfl)) dX1_assign_9 ⟨Nat.le_of_ble_eq_true rfl, Nat.le_of_ble_eq_true rfl⟩) hS (fun q _ h => False.elim h) (fun q h => False.elim h) (fun r_9 u t H1 locs ht hvm hw_9 hB hz1 hk1 hS => ?_)
    subst hw_9
    have hP := hP.kept (fun k q hq => hk1 q.1 (hP k q hq).lt (fun h => h))
    generalize H1 = H at hP hS ⊢
    have hP : va_P (dC, dI) vwCl (ws_sm b h uR uW uA uM uX uF uI uS ut us ur ub uo ui ul uk uh) H := hP
    have hD : va_D A (ws_sm b h uR uW uA uM uX uF uI uS ut us ur ub uo ui ul uk uh) := hD
    refine lv_if_ne (tgt := 19) hx hb dX1_assign_12 (by decide) (fun c_12 => ?_) (fun c_12 => ?_)
    · refine lv_aload_n hx hb dX1_assign_19 rfl (lv_at hl 0 rfl) ?_
      refine lv_iload_n hx hb dX1_assign_20 rfl (lv_at hl 2 rfl) ?_
      refine va_calli (va_runS (As := [.int p2]) (rest := [.ref (b 0), .ref (b 0)]) ⟨hx, hb, hml, hown, hg⟩ (cm_counts l dC dI p2) (va_cwS 1 hg (gi_S w_418 w_419 w_2 w_420) rfl rfl rfl (by decide +kernel) ⟨Nat.le_of_ble_eq_true rfl, Nat.le_of_ble_eq_true rfl⟩) ⟨(fun _ _ _ _ q => q), (fun _ _ _ => ⟨rfl, trivial⟩)⟩ rfl rfl hl.1 rfl (lv_room (Nat.le_of_ble_eq_true rfl)) dX1_assign_21 ⟨Nat.le_of_ble_eq_true rfl, Nat.le_of_ble_eq_true rfl⟩) hS (fun q _ h => False.elim h) (fun q h => False.elim h) (fun r_21 u t H1 locs ht hvm hw_21 hB hz1 hk1 hS => ?_)
      subst hw_21
      have hP := hP.kept (fun k q hq => hk1 q.1 (hP k q hq).lt (fun h => h))
      generalize H1 = H at hP hS ⊢
      have hP : va_P (dC, dI) vwCl (ws_sm b h uR uW uA uM uX uF uI uS ut us ur ub uo ui ul uk uh) H := hP
      have hD : va_D A (ws_sm b h uR uW uA uM uX uF uI uS ut us ur ub uo ui ul uk uh) := hD
      have hFc := va_free (wc := ws_sm b h uR uW uA uM uX uF uI uS ut us ur ub uo ui ul uk uh) hD hS hA [0, 1, 2, 3, 4, 5, 6, 7, 8] rfl
      refine va_calli (va_runV (As := [.int (sm_counts p2)]) (rest := [.ref (b 0)]) ⟨hx, hb, hml, hown, hg⟩ (cm_isFull l dC dI b h H.size uR uW uA uM uX uF uI uS ut us ur ub uo ui ul uk uh (sm_counts p2)) (cwV 1 hg (gi_V w_424 w_426 s_11 w_2 w_427) rfl rfl rfl (by decide +kernel) ⟨Nat.le_of_ble_eq_true rfl, Nat.le_of_ble_eq_true rfl⟩) ⟨pr_bl, va_recv hK hP (ci := 1) (q0 := 0) rfl rfl, pr_ok hK hP hD⟩ rfl rfl hl.1 rfl (lv_room (Nat.le_of_ble_eq_true rfl)) dX1_assign_24 ⟨Nat.le_of_ble_eq_true rfl, Nat.le_of_ble_eq_true rfl⟩) hS (fun q _ h => hFc q h) hFc (fun r_24 u t H1 locs ht hvm hw_24 hB hz1 hk1 hS => ?_)
      subst hw_24
      obtain ⟨hP, hK1, hD1⟩ := hB
      rw [ht] at hP
      have hD := hD1.weaken (fun _ q _ h => hFc q.1 h)
      generalize H1 = H at hP hS ⊢
      have hP : va_P (dC, dI) vwCl (ws_sm b h uR uW uA uM uX uF uI uS ut us ur ub uo ui ul uk uh) H := hP
      have hD : va_D A (ws_sm b h uR uW uA uM uX uF uI uS ut us ur ub uo ui ul uk uh) := hD
      refine lv_if_eq (tgt := 34) hx hb dX1_assign_27 (by decide) (fun c_27 => ?_) (fun c_27 => ?_)
      · refine lv_iconst (v := 0) hx hb dX1_assign_34 (by decide) ?_
        refine va_put (D := (dC, dI)) (ci := 1) (v := .int 0) (ty := .int) (C := RX1) (T := TX1) (N := 17) hx hb hg inX1 tyX1 tyX1_ok nmX1 hown hK hP hD hS 0 rfl rfl 0 (by decide) (hg _ w_346) (fun _ h9 => h9) rfl (by decide +kernel) rfl rfl (Nat.le_of_ble_eq_true rfl) dX1_assign_35 (fun H locs hP hD hS => ?_)
        have hP : va_P (dC, dI) vwCl (ws_sm b h uR uW uA uM uX uF uI uS 0 us ur ub uo ui ul uk uh) H := hP
        have hD : va_D A (ws_sm b h uR uW uA uM uX uF uI uS 0 us ur ub uo ui ul uk uh) := hD
        refine lv_aload_n hx hb dX1_assign_38 rfl (lv_at hl 0 rfl) ?_
        refine va_get (D := (dC, dI)) (ci := 1) (v := .int 0) (C := RX1) (T := TX1) (N := 17) hx hb hg inX1 hown hK hP 0 rfl rfl 0 (by decide) (hg _ w_346) (fun _ h9 => h9) rfl dX1_assign_39 ?_
        refine lv_if_le (tgt := 47) hx hb dX1_assign_42 (by decide) (fun c_42 => ?_) (fun c_42 => ?_)
        · refine lv_aload_n hx hb dX1_assign_47 rfl (lv_at hl 0 rfl) ?_
          refine lv_iload_n hx hb dX1_assign_48 rfl (lv_at hl 2 rfl) ?_
          refine va_calli (va_runS (As := [.int p2]) (rest := [.ref (b 0)]) ⟨hx, hb, hml, hown, hg⟩ (cm_counts l dC dI p2) (va_cwS 1 hg (gi_S w_418 w_419 w_2 w_420) rfl rfl rfl (by decide +kernel) ⟨Nat.le_of_ble_eq_true rfl, Nat.le_of_ble_eq_true rfl⟩) ⟨(fun _ _ _ _ q => q), (fun _ _ _ => ⟨rfl, trivial⟩)⟩ rfl rfl hl.1 rfl (lv_room (Nat.le_of_ble_eq_true rfl)) dX1_assign_49 ⟨Nat.le_of_ble_eq_true rfl, Nat.le_of_ble_eq_true rfl⟩) hS (fun q _ h => False.elim h) (fun q h => False.elim h) (fun r_49 u t H1 locs ht hvm hw_49 hB hz1 hk1 hS => ?_)
          subst hw_49
          have hP := hP.kept (fun k q hq => hk1 q.1 (hP k q hq).lt (fun h => h))
          generalize H1 = H at hP hS ⊢
          have hP : va_P (dC, dI) vwCl (ws_sm b h uR uW uA uM uX uF uI uS 0 us ur ub uo ui ul uk uh) H := hP
          have hD : va_D A (ws_sm b h uR uW uA uM uX uF uI uS 0 us ur ub uo ui ul uk uh) := hD
          have hFc := va_free (wc := ws_sm b h uR uW uA uM uX uF uI uS 0 us ur ub uo ui ul uk uh) hD hS hA [0, 1, 2, 3, 4, 5, 6, 7, 8] rfl
          refine va_calli (va_runV (As := [.int (sm_counts p2)]) (rest := []) ⟨hx, hb, hml, hown, hg⟩ (cm_comes l dC dI b h H.size uR uW uA uM uX uF uI uS 0 us ur ub uo ui ul uk uh (sm_counts p2) (nf_rg hu c_27)) (cwV 1 hg (gi_V w_428 w_430 s_12 w_2 w_431) rfl rfl rfl (by decide +kernel) ⟨Nat.le_of_ble_eq_true rfl, Nat.le_of_ble_eq_true rfl⟩) ⟨pr_bl, va_recv hK hP (ci := 1) (q0 := 0) rfl rfl, pr_ok hK hP hD⟩ rfl rfl hl.1 rfl (lv_room (Nat.le_of_ble_eq_true rfl)) dX1_assign_52 ⟨Nat.le_of_ble_eq_true rfl, Nat.le_of_ble_eq_true rfl⟩) hS (fun q _ h => hFc q h) hFc (fun r_52 u t H1 locs ht hvm hw_52 hB hz1 hk1 hS => ?_)
          obtain ⟨uR_52, uW_52, uA_52, uM_52, uX_52, uF_52, uI_52, us_52, ur_52, ul_52, uh_52⟩ := u
          obtain ⟨hP, hK1, hD1⟩ := hB
          rw [ht] at hP
          have hD := hD1.weaken (fun _ q _ h => hFc q.1 h)
          generalize H1 = H at hP hS ⊢
          have hP : va_P (dC, dI) vwCl (ws_sm b h uR_52 uW_52 uA_52 uM_52 uX_52 uF_52 uI_52 uS 0 us_52 ur_52 ub uo ui ul_52 uk uh_52) H := hP
          have hD : va_D A (ws_sm b h uR_52 uW_52 uA_52 uM_52 uX_52 uF_52 uI_52 uS 0 us_52 ur_52 ub uo ui ul_52 uk uh_52) := hD
          refine lv_istore_n (lv' := [(3, .int r_52), (0, .ref (b 0)), (1, .int p1), (2, .int p2)]) hx hb dX1_assign_55 rfl hl (by decide) rfl (fun ls hl => ?_)
          refine lv_aload_n hx hb dX1_assign_56 rfl (lv_at hl 1 rfl) ?_
          refine lv_iload_n hx hb dX1_assign_57 rfl (lv_at hl 0 rfl) ?_
          refine lv_iload_n hx hb dX1_assign_58 rfl (lv_at hl 3 rfl) ?_
          have hFc := va_free (wc := ws_sm b h uR_52 uW_52 uA_52 uM_52 uX_52 uF_52 uI_52 uS 0 us_52 ur_52 ub uo ui ul_52 uk uh_52) hD hS hA [0, 1, 2, 3, 4, 5, 6, 7, 8] rfl
          refine va_callv (va_runV (As := [.int r_52, .int p2]) (rest := []) ⟨hx, hb, hml, hown, hg⟩ (cm_reads l dC dI b h H.size uR_52 uW_52 uA_52 uM_52 uX_52 uF_52 uI_52 uS 0 us_52 ur_52 ub uo ui ul_52 uk uh_52 r_52 p2 (cm_rg hw_52 (nf_rg hu c_27))) (cwV 2 hg (gi_V w_432 w_434 s_13 w_2 w_435) rfl rfl rfl (by decide +kernel) ⟨Nat.le_of_ble_eq_true rfl, Nat.le_of_ble_eq_true rfl⟩) ⟨pr_bl, va_recv hK hP (ci := 1) (q0 := 0) rfl rfl, pr_ok hK hP hD⟩ rfl rfl hl.1 rfl (lv_room (Nat.le_of_ble_eq_true rfl)) dX1_assign_59 ⟨Nat.le_of_ble_eq_true rfl, Nat.le_of_ble_eq_true rfl⟩) hS (fun q _ h => hFc q h) hFc (fun u t H1 locs ht hvm hw_59 hB hz1 hk1 hS => ?_)
          obtain ⟨uR_59, rfl⟩ : ∃ z, z = u := ⟨_, rfl⟩
          obtain ⟨hP, hK1, hD1⟩ := hB
          rw [ht] at hP
          have hD := hD1.weaken (fun _ q _ h => hFc q.1 h)
          generalize H1 = H at hP hS ⊢
          have hP : va_P (dC, dI) vwCl (ws_sm b h uR_59 uW_52 uA_52 uM_52 uX_52 uF_52 uI_52 uS 0 us_52 ur_52 ub uo ui ul_52 uk uh_52) H := hP
          have hD : va_D A (ws_sm b h uR_59 uW_52 uA_52 uM_52 uX_52 uF_52 uI_52 uS 0 us_52 ur_52 ub uo ui ul_52 uk uh_52) := hD
          refine lv_aload_n hx hb dX1_assign_62 rfl (lv_at hl 1 rfl) ?_
          refine lv_iload_n hx hb dX1_assign_63 rfl (lv_at hl 0 rfl) ?_
          refine lv_iload_n hx hb dX1_assign_64 rfl (lv_at hl 2 rfl) ?_
          have hFc := va_free (wc := ws_sm b h uR_59 uW_52 uA_52 uM_52 uX_52 uF_52 uI_52 uS 0 us_52 ur_52 ub uo ui ul_52 uk uh_52) hD hS hA [0, 1, 2, 3, 4, 5, 6, 7, 8] rfl
          refine va_callv (va_runV (As := [.int r_52, .int p1]) (rest := []) ⟨hx, hb, hml, hown, hg⟩ (cm_writes l dC dI b h H.size uR_59 uW_52 uA_52 uM_52 uX_52 uF_52 uI_52 uS 0 us_52 ur_52 ub uo ui ul_52 uk uh_52 r_52 p1 (cm_rg hw_52 (nf_rg hu c_27)) (pl_rg c_5)) (cwV 2 hg (gi_V w_436 w_438 s_14 w_2 w_439) rfl rfl rfl (by decide +kernel) ⟨Nat.le_of_ble_eq_true rfl, Nat.le_of_ble_eq_true rfl⟩) ⟨pr_bl, va_recv hK hP (ci := 1) (q0 := 0) rfl rfl, pr_ok hK hP hD⟩ rfl rfl hl.1 rfl (lv_room (Nat.le_of_ble_eq_true rfl)) dX1_assign_65 ⟨Nat.le_of_ble_eq_true rfl, Nat.le_of_ble_eq_true rfl⟩) hS (fun q _ h => hFc q h) hFc (fun u t H1 locs ht hvm hw_65 hB hz1 hk1 hS => ?_)
          obtain ⟨uR_65, uW_65⟩ := u
          obtain ⟨hP, hK1, hD1⟩ := hB
          rw [ht] at hP
          have hD := hD1.weaken (fun _ q _ h => hFc q.1 h)
          generalize H1 = H at hP hS ⊢
          have hP : va_P (dC, dI) vwCl (ws_sm b h uR_65 uW_65 uA_52 uM_52 uX_52 uF_52 uI_52 uS 0 us_52 ur_52 ub uo ui ul_52 uk uh_52) H := hP
          have hD : va_D A (ws_sm b h uR_65 uW_65 uA_52 uM_52 uX_52 uF_52 uI_52 uS 0 us_52 ur_52 ub uo ui ul_52 uk uh_52) := hD
          refine lv_iload_n hx hb dX1_assign_68 rfl (lv_at hl 0 rfl) ?_
          have hw : sm_assign uR uW uA uM uX uF uI us ur ui ul uh p1 p2 = (r_52, uR_65, uW_65, uA_52, uM_52, uX_52, uF_52, uI_52, 0, us_52, ur_52, ul_52, uh_52) := by unfold sm_assign; rw [if_neg c_5, if_neg c_12, if_pos c_27, hw_52]; (try dsimp only); rw [hw_59]; (try dsimp only); rw [hw_65]; (try dsimp only); (try rfl)
          exact W.iret (v := r_52) hx hb hr (fun t ht hW => ⟨⟨r_52, (uR_65, uW_65, uA_52, uM_52, uX_52, uF_52, uI_52, 0, us_52, ur_52, ul_52, uh_52), rfl, hw, ⟨by rw [ht]; exact hP, va_K.moved hW.alike hK, hD⟩⟩, hS.F ht⟩) hS.2.2 dX1_assign_69
        · exact absurd c_42 (by decide)
      · refine lv_iconst (v := 2) hx hb dX1_assign_30 (by decide) ?_
        refine lv_goto (tgt := 35) hx hb dX1_assign_31 (by decide) ?_
        refine va_put (D := (dC, dI)) (ci := 1) (v := .int 2) (ty := .int) (C := RX1) (T := TX1) (N := 17) hx hb hg inX1 tyX1 tyX1_ok nmX1 hown hK hP hD hS 0 rfl rfl 0 (by decide) (hg _ w_346) (fun _ h9 => h9) rfl (by decide +kernel) rfl rfl (Nat.le_of_ble_eq_true rfl) dX1_assign_35 (fun H locs hP hD hS => ?_)
        have hP : va_P (dC, dI) vwCl (ws_sm b h uR uW uA uM uX uF uI uS 2 us ur ub uo ui ul uk uh) H := hP
        have hD : va_D A (ws_sm b h uR uW uA uM uX uF uI uS 2 us ur ub uo ui ul uk uh) := hD
        refine lv_aload_n hx hb dX1_assign_38 rfl (lv_at hl 0 rfl) ?_
        refine va_get (D := (dC, dI)) (ci := 1) (v := .int 2) (C := RX1) (T := TX1) (N := 17) hx hb hg inX1 hown hK hP 0 rfl rfl 0 (by decide) (hg _ w_346) (fun _ h9 => h9) rfl dX1_assign_39 ?_
        refine lv_if_le (tgt := 47) hx hb dX1_assign_42 (by decide) (fun c_42 => ?_) (fun c_42 => ?_)
        · exact absurd c_42 (by decide)
        · refine lv_iconst (v := 0) hx hb dX1_assign_45 (by decide) ?_
          have hw : sm_assign uR uW uA uM uX uF uI us ur ui ul uh p1 p2 = (0, uR, uW, uA, uM, uX, uF, uI, 2, us, ur, ul, uh) := by unfold sm_assign; rw [if_neg c_5, if_neg c_12, if_neg c_27]; (try rfl)
          exact W.iret (v := 0) hx hb hr (fun t ht hW => ⟨⟨0, (uR, uW, uA, uM, uX, uF, uI, 2, us, ur, ul, uh), rfl, hw, ⟨by rw [ht]; exact hP, va_K.moved hW.alike hK, hD⟩⟩, hS.F ht⟩) hS.2.2 dX1_assign_46
    · refine lv_iconst (v := 1) hx hb dX1_assign_15 (by decide) ?_
      refine lv_goto (tgt := 35) hx hb dX1_assign_16 (by decide) ?_
      refine va_put (D := (dC, dI)) (ci := 1) (v := .int 1) (ty := .int) (C := RX1) (T := TX1) (N := 17) hx hb hg inX1 tyX1 tyX1_ok nmX1 hown hK hP hD hS 0 rfl rfl 0 (by decide) (hg _ w_346) (fun _ h9 => h9) rfl (by decide +kernel) rfl rfl (Nat.le_of_ble_eq_true rfl) dX1_assign_35 (fun H locs hP hD hS => ?_)
      have hP : va_P (dC, dI) vwCl (ws_sm b h uR uW uA uM uX uF uI uS 1 us ur ub uo ui ul uk uh) H := hP
      have hD : va_D A (ws_sm b h uR uW uA uM uX uF uI uS 1 us ur ub uo ui ul uk uh) := hD
      refine lv_aload_n hx hb dX1_assign_38 rfl (lv_at hl 0 rfl) ?_
      refine va_get (D := (dC, dI)) (ci := 1) (v := .int 1) (C := RX1) (T := TX1) (N := 17) hx hb hg inX1 hown hK hP 0 rfl rfl 0 (by decide) (hg _ w_346) (fun _ h9 => h9) rfl dX1_assign_39 ?_
      refine lv_if_le (tgt := 47) hx hb dX1_assign_42 (by decide) (fun c_42 => ?_) (fun c_42 => ?_)
      · exact absurd c_42 (by decide)
      · refine lv_iconst (v := 0) hx hb dX1_assign_45 (by decide) ?_
        have hw : sm_assign uR uW uA uM uX uF uI us ur ui ul uh p1 p2 = (0, uR, uW, uA, uM, uX, uF, uI, 1, us, ur, ul, uh) := by unfold sm_assign; rw [if_neg c_5, if_pos c_12]; (try rfl)
        exact W.iret (v := 0) hx hb hr (fun t ht hW => ⟨⟨0, (uR, uW, uA, uM, uX, uF, uI, 1, us, ur, ul, uh), rfl, hw, ⟨by rw [ht]; exact hP, va_K.moved hW.alike hK, hD⟩⟩, hS.F ht⟩) hS.2.2 dX1_assign_46
set_option maxHeartbeats 4000000 in
set_option maxRecDepth 100000 in
theorem cm_load (l : Launch) (dC : Nat → ClassId) (dI : Nat → Nat → Nat) (b : Nat → Nat) (h : Nat → ClassId) (sz : Nat) (uR uW uA uM uX uF uI uS : Nat → Int32) (ut us ur ub uo ui ul uk uh : Int32) (p1 p2 p3 : Int32) (hu : 0 ≤ us.toInt ∧ us.toInt ≤ 48) : Met l yX1_load wsX1_load ({ frames := 2, cells := 0, slots := 0, locals := 42 } : Room) (va_Pc [.ref (b 0), .int p1, .int p2, .int p3] (pr (dC, dI) (ws_sm b h uR uW uA uM uX uF uI uS ut us ur ub uo ui ul uk uh) (ty_sm h) sz)) (va_Qi (fun (r : Int32) (u : (Nat → Int32) × (Nat → Int32) × (Nat → Int32) × (Nat → Int32) × (Nat → Int32) × (Nat → Int32) × (Nat → Int32) × Int32 × Int32 × Int32 × Int32 × Int32) => sm_load uR uW uA uM uX uF uI us ur ui ul uh p1 p2 p3 = (r, u)) (fun (u : (Nat → Int32) × (Nat → Int32) × (Nat → Int32) × (Nat → Int32) × (Nat → Int32) × (Nat → Int32) × (Nat → Int32) × Int32 × Int32 × Int32 × Int32 × Int32) t => match u with | (uR', uW', uA', uM', uX', uF', uI', ut', us', ur', ul', uh') => po (dC, dI) (ws_sm b h uR' uW' uA' uM' uX' uF' uI' uS ut' us' ur' ub uo ui ul' uk uh') (ty_sm h) (va_A (ws_sm b h uR uW uA uM uX uF uI uS ut us ur ub uo ui ul uk uh) sz) t) (va_A (ws_sm b h uR uW uA uM uX uF uI uS ut us ur ub uo ui ul uk uh) sz)) 0 0 (va_A (ws_sm b h uR uW uA uM uX uF uI uS ut us ur ub uo ui ul uk uh) sz) := by
  refine Met.ofW (cc := cX1_load) (maxL := 5) (ret := (some .int)) (by decide) rfl ?_
  intro p e s m args below meth c s₁ B hml hv
  obtain ⟨rfl, hsz, hP, hK, hD0⟩ := hv
  have hx := B.exec
  have hb := B.bytes
  have hr := B.returns
  have hts := atoms_spec (ws := wsX1_load) B.pre
  have hg : ∀ w ∈ gw, w.before _ s = true := fun w h => hts w (List.mem_cons_of_mem _ h)
  have hown : s.vm.findClass RX1 = some m.cls := findClass_of_methodNamed B.named
  have hlocks := B.notSynchronized
  subst hsz
  have hD := hD0.self (sz := s.heap.size)
  generalize hAe : va_A (ws_sm b h uR uW uA uM uX uF uI uS ut us ur ub uo ui ul uk uh) s.heap.size = A at hD ⊢
  have hA : ∀ q : Nat, s.heap.size ≤ q → A q := fun q h => by rw [← hAe]; exact Or.inr h
  clear hAe
  refine w_in (fun H locs eH eL => ?_)
  have hS : va_S A s.heap H locs := by rw [eH, eL]; exact va_S.rf
  have hP : va_P (dC, dI) vwCl (ws_sm b h uR uW uA uM uX uF uI uS ut us ur ub uo ui ul uk uh) H := by rw [eH]; exact hP
  clear eH eL
  have hl := lv_entry ([.ref (b 0), .int p1, .int p2, .int p3]) (n := 5) (Nat.le_of_ble_eq_true rfl)
  rw [lg_entry_eq]
  generalize (lg_sl ([.ref (b 0), .int p1, .int p2, .int p3]) ++ List.replicate (5 - (lg_sl ([.ref (b 0), .int p1, .int p2, .int p3])).length) Slot.unset).toArray = ls at hl ⊢
  have hl : lv_has ls 5 [(0, .ref (b 0)), (1, .int p1), (2, .int p2), (3, .int p3)] := hl
  refine lv_aload_n hx hb dX1_load_0 rfl (lv_at hl 0 rfl) ?_
  refine lv_iload_n hx hb dX1_load_1 rfl (lv_at hl 1 rfl) ?_
  refine va_calli (va_runS (As := [.int p1]) (rest := [.ref (b 0)]) ⟨hx, hb, hml, hown, hg⟩ (cm_isPlace l dC dI p1) (va_cwS 1 hg (gi_S w_411 w_412 w_2 w_413) rfl rfl rfl (by decide +kernel) ⟨Nat.le_of_ble_eq_true rfl, Nat.le_of_ble_eq_true rfl⟩) ⟨(fun _ _ _ _ q => q), (fun _ _ _ => ⟨rfl, trivial⟩)⟩ rfl rfl hl.1 rfl (lv_room (Nat.le_of_ble_eq_true rfl)) dX1_load_2 ⟨Nat.le_of_ble_eq_true rfl, Nat.le_of_ble_eq_true rfl⟩) hS (fun q _ h => False.elim h) (fun q h => False.elim h) (fun r_2 u t H1 locs ht hvm hw_2 hB hz1 hk1 hS => ?_)
  subst hw_2
  have hP := hP.kept (fun k q hq => hk1 q.1 (hP k q hq).lt (fun h => h))
  generalize H1 = H at hP hS ⊢
  have hP : va_P (dC, dI) vwCl (ws_sm b h uR uW uA uM uX uF uI uS ut us ur ub uo ui ul uk uh) H := hP
  have hD : va_D A (ws_sm b h uR uW uA uM uX uF uI uS ut us ur ub uo ui ul uk uh) := hD
  refine lv_if_eq (tgt := 25) hx hb dX1_load_5 (by decide) (fun c_5 => ?_) (fun c_5 => ?_)
  · refine lv_iconst (v := 1) hx hb dX1_load_25 (by decide) ?_
    refine lv_goto (tgt := 45) hx hb dX1_load_26 (by decide) ?_
    refine va_put (D := (dC, dI)) (ci := 1) (v := .int 1) (ty := .int) (C := RX1) (T := TX1) (N := 17) hx hb hg inX1 tyX1 tyX1_ok nmX1 hown hK hP hD hS 0 rfl rfl 0 (by decide) (hg _ w_346) (fun _ h9 => h9) rfl (by decide +kernel) rfl rfl (Nat.le_of_ble_eq_true rfl) dX1_load_45 (fun H locs hP hD hS => ?_)
    have hP : va_P (dC, dI) vwCl (ws_sm b h uR uW uA uM uX uF uI uS 1 us ur ub uo ui ul uk uh) H := hP
    have hD : va_D A (ws_sm b h uR uW uA uM uX uF uI uS 1 us ur ub uo ui ul uk uh) := hD
    refine lv_aload_n hx hb dX1_load_48 rfl (lv_at hl 0 rfl) ?_
    refine va_get (D := (dC, dI)) (ci := 1) (v := .int 1) (C := RX1) (T := TX1) (N := 17) hx hb hg inX1 hown hK hP 0 rfl rfl 0 (by decide) (hg _ w_346) (fun _ h9 => h9) rfl dX1_load_49 ?_
    refine lv_if_le (tgt := 57) hx hb dX1_load_52 (by decide) (fun c_52 => ?_) (fun c_52 => ?_)
    · exact absurd c_52 (by decide)
    · refine lv_iconst (v := 0) hx hb dX1_load_55 (by decide) ?_
      have hw : sm_load uR uW uA uM uX uF uI us ur ui ul uh p1 p2 p3 = (0, uR, uW, uA, uM, uX, uF, uI, 1, us, ur, ul, uh) := by unfold sm_load; rw [if_pos c_5]; (try rfl)
      exact W.iret (v := 0) hx hb hr (fun t ht hW => ⟨⟨0, (uR, uW, uA, uM, uX, uF, uI, 1, us, ur, ul, uh), rfl, hw, ⟨by rw [ht]; exact hP, va_K.moved hW.alike hK, hD⟩⟩, hS.F ht⟩) hS.2.2 dX1_load_56
  · refine lv_iload_n hx hb dX1_load_8 rfl (lv_at hl 2 rfl) ?_
    refine lv_if_lt (tgt := 25) hx hb dX1_load_9 (by decide) (fun c_9 => ?_) (fun c_9 => ?_)
    · refine lv_iconst (v := 1) hx hb dX1_load_25 (by decide) ?_
      refine lv_goto (tgt := 45) hx hb dX1_load_26 (by decide) ?_
      refine va_put (D := (dC, dI)) (ci := 1) (v := .int 1) (ty := .int) (C := RX1) (T := TX1) (N := 17) hx hb hg inX1 tyX1 tyX1_ok nmX1 hown hK hP hD hS 0 rfl rfl 0 (by decide) (hg _ w_346) (fun _ h9 => h9) rfl (by decide +kernel) rfl rfl (Nat.le_of_ble_eq_true rfl) dX1_load_45 (fun H locs hP hD hS => ?_)
      have hP : va_P (dC, dI) vwCl (ws_sm b h uR uW uA uM uX uF uI uS 1 us ur ub uo ui ul uk uh) H := hP
      have hD : va_D A (ws_sm b h uR uW uA uM uX uF uI uS 1 us ur ub uo ui ul uk uh) := hD
      refine lv_aload_n hx hb dX1_load_48 rfl (lv_at hl 0 rfl) ?_
      refine va_get (D := (dC, dI)) (ci := 1) (v := .int 1) (C := RX1) (T := TX1) (N := 17) hx hb hg inX1 hown hK hP 0 rfl rfl 0 (by decide) (hg _ w_346) (fun _ h9 => h9) rfl dX1_load_49 ?_
      refine lv_if_le (tgt := 57) hx hb dX1_load_52 (by decide) (fun c_52 => ?_) (fun c_52 => ?_)
      · exact absurd c_52 (by decide)
      · refine lv_iconst (v := 0) hx hb dX1_load_55 (by decide) ?_
        have hw : sm_load uR uW uA uM uX uF uI us ur ui ul uh p1 p2 p3 = (0, uR, uW, uA, uM, uX, uF, uI, 1, us, ur, ul, uh) := by unfold sm_load; rw [if_neg c_5, if_pos c_9]; (try rfl)
        exact W.iret (v := 0) hx hb hr (fun t ht hW => ⟨⟨0, (uR, uW, uA, uM, uX, uF, uI, 1, us, ur, ul, uh), rfl, hw, ⟨by rw [ht]; exact hP, va_K.moved hW.alike hK, hD⟩⟩, hS.F ht⟩) hS.2.2 dX1_load_56
    · refine lv_iload_n hx hb dX1_load_12 rfl (lv_at hl 2 rfl) ?_
      refine lv_bipush (v := 7) hx hb dX1_load_13 (by decide) ?_
      refine lv_icmp_gt (tgt := 25) hx hb dX1_load_15 (by decide) (fun c_15 => ?_) (fun c_15 => ?_)
      · refine lv_iconst (v := 1) hx hb dX1_load_25 (by decide) ?_
        refine lv_goto (tgt := 45) hx hb dX1_load_26 (by decide) ?_
        refine va_put (D := (dC, dI)) (ci := 1) (v := .int 1) (ty := .int) (C := RX1) (T := TX1) (N := 17) hx hb hg inX1 tyX1 tyX1_ok nmX1 hown hK hP hD hS 0 rfl rfl 0 (by decide) (hg _ w_346) (fun _ h9 => h9) rfl (by decide +kernel) rfl rfl (Nat.le_of_ble_eq_true rfl) dX1_load_45 (fun H locs hP hD hS => ?_)
        have hP : va_P (dC, dI) vwCl (ws_sm b h uR uW uA uM uX uF uI uS 1 us ur ub uo ui ul uk uh) H := hP
        have hD : va_D A (ws_sm b h uR uW uA uM uX uF uI uS 1 us ur ub uo ui ul uk uh) := hD
        refine lv_aload_n hx hb dX1_load_48 rfl (lv_at hl 0 rfl) ?_
        refine va_get (D := (dC, dI)) (ci := 1) (v := .int 1) (C := RX1) (T := TX1) (N := 17) hx hb hg inX1 hown hK hP 0 rfl rfl 0 (by decide) (hg _ w_346) (fun _ h9 => h9) rfl dX1_load_49 ?_
        refine lv_if_le (tgt := 57) hx hb dX1_load_52 (by decide) (fun c_52 => ?_) (fun c_52 => ?_)
        · exact absurd c_52 (by decide)
        · refine lv_iconst (v := 0) hx hb dX1_load_55 (by decide) ?_
          have hw : sm_load uR uW uA uM uX uF uI us ur ui ul uh p1 p2 p3 = (0, uR, uW, uA, uM, uX, uF, uI, 1, us, ur, ul, uh) := by unfold sm_load; rw [if_neg c_5, if_neg c_9, if_pos c_15]; (try rfl)
          exact W.iret (v := 0) hx hb hr (fun t ht hW => ⟨⟨0, (uR, uW, uA, uM, uX, uF, uI, 1, us, ur, ul, uh), rfl, hw, ⟨by rw [ht]; exact hP, va_K.moved hW.alike hK, hD⟩⟩, hS.F ht⟩) hS.2.2 dX1_load_56
      · refine lv_iload_n hx hb dX1_load_18 rfl (lv_at hl 3 rfl) ?_
        refine va_calli (va_runS (As := [.int p3]) (rest := [.ref (b 0)]) ⟨hx, hb, hml, hown, hg⟩ (cm_isSet l dC dI p3) (va_cwS 1 hg (gi_S w_414 w_415 w_2 w_416) rfl rfl rfl (by decide +kernel) ⟨Nat.le_of_ble_eq_true rfl, Nat.le_of_ble_eq_true rfl⟩) ⟨(fun _ _ _ _ q => q), (fun _ _ _ => ⟨rfl, trivial⟩)⟩ rfl rfl hl.1 rfl (lv_room (Nat.le_of_ble_eq_true rfl)) dX1_load_19 ⟨Nat.le_of_ble_eq_true rfl, Nat.le_of_ble_eq_true rfl⟩) hS (fun q _ h => False.elim h) (fun q h => False.elim h) (fun r_19 u t H1 locs ht hvm hw_19 hB hz1 hk1 hS => ?_)
        subst hw_19
        have hP := hP.kept (fun k q hq => hk1 q.1 (hP k q hq).lt (fun h => h))
        generalize H1 = H at hP hS ⊢
        have hP : va_P (dC, dI) vwCl (ws_sm b h uR uW uA uM uX uF uI uS ut us ur ub uo ui ul uk uh) H := hP
        have hD : va_D A (ws_sm b h uR uW uA uM uX uF uI uS ut us ur ub uo ui ul uk uh) := hD
        refine lv_if_ne (tgt := 29) hx hb dX1_load_22 (by decide) (fun c_22 => ?_) (fun c_22 => ?_)
        · refine lv_aload_n hx hb dX1_load_29 rfl (lv_at hl 0 rfl) ?_
          refine lv_iload_n hx hb dX1_load_30 rfl (lv_at hl 3 rfl) ?_
          refine va_calli (va_runS (As := [.int p3]) (rest := [.ref (b 0), .ref (b 0)]) ⟨hx, hb, hml, hown, hg⟩ (cm_counts l dC dI p3) (va_cwS 1 hg (gi_S w_418 w_419 w_2 w_420) rfl rfl rfl (by decide +kernel) ⟨Nat.le_of_ble_eq_true rfl, Nat.le_of_ble_eq_true rfl⟩) ⟨(fun _ _ _ _ q => q), (fun _ _ _ => ⟨rfl, trivial⟩)⟩ rfl rfl hl.1 rfl (lv_room (Nat.le_of_ble_eq_true rfl)) dX1_load_31 ⟨Nat.le_of_ble_eq_true rfl, Nat.le_of_ble_eq_true rfl⟩) hS (fun q _ h => False.elim h) (fun q h => False.elim h) (fun r_31 u t H1 locs ht hvm hw_31 hB hz1 hk1 hS => ?_)
          subst hw_31
          have hP := hP.kept (fun k q hq => hk1 q.1 (hP k q hq).lt (fun h => h))
          generalize H1 = H at hP hS ⊢
          have hP : va_P (dC, dI) vwCl (ws_sm b h uR uW uA uM uX uF uI uS ut us ur ub uo ui ul uk uh) H := hP
          have hD : va_D A (ws_sm b h uR uW uA uM uX uF uI uS ut us ur ub uo ui ul uk uh) := hD
          have hFc := va_free (wc := ws_sm b h uR uW uA uM uX uF uI uS ut us ur ub uo ui ul uk uh) hD hS hA [0, 1, 2, 3, 4, 5, 6, 7, 8] rfl
          refine va_calli (va_runV (As := [.int (sm_counts p3)]) (rest := [.ref (b 0)]) ⟨hx, hb, hml, hown, hg⟩ (cm_isFull l dC dI b h H.size uR uW uA uM uX uF uI uS ut us ur ub uo ui ul uk uh (sm_counts p3)) (cwV 1 hg (gi_V w_424 w_426 s_11 w_2 w_427) rfl rfl rfl (by decide +kernel) ⟨Nat.le_of_ble_eq_true rfl, Nat.le_of_ble_eq_true rfl⟩) ⟨pr_bl, va_recv hK hP (ci := 1) (q0 := 0) rfl rfl, pr_ok hK hP hD⟩ rfl rfl hl.1 rfl (lv_room (Nat.le_of_ble_eq_true rfl)) dX1_load_34 ⟨Nat.le_of_ble_eq_true rfl, Nat.le_of_ble_eq_true rfl⟩) hS (fun q _ h => hFc q h) hFc (fun r_34 u t H1 locs ht hvm hw_34 hB hz1 hk1 hS => ?_)
          subst hw_34
          obtain ⟨hP, hK1, hD1⟩ := hB
          rw [ht] at hP
          have hD := hD1.weaken (fun _ q _ h => hFc q.1 h)
          generalize H1 = H at hP hS ⊢
          have hP : va_P (dC, dI) vwCl (ws_sm b h uR uW uA uM uX uF uI uS ut us ur ub uo ui ul uk uh) H := hP
          have hD : va_D A (ws_sm b h uR uW uA uM uX uF uI uS ut us ur ub uo ui ul uk uh) := hD
          refine lv_if_eq (tgt := 44) hx hb dX1_load_37 (by decide) (fun c_37 => ?_) (fun c_37 => ?_)
          · refine lv_iconst (v := 0) hx hb dX1_load_44 (by decide) ?_
            refine va_put (D := (dC, dI)) (ci := 1) (v := .int 0) (ty := .int) (C := RX1) (T := TX1) (N := 17) hx hb hg inX1 tyX1 tyX1_ok nmX1 hown hK hP hD hS 0 rfl rfl 0 (by decide) (hg _ w_346) (fun _ h9 => h9) rfl (by decide +kernel) rfl rfl (Nat.le_of_ble_eq_true rfl) dX1_load_45 (fun H locs hP hD hS => ?_)
            have hP : va_P (dC, dI) vwCl (ws_sm b h uR uW uA uM uX uF uI uS 0 us ur ub uo ui ul uk uh) H := hP
            have hD : va_D A (ws_sm b h uR uW uA uM uX uF uI uS 0 us ur ub uo ui ul uk uh) := hD
            refine lv_aload_n hx hb dX1_load_48 rfl (lv_at hl 0 rfl) ?_
            refine va_get (D := (dC, dI)) (ci := 1) (v := .int 0) (C := RX1) (T := TX1) (N := 17) hx hb hg inX1 hown hK hP 0 rfl rfl 0 (by decide) (hg _ w_346) (fun _ h9 => h9) rfl dX1_load_49 ?_
            refine lv_if_le (tgt := 57) hx hb dX1_load_52 (by decide) (fun c_52 => ?_) (fun c_52 => ?_)
            · refine lv_aload_n hx hb dX1_load_57 rfl (lv_at hl 0 rfl) ?_
              refine lv_iload_n hx hb dX1_load_58 rfl (lv_at hl 3 rfl) ?_
              refine va_calli (va_runS (As := [.int p3]) (rest := [.ref (b 0)]) ⟨hx, hb, hml, hown, hg⟩ (cm_counts l dC dI p3) (va_cwS 1 hg (gi_S w_418 w_419 w_2 w_420) rfl rfl rfl (by decide +kernel) ⟨Nat.le_of_ble_eq_true rfl, Nat.le_of_ble_eq_true rfl⟩) ⟨(fun _ _ _ _ q => q), (fun _ _ _ => ⟨rfl, trivial⟩)⟩ rfl rfl hl.1 rfl (lv_room (Nat.le_of_ble_eq_true rfl)) dX1_load_59 ⟨Nat.le_of_ble_eq_true rfl, Nat.le_of_ble_eq_true rfl⟩) hS (fun q _ h => False.elim h) (fun q h => False.elim h) (fun r_59 u t H1 locs ht hvm hw_59 hB hz1 hk1 hS => ?_)
              subst hw_59
              have hP := hP.kept (fun k q hq => hk1 q.1 (hP k q hq).lt (fun h => h))
              generalize H1 = H at hP hS ⊢
              have hP : va_P (dC, dI) vwCl (ws_sm b h uR uW uA uM uX uF uI uS 0 us ur ub uo ui ul uk uh) H := hP
              have hD : va_D A (ws_sm b h uR uW uA uM uX uF uI uS 0 us ur ub uo ui ul uk uh) := hD
              have hFc := va_free (wc := ws_sm b h uR uW uA uM uX uF uI uS 0 us ur ub uo ui ul uk uh) hD hS hA [0, 1, 2, 3, 4, 5, 6, 7, 8] rfl
              refine va_calli (va_runV (As := [.int (sm_counts p3)]) (rest := []) ⟨hx, hb, hml, hown, hg⟩ (cm_comes l dC dI b h H.size uR uW uA uM uX uF uI uS 0 us ur ub uo ui ul uk uh (sm_counts p3) (nf_rg hu c_37)) (cwV 1 hg (gi_V w_428 w_430 s_12 w_2 w_431) rfl rfl rfl (by decide +kernel) ⟨Nat.le_of_ble_eq_true rfl, Nat.le_of_ble_eq_true rfl⟩) ⟨pr_bl, va_recv hK hP (ci := 1) (q0 := 0) rfl rfl, pr_ok hK hP hD⟩ rfl rfl hl.1 rfl (lv_room (Nat.le_of_ble_eq_true rfl)) dX1_load_62 ⟨Nat.le_of_ble_eq_true rfl, Nat.le_of_ble_eq_true rfl⟩) hS (fun q _ h => hFc q h) hFc (fun r_62 u t H1 locs ht hvm hw_62 hB hz1 hk1 hS => ?_)
              obtain ⟨uR_62, uW_62, uA_62, uM_62, uX_62, uF_62, uI_62, us_62, ur_62, ul_62, uh_62⟩ := u
              obtain ⟨hP, hK1, hD1⟩ := hB
              rw [ht] at hP
              have hD := hD1.weaken (fun _ q _ h => hFc q.1 h)
              generalize H1 = H at hP hS ⊢
              have hP : va_P (dC, dI) vwCl (ws_sm b h uR_62 uW_62 uA_62 uM_62 uX_62 uF_62 uI_62 uS 0 us_62 ur_62 ub uo ui ul_62 uk uh_62) H := hP
              have hD : va_D A (ws_sm b h uR_62 uW_62 uA_62 uM_62 uX_62 uF_62 uI_62 uS 0 us_62 ur_62 ub uo ui ul_62 uk uh_62) := hD
              refine lv_istore (lv' := [(4, .int r_62), (0, .ref (b 0)), (1, .int p1), (2, .int p2), (3, .int p3)]) hx hb dX1_load_65 hl (by decide) rfl (fun ls hl => ?_)
              refine lv_aload_n hx hb dX1_load_67 rfl (lv_at hl 1 rfl) ?_
              refine lv_iload hx hb dX1_load_68 (lv_at hl 0 rfl) ?_
              refine lv_iload_n hx hb dX1_load_70 rfl (lv_at hl 4 rfl) ?_
              have hFc := va_free (wc := ws_sm b h uR_62 uW_62 uA_62 uM_62 uX_62 uF_62 uI_62 uS 0 us_62 ur_62 ub uo ui ul_62 uk uh_62) hD hS hA [0, 1, 2, 3, 4, 5, 6, 7, 8] rfl
              refine va_callv (va_runV (As := [.int r_62, .int p3]) (rest := []) ⟨hx, hb, hml, hown, hg⟩ (cm_reads l dC dI b h H.size uR_62 uW_62 uA_62 uM_62 uX_62 uF_62 uI_62 uS 0 us_62 ur_62 ub uo ui ul_62 uk uh_62 r_62 p3 (cm_rg hw_62 (nf_rg hu c_37))) (cwV 2 hg (gi_V w_432 w_434 s_13 w_2 w_435) rfl rfl rfl (by decide +kernel) ⟨Nat.le_of_ble_eq_true rfl, Nat.le_of_ble_eq_true rfl⟩) ⟨pr_bl, va_recv hK hP (ci := 1) (q0 := 0) rfl rfl, pr_ok hK hP hD⟩ rfl rfl hl.1 rfl (lv_room (Nat.le_of_ble_eq_true rfl)) dX1_load_71 ⟨Nat.le_of_ble_eq_true rfl, Nat.le_of_ble_eq_true rfl⟩) hS (fun q _ h => hFc q h) hFc (fun u t H1 locs ht hvm hw_71 hB hz1 hk1 hS => ?_)
              obtain ⟨uR_71, rfl⟩ : ∃ z, z = u := ⟨_, rfl⟩
              obtain ⟨hP, hK1, hD1⟩ := hB
              rw [ht] at hP
              have hD := hD1.weaken (fun _ q _ h => hFc q.1 h)
              generalize H1 = H at hP hS ⊢
              have hP : va_P (dC, dI) vwCl (ws_sm b h uR_71 uW_62 uA_62 uM_62 uX_62 uF_62 uI_62 uS 0 us_62 ur_62 ub uo ui ul_62 uk uh_62) H := hP
              have hD : va_D A (ws_sm b h uR_71 uW_62 uA_62 uM_62 uX_62 uF_62 uI_62 uS 0 us_62 ur_62 ub uo ui ul_62 uk uh_62) := hD
              refine lv_aload_n hx hb dX1_load_74 rfl (lv_at hl 1 rfl) ?_
              refine lv_iload hx hb dX1_load_75 (lv_at hl 0 rfl) ?_
              refine lv_iload_n hx hb dX1_load_77 rfl (lv_at hl 2 rfl) ?_
              have hFc := va_free (wc := ws_sm b h uR_71 uW_62 uA_62 uM_62 uX_62 uF_62 uI_62 uS 0 us_62 ur_62 ub uo ui ul_62 uk uh_62) hD hS hA [0, 1, 2, 3, 4, 5, 6, 7, 8] rfl
              refine va_callv (va_runV (As := [.int r_62, .int p1]) (rest := []) ⟨hx, hb, hml, hown, hg⟩ (cm_writes l dC dI b h H.size uR_71 uW_62 uA_62 uM_62 uX_62 uF_62 uI_62 uS 0 us_62 ur_62 ub uo ui ul_62 uk uh_62 r_62 p1 (cm_rg hw_62 (nf_rg hu c_37)) (pl_rg c_5)) (cwV 2 hg (gi_V w_436 w_438 s_14 w_2 w_439) rfl rfl rfl (by decide +kernel) ⟨Nat.le_of_ble_eq_true rfl, Nat.le_of_ble_eq_true rfl⟩) ⟨pr_bl, va_recv hK hP (ci := 1) (q0 := 0) rfl rfl, pr_ok hK hP hD⟩ rfl rfl hl.1 rfl (lv_room (Nat.le_of_ble_eq_true rfl)) dX1_load_78 ⟨Nat.le_of_ble_eq_true rfl, Nat.le_of_ble_eq_true rfl⟩) hS (fun q _ h => hFc q h) hFc (fun u t H1 locs ht hvm hw_78 hB hz1 hk1 hS => ?_)
              obtain ⟨uR_78, uW_78⟩ := u
              obtain ⟨hP, hK1, hD1⟩ := hB
              rw [ht] at hP
              have hD := hD1.weaken (fun _ q _ h => hFc q.1 h)
              generalize H1 = H at hP hS ⊢
              have hP : va_P (dC, dI) vwCl (ws_sm b h uR_78 uW_78 uA_62 uM_62 uX_62 uF_62 uI_62 uS 0 us_62 ur_62 ub uo ui ul_62 uk uh_62) H := hP
              have hD : va_D A (ws_sm b h uR_78 uW_78 uA_62 uM_62 uX_62 uF_62 uI_62 uS 0 us_62 ur_62 ub uo ui ul_62 uk uh_62) := hD
              refine lv_aload_n hx hb dX1_load_81 rfl (lv_at hl 1 rfl) ?_
              refine va_get (D := (dC, dI)) (ci := 1) (v := .ref (b 3)) (C := RX1) (T := TX1) (N := 17) hx hb hg inX1 hown hK hP 0 rfl rfl 7 (by decide) (hg _ w_353) (fun _ h9 => h9) rfl dX1_load_82 ?_
              refine lv_iload hx hb dX1_load_85 (lv_at hl 0 rfl) ?_
              refine lv_iload_n hx hb dX1_load_87 rfl (lv_at hl 3 rfl) ?_
              refine va_iast hx hb hK hP hD hS 3 2 rfl rfl (ix_k (cm_rg hw_62 (nf_rg hu c_37))) dX1_load_88 (fun H locs hP hD hS => ?_)
              have hP : va_P (dC, dI) vwCl (ws_sm b h uR_78 uW_78 (upd uA_62 r_62.toNatClampNeg p2) uM_62 uX_62 uF_62 uI_62 uS 0 us_62 ur_62 ub uo ui ul_62 uk uh_62) H := hP
              have hD : va_D A (ws_sm b h uR_78 uW_78 (upd uA_62 r_62.toNatClampNeg p2) uM_62 uX_62 uF_62 uI_62 uS 0 us_62 ur_62 ub uo ui ul_62 uk uh_62) := hD
              refine lv_iload hx hb dX1_load_89 (lv_at hl 0 rfl) ?_
              have hw : sm_load uR uW uA uM uX uF uI us ur ui ul uh p1 p2 p3 = (r_62, uR_78, uW_78, upd uA_62 r_62.toNatClampNeg p2, uM_62, uX_62, uF_62, uI_62, 0, us_62, ur_62, ul_62, uh_62) := by unfold sm_load; rw [if_neg c_5, if_neg c_9, if_neg c_15, if_neg c_22, if_pos c_37, hw_62]; (try dsimp only); rw [hw_71]; (try dsimp only); rw [hw_78]; (try dsimp only); (try rfl)
              exact W.iret (v := r_62) hx hb hr (fun t ht hW => ⟨⟨r_62, (uR_78, uW_78, upd uA_62 r_62.toNatClampNeg p2, uM_62, uX_62, uF_62, uI_62, 0, us_62, ur_62, ul_62, uh_62), rfl, hw, ⟨by rw [ht]; exact hP, va_K.moved hW.alike hK, hD⟩⟩, hS.F ht⟩) hS.2.2 dX1_load_91
            · exact absurd c_52 (by decide)
          · refine lv_iconst (v := 2) hx hb dX1_load_40 (by decide) ?_
            refine lv_goto (tgt := 45) hx hb dX1_load_41 (by decide) ?_
            refine va_put (D := (dC, dI)) (ci := 1) (v := .int 2) (ty := .int) (C := RX1) (T := TX1) (N := 17) hx hb hg inX1 tyX1 tyX1_ok nmX1 hown hK hP hD hS 0 rfl rfl 0 (by decide) (hg _ w_346) (fun _ h9 => h9) rfl (by decide +kernel) rfl rfl (Nat.le_of_ble_eq_true rfl) dX1_load_45 (fun H locs hP hD hS => ?_)
            have hP : va_P (dC, dI) vwCl (ws_sm b h uR uW uA uM uX uF uI uS 2 us ur ub uo ui ul uk uh) H := hP
            have hD : va_D A (ws_sm b h uR uW uA uM uX uF uI uS 2 us ur ub uo ui ul uk uh) := hD
            refine lv_aload_n hx hb dX1_load_48 rfl (lv_at hl 0 rfl) ?_
            refine va_get (D := (dC, dI)) (ci := 1) (v := .int 2) (C := RX1) (T := TX1) (N := 17) hx hb hg inX1 hown hK hP 0 rfl rfl 0 (by decide) (hg _ w_346) (fun _ h9 => h9) rfl dX1_load_49 ?_
            refine lv_if_le (tgt := 57) hx hb dX1_load_52 (by decide) (fun c_52 => ?_) (fun c_52 => ?_)
            · exact absurd c_52 (by decide)
            · refine lv_iconst (v := 0) hx hb dX1_load_55 (by decide) ?_
              have hw : sm_load uR uW uA uM uX uF uI us ur ui ul uh p1 p2 p3 = (0, uR, uW, uA, uM, uX, uF, uI, 2, us, ur, ul, uh) := by unfold sm_load; rw [if_neg c_5, if_neg c_9, if_neg c_15, if_neg c_22, if_neg c_37]; (try rfl)
              exact W.iret (v := 0) hx hb hr (fun t ht hW => ⟨⟨0, (uR, uW, uA, uM, uX, uF, uI, 2, us, ur, ul, uh), rfl, hw, ⟨by rw [ht]; exact hP, va_K.moved hW.alike hK, hD⟩⟩, hS.F ht⟩) hS.2.2 dX1_load_56
        · refine lv_iconst (v := 1) hx hb dX1_load_25 (by decide) ?_
          refine lv_goto (tgt := 45) hx hb dX1_load_26 (by decide) ?_
          refine va_put (D := (dC, dI)) (ci := 1) (v := .int 1) (ty := .int) (C := RX1) (T := TX1) (N := 17) hx hb hg inX1 tyX1 tyX1_ok nmX1 hown hK hP hD hS 0 rfl rfl 0 (by decide) (hg _ w_346) (fun _ h9 => h9) rfl (by decide +kernel) rfl rfl (Nat.le_of_ble_eq_true rfl) dX1_load_45 (fun H locs hP hD hS => ?_)
          have hP : va_P (dC, dI) vwCl (ws_sm b h uR uW uA uM uX uF uI uS 1 us ur ub uo ui ul uk uh) H := hP
          have hD : va_D A (ws_sm b h uR uW uA uM uX uF uI uS 1 us ur ub uo ui ul uk uh) := hD
          refine lv_aload_n hx hb dX1_load_48 rfl (lv_at hl 0 rfl) ?_
          refine va_get (D := (dC, dI)) (ci := 1) (v := .int 1) (C := RX1) (T := TX1) (N := 17) hx hb hg inX1 hown hK hP 0 rfl rfl 0 (by decide) (hg _ w_346) (fun _ h9 => h9) rfl dX1_load_49 ?_
          refine lv_if_le (tgt := 57) hx hb dX1_load_52 (by decide) (fun c_52 => ?_) (fun c_52 => ?_)
          · exact absurd c_52 (by decide)
          · refine lv_iconst (v := 0) hx hb dX1_load_55 (by decide) ?_
            have hw : sm_load uR uW uA uM uX uF uI us ur ui ul uh p1 p2 p3 = (0, uR, uW, uA, uM, uX, uF, uI, 1, us, ur, ul, uh) := by unfold sm_load; rw [if_neg c_5, if_neg c_9, if_neg c_15, if_pos c_22]; (try rfl)
            exact W.iret (v := 0) hx hb hr (fun t ht hW => ⟨⟨0, (uR, uW, uA, uM, uX, uF, uI, 1, us, ur, ul, uh), rfl, hw, ⟨by rw [ht]; exact hP, va_K.moved hW.alike hK, hD⟩⟩, hS.F ht⟩) hS.2.2 dX1_load_56
set_option maxHeartbeats 4000000 in
set_option maxRecDepth 100000 in
theorem cm_store (l : Launch) (dC : Nat → ClassId) (dI : Nat → Nat → Nat) (b : Nat → Nat) (h : Nat → ClassId) (sz : Nat) (uR uW uA uM uX uF uI uS : Nat → Int32) (ut us ur ub uo ui ul uk uh : Int32) (p1 p2 p3 : Int32) (hu : 0 ≤ us.toInt ∧ us.toInt ≤ 48) : Met l yX1_store wsX1_store ({ frames := 2, cells := 0, slots := 0, locals := 42 } : Room) (va_Pc [.ref (b 0), .int p1, .int p2, .int p3] (pr (dC, dI) (ws_sm b h uR uW uA uM uX uF uI uS ut us ur ub uo ui ul uk uh) (ty_sm h) sz)) (va_Qi (fun (r : Int32) (u : (Nat → Int32) × (Nat → Int32) × (Nat → Int32) × (Nat → Int32) × (Nat → Int32) × (Nat → Int32) × (Nat → Int32) × Int32 × Int32 × Int32 × Int32 × Int32) => sm_store uR uW uA uM uX uF uI us ur ui ul uh p1 p2 p3 = (r, u)) (fun (u : (Nat → Int32) × (Nat → Int32) × (Nat → Int32) × (Nat → Int32) × (Nat → Int32) × (Nat → Int32) × (Nat → Int32) × Int32 × Int32 × Int32 × Int32 × Int32) t => match u with | (uR', uW', uA', uM', uX', uF', uI', ut', us', ur', ul', uh') => po (dC, dI) (ws_sm b h uR' uW' uA' uM' uX' uF' uI' uS ut' us' ur' ub uo ui ul' uk uh') (ty_sm h) (va_A (ws_sm b h uR uW uA uM uX uF uI uS ut us ur ub uo ui ul uk uh) sz) t) (va_A (ws_sm b h uR uW uA uM uX uF uI uS ut us ur ub uo ui ul uk uh) sz)) 0 0 (va_A (ws_sm b h uR uW uA uM uX uF uI uS ut us ur ub uo ui ul uk uh) sz) := by
  refine Met.ofW (cc := cX1_store) (maxL := 5) (ret := (some .int)) (by decide) rfl ?_
  intro p e s m args below meth c s₁ B hml hv
  obtain ⟨rfl, hsz, hP, hK, hD0⟩ := hv
  have hx := B.exec
  have hb := B.bytes
  have hr := B.returns
  have hts := atoms_spec (ws := wsX1_store) B.pre
  have hg : ∀ w ∈ gw, w.before _ s = true := fun w h => hts w (List.mem_cons_of_mem _ h)
  have hown : s.vm.findClass RX1 = some m.cls := findClass_of_methodNamed B.named
  have hlocks := B.notSynchronized
  subst hsz
  have hD := hD0.self (sz := s.heap.size)
  generalize hAe : va_A (ws_sm b h uR uW uA uM uX uF uI uS ut us ur ub uo ui ul uk uh) s.heap.size = A at hD ⊢
  have hA : ∀ q : Nat, s.heap.size ≤ q → A q := fun q h => by rw [← hAe]; exact Or.inr h
  clear hAe
  refine w_in (fun H locs eH eL => ?_)
  have hS : va_S A s.heap H locs := by rw [eH, eL]; exact va_S.rf
  have hP : va_P (dC, dI) vwCl (ws_sm b h uR uW uA uM uX uF uI uS ut us ur ub uo ui ul uk uh) H := by rw [eH]; exact hP
  clear eH eL
  have hl := lv_entry ([.ref (b 0), .int p1, .int p2, .int p3]) (n := 5) (Nat.le_of_ble_eq_true rfl)
  rw [lg_entry_eq]
  generalize (lg_sl ([.ref (b 0), .int p1, .int p2, .int p3]) ++ List.replicate (5 - (lg_sl ([.ref (b 0), .int p1, .int p2, .int p3])).length) Slot.unset).toArray = ls at hl ⊢
  have hl : lv_has ls 5 [(0, .ref (b 0)), (1, .int p1), (2, .int p2), (3, .int p3)] := hl
  refine lv_aload_n hx hb dX1_store_0 rfl (lv_at hl 0 rfl) ?_
  refine lv_iload_n hx hb dX1_store_1 rfl (lv_at hl 1 rfl) ?_
  refine lv_if_lt (tgt := 25) hx hb dX1_store_2 (by decide) (fun c_2 => ?_) (fun c_2 => ?_)
  · refine lv_iconst (v := 1) hx hb dX1_store_25 (by decide) ?_
    refine lv_goto (tgt := 50) hx hb dX1_store_26 (by decide) ?_
    refine va_put (D := (dC, dI)) (ci := 1) (v := .int 1) (ty := .int) (C := RX1) (T := TX1) (N := 17) hx hb hg inX1 tyX1 tyX1_ok nmX1 hown hK hP hD hS 0 rfl rfl 0 (by decide) (hg _ w_346) (fun _ h9 => h9) rfl (by decide +kernel) rfl rfl (Nat.le_of_ble_eq_true rfl) dX1_store_50 (fun H locs hP hD hS => ?_)
    have hP : va_P (dC, dI) vwCl (ws_sm b h uR uW uA uM uX uF uI uS 1 us ur ub uo ui ul uk uh) H := hP
    have hD : va_D A (ws_sm b h uR uW uA uM uX uF uI uS 1 us ur ub uo ui ul uk uh) := hD
    refine lv_aload_n hx hb dX1_store_53 rfl (lv_at hl 0 rfl) ?_
    refine va_get (D := (dC, dI)) (ci := 1) (v := .int 1) (C := RX1) (T := TX1) (N := 17) hx hb hg inX1 hown hK hP 0 rfl rfl 0 (by decide) (hg _ w_346) (fun _ h9 => h9) rfl dX1_store_54 ?_
    refine lv_if_le (tgt := 62) hx hb dX1_store_57 (by decide) (fun c_57 => ?_) (fun c_57 => ?_)
    · exact absurd c_57 (by decide)
    · refine lv_iconst (v := 0) hx hb dX1_store_60 (by decide) ?_
      have hw : sm_store uR uW uA uM uX uF uI us ur ui ul uh p1 p2 p3 = (0, uR, uW, uA, uM, uX, uF, uI, 1, us, ur, ul, uh) := by unfold sm_store; rw [if_pos c_2]; (try rfl)
      exact W.iret (v := 0) hx hb hr (fun t ht hW => ⟨⟨0, (uR, uW, uA, uM, uX, uF, uI, 1, us, ur, ul, uh), rfl, hw, ⟨by rw [ht]; exact hP, va_K.moved hW.alike hK, hD⟩⟩, hS.F ht⟩) hS.2.2 dX1_store_61
  · refine lv_iload_n hx hb dX1_store_5 rfl (lv_at hl 1 rfl) ?_
    refine lv_bipush (v := 7) hx hb dX1_store_6 (by decide) ?_
    refine lv_icmp_gt (tgt := 25) hx hb dX1_store_8 (by decide) (fun c_8 => ?_) (fun c_8 => ?_)
    · refine lv_iconst (v := 1) hx hb dX1_store_25 (by decide) ?_
      refine lv_goto (tgt := 50) hx hb dX1_store_26 (by decide) ?_
      refine va_put (D := (dC, dI)) (ci := 1) (v := .int 1) (ty := .int) (C := RX1) (T := TX1) (N := 17) hx hb hg inX1 tyX1 tyX1_ok nmX1 hown hK hP hD hS 0 rfl rfl 0 (by decide) (hg _ w_346) (fun _ h9 => h9) rfl (by decide +kernel) rfl rfl (Nat.le_of_ble_eq_true rfl) dX1_store_50 (fun H locs hP hD hS => ?_)
      have hP : va_P (dC, dI) vwCl (ws_sm b h uR uW uA uM uX uF uI uS 1 us ur ub uo ui ul uk uh) H := hP
      have hD : va_D A (ws_sm b h uR uW uA uM uX uF uI uS 1 us ur ub uo ui ul uk uh) := hD
      refine lv_aload_n hx hb dX1_store_53 rfl (lv_at hl 0 rfl) ?_
      refine va_get (D := (dC, dI)) (ci := 1) (v := .int 1) (C := RX1) (T := TX1) (N := 17) hx hb hg inX1 hown hK hP 0 rfl rfl 0 (by decide) (hg _ w_346) (fun _ h9 => h9) rfl dX1_store_54 ?_
      refine lv_if_le (tgt := 62) hx hb dX1_store_57 (by decide) (fun c_57 => ?_) (fun c_57 => ?_)
      · exact absurd c_57 (by decide)
      · refine lv_iconst (v := 0) hx hb dX1_store_60 (by decide) ?_
        have hw : sm_store uR uW uA uM uX uF uI us ur ui ul uh p1 p2 p3 = (0, uR, uW, uA, uM, uX, uF, uI, 1, us, ur, ul, uh) := by unfold sm_store; rw [if_neg c_2, if_pos c_8]; (try rfl)
        exact W.iret (v := 0) hx hb hr (fun t ht hW => ⟨⟨0, (uR, uW, uA, uM, uX, uF, uI, 1, us, ur, ul, uh), rfl, hw, ⟨by rw [ht]; exact hP, va_K.moved hW.alike hK, hD⟩⟩, hS.F ht⟩) hS.2.2 dX1_store_61
    · refine lv_iload_n hx hb dX1_store_11 rfl (lv_at hl 2 rfl) ?_
      refine va_calli (va_runS (As := [.int p2]) (rest := [.ref (b 0)]) ⟨hx, hb, hml, hown, hg⟩ (cm_isSet l dC dI p2) (va_cwS 1 hg (gi_S w_414 w_415 w_2 w_416) rfl rfl rfl (by decide +kernel) ⟨Nat.le_of_ble_eq_true rfl, Nat.le_of_ble_eq_true rfl⟩) ⟨(fun _ _ _ _ q => q), (fun _ _ _ => ⟨rfl, trivial⟩)⟩ rfl rfl hl.1 rfl (lv_room (Nat.le_of_ble_eq_true rfl)) dX1_store_12 ⟨Nat.le_of_ble_eq_true rfl, Nat.le_of_ble_eq_true rfl⟩) hS (fun q _ h => False.elim h) (fun q h => False.elim h) (fun r_12 u t H1 locs ht hvm hw_12 hB hz1 hk1 hS => ?_)
      subst hw_12
      have hP := hP.kept (fun k q hq => hk1 q.1 (hP k q hq).lt (fun h => h))
      generalize H1 = H at hP hS ⊢
      have hP : va_P (dC, dI) vwCl (ws_sm b h uR uW uA uM uX uF uI uS ut us ur ub uo ui ul uk uh) H := hP
      have hD : va_D A (ws_sm b h uR uW uA uM uX uF uI uS ut us ur ub uo ui ul uk uh) := hD
      refine lv_if_eq (tgt := 25) hx hb dX1_store_15 (by decide) (fun c_15 => ?_) (fun c_15 => ?_)
      · refine lv_iconst (v := 1) hx hb dX1_store_25 (by decide) ?_
        refine lv_goto (tgt := 50) hx hb dX1_store_26 (by decide) ?_
        refine va_put (D := (dC, dI)) (ci := 1) (v := .int 1) (ty := .int) (C := RX1) (T := TX1) (N := 17) hx hb hg inX1 tyX1 tyX1_ok nmX1 hown hK hP hD hS 0 rfl rfl 0 (by decide) (hg _ w_346) (fun _ h9 => h9) rfl (by decide +kernel) rfl rfl (Nat.le_of_ble_eq_true rfl) dX1_store_50 (fun H locs hP hD hS => ?_)
        have hP : va_P (dC, dI) vwCl (ws_sm b h uR uW uA uM uX uF uI uS 1 us ur ub uo ui ul uk uh) H := hP
        have hD : va_D A (ws_sm b h uR uW uA uM uX uF uI uS 1 us ur ub uo ui ul uk uh) := hD
        refine lv_aload_n hx hb dX1_store_53 rfl (lv_at hl 0 rfl) ?_
        refine va_get (D := (dC, dI)) (ci := 1) (v := .int 1) (C := RX1) (T := TX1) (N := 17) hx hb hg inX1 hown hK hP 0 rfl rfl 0 (by decide) (hg _ w_346) (fun _ h9 => h9) rfl dX1_store_54 ?_
        refine lv_if_le (tgt := 62) hx hb dX1_store_57 (by decide) (fun c_57 => ?_) (fun c_57 => ?_)
        · exact absurd c_57 (by decide)
        · refine lv_iconst (v := 0) hx hb dX1_store_60 (by decide) ?_
          have hw : sm_store uR uW uA uM uX uF uI us ur ui ul uh p1 p2 p3 = (0, uR, uW, uA, uM, uX, uF, uI, 1, us, ur, ul, uh) := by unfold sm_store; rw [if_neg c_2, if_neg c_8, if_pos c_15]; (try rfl)
          exact W.iret (v := 0) hx hb hr (fun t ht hW => ⟨⟨0, (uR, uW, uA, uM, uX, uF, uI, 1, us, ur, ul, uh), rfl, hw, ⟨by rw [ht]; exact hP, va_K.moved hW.alike hK, hD⟩⟩, hS.F ht⟩) hS.2.2 dX1_store_61
      · refine lv_iload_n hx hb dX1_store_18 rfl (lv_at hl 3 rfl) ?_
        refine va_calli (va_runS (As := [.int p3]) (rest := [.ref (b 0)]) ⟨hx, hb, hml, hown, hg⟩ (cm_isSet l dC dI p3) (va_cwS 1 hg (gi_S w_414 w_415 w_2 w_416) rfl rfl rfl (by decide +kernel) ⟨Nat.le_of_ble_eq_true rfl, Nat.le_of_ble_eq_true rfl⟩) ⟨(fun _ _ _ _ q => q), (fun _ _ _ => ⟨rfl, trivial⟩)⟩ rfl rfl hl.1 rfl (lv_room (Nat.le_of_ble_eq_true rfl)) dX1_store_19 ⟨Nat.le_of_ble_eq_true rfl, Nat.le_of_ble_eq_true rfl⟩) hS (fun q _ h => False.elim h) (fun q h => False.elim h) (fun r_19 u t H1 locs ht hvm hw_19 hB hz1 hk1 hS => ?_)
        subst hw_19
        have hP := hP.kept (fun k q hq => hk1 q.1 (hP k q hq).lt (fun h => h))
        generalize H1 = H at hP hS ⊢
        have hP : va_P (dC, dI) vwCl (ws_sm b h uR uW uA uM uX uF uI uS ut us ur ub uo ui ul uk uh) H := hP
        have hD : va_D A (ws_sm b h uR uW uA uM uX uF uI uS ut us ur ub uo ui ul uk uh) := hD
        refine lv_if_ne (tgt := 29) hx hb dX1_store_22 (by decide) (fun c_22 => ?_) (fun c_22 => ?_)
        · refine lv_aload_n hx hb dX1_store_29 rfl (lv_at hl 0 rfl) ?_
          refine lv_iload_n hx hb dX1_store_30 rfl (lv_at hl 2 rfl) ?_
          refine va_calli (va_runS (As := [.int p2]) (rest := [.ref (b 0), .ref (b 0)]) ⟨hx, hb, hml, hown, hg⟩ (cm_counts l dC dI p2) (va_cwS 1 hg (gi_S w_418 w_419 w_2 w_420) rfl rfl rfl (by decide +kernel) ⟨Nat.le_of_ble_eq_true rfl, Nat.le_of_ble_eq_true rfl⟩) ⟨(fun _ _ _ _ q => q), (fun _ _ _ => ⟨rfl, trivial⟩)⟩ rfl rfl hl.1 rfl (lv_room (Nat.le_of_ble_eq_true rfl)) dX1_store_31 ⟨Nat.le_of_ble_eq_true rfl, Nat.le_of_ble_eq_true rfl⟩) hS (fun q _ h => False.elim h) (fun q h => False.elim h) (fun r_31 u t H1 locs ht hvm hw_31 hB hz1 hk1 hS => ?_)
          subst hw_31
          have hP := hP.kept (fun k q hq => hk1 q.1 (hP k q hq).lt (fun h => h))
          generalize H1 = H at hP hS ⊢
          have hP : va_P (dC, dI) vwCl (ws_sm b h uR uW uA uM uX uF uI uS ut us ur ub uo ui ul uk uh) H := hP
          have hD : va_D A (ws_sm b h uR uW uA uM uX uF uI uS ut us ur ub uo ui ul uk uh) := hD
          refine lv_iload_n hx hb dX1_store_34 rfl (lv_at hl 3 rfl) ?_
          refine va_calli (va_runS (As := [.int p3]) (rest := [.int (sm_counts p2), .ref (b 0), .ref (b 0)]) ⟨hx, hb, hml, hown, hg⟩ (cm_counts l dC dI p3) (va_cwS 1 hg (gi_S w_418 w_419 w_2 w_420) rfl rfl rfl (by decide +kernel) ⟨Nat.le_of_ble_eq_true rfl, Nat.le_of_ble_eq_true rfl⟩) ⟨(fun _ _ _ _ q => q), (fun _ _ _ => ⟨rfl, trivial⟩)⟩ rfl rfl hl.1 rfl (lv_room (Nat.le_of_ble_eq_true rfl)) dX1_store_35 ⟨Nat.le_of_ble_eq_true rfl, Nat.le_of_ble_eq_true rfl⟩) hS (fun q _ h => False.elim h) (fun q h => False.elim h) (fun r_35 u t H1 locs ht hvm hw_35 hB hz1 hk1 hS => ?_)
          subst hw_35
          have hP := hP.kept (fun k q hq => hk1 q.1 (hP k q hq).lt (fun h => h))
          generalize H1 = H at hP hS ⊢
          have hP : va_P (dC, dI) vwCl (ws_sm b h uR uW uA uM uX uF uI uS ut us ur ub uo ui ul uk uh) H := hP
          have hD : va_D A (ws_sm b h uR uW uA uM uX uF uI uS ut us ur ub uo ui ul uk uh) := hD
          refine lv_iadd hx hb dX1_store_38 ?_
          have hFc := va_free (wc := ws_sm b h uR uW uA uM uX uF uI uS ut us ur ub uo ui ul uk uh) hD hS hA [0, 1, 2, 3, 4, 5, 6, 7, 8] rfl
          refine va_calli (va_runV (As := [.int ((sm_counts p2) + (sm_counts p3))]) (rest := [.ref (b 0)]) ⟨hx, hb, hml, hown, hg⟩ (cm_isFull l dC dI b h H.size uR uW uA uM uX uF uI uS ut us ur ub uo ui ul uk uh ((sm_counts p2) + (sm_counts p3))) (cwV 1 hg (gi_V w_424 w_426 s_11 w_2 w_427) rfl rfl rfl (by decide +kernel) ⟨Nat.le_of_ble_eq_true rfl, Nat.le_of_ble_eq_true rfl⟩) ⟨pr_bl, va_recv hK hP (ci := 1) (q0 := 0) rfl rfl, pr_ok hK hP hD⟩ rfl rfl hl.1 rfl (lv_room (Nat.le_of_ble_eq_true rfl)) dX1_store_39 ⟨Nat.le_of_ble_eq_true rfl, Nat.le_of_ble_eq_true rfl⟩) hS (fun q _ h => hFc q h) hFc (fun r_39 u t H1 locs ht hvm hw_39 hB hz1 hk1 hS => ?_)
          subst hw_39
          obtain ⟨hP, hK1, hD1⟩ := hB
          rw [ht] at hP
          have hD := hD1.weaken (fun _ q _ h => hFc q.1 h)
          generalize H1 = H at hP hS ⊢
          have hP : va_P (dC, dI) vwCl (ws_sm b h uR uW uA uM uX uF uI uS ut us ur ub uo ui ul uk uh) H := hP
          have hD : va_D A (ws_sm b h uR uW uA uM uX uF uI uS ut us ur ub uo ui ul uk uh) := hD
          refine lv_if_eq (tgt := 49) hx hb dX1_store_42 (by decide) (fun c_42 => ?_) (fun c_42 => ?_)
          · refine lv_iconst (v := 0) hx hb dX1_store_49 (by decide) ?_
            refine va_put (D := (dC, dI)) (ci := 1) (v := .int 0) (ty := .int) (C := RX1) (T := TX1) (N := 17) hx hb hg inX1 tyX1 tyX1_ok nmX1 hown hK hP hD hS 0 rfl rfl 0 (by decide) (hg _ w_346) (fun _ h9 => h9) rfl (by decide +kernel) rfl rfl (Nat.le_of_ble_eq_true rfl) dX1_store_50 (fun H locs hP hD hS => ?_)
            have hP : va_P (dC, dI) vwCl (ws_sm b h uR uW uA uM uX uF uI uS 0 us ur ub uo ui ul uk uh) H := hP
            have hD : va_D A (ws_sm b h uR uW uA uM uX uF uI uS 0 us ur ub uo ui ul uk uh) := hD
            refine lv_aload_n hx hb dX1_store_53 rfl (lv_at hl 0 rfl) ?_
            refine va_get (D := (dC, dI)) (ci := 1) (v := .int 0) (C := RX1) (T := TX1) (N := 17) hx hb hg inX1 hown hK hP 0 rfl rfl 0 (by decide) (hg _ w_346) (fun _ h9 => h9) rfl dX1_store_54 ?_
            refine lv_if_le (tgt := 62) hx hb dX1_store_57 (by decide) (fun c_57 => ?_) (fun c_57 => ?_)
            · refine lv_aload_n hx hb dX1_store_62 rfl (lv_at hl 0 rfl) ?_
              refine lv_iload_n hx hb dX1_store_63 rfl (lv_at hl 2 rfl) ?_
              refine va_calli (va_runS (As := [.int p2]) (rest := [.ref (b 0)]) ⟨hx, hb, hml, hown, hg⟩ (cm_counts l dC dI p2) (va_cwS 1 hg (gi_S w_418 w_419 w_2 w_420) rfl rfl rfl (by decide +kernel) ⟨Nat.le_of_ble_eq_true rfl, Nat.le_of_ble_eq_true rfl⟩) ⟨(fun _ _ _ _ q => q), (fun _ _ _ => ⟨rfl, trivial⟩)⟩ rfl rfl hl.1 rfl (lv_room (Nat.le_of_ble_eq_true rfl)) dX1_store_64 ⟨Nat.le_of_ble_eq_true rfl, Nat.le_of_ble_eq_true rfl⟩) hS (fun q _ h => False.elim h) (fun q h => False.elim h) (fun r_64 u t H1 locs ht hvm hw_64 hB hz1 hk1 hS => ?_)
              subst hw_64
              have hP := hP.kept (fun k q hq => hk1 q.1 (hP k q hq).lt (fun h => h))
              generalize H1 = H at hP hS ⊢
              have hP : va_P (dC, dI) vwCl (ws_sm b h uR uW uA uM uX uF uI uS 0 us ur ub uo ui ul uk uh) H := hP
              have hD : va_D A (ws_sm b h uR uW uA uM uX uF uI uS 0 us ur ub uo ui ul uk uh) := hD
              refine lv_iload_n hx hb dX1_store_67 rfl (lv_at hl 3 rfl) ?_
              refine va_calli (va_runS (As := [.int p3]) (rest := [.int (sm_counts p2), .ref (b 0)]) ⟨hx, hb, hml, hown, hg⟩ (cm_counts l dC dI p3) (va_cwS 1 hg (gi_S w_418 w_419 w_2 w_420) rfl rfl rfl (by decide +kernel) ⟨Nat.le_of_ble_eq_true rfl, Nat.le_of_ble_eq_true rfl⟩) ⟨(fun _ _ _ _ q => q), (fun _ _ _ => ⟨rfl, trivial⟩)⟩ rfl rfl hl.1 rfl (lv_room (Nat.le_of_ble_eq_true rfl)) dX1_store_68 ⟨Nat.le_of_ble_eq_true rfl, Nat.le_of_ble_eq_true rfl⟩) hS (fun q _ h => False.elim h) (fun q h => False.elim h) (fun r_68 u t H1 locs ht hvm hw_68 hB hz1 hk1 hS => ?_)
              subst hw_68
              have hP := hP.kept (fun k q hq => hk1 q.1 (hP k q hq).lt (fun h => h))
              generalize H1 = H at hP hS ⊢
              have hP : va_P (dC, dI) vwCl (ws_sm b h uR uW uA uM uX uF uI uS 0 us ur ub uo ui ul uk uh) H := hP
              have hD : va_D A (ws_sm b h uR uW uA uM uX uF uI uS 0 us ur ub uo ui ul uk uh) := hD
              refine lv_iadd hx hb dX1_store_71 ?_
              have hFc := va_free (wc := ws_sm b h uR uW uA uM uX uF uI uS 0 us ur ub uo ui ul uk uh) hD hS hA [0, 1, 2, 3, 4, 5, 6, 7, 8] rfl
              refine va_calli (va_runV (As := [.int ((sm_counts p2) + (sm_counts p3))]) (rest := []) ⟨hx, hb, hml, hown, hg⟩ (cm_comes l dC dI b h H.size uR uW uA uM uX uF uI uS 0 us ur ub uo ui ul uk uh ((sm_counts p2) + (sm_counts p3)) (nf_rg hu c_42)) (cwV 1 hg (gi_V w_428 w_430 s_12 w_2 w_431) rfl rfl rfl (by decide +kernel) ⟨Nat.le_of_ble_eq_true rfl, Nat.le_of_ble_eq_true rfl⟩) ⟨pr_bl, va_recv hK hP (ci := 1) (q0 := 0) rfl rfl, pr_ok hK hP hD⟩ rfl rfl hl.1 rfl (lv_room (Nat.le_of_ble_eq_true rfl)) dX1_store_72 ⟨Nat.le_of_ble_eq_true rfl, Nat.le_of_ble_eq_true rfl⟩) hS (fun q _ h => hFc q h) hFc (fun r_72 u t H1 locs ht hvm hw_72 hB hz1 hk1 hS => ?_)
              obtain ⟨uR_72, uW_72, uA_72, uM_72, uX_72, uF_72, uI_72, us_72, ur_72, ul_72, uh_72⟩ := u
              obtain ⟨hP, hK1, hD1⟩ := hB
              rw [ht] at hP
              have hD := hD1.weaken (fun _ q _ h => hFc q.1 h)
              generalize H1 = H at hP hS ⊢
              have hP : va_P (dC, dI) vwCl (ws_sm b h uR_72 uW_72 uA_72 uM_72 uX_72 uF_72 uI_72 uS 0 us_72 ur_72 ub uo ui ul_72 uk uh_72) H := hP
              have hD : va_D A (ws_sm b h uR_72 uW_72 uA_72 uM_72 uX_72 uF_72 uI_72 uS 0 us_72 ur_72 ub uo ui ul_72 uk uh_72) := hD
              refine lv_istore (lv' := [(4, .int r_72), (0, .ref (b 0)), (1, .int p1), (2, .int p2), (3, .int p3)]) hx hb dX1_store_75 hl (by decide) rfl (fun ls hl => ?_)
              refine lv_aload_n hx hb dX1_store_77 rfl (lv_at hl 1 rfl) ?_
              refine lv_iload hx hb dX1_store_78 (lv_at hl 0 rfl) ?_
              refine lv_iload_n hx hb dX1_store_80 rfl (lv_at hl 3 rfl) ?_
              have hFc := va_free (wc := ws_sm b h uR_72 uW_72 uA_72 uM_72 uX_72 uF_72 uI_72 uS 0 us_72 ur_72 ub uo ui ul_72 uk uh_72) hD hS hA [0, 1, 2, 3, 4, 5, 6, 7, 8] rfl
              refine va_callv (va_runV (As := [.int r_72, .int p2]) (rest := []) ⟨hx, hb, hml, hown, hg⟩ (cm_reads l dC dI b h H.size uR_72 uW_72 uA_72 uM_72 uX_72 uF_72 uI_72 uS 0 us_72 ur_72 ub uo ui ul_72 uk uh_72 r_72 p2 (cm_rg hw_72 (nf_rg hu c_42))) (cwV 2 hg (gi_V w_432 w_434 s_13 w_2 w_435) rfl rfl rfl (by decide +kernel) ⟨Nat.le_of_ble_eq_true rfl, Nat.le_of_ble_eq_true rfl⟩) ⟨pr_bl, va_recv hK hP (ci := 1) (q0 := 0) rfl rfl, pr_ok hK hP hD⟩ rfl rfl hl.1 rfl (lv_room (Nat.le_of_ble_eq_true rfl)) dX1_store_81 ⟨Nat.le_of_ble_eq_true rfl, Nat.le_of_ble_eq_true rfl⟩) hS (fun q _ h => hFc q h) hFc (fun u t H1 locs ht hvm hw_81 hB hz1 hk1 hS => ?_)
              obtain ⟨uR_81, rfl⟩ : ∃ z, z = u := ⟨_, rfl⟩
              obtain ⟨hP, hK1, hD1⟩ := hB
              rw [ht] at hP
              have hD := hD1.weaken (fun _ q _ h => hFc q.1 h)
              generalize H1 = H at hP hS ⊢
              have hP : va_P (dC, dI) vwCl (ws_sm b h uR_81 uW_72 uA_72 uM_72 uX_72 uF_72 uI_72 uS 0 us_72 ur_72 ub uo ui ul_72 uk uh_72) H := hP
              have hD : va_D A (ws_sm b h uR_81 uW_72 uA_72 uM_72 uX_72 uF_72 uI_72 uS 0 us_72 ur_72 ub uo ui ul_72 uk uh_72) := hD
              refine lv_aload_n hx hb dX1_store_84 rfl (lv_at hl 1 rfl) ?_
              refine lv_iload hx hb dX1_store_85 (lv_at hl 0 rfl) ?_
              refine lv_iload_n hx hb dX1_store_87 rfl (lv_at hl 4 rfl) ?_
              have hFc := va_free (wc := ws_sm b h uR_81 uW_72 uA_72 uM_72 uX_72 uF_72 uI_72 uS 0 us_72 ur_72 ub uo ui ul_72 uk uh_72) hD hS hA [0, 1, 2, 3, 4, 5, 6, 7, 8] rfl
              refine va_callv (va_runV (As := [.int r_72, .int p3]) (rest := []) ⟨hx, hb, hml, hown, hg⟩ (cm_reads l dC dI b h H.size uR_81 uW_72 uA_72 uM_72 uX_72 uF_72 uI_72 uS 0 us_72 ur_72 ub uo ui ul_72 uk uh_72 r_72 p3 (cm_rg hw_72 (nf_rg hu c_42))) (cwV 2 hg (gi_V w_432 w_434 s_13 w_2 w_435) rfl rfl rfl (by decide +kernel) ⟨Nat.le_of_ble_eq_true rfl, Nat.le_of_ble_eq_true rfl⟩) ⟨pr_bl, va_recv hK hP (ci := 1) (q0 := 0) rfl rfl, pr_ok hK hP hD⟩ rfl rfl hl.1 rfl (lv_room (Nat.le_of_ble_eq_true rfl)) dX1_store_88 ⟨Nat.le_of_ble_eq_true rfl, Nat.le_of_ble_eq_true rfl⟩) hS (fun q _ h => hFc q h) hFc (fun u t H1 locs ht hvm hw_88 hB hz1 hk1 hS => ?_)
              obtain ⟨uR_88, rfl⟩ : ∃ z, z = u := ⟨_, rfl⟩
              obtain ⟨hP, hK1, hD1⟩ := hB
              rw [ht] at hP
              have hD := hD1.weaken (fun _ q _ h => hFc q.1 h)
              generalize H1 = H at hP hS ⊢
              have hP : va_P (dC, dI) vwCl (ws_sm b h uR_88 uW_72 uA_72 uM_72 uX_72 uF_72 uI_72 uS 0 us_72 ur_72 ub uo ui ul_72 uk uh_72) H := hP
              have hD : va_D A (ws_sm b h uR_88 uW_72 uA_72 uM_72 uX_72 uF_72 uI_72 uS 0 us_72 ur_72 ub uo ui ul_72 uk uh_72) := hD
              refine lv_aload_n hx hb dX1_store_91 rfl (lv_at hl 1 rfl) ?_
              refine va_get (D := (dC, dI)) (ci := 1) (v := .ref (b 3)) (C := RX1) (T := TX1) (N := 17) hx hb hg inX1 hown hK hP 0 rfl rfl 7 (by decide) (hg _ w_353) (fun _ h9 => h9) rfl dX1_store_92 ?_
              refine lv_iload hx hb dX1_store_95 (lv_at hl 0 rfl) ?_
              refine lv_iload_n hx hb dX1_store_97 rfl (lv_at hl 2 rfl) ?_
              refine va_iast hx hb hK hP hD hS 3 2 rfl rfl (ix_k (cm_rg hw_72 (nf_rg hu c_42))) dX1_store_98 (fun H locs hP hD hS => ?_)
              have hP : va_P (dC, dI) vwCl (ws_sm b h uR_88 uW_72 (upd uA_72 r_72.toNatClampNeg p1) uM_72 uX_72 uF_72 uI_72 uS 0 us_72 ur_72 ub uo ui ul_72 uk uh_72) H := hP
              have hD : va_D A (ws_sm b h uR_88 uW_72 (upd uA_72 r_72.toNatClampNeg p1) uM_72 uX_72 uF_72 uI_72 uS 0 us_72 ur_72 ub uo ui ul_72 uk uh_72) := hD
              refine lv_iload hx hb dX1_store_99 (lv_at hl 0 rfl) ?_
              have hw : sm_store uR uW uA uM uX uF uI us ur ui ul uh p1 p2 p3 = (r_72, uR_88, uW_72, upd uA_72 r_72.toNatClampNeg p1, uM_72, uX_72, uF_72, uI_72, 0, us_72, ur_72, ul_72, uh_72) := by unfold sm_store; rw [if_neg c_2, if_neg c_8, if_neg c_15, if_neg c_22, if_pos c_42, hw_72]; (try dsimp only); rw [hw_81]; (try dsimp only); rw [hw_88]; (try dsimp only); (try rfl)
              exact W.iret (v := r_72) hx hb hr (fun t ht hW => ⟨⟨r_72, (uR_88, uW_72, upd uA_72 r_72.toNatClampNeg p1, uM_72, uX_72, uF_72, uI_72, 0, us_72, ur_72, ul_72, uh_72), rfl, hw, ⟨by rw [ht]; exact hP, va_K.moved hW.alike hK, hD⟩⟩, hS.F ht⟩) hS.2.2 dX1_store_101
            · exact absurd c_57 (by decide)
          · refine lv_iconst (v := 2) hx hb dX1_store_45 (by decide) ?_
            refine lv_goto (tgt := 50) hx hb dX1_store_46 (by decide) ?_
            refine va_put (D := (dC, dI)) (ci := 1) (v := .int 2) (ty := .int) (C := RX1) (T := TX1) (N := 17) hx hb hg inX1 tyX1 tyX1_ok nmX1 hown hK hP hD hS 0 rfl rfl 0 (by decide) (hg _ w_346) (fun _ h9 => h9) rfl (by decide +kernel) rfl rfl (Nat.le_of_ble_eq_true rfl) dX1_store_50 (fun H locs hP hD hS => ?_)
            have hP : va_P (dC, dI) vwCl (ws_sm b h uR uW uA uM uX uF uI uS 2 us ur ub uo ui ul uk uh) H := hP
            have hD : va_D A (ws_sm b h uR uW uA uM uX uF uI uS 2 us ur ub uo ui ul uk uh) := hD
            refine lv_aload_n hx hb dX1_store_53 rfl (lv_at hl 0 rfl) ?_
            refine va_get (D := (dC, dI)) (ci := 1) (v := .int 2) (C := RX1) (T := TX1) (N := 17) hx hb hg inX1 hown hK hP 0 rfl rfl 0 (by decide) (hg _ w_346) (fun _ h9 => h9) rfl dX1_store_54 ?_
            refine lv_if_le (tgt := 62) hx hb dX1_store_57 (by decide) (fun c_57 => ?_) (fun c_57 => ?_)
            · exact absurd c_57 (by decide)
            · refine lv_iconst (v := 0) hx hb dX1_store_60 (by decide) ?_
              have hw : sm_store uR uW uA uM uX uF uI us ur ui ul uh p1 p2 p3 = (0, uR, uW, uA, uM, uX, uF, uI, 2, us, ur, ul, uh) := by unfold sm_store; rw [if_neg c_2, if_neg c_8, if_neg c_15, if_neg c_22, if_neg c_42]; (try rfl)
              exact W.iret (v := 0) hx hb hr (fun t ht hW => ⟨⟨0, (uR, uW, uA, uM, uX, uF, uI, 2, us, ur, ul, uh), rfl, hw, ⟨by rw [ht]; exact hP, va_K.moved hW.alike hK, hD⟩⟩, hS.F ht⟩) hS.2.2 dX1_store_61
        · refine lv_iconst (v := 1) hx hb dX1_store_25 (by decide) ?_
          refine lv_goto (tgt := 50) hx hb dX1_store_26 (by decide) ?_
          refine va_put (D := (dC, dI)) (ci := 1) (v := .int 1) (ty := .int) (C := RX1) (T := TX1) (N := 17) hx hb hg inX1 tyX1 tyX1_ok nmX1 hown hK hP hD hS 0 rfl rfl 0 (by decide) (hg _ w_346) (fun _ h9 => h9) rfl (by decide +kernel) rfl rfl (Nat.le_of_ble_eq_true rfl) dX1_store_50 (fun H locs hP hD hS => ?_)
          have hP : va_P (dC, dI) vwCl (ws_sm b h uR uW uA uM uX uF uI uS 1 us ur ub uo ui ul uk uh) H := hP
          have hD : va_D A (ws_sm b h uR uW uA uM uX uF uI uS 1 us ur ub uo ui ul uk uh) := hD
          refine lv_aload_n hx hb dX1_store_53 rfl (lv_at hl 0 rfl) ?_
          refine va_get (D := (dC, dI)) (ci := 1) (v := .int 1) (C := RX1) (T := TX1) (N := 17) hx hb hg inX1 hown hK hP 0 rfl rfl 0 (by decide) (hg _ w_346) (fun _ h9 => h9) rfl dX1_store_54 ?_
          refine lv_if_le (tgt := 62) hx hb dX1_store_57 (by decide) (fun c_57 => ?_) (fun c_57 => ?_)
          · exact absurd c_57 (by decide)
          · refine lv_iconst (v := 0) hx hb dX1_store_60 (by decide) ?_
            have hw : sm_store uR uW uA uM uX uF uI us ur ui ul uh p1 p2 p3 = (0, uR, uW, uA, uM, uX, uF, uI, 1, us, ur, ul, uh) := by unfold sm_store; rw [if_neg c_2, if_neg c_8, if_neg c_15, if_pos c_22]; (try rfl)
            exact W.iret (v := 0) hx hb hr (fun t ht hW => ⟨⟨0, (uR, uW, uA, uM, uX, uF, uI, 1, us, ur, ul, uh), rfl, hw, ⟨by rw [ht]; exact hP, va_K.moved hW.alike hK, hD⟩⟩, hS.F ht⟩) hS.2.2 dX1_store_61
set_option maxHeartbeats 4000000 in
set_option maxRecDepth 100000 in
theorem cm_valid (l : Launch) (dC : Nat → ClassId) (dI : Nat → Nat → Nat) (b : Nat → Nat) (h : Nat → ClassId) (sz : Nat) (uR uW uA uM uX uF uI uS : Nat → Int32) (ut us ur ub uo ui ul uk uh : Int32) (p1 p2 : Int32) (hu : 0 ≤ us.toInt ∧ us.toInt ≤ 48) : Met l yX1_valid wsX1_valid ({ frames := 1, cells := 0, slots := 0, locals := 23 } : Room) (va_Pc [.ref (b 0), .int p1, .int p2] (pr (dC, dI) (ws_sm b h uR uW uA uM uX uF uI uS ut us ur ub uo ui ul uk uh) (ty_sm h) sz)) (va_Qi (fun (r : Int32) (u : (Nat → Int32) × (Nat → Int32) × (Nat → Int32) × (Nat → Int32) × (Nat → Int32) × (Nat → Int32) × (Nat → Int32) × Int32 × Int32 × Int32 × Int32 × Int32) => sm_valid uR uW uA uM uX uF uI us ur ui ul uh p1 = (r, u)) (fun (u : (Nat → Int32) × (Nat → Int32) × (Nat → Int32) × (Nat → Int32) × (Nat → Int32) × (Nat → Int32) × (Nat → Int32) × Int32 × Int32 × Int32 × Int32 × Int32) t => match u with | (uR', uW', uA', uM', uX', uF', uI', ut', us', ur', ul', uh') => po (dC, dI) (ws_sm b h uR' uW' uA' uM' uX' uF' uI' uS ut' us' ur' ub uo ui ul' uk uh') (ty_sm h) (va_A (ws_sm b h uR uW uA uM uX uF uI uS ut us ur ub uo ui ul uk uh) sz) t) (va_A (ws_sm b h uR uW uA uM uX uF uI uS ut us ur ub uo ui ul uk uh) sz)) 0 0 (va_A (ws_sm b h uR uW uA uM uX uF uI uS ut us ur ub uo ui ul uk uh) sz) := by
  refine Met.ofW (cc := cX1_valid) (maxL := 4) (ret := (some .int)) (by decide) rfl ?_
  intro p e s m args below meth c s₁ B hml hv
  obtain ⟨rfl, hsz, hP, hK, hD0⟩ := hv
  have hx := B.exec
  have hb := B.bytes
  have hr := B.returns
  have hts := atoms_spec (ws := wsX1_valid) B.pre
  have hg : ∀ w ∈ gw, w.before _ s = true := fun w h => hts w (List.mem_cons_of_mem _ h)
  have hown : s.vm.findClass RX1 = some m.cls := findClass_of_methodNamed B.named
  have hlocks := B.notSynchronized
  subst hsz
  have hD := hD0.self (sz := s.heap.size)
  generalize hAe : va_A (ws_sm b h uR uW uA uM uX uF uI uS ut us ur ub uo ui ul uk uh) s.heap.size = A at hD ⊢
  have hA : ∀ q : Nat, s.heap.size ≤ q → A q := fun q h => by rw [← hAe]; exact Or.inr h
  clear hAe
  refine w_in (fun H locs eH eL => ?_)
  have hS : va_S A s.heap H locs := by rw [eH, eL]; exact va_S.rf
  have hP : va_P (dC, dI) vwCl (ws_sm b h uR uW uA uM uX uF uI uS ut us ur ub uo ui ul uk uh) H := by rw [eH]; exact hP
  clear eH eL
  have hl := lv_entry ([.ref (b 0), .int p1, .int p2]) (n := 4) (Nat.le_of_ble_eq_true rfl)
  rw [lg_entry_eq]
  generalize (lg_sl ([.ref (b 0), .int p1, .int p2]) ++ List.replicate (4 - (lg_sl ([.ref (b 0), .int p1, .int p2])).length) Slot.unset).toArray = ls at hl ⊢
  have hl : lv_has ls 4 [(0, .ref (b 0)), (1, .int p1), (2, .int p2)] := hl
  refine lv_aload_n hx hb dX1_valid_0 rfl (lv_at hl 0 rfl) ?_
  refine lv_iload_n hx hb dX1_valid_1 rfl (lv_at hl 1 rfl) ?_
  refine lv_if_lt (tgt := 11) hx hb dX1_valid_2 (by decide) (fun c_2 => ?_) (fun c_2 => ?_)
  · refine lv_iconst (v := 1) hx hb dX1_valid_11 (by decide) ?_
    refine lv_goto (tgt := 28) hx hb dX1_valid_12 (by decide) ?_
    refine va_put (D := (dC, dI)) (ci := 1) (v := .int 1) (ty := .int) (C := RX1) (T := TX1) (N := 17) hx hb hg inX1 tyX1 tyX1_ok nmX1 hown hK hP hD hS 0 rfl rfl 0 (by decide) (hg _ w_346) (fun _ h9 => h9) rfl (by decide +kernel) rfl rfl (Nat.le_of_ble_eq_true rfl) dX1_valid_28 (fun H locs hP hD hS => ?_)
    have hP : va_P (dC, dI) vwCl (ws_sm b h uR uW uA uM uX uF uI uS 1 us ur ub uo ui ul uk uh) H := hP
    have hD : va_D A (ws_sm b h uR uW uA uM uX uF uI uS 1 us ur ub uo ui ul uk uh) := hD
    refine lv_aload_n hx hb dX1_valid_31 rfl (lv_at hl 0 rfl) ?_
    refine va_get (D := (dC, dI)) (ci := 1) (v := .int 1) (C := RX1) (T := TX1) (N := 17) hx hb hg inX1 hown hK hP 0 rfl rfl 0 (by decide) (hg _ w_346) (fun _ h9 => h9) rfl dX1_valid_32 ?_
    refine lv_if_le (tgt := 40) hx hb dX1_valid_35 (by decide) (fun c_35 => ?_) (fun c_35 => ?_)
    · exact absurd c_35 (by decide)
    · refine lv_iconst (v := 0) hx hb dX1_valid_38 (by decide) ?_
      have hw : sm_valid uR uW uA uM uX uF uI us ur ui ul uh p1 = (0, uR, uW, uA, uM, uX, uF, uI, 1, us, ur, ul, uh) := by unfold sm_valid; rw [if_pos c_2]; (try rfl)
      exact W.iret (v := 0) hx hb hr (fun t ht hW => ⟨⟨0, (uR, uW, uA, uM, uX, uF, uI, 1, us, ur, ul, uh), rfl, hw, ⟨by rw [ht]; exact hP, va_K.moved hW.alike hK, hD⟩⟩, hS.F ht⟩) hS.2.2 dX1_valid_39
  · refine lv_iload_n hx hb dX1_valid_5 rfl (lv_at hl 1 rfl) ?_
    refine lv_bipush (v := 11) hx hb dX1_valid_6 (by decide) ?_
    refine lv_icmp_le (tgt := 15) hx hb dX1_valid_8 (by decide) (fun c_8 => ?_) (fun c_8 => ?_)
    · refine lv_aload_n hx hb dX1_valid_15 rfl (lv_at hl 0 rfl) ?_
      refine lv_iconst (v := 0) hx hb dX1_valid_16 (by decide) ?_
      have hFc := va_free (wc := ws_sm b h uR uW uA uM uX uF uI uS ut us ur ub uo ui ul uk uh) hD hS hA [0, 1, 2, 3, 4, 5, 6, 7, 8] rfl
      refine va_calli (va_runV (As := [.int 0]) (rest := [.ref (b 0)]) ⟨hx, hb, hml, hown, hg⟩ (cm_isFull l dC dI b h H.size uR uW uA uM uX uF uI uS ut us ur ub uo ui ul uk uh 0) (cwV 1 hg (gi_V w_424 w_426 s_11 w_2 w_427) rfl rfl rfl (by decide +kernel) ⟨Nat.le_of_ble_eq_true rfl, Nat.le_of_ble_eq_true rfl⟩) ⟨pr_bl, va_recv hK hP (ci := 1) (q0 := 0) rfl rfl, pr_ok hK hP hD⟩ rfl rfl hl.1 rfl (lv_room (Nat.le_of_ble_eq_true rfl)) dX1_valid_17 ⟨Nat.le_of_ble_eq_true rfl, Nat.le_of_ble_eq_true rfl⟩) hS (fun q _ h => hFc q h) hFc (fun r_17 u t H1 locs ht hvm hw_17 hB hz1 hk1 hS => ?_)
      subst hw_17
      obtain ⟨hP, hK1, hD1⟩ := hB
      rw [ht] at hP
      have hD := hD1.weaken (fun _ q _ h => hFc q.1 h)
      generalize H1 = H at hP hS ⊢
      have hP : va_P (dC, dI) vwCl (ws_sm b h uR uW uA uM uX uF uI uS ut us ur ub uo ui ul uk uh) H := hP
      have hD : va_D A (ws_sm b h uR uW uA uM uX uF uI uS ut us ur ub uo ui ul uk uh) := hD
      refine lv_if_eq (tgt := 27) hx hb dX1_valid_20 (by decide) (fun c_20 => ?_) (fun c_20 => ?_)
      · refine lv_iconst (v := 0) hx hb dX1_valid_27 (by decide) ?_
        refine va_put (D := (dC, dI)) (ci := 1) (v := .int 0) (ty := .int) (C := RX1) (T := TX1) (N := 17) hx hb hg inX1 tyX1 tyX1_ok nmX1 hown hK hP hD hS 0 rfl rfl 0 (by decide) (hg _ w_346) (fun _ h9 => h9) rfl (by decide +kernel) rfl rfl (Nat.le_of_ble_eq_true rfl) dX1_valid_28 (fun H locs hP hD hS => ?_)
        have hP : va_P (dC, dI) vwCl (ws_sm b h uR uW uA uM uX uF uI uS 0 us ur ub uo ui ul uk uh) H := hP
        have hD : va_D A (ws_sm b h uR uW uA uM uX uF uI uS 0 us ur ub uo ui ul uk uh) := hD
        refine lv_aload_n hx hb dX1_valid_31 rfl (lv_at hl 0 rfl) ?_
        refine va_get (D := (dC, dI)) (ci := 1) (v := .int 0) (C := RX1) (T := TX1) (N := 17) hx hb hg inX1 hown hK hP 0 rfl rfl 0 (by decide) (hg _ w_346) (fun _ h9 => h9) rfl dX1_valid_32 ?_
        refine lv_if_le (tgt := 40) hx hb dX1_valid_35 (by decide) (fun c_35 => ?_) (fun c_35 => ?_)
        · refine lv_aload_n hx hb dX1_valid_40 rfl (lv_at hl 0 rfl) ?_
          refine lv_iconst (v := 0) hx hb dX1_valid_41 (by decide) ?_
          have hFc := va_free (wc := ws_sm b h uR uW uA uM uX uF uI uS 0 us ur ub uo ui ul uk uh) hD hS hA [0, 1, 2, 3, 4, 5, 6, 7, 8] rfl
          refine va_calli (va_runV (As := [.int 0]) (rest := []) ⟨hx, hb, hml, hown, hg⟩ (cm_comes l dC dI b h H.size uR uW uA uM uX uF uI uS 0 us ur ub uo ui ul uk uh 0 (nf_rg hu c_20)) (cwV 1 hg (gi_V w_428 w_430 s_12 w_2 w_431) rfl rfl rfl (by decide +kernel) ⟨Nat.le_of_ble_eq_true rfl, Nat.le_of_ble_eq_true rfl⟩) ⟨pr_bl, va_recv hK hP (ci := 1) (q0 := 0) rfl rfl, pr_ok hK hP hD⟩ rfl rfl hl.1 rfl (lv_room (Nat.le_of_ble_eq_true rfl)) dX1_valid_42 ⟨Nat.le_of_ble_eq_true rfl, Nat.le_of_ble_eq_true rfl⟩) hS (fun q _ h => hFc q h) hFc (fun r_42 u t H1 locs ht hvm hw_42 hB hz1 hk1 hS => ?_)
          obtain ⟨uR_42, uW_42, uA_42, uM_42, uX_42, uF_42, uI_42, us_42, ur_42, ul_42, uh_42⟩ := u
          obtain ⟨hP, hK1, hD1⟩ := hB
          rw [ht] at hP
          have hD := hD1.weaken (fun _ q _ h => hFc q.1 h)
          generalize H1 = H at hP hS ⊢
          have hP : va_P (dC, dI) vwCl (ws_sm b h uR_42 uW_42 uA_42 uM_42 uX_42 uF_42 uI_42 uS 0 us_42 ur_42 ub uo ui ul_42 uk uh_42) H := hP
          have hD : va_D A (ws_sm b h uR_42 uW_42 uA_42 uM_42 uX_42 uF_42 uI_42 uS 0 us_42 ur_42 ub uo ui ul_42 uk uh_42) := hD
          refine lv_istore_n (lv' := [(3, .int r_42), (0, .ref (b 0)), (1, .int p1), (2, .int p2)]) hx hb dX1_valid_45 rfl hl (by decide) rfl (fun ls hl => ?_)
          refine lv_aload_n hx hb dX1_valid_46 rfl (lv_at hl 1 rfl) ?_
          refine lv_iload_n hx hb dX1_valid_47 rfl (lv_at hl 0 rfl) ?_
          refine lv_bipush (v := 16) hx hb dX1_valid_48 (by decide) ?_
          refine lv_iload_n hx hb dX1_valid_50 rfl (lv_at hl 2 rfl) ?_
          refine lv_iadd hx hb dX1_valid_51 ?_
          have hFc := va_free (wc := ws_sm b h uR_42 uW_42 uA_42 uM_42 uX_42 uF_42 uI_42 uS 0 us_42 ur_42 ub uo ui ul_42 uk uh_42) hD hS hA [0, 1, 2, 3, 4, 5, 6, 7, 8] rfl
          refine va_callv (va_runV (As := [.int r_42, .int (16 + p1)]) (rest := []) ⟨hx, hb, hml, hown, hg⟩ (cm_writes l dC dI b h H.size uR_42 uW_42 uA_42 uM_42 uX_42 uF_42 uI_42 uS 0 us_42 ur_42 ub uo ui ul_42 uk uh_42 r_42 (16 + p1) (cm_rg hw_42 (nf_rg hu c_20)) (va_rg c_2 c_8)) (cwV 2 hg (gi_V w_436 w_438 s_14 w_2 w_439) rfl rfl rfl (by decide +kernel) ⟨Nat.le_of_ble_eq_true rfl, Nat.le_of_ble_eq_true rfl⟩) ⟨pr_bl, va_recv hK hP (ci := 1) (q0 := 0) rfl rfl, pr_ok hK hP hD⟩ rfl rfl hl.1 rfl (lv_room (Nat.le_of_ble_eq_true rfl)) dX1_valid_52 ⟨Nat.le_of_ble_eq_true rfl, Nat.le_of_ble_eq_true rfl⟩) hS (fun q _ h => hFc q h) hFc (fun u t H1 locs ht hvm hw_52 hB hz1 hk1 hS => ?_)
          obtain ⟨uR_52, uW_52⟩ := u
          obtain ⟨hP, hK1, hD1⟩ := hB
          rw [ht] at hP
          have hD := hD1.weaken (fun _ q _ h => hFc q.1 h)
          generalize H1 = H at hP hS ⊢
          have hP : va_P (dC, dI) vwCl (ws_sm b h uR_52 uW_52 uA_42 uM_42 uX_42 uF_42 uI_42 uS 0 us_42 ur_42 ub uo ui ul_42 uk uh_42) H := hP
          have hD : va_D A (ws_sm b h uR_52 uW_52 uA_42 uM_42 uX_42 uF_42 uI_42 uS 0 us_42 ur_42 ub uo ui ul_42 uk uh_42) := hD
          refine lv_aload_n hx hb dX1_valid_55 rfl (lv_at hl 1 rfl) ?_
          refine va_get (D := (dC, dI)) (ci := 1) (v := .ref (b 2)) (C := RX1) (T := TX1) (N := 17) hx hb hg inX1 hown hK hP 0 rfl rfl 6 (by decide) (hg _ w_352) (fun _ h9 => h9) rfl dX1_valid_56 ?_
          refine lv_bipush (v := 41) hx hb dX1_valid_59 (by decide) ?_
          refine lv_iload_n hx hb dX1_valid_61 rfl (lv_at hl 0 rfl) ?_
          refine lv_imul hx hb dX1_valid_62 ?_
          refine lv_bipush (v := 28) hx hb dX1_valid_63 (by decide) ?_
          refine lv_iadd hx hb dX1_valid_65 ?_
          refine lv_iload_n hx hb dX1_valid_66 rfl (lv_at hl 2 rfl) ?_
          refine lv_iadd hx hb dX1_valid_67 ?_
          refine lv_iconst (v := 1) hx hb dX1_valid_68 (by decide) ?_
          refine va_zast hx hb hK hP hD hS 2 1 rfl rfl (th_in28 (cm_rg hw_42 (nf_rg hu c_20)) c_2 c_8) dX1_valid_69 (fun H locs hP hD hS => ?_)
          have hP : va_P (dC, dI) vwCl (ws_sm b h uR_52 (upd uW_52 (((41 * r_42) + 28) + p1).toNatClampNeg 1) uA_42 uM_42 uX_42 uF_42 uI_42 uS 0 us_42 ur_42 ub uo ui ul_42 uk uh_42) H := hP
          have hD : va_D A (ws_sm b h uR_52 (upd uW_52 (((41 * r_42) + 28) + p1).toNatClampNeg 1) uA_42 uM_42 uX_42 uF_42 uI_42 uS 0 us_42 ur_42 ub uo ui ul_42 uk uh_42) := hD
          refine lv_iload_n hx hb dX1_valid_70 rfl (lv_at hl 0 rfl) ?_
          have hw : sm_valid uR uW uA uM uX uF uI us ur ui ul uh p1 = (r_42, uR_52, upd uW_52 (((41 * r_42) + 28) + p1).toNatClampNeg 1, uA_42, uM_42, uX_42, uF_42, uI_42, 0, us_42, ur_42, ul_42, uh_42) := by unfold sm_valid; rw [if_neg c_2, if_pos c_8, if_pos c_20, hw_42]; (try dsimp only); rw [hw_52]; (try dsimp only); (try rfl)
          exact W.iret (v := r_42) hx hb hr (fun t ht hW => ⟨⟨r_42, (uR_52, upd uW_52 (((41 * r_42) + 28) + p1).toNatClampNeg 1, uA_42, uM_42, uX_42, uF_42, uI_42, 0, us_42, ur_42, ul_42, uh_42), rfl, hw, ⟨by rw [ht]; exact hP, va_K.moved hW.alike hK, hD⟩⟩, hS.F ht⟩) hS.2.2 dX1_valid_71
        · exact absurd c_35 (by decide)
      · refine lv_iconst (v := 2) hx hb dX1_valid_23 (by decide) ?_
        refine lv_goto (tgt := 28) hx hb dX1_valid_24 (by decide) ?_
        refine va_put (D := (dC, dI)) (ci := 1) (v := .int 2) (ty := .int) (C := RX1) (T := TX1) (N := 17) hx hb hg inX1 tyX1 tyX1_ok nmX1 hown hK hP hD hS 0 rfl rfl 0 (by decide) (hg _ w_346) (fun _ h9 => h9) rfl (by decide +kernel) rfl rfl (Nat.le_of_ble_eq_true rfl) dX1_valid_28 (fun H locs hP hD hS => ?_)
        have hP : va_P (dC, dI) vwCl (ws_sm b h uR uW uA uM uX uF uI uS 2 us ur ub uo ui ul uk uh) H := hP
        have hD : va_D A (ws_sm b h uR uW uA uM uX uF uI uS 2 us ur ub uo ui ul uk uh) := hD
        refine lv_aload_n hx hb dX1_valid_31 rfl (lv_at hl 0 rfl) ?_
        refine va_get (D := (dC, dI)) (ci := 1) (v := .int 2) (C := RX1) (T := TX1) (N := 17) hx hb hg inX1 hown hK hP 0 rfl rfl 0 (by decide) (hg _ w_346) (fun _ h9 => h9) rfl dX1_valid_32 ?_
        refine lv_if_le (tgt := 40) hx hb dX1_valid_35 (by decide) (fun c_35 => ?_) (fun c_35 => ?_)
        · exact absurd c_35 (by decide)
        · refine lv_iconst (v := 0) hx hb dX1_valid_38 (by decide) ?_
          have hw : sm_valid uR uW uA uM uX uF uI us ur ui ul uh p1 = (0, uR, uW, uA, uM, uX, uF, uI, 2, us, ur, ul, uh) := by unfold sm_valid; rw [if_neg c_2, if_pos c_8, if_neg c_20]; (try rfl)
          exact W.iret (v := 0) hx hb hr (fun t ht hW => ⟨⟨0, (uR, uW, uA, uM, uX, uF, uI, 2, us, ur, ul, uh), rfl, hw, ⟨by rw [ht]; exact hP, va_K.moved hW.alike hK, hD⟩⟩, hS.F ht⟩) hS.2.2 dX1_valid_39
    · refine lv_iconst (v := 1) hx hb dX1_valid_11 (by decide) ?_
      refine lv_goto (tgt := 28) hx hb dX1_valid_12 (by decide) ?_
      refine va_put (D := (dC, dI)) (ci := 1) (v := .int 1) (ty := .int) (C := RX1) (T := TX1) (N := 17) hx hb hg inX1 tyX1 tyX1_ok nmX1 hown hK hP hD hS 0 rfl rfl 0 (by decide) (hg _ w_346) (fun _ h9 => h9) rfl (by decide +kernel) rfl rfl (Nat.le_of_ble_eq_true rfl) dX1_valid_28 (fun H locs hP hD hS => ?_)
      have hP : va_P (dC, dI) vwCl (ws_sm b h uR uW uA uM uX uF uI uS 1 us ur ub uo ui ul uk uh) H := hP
      have hD : va_D A (ws_sm b h uR uW uA uM uX uF uI uS 1 us ur ub uo ui ul uk uh) := hD
      refine lv_aload_n hx hb dX1_valid_31 rfl (lv_at hl 0 rfl) ?_
      refine va_get (D := (dC, dI)) (ci := 1) (v := .int 1) (C := RX1) (T := TX1) (N := 17) hx hb hg inX1 hown hK hP 0 rfl rfl 0 (by decide) (hg _ w_346) (fun _ h9 => h9) rfl dX1_valid_32 ?_
      refine lv_if_le (tgt := 40) hx hb dX1_valid_35 (by decide) (fun c_35 => ?_) (fun c_35 => ?_)
      · exact absurd c_35 (by decide)
      · refine lv_iconst (v := 0) hx hb dX1_valid_38 (by decide) ?_
        have hw : sm_valid uR uW uA uM uX uF uI us ur ui ul uh p1 = (0, uR, uW, uA, uM, uX, uF, uI, 1, us, ur, ul, uh) := by unfold sm_valid; rw [if_neg c_2, if_neg c_8]; (try rfl)
        exact W.iret (v := 0) hx hb hr (fun t ht hW => ⟨⟨0, (uR, uW, uA, uM, uX, uF, uI, 1, us, ur, ul, uh), rfl, hw, ⟨by rw [ht]; exact hP, va_K.moved hW.alike hK, hD⟩⟩, hS.F ht⟩) hS.2.2 dX1_valid_39
set_option maxHeartbeats 4000000 in
set_option maxRecDepth 100000 in
theorem cm_drop (l : Launch) (dC : Nat → ClassId) (dI : Nat → Nat → Nat) (b : Nat → Nat) (h : Nat → ClassId) (sz : Nat) (uR uW uA uM uX uF uI uS : Nat → Int32) (ut us ur ub uo ui ul uk uh : Int32)  (hu : 0 ≤ us.toInt ∧ us.toInt ≤ 48) : Met l yX1_drop wsX1_drop ({ frames := 1, cells := 0, slots := 0, locals := 23 } : Room) (va_Pc [.ref (b 0)] (pr (dC, dI) (ws_sm b h uR uW uA uM uX uF uI uS ut us ur ub uo ui ul uk uh) (ty_sm h) sz)) (va_Qi (fun (r : Int32) (u : (Nat → Int32) × (Nat → Int32) × (Nat → Int32) × (Nat → Int32) × (Nat → Int32) × (Nat → Int32) × (Nat → Int32) × Int32 × Int32 × Int32 × Int32 × Int32) => sm_drop uR uW uA uM uX uF uI us ur ui ul uh = (r, u)) (fun (u : (Nat → Int32) × (Nat → Int32) × (Nat → Int32) × (Nat → Int32) × (Nat → Int32) × (Nat → Int32) × (Nat → Int32) × Int32 × Int32 × Int32 × Int32 × Int32) t => match u with | (uR', uW', uA', uM', uX', uF', uI', ut', us', ur', ul', uh') => po (dC, dI) (ws_sm b h uR' uW' uA' uM' uX' uF' uI' uS ut' us' ur' ub uo ui ul' uk uh') (ty_sm h) (va_A (ws_sm b h uR uW uA uM uX uF uI uS ut us ur ub uo ui ul uk uh) sz) t) (va_A (ws_sm b h uR uW uA uM uX uF uI uS ut us ur ub uo ui ul uk uh) sz)) 0 0 (va_A (ws_sm b h uR uW uA uM uX uF uI uS ut us ur ub uo ui ul uk uh) sz) := by
  refine Met.ofW (cc := cX1_drop) (maxL := 2) (ret := (some .int)) (by decide) rfl ?_
  intro p e s m args below meth c s₁ B hml hv
  obtain ⟨rfl, hsz, hP, hK, hD0⟩ := hv
  have hx := B.exec
  have hb := B.bytes
  have hr := B.returns
  have hts := atoms_spec (ws := wsX1_drop) B.pre
  have hg : ∀ w ∈ gw, w.before _ s = true := fun w h => hts w (List.mem_cons_of_mem _ h)
  have hown : s.vm.findClass RX1 = some m.cls := findClass_of_methodNamed B.named
  have hlocks := B.notSynchronized
  subst hsz
  have hD := hD0.self (sz := s.heap.size)
  generalize hAe : va_A (ws_sm b h uR uW uA uM uX uF uI uS ut us ur ub uo ui ul uk uh) s.heap.size = A at hD ⊢
  have hA : ∀ q : Nat, s.heap.size ≤ q → A q := fun q h => by rw [← hAe]; exact Or.inr h
  clear hAe
  refine w_in (fun H locs eH eL => ?_)
  have hS : va_S A s.heap H locs := by rw [eH, eL]; exact va_S.rf
  have hP : va_P (dC, dI) vwCl (ws_sm b h uR uW uA uM uX uF uI uS ut us ur ub uo ui ul uk uh) H := by rw [eH]; exact hP
  clear eH eL
  have hl := lv_entry ([.ref (b 0)]) (n := 2) (Nat.le_of_ble_eq_true rfl)
  rw [lg_entry_eq]
  generalize (lg_sl ([.ref (b 0)]) ++ List.replicate (2 - (lg_sl ([.ref (b 0)])).length) Slot.unset).toArray = ls at hl ⊢
  have hl : lv_has ls 2 [(0, .ref (b 0))] := hl
  refine lv_aload_n hx hb dX1_drop_0 rfl (lv_at hl 0 rfl) ?_
  refine lv_aload_n hx hb dX1_drop_1 rfl (lv_at hl 0 rfl) ?_
  refine lv_iconst (v := 0) hx hb dX1_drop_2 (by decide) ?_
  have hFc := va_free (wc := ws_sm b h uR uW uA uM uX uF uI uS ut us ur ub uo ui ul uk uh) hD hS hA [0, 1, 2, 3, 4, 5, 6, 7, 8] rfl
  refine va_calli (va_runV (As := [.int 0]) (rest := [.ref (b 0)]) ⟨hx, hb, hml, hown, hg⟩ (cm_isFull l dC dI b h H.size uR uW uA uM uX uF uI uS ut us ur ub uo ui ul uk uh 0) (cwV 1 hg (gi_V w_424 w_426 s_11 w_2 w_427) rfl rfl rfl (by decide +kernel) ⟨Nat.le_of_ble_eq_true rfl, Nat.le_of_ble_eq_true rfl⟩) ⟨pr_bl, va_recv hK hP (ci := 1) (q0 := 0) rfl rfl, pr_ok hK hP hD⟩ rfl rfl hl.1 rfl (lv_room (Nat.le_of_ble_eq_true rfl)) dX1_drop_3 ⟨Nat.le_of_ble_eq_true rfl, Nat.le_of_ble_eq_true rfl⟩) hS (fun q _ h => hFc q h) hFc (fun r_3 u t H1 locs ht hvm hw_3 hB hz1 hk1 hS => ?_)
  subst hw_3
  obtain ⟨hP, hK1, hD1⟩ := hB
  rw [ht] at hP
  have hD := hD1.weaken (fun _ q _ h => hFc q.1 h)
  generalize H1 = H at hP hS ⊢
  have hP : va_P (dC, dI) vwCl (ws_sm b h uR uW uA uM uX uF uI uS ut us ur ub uo ui ul uk uh) H := hP
  have hD : va_D A (ws_sm b h uR uW uA uM uX uF uI uS ut us ur ub uo ui ul uk uh) := hD
  refine lv_if_eq (tgt := 13) hx hb dX1_drop_6 (by decide) (fun c_6 => ?_) (fun c_6 => ?_)
  · refine lv_iconst (v := 0) hx hb dX1_drop_13 (by decide) ?_
    refine va_put (D := (dC, dI)) (ci := 1) (v := .int 0) (ty := .int) (C := RX1) (T := TX1) (N := 17) hx hb hg inX1 tyX1 tyX1_ok nmX1 hown hK hP hD hS 0 rfl rfl 0 (by decide) (hg _ w_346) (fun _ h9 => h9) rfl (by decide +kernel) rfl rfl (Nat.le_of_ble_eq_true rfl) dX1_drop_14 (fun H locs hP hD hS => ?_)
    have hP : va_P (dC, dI) vwCl (ws_sm b h uR uW uA uM uX uF uI uS 0 us ur ub uo ui ul uk uh) H := hP
    have hD : va_D A (ws_sm b h uR uW uA uM uX uF uI uS 0 us ur ub uo ui ul uk uh) := hD
    refine lv_aload_n hx hb dX1_drop_17 rfl (lv_at hl 0 rfl) ?_
    refine va_get (D := (dC, dI)) (ci := 1) (v := .int 0) (C := RX1) (T := TX1) (N := 17) hx hb hg inX1 hown hK hP 0 rfl rfl 0 (by decide) (hg _ w_346) (fun _ h9 => h9) rfl dX1_drop_18 ?_
    refine lv_if_le (tgt := 26) hx hb dX1_drop_21 (by decide) (fun c_21 => ?_) (fun c_21 => ?_)
    · refine lv_aload_n hx hb dX1_drop_26 rfl (lv_at hl 0 rfl) ?_
      refine lv_iconst (v := 0) hx hb dX1_drop_27 (by decide) ?_
      have hFc := va_free (wc := ws_sm b h uR uW uA uM uX uF uI uS 0 us ur ub uo ui ul uk uh) hD hS hA [0, 1, 2, 3, 4, 5, 6, 7, 8] rfl
      refine va_calli (va_runV (As := [.int 0]) (rest := []) ⟨hx, hb, hml, hown, hg⟩ (cm_comes l dC dI b h H.size uR uW uA uM uX uF uI uS 0 us ur ub uo ui ul uk uh 0 (nf_rg hu c_6)) (cwV 1 hg (gi_V w_428 w_430 s_12 w_2 w_431) rfl rfl rfl (by decide +kernel) ⟨Nat.le_of_ble_eq_true rfl, Nat.le_of_ble_eq_true rfl⟩) ⟨pr_bl, va_recv hK hP (ci := 1) (q0 := 0) rfl rfl, pr_ok hK hP hD⟩ rfl rfl hl.1 rfl (lv_room (Nat.le_of_ble_eq_true rfl)) dX1_drop_28 ⟨Nat.le_of_ble_eq_true rfl, Nat.le_of_ble_eq_true rfl⟩) hS (fun q _ h => hFc q h) hFc (fun r_28 u t H1 locs ht hvm hw_28 hB hz1 hk1 hS => ?_)
      obtain ⟨uR_28, uW_28, uA_28, uM_28, uX_28, uF_28, uI_28, us_28, ur_28, ul_28, uh_28⟩ := u
      obtain ⟨hP, hK1, hD1⟩ := hB
      rw [ht] at hP
      have hD := hD1.weaken (fun _ q _ h => hFc q.1 h)
      generalize H1 = H at hP hS ⊢
      have hP : va_P (dC, dI) vwCl (ws_sm b h uR_28 uW_28 uA_28 uM_28 uX_28 uF_28 uI_28 uS 0 us_28 ur_28 ub uo ui ul_28 uk uh_28) H := hP
      have hD : va_D A (ws_sm b h uR_28 uW_28 uA_28 uM_28 uX_28 uF_28 uI_28 uS 0 us_28 ur_28 ub uo ui ul_28 uk uh_28) := hD
      refine lv_istore_n (lv' := [(1, .int r_28), (0, .ref (b 0))]) hx hb dX1_drop_31 rfl hl (by decide) rfl (fun ls hl => ?_)
      refine lv_aload_n hx hb dX1_drop_32 rfl (lv_at hl 1 rfl) ?_
      refine lv_iload_n hx hb dX1_drop_33 rfl (lv_at hl 0 rfl) ?_
      refine lv_bipush (v := 40) hx hb dX1_drop_34 (by decide) ?_
      have hFc := va_free (wc := ws_sm b h uR_28 uW_28 uA_28 uM_28 uX_28 uF_28 uI_28 uS 0 us_28 ur_28 ub uo ui ul_28 uk uh_28) hD hS hA [0, 1, 2, 3, 4, 5, 6, 7, 8] rfl
      refine va_callv (va_runV (As := [.int r_28, .int 40]) (rest := []) ⟨hx, hb, hml, hown, hg⟩ (cm_writes l dC dI b h H.size uR_28 uW_28 uA_28 uM_28 uX_28 uF_28 uI_28 uS 0 us_28 ur_28 ub uo ui ul_28 uk uh_28 r_28 40 (cm_rg hw_28 (nf_rg hu c_6)) (⟨by decide, by decide⟩)) (cwV 2 hg (gi_V w_436 w_438 s_14 w_2 w_439) rfl rfl rfl (by decide +kernel) ⟨Nat.le_of_ble_eq_true rfl, Nat.le_of_ble_eq_true rfl⟩) ⟨pr_bl, va_recv hK hP (ci := 1) (q0 := 0) rfl rfl, pr_ok hK hP hD⟩ rfl rfl hl.1 rfl (lv_room (Nat.le_of_ble_eq_true rfl)) dX1_drop_36 ⟨Nat.le_of_ble_eq_true rfl, Nat.le_of_ble_eq_true rfl⟩) hS (fun q _ h => hFc q h) hFc (fun u t H1 locs ht hvm hw_36 hB hz1 hk1 hS => ?_)
      obtain ⟨uR_36, uW_36⟩ := u
      obtain ⟨hP, hK1, hD1⟩ := hB
      rw [ht] at hP
      have hD := hD1.weaken (fun _ q _ h => hFc q.1 h)
      generalize H1 = H at hP hS ⊢
      have hP : va_P (dC, dI) vwCl (ws_sm b h uR_36 uW_36 uA_28 uM_28 uX_28 uF_28 uI_28 uS 0 us_28 ur_28 ub uo ui ul_28 uk uh_28) H := hP
      have hD : va_D A (ws_sm b h uR_36 uW_36 uA_28 uM_28 uX_28 uF_28 uI_28 uS 0 us_28 ur_28 ub uo ui ul_28 uk uh_28) := hD
      refine lv_iload_n hx hb dX1_drop_39 rfl (lv_at hl 0 rfl) ?_
      have hw : sm_drop uR uW uA uM uX uF uI us ur ui ul uh = (r_28, uR_36, uW_36, uA_28, uM_28, uX_28, uF_28, uI_28, 0, us_28, ur_28, ul_28, uh_28) := by unfold sm_drop; rw [if_pos c_6, hw_28]; (try dsimp only); rw [hw_36]; (try dsimp only); (try rfl)
      exact W.iret (v := r_28) hx hb hr (fun t ht hW => ⟨⟨r_28, (uR_36, uW_36, uA_28, uM_28, uX_28, uF_28, uI_28, 0, us_28, ur_28, ul_28, uh_28), rfl, hw, ⟨by rw [ht]; exact hP, va_K.moved hW.alike hK, hD⟩⟩, hS.F ht⟩) hS.2.2 dX1_drop_40
    · exact absurd c_21 (by decide)
  · refine lv_iconst (v := 1) hx hb dX1_drop_9 (by decide) ?_
    refine lv_goto (tgt := 14) hx hb dX1_drop_10 (by decide) ?_
    refine va_put (D := (dC, dI)) (ci := 1) (v := .int 1) (ty := .int) (C := RX1) (T := TX1) (N := 17) hx hb hg inX1 tyX1 tyX1_ok nmX1 hown hK hP hD hS 0 rfl rfl 0 (by decide) (hg _ w_346) (fun _ h9 => h9) rfl (by decide +kernel) rfl rfl (Nat.le_of_ble_eq_true rfl) dX1_drop_14 (fun H locs hP hD hS => ?_)
    have hP : va_P (dC, dI) vwCl (ws_sm b h uR uW uA uM uX uF uI uS 1 us ur ub uo ui ul uk uh) H := hP
    have hD : va_D A (ws_sm b h uR uW uA uM uX uF uI uS 1 us ur ub uo ui ul uk uh) := hD
    refine lv_aload_n hx hb dX1_drop_17 rfl (lv_at hl 0 rfl) ?_
    refine va_get (D := (dC, dI)) (ci := 1) (v := .int 1) (C := RX1) (T := TX1) (N := 17) hx hb hg inX1 hown hK hP 0 rfl rfl 0 (by decide) (hg _ w_346) (fun _ h9 => h9) rfl dX1_drop_18 ?_
    refine lv_if_le (tgt := 26) hx hb dX1_drop_21 (by decide) (fun c_21 => ?_) (fun c_21 => ?_)
    · exact absurd c_21 (by decide)
    · refine lv_iconst (v := 0) hx hb dX1_drop_24 (by decide) ?_
      have hw : sm_drop uR uW uA uM uX uF uI us ur ui ul uh = (0, uR, uW, uA, uM, uX, uF, uI, 1, us, ur, ul, uh) := by unfold sm_drop; rw [if_neg c_6]; (try rfl)
      exact W.iret (v := 0) hx hb hr (fun t ht hW => ⟨⟨0, (uR, uW, uA, uM, uX, uF, uI, 1, us, ur, ul, uh), rfl, hw, ⟨by rw [ht]; exact hP, va_K.moved hW.alike hK, hD⟩⟩, hS.F ht⟩) hS.2.2 dX1_drop_25
set_option maxHeartbeats 4000000 in
set_option maxRecDepth 100000 in
theorem cm_open (l : Launch) (dC : Nat → ClassId) (dI : Nat → Nat → Nat) (b : Nat → Nat) (h : Nat → ClassId) (sz : Nat) (uR uW uA uM uX uF uI uS : Nat → Int32) (ut us ur ub uo ui ul uk uh : Int32) (p1 : Int32) (hu : 0 ≤ us.toInt ∧ us.toInt ≤ 48) : Met l yX1_open wsX1_open ({ frames := 2, cells := 0, slots := 0, locals := 42 } : Room) (va_Pc [.ref (b 0), .int p1] (pr (dC, dI) (ws_sm b h uR uW uA uM uX uF uI uS ut us ur ub uo ui ul uk uh) (ty_sm h) sz)) (va_Qi (fun (r : Int32) (u : (Nat → Int32) × (Nat → Int32) × (Nat → Int32) × (Nat → Int32) × (Nat → Int32) × (Nat → Int32) × (Nat → Int32) × Int32 × Int32 × Int32 × Int32 × Int32 × Int32 × Int32) => sm_open uR uW uA uM uX uF uI us ur uo ui ul uh p1 = (r, u)) (fun (u : (Nat → Int32) × (Nat → Int32) × (Nat → Int32) × (Nat → Int32) × (Nat → Int32) × (Nat → Int32) × (Nat → Int32) × Int32 × Int32 × Int32 × Int32 × Int32 × Int32 × Int32) t => match u with | (uR', uW', uA', uM', uX', uF', uI', ut', us', ur', uo', ui', ul', uh') => po (dC, dI) (ws_sm b h uR' uW' uA' uM' uX' uF' uI' uS ut' us' ur' ub uo' ui' ul' uk uh') (ty_sm h) (va_A (ws_sm b h uR uW uA uM uX uF uI uS ut us ur ub uo ui ul uk uh) sz) t) (va_A (ws_sm b h uR uW uA uM uX uF uI uS ut us ur ub uo ui ul uk uh) sz)) 0 0 (va_A (ws_sm b h uR uW uA uM uX uF uI uS ut us ur ub uo ui ul uk uh) sz) := by
  refine Met.ofW (cc := cX1_open) (maxL := 3) (ret := (some .int)) (by decide) rfl ?_
  intro p e s m args below meth c s₁ B hml hv
  obtain ⟨rfl, hsz, hP, hK, hD0⟩ := hv
  have hx := B.exec
  have hb := B.bytes
  have hr := B.returns
  have hts := atoms_spec (ws := wsX1_open) B.pre
  have hg : ∀ w ∈ gw, w.before _ s = true := fun w h => hts w (List.mem_cons_of_mem _ h)
  have hown : s.vm.findClass RX1 = some m.cls := findClass_of_methodNamed B.named
  have hlocks := B.notSynchronized
  subst hsz
  have hD := hD0.self (sz := s.heap.size)
  generalize hAe : va_A (ws_sm b h uR uW uA uM uX uF uI uS ut us ur ub uo ui ul uk uh) s.heap.size = A at hD ⊢
  have hA : ∀ q : Nat, s.heap.size ≤ q → A q := fun q h => by rw [← hAe]; exact Or.inr h
  clear hAe
  refine w_in (fun H locs eH eL => ?_)
  have hS : va_S A s.heap H locs := by rw [eH, eL]; exact va_S.rf
  have hP : va_P (dC, dI) vwCl (ws_sm b h uR uW uA uM uX uF uI uS ut us ur ub uo ui ul uk uh) H := by rw [eH]; exact hP
  clear eH eL
  have hl := lv_entry ([.ref (b 0), .int p1]) (n := 3) (Nat.le_of_ble_eq_true rfl)
  rw [lg_entry_eq]
  generalize (lg_sl ([.ref (b 0), .int p1]) ++ List.replicate (3 - (lg_sl ([.ref (b 0), .int p1])).length) Slot.unset).toArray = ls at hl ⊢
  have hl : lv_has ls 3 [(0, .ref (b 0)), (1, .int p1)] := hl
  refine lv_aload_n hx hb dX1_open_0 rfl (lv_at hl 0 rfl) ?_
  refine lv_iload_n hx hb dX1_open_1 rfl (lv_at hl 1 rfl) ?_
  refine va_calli (va_runS (As := [.int p1]) (rest := [.ref (b 0)]) ⟨hx, hb, hml, hown, hg⟩ (cm_isSet l dC dI p1) (va_cwS 1 hg (gi_S w_414 w_415 w_2 w_416) rfl rfl rfl (by decide +kernel) ⟨Nat.le_of_ble_eq_true rfl, Nat.le_of_ble_eq_true rfl⟩) ⟨(fun _ _ _ _ q => q), (fun _ _ _ => ⟨rfl, trivial⟩)⟩ rfl rfl hl.1 rfl (lv_room (Nat.le_of_ble_eq_true rfl)) dX1_open_2 ⟨Nat.le_of_ble_eq_true rfl, Nat.le_of_ble_eq_true rfl⟩) hS (fun q _ h => False.elim h) (fun q h => False.elim h) (fun r_2 u t H1 locs ht hvm hw_2 hB hz1 hk1 hS => ?_)
  subst hw_2
  have hP := hP.kept (fun k q hq => hk1 q.1 (hP k q hq).lt (fun h => h))
  generalize H1 = H at hP hS ⊢
  have hP : va_P (dC, dI) vwCl (ws_sm b h uR uW uA uM uX uF uI uS ut us ur ub uo ui ul uk uh) H := hP
  have hD : va_D A (ws_sm b h uR uW uA uM uX uF uI uS ut us ur ub uo ui ul uk uh) := hD
  refine lv_if_ne (tgt := 12) hx hb dX1_open_5 (by decide) (fun c_5 => ?_) (fun c_5 => ?_)
  · refine lv_aload_n hx hb dX1_open_12 rfl (lv_at hl 0 rfl) ?_
    refine lv_iload_n hx hb dX1_open_13 rfl (lv_at hl 1 rfl) ?_
    refine va_calli (va_runS (As := [.int p1]) (rest := [.ref (b 0), .ref (b 0)]) ⟨hx, hb, hml, hown, hg⟩ (cm_counts l dC dI p1) (va_cwS 1 hg (gi_S w_418 w_419 w_2 w_420) rfl rfl rfl (by decide +kernel) ⟨Nat.le_of_ble_eq_true rfl, Nat.le_of_ble_eq_true rfl⟩) ⟨(fun _ _ _ _ q => q), (fun _ _ _ => ⟨rfl, trivial⟩)⟩ rfl rfl hl.1 rfl (lv_room (Nat.le_of_ble_eq_true rfl)) dX1_open_14 ⟨Nat.le_of_ble_eq_true rfl, Nat.le_of_ble_eq_true rfl⟩) hS (fun q _ h => False.elim h) (fun q h => False.elim h) (fun r_14 u t H1 locs ht hvm hw_14 hB hz1 hk1 hS => ?_)
    subst hw_14
    have hP := hP.kept (fun k q hq => hk1 q.1 (hP k q hq).lt (fun h => h))
    generalize H1 = H at hP hS ⊢
    have hP : va_P (dC, dI) vwCl (ws_sm b h uR uW uA uM uX uF uI uS ut us ur ub uo ui ul uk uh) H := hP
    have hD : va_D A (ws_sm b h uR uW uA uM uX uF uI uS ut us ur ub uo ui ul uk uh) := hD
    have hFc := va_free (wc := ws_sm b h uR uW uA uM uX uF uI uS ut us ur ub uo ui ul uk uh) hD hS hA [0, 1, 2, 3, 4, 5, 6, 7, 8] rfl
    refine va_calli (va_runV (As := [.int (sm_counts p1)]) (rest := [.ref (b 0)]) ⟨hx, hb, hml, hown, hg⟩ (cm_isFull l dC dI b h H.size uR uW uA uM uX uF uI uS ut us ur ub uo ui ul uk uh (sm_counts p1)) (cwV 1 hg (gi_V w_424 w_426 s_11 w_2 w_427) rfl rfl rfl (by decide +kernel) ⟨Nat.le_of_ble_eq_true rfl, Nat.le_of_ble_eq_true rfl⟩) ⟨pr_bl, va_recv hK hP (ci := 1) (q0 := 0) rfl rfl, pr_ok hK hP hD⟩ rfl rfl hl.1 rfl (lv_room (Nat.le_of_ble_eq_true rfl)) dX1_open_17 ⟨Nat.le_of_ble_eq_true rfl, Nat.le_of_ble_eq_true rfl⟩) hS (fun q _ h => hFc q h) hFc (fun r_17 u t H1 locs ht hvm hw_17 hB hz1 hk1 hS => ?_)
    subst hw_17
    obtain ⟨hP, hK1, hD1⟩ := hB
    rw [ht] at hP
    have hD := hD1.weaken (fun _ q _ h => hFc q.1 h)
    generalize H1 = H at hP hS ⊢
    have hP : va_P (dC, dI) vwCl (ws_sm b h uR uW uA uM uX uF uI uS ut us ur ub uo ui ul uk uh) H := hP
    have hD : va_D A (ws_sm b h uR uW uA uM uX uF uI uS ut us ur ub uo ui ul uk uh) := hD
    refine lv_if_ne (tgt := 32) hx hb dX1_open_20 (by decide) (fun c_20 => ?_) (fun c_20 => ?_)
    · refine lv_iconst (v := 2) hx hb dX1_open_32 (by decide) ?_
      refine lv_goto (tgt := 37) hx hb dX1_open_33 (by decide) ?_
      refine va_put (D := (dC, dI)) (ci := 1) (v := .int 2) (ty := .int) (C := RX1) (T := TX1) (N := 17) hx hb hg inX1 tyX1 tyX1_ok nmX1 hown hK hP hD hS 0 rfl rfl 0 (by decide) (hg _ w_346) (fun _ h9 => h9) rfl (by decide +kernel) rfl rfl (Nat.le_of_ble_eq_true rfl) dX1_open_37 (fun H locs hP hD hS => ?_)
      have hP : va_P (dC, dI) vwCl (ws_sm b h uR uW uA uM uX uF uI uS 2 us ur ub uo ui ul uk uh) H := hP
      have hD : va_D A (ws_sm b h uR uW uA uM uX uF uI uS 2 us ur ub uo ui ul uk uh) := hD
      refine lv_aload_n hx hb dX1_open_40 rfl (lv_at hl 0 rfl) ?_
      refine va_get (D := (dC, dI)) (ci := 1) (v := .int 2) (C := RX1) (T := TX1) (N := 17) hx hb hg inX1 hown hK hP 0 rfl rfl 0 (by decide) (hg _ w_346) (fun _ h9 => h9) rfl dX1_open_41 ?_
      refine lv_if_le (tgt := 49) hx hb dX1_open_44 (by decide) (fun c_44 => ?_) (fun c_44 => ?_)
      · exact absurd c_44 (by decide)
      · refine lv_iconst (v := 0) hx hb dX1_open_47 (by decide) ?_
        have hw : sm_open uR uW uA uM uX uF uI us ur uo ui ul uh p1 = (0, uR, uW, uA, uM, uX, uF, uI, 2, us, ur, uo, ui, ul, uh) := by unfold sm_open; rw [if_neg c_5, if_neg c_20]; (try rfl)
        exact W.iret (v := 0) hx hb hr (fun t ht hW => ⟨⟨0, (uR, uW, uA, uM, uX, uF, uI, 2, us, ur, uo, ui, ul, uh), rfl, hw, ⟨by rw [ht]; exact hP, va_K.moved hW.alike hK, hD⟩⟩, hS.F ht⟩) hS.2.2 dX1_open_48
    · refine lv_aload_n hx hb dX1_open_23 rfl (lv_at hl 0 rfl) ?_
      refine va_get (D := (dC, dI)) (ci := 1) (v := .int uo) (C := RX1) (T := TX1) (N := 17) hx hb hg inX1 hown hK hP 0 rfl rfl 4 (by decide) (hg _ w_350) (fun _ h9 => h9) rfl dX1_open_24 ?_
      refine lv_bipush (v := 8) hx hb dX1_open_27 (by decide) ?_
      refine lv_icmp_ne (tgt := 36) hx hb dX1_open_29 (by decide) (fun c_29 => ?_) (fun c_29 => ?_)
      · refine lv_iconst (v := 0) hx hb dX1_open_36 (by decide) ?_
        refine va_put (D := (dC, dI)) (ci := 1) (v := .int 0) (ty := .int) (C := RX1) (T := TX1) (N := 17) hx hb hg inX1 tyX1 tyX1_ok nmX1 hown hK hP hD hS 0 rfl rfl 0 (by decide) (hg _ w_346) (fun _ h9 => h9) rfl (by decide +kernel) rfl rfl (Nat.le_of_ble_eq_true rfl) dX1_open_37 (fun H locs hP hD hS => ?_)
        have hP : va_P (dC, dI) vwCl (ws_sm b h uR uW uA uM uX uF uI uS 0 us ur ub uo ui ul uk uh) H := hP
        have hD : va_D A (ws_sm b h uR uW uA uM uX uF uI uS 0 us ur ub uo ui ul uk uh) := hD
        refine lv_aload_n hx hb dX1_open_40 rfl (lv_at hl 0 rfl) ?_
        refine va_get (D := (dC, dI)) (ci := 1) (v := .int 0) (C := RX1) (T := TX1) (N := 17) hx hb hg inX1 hown hK hP 0 rfl rfl 0 (by decide) (hg _ w_346) (fun _ h9 => h9) rfl dX1_open_41 ?_
        refine lv_if_le (tgt := 49) hx hb dX1_open_44 (by decide) (fun c_44 => ?_) (fun c_44 => ?_)
        · refine lv_aload_n hx hb dX1_open_49 rfl (lv_at hl 0 rfl) ?_
          refine lv_iload_n hx hb dX1_open_50 rfl (lv_at hl 1 rfl) ?_
          refine va_calli (va_runS (As := [.int p1]) (rest := [.ref (b 0)]) ⟨hx, hb, hml, hown, hg⟩ (cm_counts l dC dI p1) (va_cwS 1 hg (gi_S w_418 w_419 w_2 w_420) rfl rfl rfl (by decide +kernel) ⟨Nat.le_of_ble_eq_true rfl, Nat.le_of_ble_eq_true rfl⟩) ⟨(fun _ _ _ _ q => q), (fun _ _ _ => ⟨rfl, trivial⟩)⟩ rfl rfl hl.1 rfl (lv_room (Nat.le_of_ble_eq_true rfl)) dX1_open_51 ⟨Nat.le_of_ble_eq_true rfl, Nat.le_of_ble_eq_true rfl⟩) hS (fun q _ h => False.elim h) (fun q h => False.elim h) (fun r_51 u t H1 locs ht hvm hw_51 hB hz1 hk1 hS => ?_)
          subst hw_51
          have hP := hP.kept (fun k q hq => hk1 q.1 (hP k q hq).lt (fun h => h))
          generalize H1 = H at hP hS ⊢
          have hP : va_P (dC, dI) vwCl (ws_sm b h uR uW uA uM uX uF uI uS 0 us ur ub uo ui ul uk uh) H := hP
          have hD : va_D A (ws_sm b h uR uW uA uM uX uF uI uS 0 us ur ub uo ui ul uk uh) := hD
          have hFc := va_free (wc := ws_sm b h uR uW uA uM uX uF uI uS 0 us ur ub uo ui ul uk uh) hD hS hA [0, 1, 2, 3, 4, 5, 6, 7, 8] rfl
          refine va_calli (va_runV (As := [.int (sm_counts p1)]) (rest := []) ⟨hx, hb, hml, hown, hg⟩ (cm_comes l dC dI b h H.size uR uW uA uM uX uF uI uS 0 us ur ub uo ui ul uk uh (sm_counts p1) (nf_rg hu c_20)) (cwV 1 hg (gi_V w_428 w_430 s_12 w_2 w_431) rfl rfl rfl (by decide +kernel) ⟨Nat.le_of_ble_eq_true rfl, Nat.le_of_ble_eq_true rfl⟩) ⟨pr_bl, va_recv hK hP (ci := 1) (q0 := 0) rfl rfl, pr_ok hK hP hD⟩ rfl rfl hl.1 rfl (lv_room (Nat.le_of_ble_eq_true rfl)) dX1_open_54 ⟨Nat.le_of_ble_eq_true rfl, Nat.le_of_ble_eq_true rfl⟩) hS (fun q _ h => hFc q h) hFc (fun r_54 u t H1 locs ht hvm hw_54 hB hz1 hk1 hS => ?_)
          obtain ⟨uR_54, uW_54, uA_54, uM_54, uX_54, uF_54, uI_54, us_54, ur_54, ul_54, uh_54⟩ := u
          obtain ⟨hP, hK1, hD1⟩ := hB
          rw [ht] at hP
          have hD := hD1.weaken (fun _ q _ h => hFc q.1 h)
          generalize H1 = H at hP hS ⊢
          have hP : va_P (dC, dI) vwCl (ws_sm b h uR_54 uW_54 uA_54 uM_54 uX_54 uF_54 uI_54 uS 0 us_54 ur_54 ub uo ui ul_54 uk uh_54) H := hP
          have hD : va_D A (ws_sm b h uR_54 uW_54 uA_54 uM_54 uX_54 uF_54 uI_54 uS 0 us_54 ur_54 ub uo ui ul_54 uk uh_54) := hD
          refine lv_istore_n (lv' := [(2, .int r_54), (0, .ref (b 0)), (1, .int p1)]) hx hb dX1_open_57 rfl hl (by decide) rfl (fun ls hl => ?_)
          refine lv_aload_n hx hb dX1_open_58 rfl (lv_at hl 1 rfl) ?_
          refine lv_iload_n hx hb dX1_open_59 rfl (lv_at hl 0 rfl) ?_
          refine lv_iload_n hx hb dX1_open_60 rfl (lv_at hl 2 rfl) ?_
          have hFc := va_free (wc := ws_sm b h uR_54 uW_54 uA_54 uM_54 uX_54 uF_54 uI_54 uS 0 us_54 ur_54 ub uo ui ul_54 uk uh_54) hD hS hA [0, 1, 2, 3, 4, 5, 6, 7, 8] rfl
          refine va_callv (va_runV (As := [.int r_54, .int p1]) (rest := []) ⟨hx, hb, hml, hown, hg⟩ (cm_reads l dC dI b h H.size uR_54 uW_54 uA_54 uM_54 uX_54 uF_54 uI_54 uS 0 us_54 ur_54 ub uo ui ul_54 uk uh_54 r_54 p1 (cm_rg hw_54 (nf_rg hu c_20))) (cwV 2 hg (gi_V w_432 w_434 s_13 w_2 w_435) rfl rfl rfl (by decide +kernel) ⟨Nat.le_of_ble_eq_true rfl, Nat.le_of_ble_eq_true rfl⟩) ⟨pr_bl, va_recv hK hP (ci := 1) (q0 := 0) rfl rfl, pr_ok hK hP hD⟩ rfl rfl hl.1 rfl (lv_room (Nat.le_of_ble_eq_true rfl)) dX1_open_61 ⟨Nat.le_of_ble_eq_true rfl, Nat.le_of_ble_eq_true rfl⟩) hS (fun q _ h => hFc q h) hFc (fun u t H1 locs ht hvm hw_61 hB hz1 hk1 hS => ?_)
          obtain ⟨uR_61, rfl⟩ : ∃ z, z = u := ⟨_, rfl⟩
          obtain ⟨hP, hK1, hD1⟩ := hB
          rw [ht] at hP
          have hD := hD1.weaken (fun _ q _ h => hFc q.1 h)
          generalize H1 = H at hP hS ⊢
          have hP : va_P (dC, dI) vwCl (ws_sm b h uR_61 uW_54 uA_54 uM_54 uX_54 uF_54 uI_54 uS 0 us_54 ur_54 ub uo ui ul_54 uk uh_54) H := hP
          have hD : va_D A (ws_sm b h uR_61 uW_54 uA_54 uM_54 uX_54 uF_54 uI_54 uS 0 us_54 ur_54 ub uo ui ul_54 uk uh_54) := hD
          refine lv_aload_n hx hb dX1_open_64 rfl (lv_at hl 1 rfl) ?_
          refine va_get (D := (dC, dI)) (ci := 1) (v := .ref (b 6)) (C := RX1) (T := TX1) (N := 17) hx hb hg inX1 hown hK hP 0 rfl rfl 10 (by decide) (hg _ w_356) (fun _ h9 => h9) rfl dX1_open_65 ?_
          refine lv_iload_n hx hb dX1_open_68 rfl (lv_at hl 0 rfl) ?_
          refine lv_iconst (v := 1) hx hb dX1_open_69 (by decide) ?_
          refine va_zast hx hb hK hP hD hS 6 5 rfl rfl (ix_k (cm_rg hw_54 (nf_rg hu c_20))) dX1_open_70 (fun H locs hP hD hS => ?_)
          have hP : va_P (dC, dI) vwCl (ws_sm b h uR_61 uW_54 uA_54 uM_54 uX_54 (upd uF_54 r_54.toNatClampNeg 1) uI_54 uS 0 us_54 ur_54 ub uo ui ul_54 uk uh_54) H := hP
          have hD : va_D A (ws_sm b h uR_61 uW_54 uA_54 uM_54 uX_54 (upd uF_54 r_54.toNatClampNeg 1) uI_54 uS 0 us_54 ur_54 ub uo ui ul_54 uk uh_54) := hD
          refine lv_aload_n hx hb dX1_open_71 rfl (lv_at hl 1 rfl) ?_
          refine lv_iload_n hx hb dX1_open_72 rfl (lv_at hl 0 rfl) ?_
          refine va_put (D := (dC, dI)) (ci := 1) (v := .int r_54) (ty := .int) (C := RX1) (T := TX1) (N := 17) hx hb hg inX1 tyX1 tyX1_ok nmX1 hown hK hP hD hS 0 rfl rfl 12 (by decide) (hg _ w_358) (fun _ h9 => h9) rfl (by decide +kernel) rfl rfl (Nat.le_of_ble_eq_true rfl) dX1_open_73 (fun H locs hP hD hS => ?_)
          have hP : va_P (dC, dI) vwCl (ws_sm b h uR_61 uW_54 uA_54 uM_54 uX_54 (upd uF_54 r_54.toNatClampNeg 1) uI_54 uS 0 us_54 ur_54 ub uo r_54 ul_54 uk uh_54) H := hP
          have hD : va_D A (ws_sm b h uR_61 uW_54 uA_54 uM_54 uX_54 (upd uF_54 r_54.toNatClampNeg 1) uI_54 uS 0 us_54 ur_54 ub uo r_54 ul_54 uk uh_54) := hD
          refine lv_aload_n hx hb dX1_open_76 rfl (lv_at hl 1 rfl) ?_
          refine lv_dup hx hb dX1_open_77 rfl ?_
          refine va_get (D := (dC, dI)) (ci := 1) (v := .int uo) (C := RX1) (T := TX1) (N := 17) hx hb hg inX1 hown hK hP 0 rfl rfl 4 (by decide) (hg _ w_350) (fun _ h9 => h9) rfl dX1_open_78 ?_
          refine lv_iconst (v := 1) hx hb dX1_open_81 (by decide) ?_
          refine lv_iadd hx hb dX1_open_82 ?_
          refine va_put (D := (dC, dI)) (ci := 1) (v := .int (uo + 1)) (ty := .int) (C := RX1) (T := TX1) (N := 17) hx hb hg inX1 tyX1 tyX1_ok nmX1 hown hK hP hD hS 0 rfl rfl 4 (by decide) (hg _ w_350) (fun _ h9 => h9) rfl (by decide +kernel) rfl rfl (Nat.le_of_ble_eq_true rfl) dX1_open_83 (fun H locs hP hD hS => ?_)
          have hP : va_P (dC, dI) vwCl (ws_sm b h uR_61 uW_54 uA_54 uM_54 uX_54 (upd uF_54 r_54.toNatClampNeg 1) uI_54 uS 0 us_54 ur_54 ub (uo + 1) r_54 ul_54 uk uh_54) H := hP
          have hD : va_D A (ws_sm b h uR_61 uW_54 uA_54 uM_54 uX_54 (upd uF_54 r_54.toNatClampNeg 1) uI_54 uS 0 us_54 ur_54 ub (uo + 1) r_54 ul_54 uk uh_54) := hD
          refine lv_iload_n hx hb dX1_open_86 rfl (lv_at hl 0 rfl) ?_
          have hw : sm_open uR uW uA uM uX uF uI us ur uo ui ul uh p1 = (r_54, uR_61, uW_54, uA_54, uM_54, uX_54, upd uF_54 r_54.toNatClampNeg 1, uI_54, 0, us_54, ur_54, uo + 1, r_54, ul_54, uh_54) := by unfold sm_open; rw [if_neg c_5, if_pos c_20, if_neg c_29, hw_54]; (try dsimp only); rw [hw_61]; (try dsimp only); (try rfl)
          exact W.iret (v := r_54) hx hb hr (fun t ht hW => ⟨⟨r_54, (uR_61, uW_54, uA_54, uM_54, uX_54, upd uF_54 r_54.toNatClampNeg 1, uI_54, 0, us_54, ur_54, uo + 1, r_54, ul_54, uh_54), rfl, hw, ⟨by rw [ht]; exact hP, va_K.moved hW.alike hK, hD⟩⟩, hS.F ht⟩) hS.2.2 dX1_open_87
        · exact absurd c_44 (by decide)
      · refine lv_iconst (v := 2) hx hb dX1_open_32 (by decide) ?_
        refine lv_goto (tgt := 37) hx hb dX1_open_33 (by decide) ?_
        refine va_put (D := (dC, dI)) (ci := 1) (v := .int 2) (ty := .int) (C := RX1) (T := TX1) (N := 17) hx hb hg inX1 tyX1 tyX1_ok nmX1 hown hK hP hD hS 0 rfl rfl 0 (by decide) (hg _ w_346) (fun _ h9 => h9) rfl (by decide +kernel) rfl rfl (Nat.le_of_ble_eq_true rfl) dX1_open_37 (fun H locs hP hD hS => ?_)
        have hP : va_P (dC, dI) vwCl (ws_sm b h uR uW uA uM uX uF uI uS 2 us ur ub uo ui ul uk uh) H := hP
        have hD : va_D A (ws_sm b h uR uW uA uM uX uF uI uS 2 us ur ub uo ui ul uk uh) := hD
        refine lv_aload_n hx hb dX1_open_40 rfl (lv_at hl 0 rfl) ?_
        refine va_get (D := (dC, dI)) (ci := 1) (v := .int 2) (C := RX1) (T := TX1) (N := 17) hx hb hg inX1 hown hK hP 0 rfl rfl 0 (by decide) (hg _ w_346) (fun _ h9 => h9) rfl dX1_open_41 ?_
        refine lv_if_le (tgt := 49) hx hb dX1_open_44 (by decide) (fun c_44 => ?_) (fun c_44 => ?_)
        · exact absurd c_44 (by decide)
        · refine lv_iconst (v := 0) hx hb dX1_open_47 (by decide) ?_
          have hw : sm_open uR uW uA uM uX uF uI us ur uo ui ul uh p1 = (0, uR, uW, uA, uM, uX, uF, uI, 2, us, ur, uo, ui, ul, uh) := by unfold sm_open; rw [if_neg c_5, if_pos c_20, if_pos c_29]; (try rfl)
          exact W.iret (v := 0) hx hb hr (fun t ht hW => ⟨⟨0, (uR, uW, uA, uM, uX, uF, uI, 2, us, ur, uo, ui, ul, uh), rfl, hw, ⟨by rw [ht]; exact hP, va_K.moved hW.alike hK, hD⟩⟩, hS.F ht⟩) hS.2.2 dX1_open_48
  · refine lv_iconst (v := 1) hx hb dX1_open_8 (by decide) ?_
    refine lv_goto (tgt := 37) hx hb dX1_open_9 (by decide) ?_
    refine va_put (D := (dC, dI)) (ci := 1) (v := .int 1) (ty := .int) (C := RX1) (T := TX1) (N := 17) hx hb hg inX1 tyX1 tyX1_ok nmX1 hown hK hP hD hS 0 rfl rfl 0 (by decide) (hg _ w_346) (fun _ h9 => h9) rfl (by decide +kernel) rfl rfl (Nat.le_of_ble_eq_true rfl) dX1_open_37 (fun H locs hP hD hS => ?_)
    have hP : va_P (dC, dI) vwCl (ws_sm b h uR uW uA uM uX uF uI uS 1 us ur ub uo ui ul uk uh) H := hP
    have hD : va_D A (ws_sm b h uR uW uA uM uX uF uI uS 1 us ur ub uo ui ul uk uh) := hD
    refine lv_aload_n hx hb dX1_open_40 rfl (lv_at hl 0 rfl) ?_
    refine va_get (D := (dC, dI)) (ci := 1) (v := .int 1) (C := RX1) (T := TX1) (N := 17) hx hb hg inX1 hown hK hP 0 rfl rfl 0 (by decide) (hg _ w_346) (fun _ h9 => h9) rfl dX1_open_41 ?_
    refine lv_if_le (tgt := 49) hx hb dX1_open_44 (by decide) (fun c_44 => ?_) (fun c_44 => ?_)
    · exact absurd c_44 (by decide)
    · refine lv_iconst (v := 0) hx hb dX1_open_47 (by decide) ?_
      have hw : sm_open uR uW uA uM uX uF uI us ur uo ui ul uh p1 = (0, uR, uW, uA, uM, uX, uF, uI, 1, us, ur, uo, ui, ul, uh) := by unfold sm_open; rw [if_pos c_5]; (try rfl)
      exact W.iret (v := 0) hx hb hr (fun t ht hW => ⟨⟨0, (uR, uW, uA, uM, uX, uF, uI, 1, us, ur, uo, ui, ul, uh), rfl, hw, ⟨by rw [ht]; exact hP, va_K.moved hW.alike hK, hD⟩⟩, hS.F ht⟩) hS.2.2 dX1_open_48
set_option maxHeartbeats 4000000 in
set_option maxRecDepth 100000 in
theorem cm_close (l : Launch) (dC : Nat → ClassId) (dI : Nat → Nat → Nat) (b : Nat → Nat) (h : Nat → ClassId) (sz : Nat) (uR uW uA uM uX uF uI uS : Nat → Int32) (ut us ur ub uo ui ul uk uh : Int32)  (hi : ¬ uo = 0 → 0 ≤ ui.toInt ∧ ui.toInt < 48) : Met l yX1_close wsX1_close ({ frames := 0, cells := 0, slots := 0, locals := 0 } : Room) (va_Pc [.ref (b 0)] (pr (dC, dI) (ws_sm b h uR uW uA uM uX uF uI uS ut us ur ub uo ui ul uk uh) (ty_sm h) sz)) (va_Qi (fun (r : Int32) (u : Int32 × Int32 × Int32) => sm_close uI uo ui = (r, u)) (fun (u : Int32 × Int32 × Int32) t => match u with | (ut', uo', ui') => po (dC, dI) (ws_sm b h uR uW uA uM uX uF uI uS ut' us ur ub uo' ui' ul uk uh) (ty_sm h) (va_A (ws_sm b h uR uW uA uM uX uF uI uS ut us ur ub uo ui ul uk uh) sz) t) (va_A (ws_sm b h uR uW uA uM uX uF uI uS ut us ur ub uo ui ul uk uh) sz)) 0 0 (va_A (ws_sm b h uR uW uA uM uX uF uI uS ut us ur ub uo ui ul uk uh) sz) := by
  refine Met.ofW (cc := cX1_close) (maxL := 2) (ret := (some .int)) (by decide) rfl ?_
  intro p e s m args below meth c s₁ B hml hv
  obtain ⟨rfl, hsz, hP, hK, hD0⟩ := hv
  have hx := B.exec
  have hb := B.bytes
  have hr := B.returns
  have hts := atoms_spec (ws := wsX1_close) B.pre
  have hg : ∀ w ∈ gw, w.before _ s = true := fun w h => hts w (List.mem_cons_of_mem _ h)
  have hown : s.vm.findClass RX1 = some m.cls := findClass_of_methodNamed B.named
  have hlocks := B.notSynchronized
  subst hsz
  have hD := hD0.self (sz := s.heap.size)
  generalize hAe : va_A (ws_sm b h uR uW uA uM uX uF uI uS ut us ur ub uo ui ul uk uh) s.heap.size = A at hD ⊢
  have hA : ∀ q : Nat, s.heap.size ≤ q → A q := fun q h => by rw [← hAe]; exact Or.inr h
  clear hAe
  refine w_in (fun H locs eH eL => ?_)
  have hS : va_S A s.heap H locs := by rw [eH, eL]; exact va_S.rf
  have hP : va_P (dC, dI) vwCl (ws_sm b h uR uW uA uM uX uF uI uS ut us ur ub uo ui ul uk uh) H := by rw [eH]; exact hP
  clear eH eL
  have hl := lv_entry ([.ref (b 0)]) (n := 2) (Nat.le_of_ble_eq_true rfl)
  rw [lg_entry_eq]
  generalize (lg_sl ([.ref (b 0)]) ++ List.replicate (2 - (lg_sl ([.ref (b 0)])).length) Slot.unset).toArray = ls at hl ⊢
  have hl : lv_has ls 2 [(0, .ref (b 0))] := hl
  refine lv_aload_n hx hb dX1_close_0 rfl (lv_at hl 0 rfl) ?_
  refine lv_aload_n hx hb dX1_close_1 rfl (lv_at hl 0 rfl) ?_
  refine va_get (D := (dC, dI)) (ci := 1) (v := .int uo) (C := RX1) (T := TX1) (N := 17) hx hb hg inX1 hown hK hP 0 rfl rfl 4 (by decide) (hg _ w_350) (fun _ h9 => h9) rfl dX1_close_2 ?_
  refine lv_if_ne (tgt := 12) hx hb dX1_close_5 (by decide) (fun c_5 => ?_) (fun c_5 => ?_)
  · refine lv_iconst (v := 0) hx hb dX1_close_12 (by decide) ?_
    refine va_put (D := (dC, dI)) (ci := 1) (v := .int 0) (ty := .int) (C := RX1) (T := TX1) (N := 17) hx hb hg inX1 tyX1 tyX1_ok nmX1 hown hK hP hD hS 0 rfl rfl 0 (by decide) (hg _ w_346) (fun _ h9 => h9) rfl (by decide +kernel) rfl rfl (Nat.le_of_ble_eq_true rfl) dX1_close_13 (fun H locs hP hD hS => ?_)
    have hP : va_P (dC, dI) vwCl (ws_sm b h uR uW uA uM uX uF uI uS 0 us ur ub uo ui ul uk uh) H := hP
    have hD : va_D A (ws_sm b h uR uW uA uM uX uF uI uS 0 us ur ub uo ui ul uk uh) := hD
    refine lv_aload_n hx hb dX1_close_16 rfl (lv_at hl 0 rfl) ?_
    refine va_get (D := (dC, dI)) (ci := 1) (v := .int 0) (C := RX1) (T := TX1) (N := 17) hx hb hg inX1 hown hK hP 0 rfl rfl 0 (by decide) (hg _ w_346) (fun _ h9 => h9) rfl dX1_close_17 ?_
    refine lv_if_le (tgt := 25) hx hb dX1_close_20 (by decide) (fun c_20 => ?_) (fun c_20 => ?_)
    · refine lv_aload_n hx hb dX1_close_25 rfl (lv_at hl 0 rfl) ?_
      refine va_get (D := (dC, dI)) (ci := 1) (v := .int ui) (C := RX1) (T := TX1) (N := 17) hx hb hg inX1 hown hK hP 0 rfl rfl 12 (by decide) (hg _ w_358) (fun _ h9 => h9) rfl dX1_close_26 ?_
      refine lv_istore_n (lv' := [(1, .int ui), (0, .ref (b 0))]) hx hb dX1_close_29 rfl hl (by decide) rfl (fun ls hl => ?_)
      refine lv_aload_n hx hb dX1_close_30 rfl (lv_at hl 1 rfl) ?_
      refine lv_aload_n hx hb dX1_close_31 rfl (lv_at hl 1 rfl) ?_
      refine va_get (D := (dC, dI)) (ci := 1) (v := .ref (b 7)) (C := RX1) (T := TX1) (N := 17) hx hb hg inX1 hown hK hP 0 rfl rfl 11 (by decide) (hg _ w_357) (fun _ h9 => h9) rfl dX1_close_32 ?_
      refine lv_iload_n hx hb dX1_close_35 rfl (lv_at hl 0 rfl) ?_
      refine va_iald hx hb hK hP 7 6 rfl rfl (ix_k (hi c_5)) dX1_close_36 ?_
      refine va_put (D := (dC, dI)) (ci := 1) (v := .int (uI ui.toNatClampNeg)) (ty := .int) (C := RX1) (T := TX1) (N := 17) hx hb hg inX1 tyX1 tyX1_ok nmX1 hown hK hP hD hS 0 rfl rfl 12 (by decide) (hg _ w_358) (fun _ h9 => h9) rfl (by decide +kernel) rfl rfl (Nat.le_of_ble_eq_true rfl) dX1_close_37 (fun H locs hP hD hS => ?_)
      have hP : va_P (dC, dI) vwCl (ws_sm b h uR uW uA uM uX uF uI uS 0 us ur ub uo (uI ui.toNatClampNeg) ul uk uh) H := hP
      have hD : va_D A (ws_sm b h uR uW uA uM uX uF uI uS 0 us ur ub uo (uI ui.toNatClampNeg) ul uk uh) := hD
      refine lv_aload_n hx hb dX1_close_40 rfl (lv_at hl 1 rfl) ?_
      refine lv_dup hx hb dX1_close_41 rfl ?_
      refine va_get (D := (dC, dI)) (ci := 1) (v := .int uo) (C := RX1) (T := TX1) (N := 17) hx hb hg inX1 hown hK hP 0 rfl rfl 4 (by decide) (hg _ w_350) (fun _ h9 => h9) rfl dX1_close_42 ?_
      refine lv_iconst (v := 1) hx hb dX1_close_45 (by decide) ?_
      refine lv_isub hx hb dX1_close_46 ?_
      refine va_put (D := (dC, dI)) (ci := 1) (v := .int (uo - 1)) (ty := .int) (C := RX1) (T := TX1) (N := 17) hx hb hg inX1 tyX1 tyX1_ok nmX1 hown hK hP hD hS 0 rfl rfl 4 (by decide) (hg _ w_350) (fun _ h9 => h9) rfl (by decide +kernel) rfl rfl (Nat.le_of_ble_eq_true rfl) dX1_close_47 (fun H locs hP hD hS => ?_)
      have hP : va_P (dC, dI) vwCl (ws_sm b h uR uW uA uM uX uF uI uS 0 us ur ub (uo - 1) (uI ui.toNatClampNeg) ul uk uh) H := hP
      have hD : va_D A (ws_sm b h uR uW uA uM uX uF uI uS 0 us ur ub (uo - 1) (uI ui.toNatClampNeg) ul uk uh) := hD
      refine lv_iload_n hx hb dX1_close_50 rfl (lv_at hl 0 rfl) ?_
      have hw : sm_close uI uo ui = (ui, 0, uo - 1, uI ui.toNatClampNeg) := by unfold sm_close; rw [if_neg c_5]; (try rfl)
      exact W.iret (v := ui) hx hb hr (fun t ht hW => ⟨⟨ui, (0, uo - 1, uI ui.toNatClampNeg), rfl, hw, ⟨by rw [ht]; exact hP, va_K.moved hW.alike hK, hD⟩⟩, hS.F ht⟩) hS.2.2 dX1_close_51
    · exact absurd c_20 (by decide)
  · refine lv_iconst (v := 1) hx hb dX1_close_8 (by decide) ?_
    refine lv_goto (tgt := 13) hx hb dX1_close_9 (by decide) ?_
    refine va_put (D := (dC, dI)) (ci := 1) (v := .int 1) (ty := .int) (C := RX1) (T := TX1) (N := 17) hx hb hg inX1 tyX1 tyX1_ok nmX1 hown hK hP hD hS 0 rfl rfl 0 (by decide) (hg _ w_346) (fun _ h9 => h9) rfl (by decide +kernel) rfl rfl (Nat.le_of_ble_eq_true rfl) dX1_close_13 (fun H locs hP hD hS => ?_)
    have hP : va_P (dC, dI) vwCl (ws_sm b h uR uW uA uM uX uF uI uS 1 us ur ub uo ui ul uk uh) H := hP
    have hD : va_D A (ws_sm b h uR uW uA uM uX uF uI uS 1 us ur ub uo ui ul uk uh) := hD
    refine lv_aload_n hx hb dX1_close_16 rfl (lv_at hl 0 rfl) ?_
    refine va_get (D := (dC, dI)) (ci := 1) (v := .int 1) (C := RX1) (T := TX1) (N := 17) hx hb hg inX1 hown hK hP 0 rfl rfl 0 (by decide) (hg _ w_346) (fun _ h9 => h9) rfl dX1_close_17 ?_
    refine lv_if_le (tgt := 25) hx hb dX1_close_20 (by decide) (fun c_20 => ?_) (fun c_20 => ?_)
    · exact absurd c_20 (by decide)
    · refine lv_iconst (v := 0) hx hb dX1_close_23 (by decide) ?_
      have hw : sm_close uI uo ui = (0, 1, uo, ui) := by unfold sm_close; rw [if_pos c_5]; (try rfl)
      exact W.iret (v := 0) hx hb hr (fun t ht hW => ⟨⟨0, (1, uo, ui), rfl, hw, ⟨by rw [ht]; exact hP, va_K.moved hW.alike hK, hD⟩⟩, hS.F ht⟩) hS.2.2 dX1_close_24
