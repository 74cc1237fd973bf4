set_option maxHeartbeats 4000000 in
set_option maxRecDepth 100000 in
theorem cm_sum_L6 {p : Program} {l : Launch} {e : Env} {s : State} {m : MethodId} {args : Array Value} {below : List Frame} {meth : Method} {c : Code} {Q : State → Prop} {dC : Nat → ClassId} {dI : Nat → Nat → Nat} {b : Nat → Nat} {h : Nat → ClassId} {A : Nat → Prop} (uR uW uA uM uX uF uI uS : Nat → Int32) (ut us ur ub uo ui ul uk uh : Int32) (p1 p2 p3 : Int32) (hx : p.tables.exec = Jvm.exec) (hb : c.code = cX1_sum) (hml : c.maxLocals = 6) (hown : s.vm.findClass RX1 = some m.cls) (hg : ∀ w ∈ gw, w.before args s = true) (hA : ∀ q : Nat, s.heap.size ≤ q → A q) (hK : va_K (dC, dI) vwCl (ty_sm h) s) (h48 : 0 ≤ p1.toInt ∧ p1.toInt ≤ 48) :
    ∀ (n : Nat) (x4 x5 : Int32) (H : Heap) (locs : List Loc) (ls : Array Slot), (cnt p1 x5 n) → va_P (dC, dI) vwCl (ws_sm b h uR uW uA uM uX uF uI uS ut us ur ub uo ui ul uk uh) H → va_D A (ws_sm b h uR uW uA uM uX uF uI uS ut us ur ub uo ui ul uk uh) → va_S A s.heap H locs → lv_has ls 6 [(0, .ref (b 0)), (1, .int p1), (2, .int p2), (3, .int p3), (4, .int x4), (5, .int x5)] →
      (∀ (x4_o6 : Int32), sm_sum_L6 uM uX uS p1 p2 p3 n x4 x5 = x4_o6 → ∀ (H : Heap) (locs : List Loc) (ls : Array Slot), va_P (dC, dI) vwCl (ws_sm b h uR uW uA uM uX uF uI uS ut us ur ub uo ui ul uk uh) H → va_D A (ws_sm b h uR uW uA uM uX uF uI uS ut us ur ub uo ui ul uk uh) → va_S A s.heap H locs → lv_has ls 6 [(0, .ref (b 0)), (1, .int p1), (2, .int p2), (3, .int p3), (4, .int x4_o6)] → W p l e (headSpec wsX1_sum ({ frames := 0, cells := 0, slots := 0, locals := 0 } : Room)).room s m args below meth c H locs 0 0 Q (F0 m 68 ls [])) →
      W p l e (headSpec wsX1_sum ({ frames := 0, cells := 0, slots := 0, locals := 0 } : Room)).room s m args below meth c H locs 0 0 Q (F0 m 6 ls []) := by
  intro n
  induction n with
  | zero =>
    intro x4 x5 H locs ls hinv
    exact absurd hinv (cnt_z)
  | succ n ih =>
    intro x4 x5 H locs ls hinv hP hD hS hl k0
    refine lv_iload hx hb dX1_sum_6 (lv_at hl 5 rfl) ?_
    refine lv_iload_n hx hb dX1_sum_8 rfl (lv_at hl 1 rfl) ?_
    refine lv_icmp_ge (tgt := 68) hx hb dX1_sum_9 (by decide) (fun c_9 => ?_) (fun c_9 => ?_)
    · exact k0 x4 (by rw [sm_sum_L6_s]; rw [if_pos c_9]; (try rfl)) H locs ls hP hD hS (lv_sub hl [0, 1, 2, 3, 4] rfl)
    · refine lv_iload hx hb dX1_sum_12 (lv_at hl 4 rfl) ?_
      refine lv_aload_n hx hb dX1_sum_14 rfl (lv_at hl 0 rfl) ?_
      refine va_get (D := (dC, dI)) (ci := 1) (v := .ref (b 8)) (C := RX1) (T := TX1) (N := 17) hx hb hg inX1 hown hK hP 0 rfl rfl 13 (by decide) (hg _ w_359) (fun _ h9 => h9) rfl dX1_sum_15 ?_
      refine lv_iload hx hb dX1_sum_18 (lv_at hl 5 rfl) ?_
      refine va_iald hx hb hK hP 8 7 rfl rfl (cnt_in hinv c_9 h48.2) dX1_sum_20 ?_
      refine lv_iload_n hx hb dX1_sum_21 rfl (lv_at hl 2 rfl) ?_
      refine lv_icmp_eq (tgt := 29) hx hb dX1_sum_22 (by decide) (fun c_22 => ?_) (fun c_22 => ?_)
      · refine lv_iload_n hx hb dX1_sum_29 rfl (lv_at hl 3 rfl) ?_
        refine lv_if_ne (tgt := 37) hx hb dX1_sum_30 (by decide) (fun c_30 => ?_) (fun c_30 => ?_)
        · refine lv_iload_n hx hb dX1_sum_37 rfl (lv_at hl 3 rfl) ?_
          refine lv_iconst (v := 1) hx hb dX1_sum_38 (by decide) ?_
          refine lv_icmp_ne (tgt := 52) hx hb dX1_sum_39 (by decide) (fun c_39 => ?_) (fun c_39 => ?_)
          · refine lv_aload_n hx hb dX1_sum_52 rfl (lv_at hl 0 rfl) ?_
            refine va_get (D := (dC, dI)) (ci := 1) (v := .ref (b 5)) (C := RX1) (T := TX1) (N := 17) hx hb hg inX1 hown hK hP 0 rfl rfl 9 (by decide) (hg _ w_355) (fun _ h9 => h9) rfl dX1_sum_53 ?_
            refine lv_iload hx hb dX1_sum_56 (lv_at hl 5 rfl) ?_
            refine va_iald hx hb hK hP 5 4 rfl rfl (cnt_in hinv c_9 h48.2) dX1_sum_58 ?_
            refine lv_iadd hx hb dX1_sum_59 ?_
            refine lv_istore (lv' := [(4, .int (x4 + (uX x5.toNatClampNeg))), (0, .ref (b 0)), (1, .int p1), (2, .int p2), (3, .int p3), (5, .int x5)]) hx hb dX1_sum_60 hl (by decide) rfl (fun ls hl => ?_)
            refine lv_iinc (v := x5 + 1) (lv' := [(5, .int (x5 + 1)), (4, .int (x4 + (uX x5.toNatClampNeg))), (0, .ref (b 0)), (1, .int p1), (2, .int p2), (3, .int p3)]) hx hb dX1_sum_62 hl (k := 5) rfl rfl (by decide) rfl (fun ls hl => ?_)
            refine lv_goto (tgt := 6) hx hb dX1_sum_65 (by decide) ?_
            exact ih (x4 + (uX x5.toNatClampNeg)) (x5 + 1) H locs ls (cnt_s hinv c_9) hP hD hS (lv_sub hl [2, 3, 4, 5, 1, 0] rfl) (fun x4_o6 hw H locs ls hP hD hS hl => k0 x4_o6 (by rw [sm_sum_L6_s]; rw [if_neg c_9, if_pos c_22, if_neg c_30, if_neg c_39]; exact hw) H locs ls hP hD hS hl)
          · refine lv_aload_n hx hb dX1_sum_42 rfl (lv_at hl 0 rfl) ?_
            refine va_get (D := (dC, dI)) (ci := 1) (v := .ref (b 4)) (C := RX1) (T := TX1) (N := 17) hx hb hg inX1 hown hK hP 0 rfl rfl 8 (by decide) (hg _ w_354) (fun _ h9 => h9) rfl dX1_sum_43 ?_
            refine lv_iload hx hb dX1_sum_46 (lv_at hl 5 rfl) ?_
            refine va_iald hx hb hK hP 4 3 rfl rfl (cnt_in hinv c_9 h48.2) dX1_sum_48 ?_
            refine lv_goto (tgt := 59) hx hb dX1_sum_49 (by decide) ?_
            refine lv_iadd hx hb dX1_sum_59 ?_
            refine lv_istore (lv' := [(4, .int (x4 + (uM x5.toNatClampNeg))), (0, .ref (b 0)), (1, .int p1), (2, .int p2), (3, .int p3), (5, .int x5)]) hx hb dX1_sum_60 hl (by decide) rfl (fun ls hl => ?_)
            refine lv_iinc (v := x5 + 1) (lv' := [(5, .int (x5 + 1)), (4, .int (x4 + (uM x5.toNatClampNeg))), (0, .ref (b 0)), (1, .int p1), (2, .int p2), (3, .int p3)]) hx hb dX1_sum_62 hl (k := 5) rfl rfl (by decide) rfl (fun ls hl => ?_)
            refine lv_goto (tgt := 6) hx hb dX1_sum_65 (by decide) ?_
            exact ih (x4 + (uM x5.toNatClampNeg)) (x5 + 1) H locs ls (cnt_s hinv c_9) hP hD hS (lv_sub hl [2, 3, 4, 5, 1, 0] rfl) (fun x4_o6 hw H locs ls hP hD hS hl => k0 x4_o6 (by rw [sm_sum_L6_s]; rw [if_neg c_9, if_pos c_22, if_neg c_30, if_pos c_39]; exact hw) H locs ls hP hD hS hl)
        · refine lv_iconst (v := 1) hx hb dX1_sum_33 (by decide) ?_
          refine lv_goto (tgt := 59) hx hb dX1_sum_34 (by decide) ?_
          refine lv_iadd hx hb dX1_sum_59 ?_
          refine lv_istore (lv' := [(4, .int (x4 + 1)), (0, .ref (b 0)), (1, .int p1), (2, .int p2), (3, .int p3), (5, .int x5)]) hx hb dX1_sum_60 hl (by decide) rfl (fun ls hl => ?_)
          refine lv_iinc (v := x5 + 1) (lv' := [(5, .int (x5 + 1)), (4, .int (x4 + 1)), (0, .ref (b 0)), (1, .int p1), (2, .int p2), (3, .int p3)]) hx hb dX1_sum_62 hl (k := 5) rfl rfl (by decide) rfl (fun ls hl => ?_)
          refine lv_goto (tgt := 6) hx hb dX1_sum_65 (by decide) ?_
          exact ih (x4 + 1) (x5 + 1) H locs ls (cnt_s hinv c_9) hP hD hS (lv_sub hl [2, 3, 4, 5, 1, 0] rfl) (fun x4_o6 hw H locs ls hP hD hS hl => k0 x4_o6 (by rw [sm_sum_L6_s]; rw [if_neg c_9, if_pos c_22, if_pos c_30]; exact hw) H locs ls hP hD hS hl)
      · refine lv_iconst (v := 0) hx hb dX1_sum_25 (by decide) ?_
        refine lv_goto (tgt := 59) hx hb dX1_sum_26 (by decide) ?_
        refine lv_iadd hx hb dX1_sum_59 ?_
        refine lv_istore (lv' := [(4, .int (x4 + 0)), (0, .ref (b 0)), (1, .int p1), (2, .int p2), (3, .int p3), (5, .int x5)]) hx hb dX1_sum_60 hl (by decide) rfl (fun ls hl => ?_)
        refine lv_iinc (v := x5 + 1) (lv' := [(5, .int (x5 + 1)), (4, .int (x4 + 0)), (0, .ref (b 0)), (1, .int p1), (2, .int p2), (3, .int p3)]) hx hb dX1_sum_62 hl (k := 5) rfl rfl (by decide) rfl (fun ls hl => ?_)
        refine lv_goto (tgt := 6) hx hb dX1_sum_65 (by decide) ?_
        exact ih (x4 + 0) (x5 + 1) H locs ls (cnt_s hinv c_9) hP hD hS (lv_sub hl [2, 3, 4, 5, 1, 0] rfl) (fun x4_o6 hw H locs ls hP hD hS hl => k0 x4_o6 (by rw [sm_sum_L6_s]; rw [if_neg c_9, if_neg c_22]; exact hw) H locs ls hP hD hS hl)
set_option maxHeartbeats 4000000 in
set_option maxRecDepth 100000 in
theorem cm_sum (l : Launch) (dC : Nat → ClassId) (dI : Nat → Nat → Nat) (b : Nat → Nat) (h : Nat → ClassId) (sz : Nat) (uR uW uA uM uX uF uI uS : Nat → Int32) (ut us ur ub uo ui ul uk uh : Int32) (p1 p2 p3 : Int32) (h48 : 0 ≤ p1.toInt ∧ p1.toInt ≤ 48) : Met l yX1_sum wsX1_sum ({ frames := 0, cells := 0, slots := 0, locals := 0 } : Room) (va_Pc [.ref (b 0), .int p1, .int p2, .int p3] (pr (dC, dI) (ws_sm b h uR uW uA uM uX uF uI uS ut us ur ub uo ui ul uk uh) (ty_sm h) sz)) (va_Qi (fun (r : Int32) (_ : Unit) => r = sm_sum uM uX uS p1 p2 p3) (fun (_ : Unit) t => po (dC, dI) (ws_sm b h uR uW uA uM uX uF uI uS ut us ur ub uo ui ul uk uh) (ty_sm h) (va_A (ws_sm b h uR uW uA uM uX uF uI uS ut us ur ub uo ui ul uk uh) sz) t) (va_A (ws_sm b h uR uW uA uM uX uF uI uS ut us ur ub uo ui ul uk uh) sz)) 0 0 (va_A (ws_sm b h uR uW uA uM uX uF uI uS ut us ur ub uo ui ul uk uh) sz) := by
  refine Met.ofW (cc := cX1_sum) (maxL := 6) (ret := (some .int)) (by decide) rfl ?_
  intro p e s m args below meth c s₁ B hml hv
  obtain ⟨rfl, hsz, hP, hK, hD0⟩ := hv
  have hx := B.exec
  have hb := B.bytes
  have hr := B.returns
  have hts := atoms_spec (ws := wsX1_sum) B.pre
  have hg : ∀ w ∈ gw, w.before _ s = true := fun w h => hts w (List.mem_cons_of_mem _ h)
  have hown : s.vm.findClass RX1 = some m.cls := findClass_of_methodNamed B.named
  have hlocks := B.notSynchronized
  subst hsz
  have hD := hD0.self (sz := s.heap.size)
  generalize hAe : va_A (ws_sm b h uR uW uA uM uX uF uI uS ut us ur ub uo ui ul uk uh) s.heap.size = A at hD ⊢
  have hA : ∀ q : Nat, s.heap.size ≤ q → A q := fun q h => by rw [← hAe]; exact Or.inr h
  clear hAe
  refine w_in (fun H locs eH eL => ?_)
  have hS : va_S A s.heap H locs := by rw [eH, eL]; exact va_S.rf
  have hP : va_P (dC, dI) vwCl (ws_sm b h uR uW uA uM uX uF uI uS ut us ur ub uo ui ul uk uh) H := by rw [eH]; exact hP
  clear eH eL
  have hl := lv_entry ([.ref (b 0), .int p1, .int p2, .int p3]) (n := 6) (Nat.le_of_ble_eq_true rfl)
  rw [lg_entry_eq]
  generalize (lg_sl ([.ref (b 0), .int p1, .int p2, .int p3]) ++ List.replicate (6 - (lg_sl ([.ref (b 0), .int p1, .int p2, .int p3])).length) Slot.unset).toArray = ls at hl ⊢
  have hl : lv_has ls 6 [(0, .ref (b 0)), (1, .int p1), (2, .int p2), (3, .int p3)] := hl
  refine lv_iconst (v := 0) hx hb dX1_sum_0 (by decide) ?_
  refine lv_istore (lv' := [(4, .int 0), (0, .ref (b 0)), (1, .int p1), (2, .int p2), (3, .int p3)]) hx hb dX1_sum_1 hl (by decide) rfl (fun ls hl => ?_)
  refine lv_iconst (v := 0) hx hb dX1_sum_3 (by decide) ?_
  refine lv_istore (lv' := [(5, .int 0), (4, .int 0), (0, .ref (b 0)), (1, .int p1), (2, .int p2), (3, .int p3)]) hx hb dX1_sum_4 hl (by decide) rfl (fun ls hl => ?_)
  refine cm_sum_L6 uR uW uA uM uX uF uI uS ut us ur ub uo ui ul uk uh p1 p2 p3 hx hb hml hown hg hA hK h48 49 0 0 H locs ls (cnt_0 h48.1 (by have := h48.2; omega)) hP hD hS (lv_sub hl [2, 3, 4, 5, 1, 0] rfl) (fun x4_o6 hw_6 H locs ls hP hD hS hl => ?_)
  refine lv_iload hx hb dX1_sum_68 (lv_at hl 4 rfl) ?_
  have hw : x4_o6 = sm_sum uM uX uS p1 p2 p3 := by unfold sm_sum; rw [hw_6]; (try dsimp only); (try rfl)
  exact W.iret (v := x4_o6) hx hb hr (fun t ht hW => ⟨⟨x4_o6, (), rfl, hw, ⟨by rw [ht]; exact hP, va_K.moved hW.alike hK, hD⟩⟩, hS.F ht⟩) hS.2.2 dX1_sum_70
set_option maxHeartbeats 4000000 in
set_option maxRecDepth 100000 in
theorem cm_hasRoom (l : Launch) (dC : Nat → ClassId) (dI : Nat → Nat → Nat) (b : Nat → Nat) (h : Nat → ClassId) (sz : Nat) (uR uW uA uM uX uF uI uS : Nat → Int32) (ut us ur ub uo ui ul uk uh : Int32) (p1 p2 p3 p4 : Int32) (hs : 0 ≤ p1.toInt ∧ p1.toInt < 48) : Met l yX1_hasRoom wsX1_hasRoom ({ frames := 1, cells := 0, slots := 0, locals := 25 } : Room) (va_Pc [.ref (b 0), .int p1, .int p2, .int p3, .int p4] (pr (dC, dI) (ws_sm b h uR uW uA uM uX uF uI uS ut us ur ub uo ui ul uk uh) (ty_sm h) sz)) (va_Qi (fun (r : Int32) (_ : Unit) => r = sm_hasRoom uM uX uS p1 p2 p3 p4) (fun (_ : Unit) t => po (dC, dI) (ws_sm b h uR uW uA uM uX uF uI uS ut us ur ub uo ui ul uk uh) (ty_sm h) (va_A (ws_sm b h uR uW uA uM uX uF uI uS ut us ur ub uo ui ul uk uh) sz) t) (va_A (ws_sm b h uR uW uA uM uX uF uI uS ut us ur ub uo ui ul uk uh) sz)) 0 0 (va_A (ws_sm b h uR uW uA uM uX uF uI uS ut us ur ub uo ui ul uk uh) sz) := by
  refine Met.ofW (cc := cX1_hasRoom) (maxL := 5) (ret := (some .boolean)) (by decide) rfl ?_
  intro p e s m args below meth c s₁ B hml hv
  obtain ⟨rfl, hsz, hP, hK, hD0⟩ := hv
  have hx := B.exec
  have hb := B.bytes
  have hr := B.returns
  have hts := atoms_spec (ws := wsX1_hasRoom) B.pre
  have hg : ∀ w ∈ gw, w.before _ s = true := fun w h => hts w (List.mem_cons_of_mem _ h)
  have hown : s.vm.findClass RX1 = some m.cls := findClass_of_methodNamed B.named
  have hlocks := B.notSynchronized
  subst hsz
  have hD := hD0.self (sz := s.heap.size)
  generalize hAe : va_A (ws_sm b h uR uW uA uM uX uF uI uS ut us ur ub uo ui ul uk uh) s.heap.size = A at hD ⊢
  have hA : ∀ q : Nat, s.heap.size ≤ q → A q := fun q h => by rw [← hAe]; exact Or.inr h
  clear hAe
  refine w_in (fun H locs eH eL => ?_)
  have hS : va_S A s.heap H locs := by rw [eH, eL]; exact va_S.rf
  have hP : va_P (dC, dI) vwCl (ws_sm b h uR uW uA uM uX uF uI uS ut us ur ub uo ui ul uk uh) H := by rw [eH]; exact hP
  clear eH eL
  have hl := lv_entry ([.ref (b 0), .int p1, .int p2, .int p3, .int p4]) (n := 5) (Nat.le_of_ble_eq_true rfl)
  rw [lg_entry_eq]
  generalize (lg_sl ([.ref (b 0), .int p1, .int p2, .int p3, .int p4]) ++ List.replicate (5 - (lg_sl ([.ref (b 0), .int p1, .int p2, .int p3, .int p4])).length) Slot.unset).toArray = ls at hl ⊢
  have hl : lv_has ls 5 [(0, .ref (b 0)), (1, .int p1), (2, .int p2), (3, .int p3), (4, .int p4)] := hl
  refine lv_aload_n hx hb dX1_hasRoom_0 rfl (lv_at hl 0 rfl) ?_
  refine lv_iload_n hx hb dX1_hasRoom_1 rfl (lv_at hl 1 rfl) ?_
  refine lv_iload_n hx hb dX1_hasRoom_2 rfl (lv_at hl 2 rfl) ?_
  refine lv_iconst (v := 0) hx hb dX1_hasRoom_3 (by decide) ?_
  have hFc := va_free (wc := ws_sm b h uR uW uA uM uX uF uI uS ut us ur ub uo ui ul uk uh) hD hS hA [0, 1, 2, 3, 4, 5, 6, 7, 8] rfl
  refine va_calli (va_runV (As := [.int p1, .int p2, .int 0]) (rest := []) ⟨hx, hb, hml, hown, hg⟩ (cm_sum l dC dI b h H.size uR uW uA uM uX uF uI uS ut us ur ub uo ui ul uk uh p1 p2 0 (lt_le hs)) (cwV 3 hg (gi_V w_480 w_482 s_17 w_2 w_483) rfl rfl rfl (by decide +kernel) ⟨Nat.le_of_ble_eq_true rfl, Nat.le_of_ble_eq_true rfl⟩) ⟨pr_bl, va_recv hK hP (ci := 1) (q0 := 0) rfl rfl, pr_ok hK hP hD⟩ rfl rfl hl.1 rfl (lv_room (Nat.le_of_ble_eq_true rfl)) dX1_hasRoom_4 ⟨Nat.le_of_ble_eq_true rfl, Nat.le_of_ble_eq_true rfl⟩) hS (fun q _ h => hFc q h) hFc (fun r_4 u t H1 locs ht hvm hw_4 hB hz1 hk1 hS => ?_)
  subst hw_4
  obtain ⟨hP, hK1, hD1⟩ := hB
  rw [ht] at hP
  have hD := hD1.weaken (fun _ q _ h => hFc q.1 h)
  generalize H1 = H at hP hS ⊢
  have hP : va_P (dC, dI) vwCl (ws_sm b h uR uW uA uM uX uF uI uS ut us ur ub uo ui ul uk uh) H := hP
  have hD : va_D A (ws_sm b h uR uW uA uM uX uF uI uS ut us ur ub uo ui ul uk uh) := hD
  refine lv_bipush (v := 8) hx hb dX1_hasRoom_7 (by decide) ?_
  refine lv_icmp_ge (tgt := 53) hx hb dX1_hasRoom_9 (by decide) (fun c_9 => ?_) (fun c_9 => ?_)
  · refine lv_iconst (v := 0) hx hb dX1_hasRoom_53 (by decide) ?_
    have hw : 0 = sm_hasRoom uM uX uS p1 p2 p3 p4 := by unfold sm_hasRoom; rw [if_pos c_9]; (try rfl)
    exact W.zret (v := 0) hx hb hr rfl (fun t ht hW => ⟨⟨0, (), rfl, hw, ⟨by rw [ht]; exact hP, va_K.moved hW.alike hK, hD⟩⟩, hS.F ht⟩) hS.2.2 dX1_hasRoom_54
  · refine lv_aload_n hx hb dX1_hasRoom_12 rfl (lv_at hl 0 rfl) ?_
    refine lv_iload_n hx hb dX1_hasRoom_13 rfl (lv_at hl 1 rfl) ?_
    refine lv_iload_n hx hb dX1_hasRoom_14 rfl (lv_at hl 2 rfl) ?_
    refine lv_iconst (v := 1) hx hb dX1_hasRoom_15 (by decide) ?_
    have hFc := va_free (wc := ws_sm b h uR uW uA uM uX uF uI uS ut us ur ub uo ui ul uk uh) hD hS hA [0, 1, 2, 3, 4, 5, 6, 7, 8] rfl
    refine va_calli (va_runV (As := [.int p1, .int p2, .int 1]) (rest := []) ⟨hx, hb, hml, hown, hg⟩ (cm_sum l dC dI b h H.size uR uW uA uM uX uF uI uS ut us ur ub uo ui ul uk uh p1 p2 1 (lt_le hs)) (cwV 3 hg (gi_V w_480 w_482 s_17 w_2 w_483) rfl rfl rfl (by decide +kernel) ⟨Nat.le_of_ble_eq_true rfl, Nat.le_of_ble_eq_true rfl⟩) ⟨pr_bl, va_recv hK hP (ci := 1) (q0 := 0) rfl rfl, pr_ok hK hP hD⟩ rfl rfl hl.1 rfl (lv_room (Nat.le_of_ble_eq_true rfl)) dX1_hasRoom_16 ⟨Nat.le_of_ble_eq_true rfl, Nat.le_of_ble_eq_true rfl⟩) hS (fun q _ h => hFc q h) hFc (fun r_16 u t H1 locs ht hvm hw_16 hB hz1 hk1 hS => ?_)
    subst hw_16
    obtain ⟨hP, hK1, hD1⟩ := hB
    rw [ht] at hP
    have hD := hD1.weaken (fun _ q _ h => hFc q.1 h)
    generalize H1 = H at hP hS ⊢
    have hP : va_P (dC, dI) vwCl (ws_sm b h uR uW uA uM uX uF uI uS ut us ur ub uo ui ul uk uh) H := hP
    have hD : va_D A (ws_sm b h uR uW uA uM uX uF uI uS ut us ur ub uo ui ul uk uh) := hD
    refine lv_iload_n hx hb dX1_hasRoom_19 rfl (lv_at hl 3 rfl) ?_
    refine lv_aload_n hx hb dX1_hasRoom_20 rfl (lv_at hl 0 rfl) ?_
    refine va_get (D := (dC, dI)) (ci := 1) (v := .ref (b 4)) (C := RX1) (T := TX1) (N := 17) hx hb hg inX1 hown hK hP 0 rfl rfl 8 (by decide) (hg _ w_354) (fun _ h9 => h9) rfl dX1_hasRoom_21 ?_
    refine lv_iload_n hx hb dX1_hasRoom_24 rfl (lv_at hl 1 rfl) ?_
    refine va_iald hx hb hK hP 4 3 rfl rfl (ix_k hs) dX1_hasRoom_25 ?_
    refine lv_isub hx hb dX1_hasRoom_26 ?_
    refine lv_icmp_gt (tgt := 53) hx hb dX1_hasRoom_27 (by decide) (fun c_27 => ?_) (fun c_27 => ?_)
    · refine lv_iconst (v := 0) hx hb dX1_hasRoom_53 (by decide) ?_
      have hw : 0 = sm_hasRoom uM uX uS p1 p2 p3 p4 := by unfold sm_hasRoom; rw [if_neg c_9, if_pos c_27]; (try rfl)
      exact W.zret (v := 0) hx hb hr rfl (fun t ht hW => ⟨⟨0, (), rfl, hw, ⟨by rw [ht]; exact hP, va_K.moved hW.alike hK, hD⟩⟩, hS.F ht⟩) hS.2.2 dX1_hasRoom_54
    · refine lv_aload_n hx hb dX1_hasRoom_30 rfl (lv_at hl 0 rfl) ?_
      refine lv_iload_n hx hb dX1_hasRoom_31 rfl (lv_at hl 1 rfl) ?_
      refine lv_iload_n hx hb dX1_hasRoom_32 rfl (lv_at hl 2 rfl) ?_
      refine lv_iconst (v := 2) hx hb dX1_hasRoom_33 (by decide) ?_
      have hFc := va_free (wc := ws_sm b h uR uW uA uM uX uF uI uS ut us ur ub uo ui ul uk uh) hD hS hA [0, 1, 2, 3, 4, 5, 6, 7, 8] rfl
      refine va_calli (va_runV (As := [.int p1, .int p2, .int 2]) (rest := []) ⟨hx, hb, hml, hown, hg⟩ (cm_sum l dC dI b h H.size uR uW uA uM uX uF uI uS ut us ur ub uo ui ul uk uh p1 p2 2 (lt_le hs)) (cwV 3 hg (gi_V w_480 w_482 s_17 w_2 w_483) rfl rfl rfl (by decide +kernel) ⟨Nat.le_of_ble_eq_true rfl, Nat.le_of_ble_eq_true rfl⟩) ⟨pr_bl, va_recv hK hP (ci := 1) (q0 := 0) rfl rfl, pr_ok hK hP hD⟩ rfl rfl hl.1 rfl (lv_room (Nat.le_of_ble_eq_true rfl)) dX1_hasRoom_34 ⟨Nat.le_of_ble_eq_true rfl, Nat.le_of_ble_eq_true rfl⟩) hS (fun q _ h => hFc q h) hFc (fun r_34 u t H1 locs ht hvm hw_34 hB hz1 hk1 hS => ?_)
      subst hw_34
      obtain ⟨hP, hK1, hD1⟩ := hB
      rw [ht] at hP
      have hD := hD1.weaken (fun _ q _ h => hFc q.1 h)
      generalize H1 = H at hP hS ⊢
      have hP : va_P (dC, dI) vwCl (ws_sm b h uR uW uA uM uX uF uI uS ut us ur ub uo ui ul uk uh) H := hP
      have hD : va_D A (ws_sm b h uR uW uA uM uX uF uI uS ut us ur ub uo ui ul uk uh) := hD
      refine lv_iload hx hb dX1_hasRoom_37 (lv_at hl 4 rfl) ?_
      refine lv_aload_n hx hb dX1_hasRoom_39 rfl (lv_at hl 0 rfl) ?_
      refine va_get (D := (dC, dI)) (ci := 1) (v := .ref (b 5)) (C := RX1) (T := TX1) (N := 17) hx hb hg inX1 hown hK hP 0 rfl rfl 9 (by decide) (hg _ w_355) (fun _ h9 => h9) rfl dX1_hasRoom_40 ?_
      refine lv_iload_n hx hb dX1_hasRoom_43 rfl (lv_at hl 1 rfl) ?_
      refine va_iald hx hb hK hP 5 4 rfl rfl (ix_k hs) dX1_hasRoom_44 ?_
      refine lv_isub hx hb dX1_hasRoom_45 ?_
      refine lv_icmp_gt (tgt := 53) hx hb dX1_hasRoom_46 (by decide) (fun c_46 => ?_) (fun c_46 => ?_)
      · refine lv_iconst (v := 0) hx hb dX1_hasRoom_53 (by decide) ?_
        have hw : 0 = sm_hasRoom uM uX uS p1 p2 p3 p4 := by unfold sm_hasRoom; rw [if_neg c_9, if_neg c_27, if_pos c_46]; (try rfl)
        exact W.zret (v := 0) hx hb hr rfl (fun t ht hW => ⟨⟨0, (), rfl, hw, ⟨by rw [ht]; exact hP, va_K.moved hW.alike hK, hD⟩⟩, hS.F ht⟩) hS.2.2 dX1_hasRoom_54
      · refine lv_iconst (v := 1) hx hb dX1_hasRoom_49 (by decide) ?_
        refine lv_goto (tgt := 54) hx hb dX1_hasRoom_50 (by decide) ?_
        have hw : 1 = sm_hasRoom uM uX uS p1 p2 p3 p4 := by unfold sm_hasRoom; rw [if_neg c_9, if_neg c_27, if_neg c_46]; (try rfl)
        exact W.zret (v := 1) hx hb hr rfl (fun t ht hW => ⟨⟨1, (), rfl, hw, ⟨by rw [ht]; exact hP, va_K.moved hW.alike hK, hD⟩⟩, hS.F ht⟩) hS.2.2 dX1_hasRoom_54
set_option maxHeartbeats 4000000 in
set_option maxRecDepth 100000 in
theorem cm_place_L24 {p : Program} {l : Launch} {e : Env} {s : State} {m : MethodId} {args : Array Value} {below : List Frame} {meth : Method} {c : Code} {Q : State → Prop} {dC : Nat → ClassId} {dI : Nat → Nat → Nat} {b : Nat → Nat} {h : Nat → ClassId} {A : Nat → Prop} (uR uW uA uM uX uF uI uS : Nat → Int32) (ut us ur ub uo ui ul uk uh : Int32) (p1 p2 p3 p4 x5 : Int32) (hx : p.tables.exec = Jvm.exec) (hb : c.code = cX1_place) (hml : c.maxLocals = 8) (hown : s.vm.findClass RX1 = some m.cls) (hg : ∀ w ∈ gw, w.before args s = true) (hA : ∀ q : Nat, s.heap.size ≤ q → A q) (hK : va_K (dC, dI) vwCl (ty_sm h) s) (hs : 0 ≤ p1.toInt ∧ p1.toInt < 48) (hc : ∀ j : Nat, j ≤ p1.toNatClampNeg → -1 ≤ (uI j).toInt ∧ (uI j).toInt < j) :
    ∀ (n : Nat) (x6 x7 : Int32) (H : Heap) (locs : List Loc) (ls : Array Slot), (cnt p1 x7 n) → va_P (dC, dI) vwCl (ws_sm b h uR uW uA uM uX uF uI uS ut us ur ub uo ui ul uk uh) H → va_D A (ws_sm b h uR uW uA uM uX uF uI uS ut us ur ub uo ui ul uk uh) → va_S A s.heap H locs → lv_has ls 8 [(0, .ref (b 0)), (1, .int p1), (2, .int p2), (3, .int p3), (4, .int p4), (5, .int x5), (6, .int x6), (7, .int x7)] →
      (∀ (x6_o24 : Int32), sm_place_L24 uR uW uA uF uI uS p1 x5 n x6 x7 = x6_o24 → ∀ (H : Heap) (locs : List Loc) (ls : Array Slot), va_P (dC, dI) vwCl (ws_sm b h uR uW uA uM uX uF uI uS ut us ur ub uo ui ul uk uh) H → va_D A (ws_sm b h uR uW uA uM uX uF uI uS ut us ur ub uo ui ul uk uh) → va_S A s.heap H locs → lv_has ls 8 [(0, .ref (b 0)), (1, .int p1), (2, .int p2), (3, .int p3), (4, .int p4), (5, .int x5), (6, .int x6_o24)] → W p l e (headSpec wsX1_place ({ frames := 2, cells := 0, slots := 0, locals := 49 } : Room)).room s m args below meth c H locs 0 0 Q (F0 m 52 ls [])) →
      W p l e (headSpec wsX1_place ({ frames := 2, cells := 0, slots := 0, locals := 49 } : Room)).room s m args below meth c H locs 0 0 Q (F0 m 24 ls []) := by
  intro n
  induction n with
  | zero =>
    intro x6 x7 H locs ls hinv
    exact absurd hinv (cnt_z)
  | succ n ih =>
    intro x6 x7 H locs ls hinv hP hD hS hl k0
    refine lv_iload hx hb dX1_place_24 (lv_at hl 7 rfl) ?_
    refine lv_iload_n hx hb dX1_place_26 rfl (lv_at hl 1 rfl) ?_
    refine lv_icmp_ge (tgt := 52) hx hb dX1_place_27 (by decide) (fun c_27 => ?_) (fun c_27 => ?_)
    · exact k0 x6 (by rw [sm_place_L24_s]; rw [if_pos c_27]; (try rfl)) H locs ls hP hD hS (lv_sub hl [0, 1, 2, 3, 4, 5, 6] rfl)
    · refine lv_iload hx hb dX1_place_30 (lv_at hl 6 rfl) ?_
      refine lv_if_eq (tgt := 52) hx hb dX1_place_32 (by decide) (fun c_32 => ?_) (fun c_32 => ?_)
      · exact k0 x6 (by rw [sm_place_L24_s]; rw [if_neg c_27, if_pos c_32]; (try rfl)) H locs ls hP hD hS (lv_sub hl [0, 1, 2, 3, 4, 5, 6] rfl)
      · refine lv_aload_n hx hb dX1_place_35 rfl (lv_at hl 0 rfl) ?_
        refine lv_iload_n hx hb dX1_place_36 rfl (lv_at hl 1 rfl) ?_
        refine lv_iload hx hb dX1_place_37 (lv_at hl 7 rfl) ?_
        refine lv_iload hx hb dX1_place_39 (lv_at hl 5 rfl) ?_
        have hFc := va_free (wc := ws_sm b h uR uW uA uM uX uF uI uS ut us ur ub uo ui ul uk uh) hD hS hA [0, 1, 2, 3, 4, 5, 6, 7, 8] rfl
        refine va_calli (va_runV (As := [.int p1, .int x7, .int x5]) (rest := []) ⟨hx, hb, hml, hown, hg⟩ (cm_mayBe l dC dI b h H.size uR uW uA uM uX uF uI uS ut us ur ub uo ui ul uk uh p1 x7 x5 hs (cnt_rg48 hinv c_27 hs) hc) (cwV 3 hg (gi_V w_484 w_486 s_18 w_2 w_487) rfl rfl rfl (by decide +kernel) ⟨Nat.le_of_ble_eq_true rfl, Nat.le_of_ble_eq_true rfl⟩) ⟨pr_bl, va_recv hK hP (ci := 1) (q0 := 0) rfl rfl, pr_ok hK hP hD⟩ rfl rfl hl.1 rfl (lv_room (Nat.le_of_ble_eq_true rfl)) dX1_place_41 ⟨Nat.le_of_ble_eq_true rfl, Nat.le_of_ble_eq_true rfl⟩) hS (fun q _ h => hFc q h) hFc (fun r_41 u t H1 locs ht hvm hw_41 hB hz1 hk1 hS => ?_)
        subst hw_41
        obtain ⟨hP, hK1, hD1⟩ := hB
        rw [ht] at hP
        have hD := hD1.weaken (fun _ q _ h => hFc q.1 h)
        generalize H1 = H at hP hS ⊢
        have hP : va_P (dC, dI) vwCl (ws_sm b h uR uW uA uM uX uF uI uS ut us ur ub uo ui ul uk uh) H := hP
        have hD : va_D A (ws_sm b h uR uW uA uM uX uF uI uS ut us ur ub uo ui ul uk uh) := hD
        refine lv_istore (lv' := [(6, .int (sm_mayBe uR uW uA uF uI uS p1 x7 x5)), (0, .ref (b 0)), (1, .int p1), (2, .int p2), (3, .int p3), (4, .int p4), (5, .int x5), (7, .int x7)]) hx hb dX1_place_44 hl (by decide) rfl (fun ls hl => ?_)
        refine lv_iinc (v := x7 + 1) (lv' := [(7, .int (x7 + 1)), (6, .int (sm_mayBe uR uW uA uF uI uS p1 x7 x5)), (0, .ref (b 0)), (1, .int p1), (2, .int p2), (3, .int p3), (4, .int p4), (5, .int x5)]) hx hb dX1_place_46 hl (k := 7) rfl rfl (by decide) rfl (fun ls hl => ?_)
        refine lv_goto (tgt := 24) hx hb dX1_place_49 (by decide) ?_
        exact ih (sm_mayBe uR uW uA uF uI uS p1 x7 x5) (x7 + 1) H locs ls (cnt_s hinv c_27) hP hD hS (lv_sub hl [2, 3, 4, 5, 6, 7, 1, 0] rfl) (fun x6_o24 hw H locs ls hP hD hS hl => k0 x6_o24 (by rw [sm_place_L24_s]; rw [if_neg c_27, if_neg c_32]; exact hw) H locs ls hP hD hS hl)
set_option maxHeartbeats 4000000 in
set_option maxRecDepth 100000 in
theorem cm_place_L3 {p : Program} {l : Launch} {e : Env} {s : State} {m : MethodId} {args : Array Value} {below : List Frame} {meth : Method} {c : Code} {Q : State → Prop} {dC : Nat → ClassId} {dI : Nat → Nat → Nat} {b : Nat → Nat} {h : Nat → ClassId} {A : Nat → Prop} (uR uW uA uM uX uF uI uS : Nat → Int32) (ut us ur ub uo ui ul uk uh : Int32) (p1 p2 p3 p4 : Int32) (hx : p.tables.exec = Jvm.exec) (hb : c.code = cX1_place) (hml : c.maxLocals = 8) (hown : s.vm.findClass RX1 = some m.cls) (hg : ∀ w ∈ gw, w.before args s = true) (hA : ∀ q : Nat, s.heap.size ≤ q → A q) (hK : va_K (dC, dI) vwCl (ty_sm h) s) (hs : 0 ≤ p1.toInt ∧ p1.toInt < 48) (hc : ∀ j : Nat, j ≤ p1.toNatClampNeg → -1 ≤ (uI j).toInt ∧ (uI j).toInt < j) :
    ∀ (n : Nat) (x5 : Int32) (H : Heap) (locs : List Loc) (ls : Array Slot), (cnt p2 x5 n) → va_P (dC, dI) vwCl (ws_sm b h uR uW uA uM uX uF uI uS ut us ur ub uo ui ul uk uh) H → va_D A (ws_sm b h uR uW uA uM uX uF uI uS ut us ur ub uo ui ul uk uh) → va_S A s.heap H locs → lv_has ls 8 [(0, .ref (b 0)), (1, .int p1), (2, .int p2), (3, .int p3), (4, .int p4), (5, .int x5)] →
      (∀ (_ : Unit), sm_place_L3 uR uW uA uM uX uF uI uS p1 p2 p3 p4 n x5 = .inl () → ∀ (H : Heap) (locs : List Loc) (ls : Array Slot), va_P (dC, dI) vwCl (ws_sm b h uR uW uA uM uX uF uI uS ut us ur ub uo ui ul uk uh) H → va_D A (ws_sm b h uR uW uA uM uX uF uI uS ut us ur ub uo ui ul uk uh) → va_S A s.heap H locs → lv_has ls 8 [(0, .ref (b 0)), (1, .int p1), (2, .int p2), (3, .int p3), (4, .int p4)] → W p l e (headSpec wsX1_place ({ frames := 2, cells := 0, slots := 0, locals := 49 } : Room)).room s m args below meth c H locs 0 0 Q (F0 m 66 ls [])) →
      (∀ (r0_o3 : Int32), sm_place_L3 uR uW uA uM uX uF uI uS p1 p2 p3 p4 n x5 = .inr r0_o3 → ∀ (H : Heap) (locs : List Loc) (ls : Array Slot), va_P (dC, dI) vwCl (ws_sm b h uR uW uA uM uX uF uI uS ut us ur ub uo ui ul uk uh) H → va_D A (ws_sm b h uR uW uA uM uX uF uI uS ut us ur ub uo ui ul uk uh) → va_S A s.heap H locs → lv_has ls 8 [(0, .ref (b 0)), (1, .int p1), (2, .int p2), (3, .int p3), (4, .int p4)] → W p l e (headSpec wsX1_place ({ frames := 2, cells := 0, slots := 0, locals := 49 } : Room)).room s m args below meth c H locs 0 0 Q (F0 m 59 ls [.int r0_o3])) →
      W p l e (headSpec wsX1_place ({ frames := 2, cells := 0, slots := 0, locals := 49 } : Room)).room s m args below meth c H locs 0 0 Q (F0 m 3 ls []) := by
  intro n
  induction n with
  | zero =>
    intro x5 H locs ls hinv
    exact absurd hinv (cnt_z)
  | succ n ih =>
    intro x5 H locs ls hinv hP hD hS hl k0 k1
    refine lv_iload hx hb dX1_place_3 (lv_at hl 5 rfl) ?_
    refine lv_iload_n hx hb dX1_place_5 rfl (lv_at hl 2 rfl) ?_
    refine lv_icmp_ge (tgt := 66) hx hb dX1_place_6 (by decide) (fun c_6 => ?_) (fun c_6 => ?_)
    · exact k0 () (by rw [sm_place_L3_s]; rw [if_pos c_6]; (try rfl)) H locs ls hP hD hS (lv_sub hl [0, 1, 2, 3, 4] rfl)
    · refine lv_aload_n hx hb dX1_place_9 rfl (lv_at hl 0 rfl) ?_
      refine lv_iload_n hx hb dX1_place_10 rfl (lv_at hl 1 rfl) ?_
      refine lv_iload hx hb dX1_place_11 (lv_at hl 5 rfl) ?_
      refine lv_iload_n hx hb dX1_place_13 rfl (lv_at hl 3 rfl) ?_
      refine lv_iload hx hb dX1_place_14 (lv_at hl 4 rfl) ?_
      have hFc := va_free (wc := ws_sm b h uR uW uA uM uX uF uI uS ut us ur ub uo ui ul uk uh) hD hS hA [0, 1, 2, 3, 4, 5, 6, 7, 8] rfl
      refine va_calli (va_runV (As := [.int p1, .int x5, .int p3, .int p4]) (rest := []) ⟨hx, hb, hml, hown, hg⟩ (cm_hasRoom l dC dI b h H.size uR uW uA uM uX uF uI uS ut us ur ub uo ui ul uk uh p1 x5 p3 p4 hs) (cwV 4 hg (gi_V w_476 w_478 s_16 w_2 w_479) rfl rfl rfl (by decide +kernel) ⟨Nat.le_of_ble_eq_true rfl, Nat.le_of_ble_eq_true rfl⟩) ⟨pr_bl, va_recv hK hP (ci := 1) (q0 := 0) rfl rfl, pr_ok hK hP hD⟩ rfl rfl hl.1 rfl (lv_room (Nat.le_of_ble_eq_true rfl)) dX1_place_16 ⟨Nat.le_of_ble_eq_true rfl, Nat.le_of_ble_eq_true rfl⟩) hS (fun q _ h => hFc q h) hFc (fun r_16 u t H1 locs ht hvm hw_16 hB hz1 hk1 hS => ?_)
      subst hw_16
      obtain ⟨hP, hK1, hD1⟩ := hB
      rw [ht] at hP
      have hD := hD1.weaken (fun _ q _ h => hFc q.1 h)
      generalize H1 = H at hP hS ⊢
      have hP : va_P (dC, dI) vwCl (ws_sm b h uR uW uA uM uX uF uI uS ut us ur ub uo ui ul uk uh) H := hP
      have hD : va_D A (ws_sm b h uR uW uA uM uX uF uI uS ut us ur ub uo ui ul uk uh) := hD
      refine lv_istore (lv' := [(6, .int (sm_hasRoom uM uX uS p1 x5 p3 p4)), (0, .ref (b 0)), (1, .int p1), (2, .int p2), (3, .int p3), (4, .int p4), (5, .int x5)]) hx hb dX1_place_19 hl (by decide) rfl (fun ls hl => ?_)
      refine lv_iconst (v := 0) hx hb dX1_place_21 (by decide) ?_
      refine lv_istore (lv' := [(7, .int 0), (6, .int (sm_hasRoom uM uX uS p1 x5 p3 p4)), (0, .ref (b 0)), (1, .int p1), (2, .int p2), (3, .int p3), (4, .int p4), (5, .int x5)]) hx hb dX1_place_22 hl (by decide) rfl (fun ls hl => ?_)
      refine cm_place_L24 uR uW uA uM uX uF uI uS ut us ur ub uo ui ul uk uh p1 p2 p3 p4 x5 hx hb hml hown hg hA hK hs hc 49 (sm_hasRoom uM uX uS p1 x5 p3 p4) 0 H locs ls (cnt_0 hs.1 (by have := hs.2; omega)) hP hD hS (lv_sub hl [2, 3, 4, 5, 6, 7, 1, 0] rfl) (fun x6_o24 hw_24 H locs ls hP hD hS hl => ?_)
      refine lv_iload hx hb dX1_place_52 (lv_at hl 6 rfl) ?_
      refine lv_if_eq (tgt := 60) hx hb dX1_place_54 (by decide) (fun c_54 => ?_) (fun c_54 => ?_)
      · refine lv_iinc (v := x5 + 1) (lv' := [(5, .int (x5 + 1)), (0, .ref (b 0)), (1, .int p1), (2, .int p2), (3, .int p3), (4, .int p4), (6, .int x6_o24)]) hx hb dX1_place_60 hl (k := 5) rfl rfl (by decide) rfl (fun ls hl => ?_)
        refine lv_goto (tgt := 3) hx hb dX1_place_63 (by decide) ?_
        exact ih (x5 + 1) H locs ls (cnt_s hinv c_6) hP hD hS (lv_sub hl [1, 2, 3, 4, 5, 0] rfl) (fun _ hw H locs ls hP hD hS hl => k0 () (by rw [sm_place_L3_s]; rw [if_neg c_6, hw_24]; (try dsimp only); rw [if_pos c_54]; exact hw) H locs ls hP hD hS hl) (fun r0_o3 hw H locs ls hP hD hS hl => k1 r0_o3 (by rw [sm_place_L3_s]; rw [if_neg c_6, hw_24]; (try dsimp only); rw [if_pos c_54]; exact hw) H locs ls hP hD hS hl)
      · refine lv_iload hx hb dX1_place_57 (lv_at hl 5 rfl) ?_
        exact k1 x5 (by rw [sm_place_L3_s]; rw [if_neg c_6, hw_24]; (try dsimp only); rw [if_neg c_54]; (try rfl)) H locs ls hP hD hS (lv_sub hl [0, 1, 2, 3, 4] rfl)
set_option maxHeartbeats 4000000 in
set_option maxRecDepth 100000 in
theorem cm_place (l : Launch) (dC : Nat → ClassId) (dI : Nat → Nat → Nat) (b : Nat → Nat) (h : Nat → ClassId) (sz : Nat) (uR uW uA uM uX uF uI uS : Nat → Int32) (ut us ur ub uo ui ul uk uh : Int32) (p1 p2 p3 p4 : Int32) (hs : 0 ≤ p1.toInt ∧ p1.toInt < 48) (hc : ∀ j : Nat, j ≤ p1.toNatClampNeg → -1 ≤ (uI j).toInt ∧ (uI j).toInt < j) (h12 : 0 ≤ p2.toInt ∧ p2.toInt ≤ 12) : Met l yX1_place wsX1_place ({ frames := 2, cells := 0, slots := 0, locals := 49 } : Room) (va_Pc [.ref (b 0), .int p1, .int p2, .int p3, .int p4] (pr (dC, dI) (ws_sm b h uR uW uA uM uX uF uI uS ut us ur ub uo ui ul uk uh) (ty_sm h) sz)) (va_Qi (fun (r : Int32) (_ : Unit) => r = sm_place uR uW uA uM uX uF uI uS p1 p2 p3 p4) (fun (_ : Unit) t => po (dC, dI) (ws_sm b h uR uW uA uM uX uF uI uS ut us ur ub uo ui ul uk uh) (ty_sm h) (va_A (ws_sm b h uR uW uA uM uX uF uI uS ut us ur ub uo ui ul uk uh) sz) t) (va_A (ws_sm b h uR uW uA uM uX uF uI uS ut us ur ub uo ui ul uk uh) sz)) 0 0 (va_A (ws_sm b h uR uW uA uM uX uF uI uS ut us ur ub uo ui ul uk uh) sz) := by
  refine Met.ofW (cc := cX1_place) (maxL := 8) (ret := (some .int)) (by decide) rfl ?_
  intro p e s m args below meth c s₁ B hml hv
  obtain ⟨rfl, hsz, hP, hK, hD0⟩ := hv
  have hx := B.exec
  have hb := B.bytes
  have hr := B.returns
  have hts := atoms_spec (ws := wsX1_place) B.pre
  have hg : ∀ w ∈ gw, w.before _ s = true := fun w h => hts w (List.mem_cons_of_mem _ h)
  have hown : s.vm.findClass RX1 = some m.cls := findClass_of_methodNamed B.named
  have hlocks := B.notSynchronized
  subst hsz
  have hD := hD0.self (sz := s.heap.size)
  generalize hAe : va_A (ws_sm b h uR uW uA uM uX uF uI uS ut us ur ub uo ui ul uk uh) s.heap.size = A at hD ⊢
  have hA : ∀ q : Nat, s.heap.size ≤ q → A q := fun q h => by rw [← hAe]; exact Or.inr h
  clear hAe
  refine w_in (fun H locs eH eL => ?_)
  have hS : va_S A s.heap H locs := by rw [eH, eL]; exact va_S.rf
  have hP : va_P (dC, dI) vwCl (ws_sm b h uR uW uA uM uX uF uI uS ut us ur ub uo ui ul uk uh) H := by rw [eH]; exact hP
  clear eH eL
  have hl := lv_entry ([.ref (b 0), .int p1, .int p2, .int p3, .int p4]) (n := 8) (Nat.le_of_ble_eq_true rfl)
  rw [lg_entry_eq]
  generalize (lg_sl ([.ref (b 0), .int p1, .int p2, .int p3, .int p4]) ++ List.replicate (8 - (lg_sl ([.ref (b 0), .int p1, .int p2, .int p3, .int p4])).length) Slot.unset).toArray = ls at hl ⊢
  have hl : lv_has ls 8 [(0, .ref (b 0)), (1, .int p1), (2, .int p2), (3, .int p3), (4, .int p4)] := hl
  refine lv_iconst (v := 0) hx hb dX1_place_0 (by decide) ?_
  refine lv_istore (lv' := [(5, .int 0), (0, .ref (b 0)), (1, .int p1), (2, .int p2), (3, .int p3), (4, .int p4)]) hx hb dX1_place_1 hl (by decide) rfl (fun ls hl => ?_)
  refine cm_place_L3 uR uW uA uM uX uF uI uS ut us ur ub uo ui ul uk uh p1 p2 p3 p4 hx hb hml hown hg hA hK hs hc 13 0 H locs ls (cnt_0 h12.1 (by have := h12.2; omega)) hP hD hS (lv_sub hl [1, 2, 3, 4, 5, 0] rfl) (fun _ hw_3 H locs ls hP hD hS hl => ?_) (fun r0_o3 hw_3 H locs ls hP hD hS hl => ?_)
  · refine lv_iconst (v := (-1)) hx hb dX1_place_66 (by decide) ?_
    have hw : (-1) = sm_place uR uW uA uM uX uF uI uS p1 p2 p3 p4 := by unfold sm_place; rw [hw_3]; (try dsimp only); (try rfl)
    exact W.iret (v := (-1)) hx hb hr (fun t ht hW => ⟨⟨(-1), (), rfl, hw, ⟨by rw [ht]; exact hP, va_K.moved hW.alike hK, hD⟩⟩, hS.F ht⟩) hS.2.2 dX1_place_67
  · have hw : r0_o3 = sm_place uR uW uA uM uX uF uI uS p1 p2 p3 p4 := by unfold sm_place; rw [hw_3]; (try dsimp only); (try rfl)
    exact W.iret (v := r0_o3) hx hb hr (fun t ht hW => ⟨⟨r0_o3, (), rfl, hw, ⟨by rw [ht]; exact hP, va_K.moved hW.alike hK, hD⟩⟩, hS.F ht⟩) hS.2.2 dX1_place_59
set_option maxHeartbeats 4000000 in
set_option maxRecDepth 100000 in
theorem cm_lay_L55 {p : Program} {l : Launch} {e : Env} {s : State} {m : MethodId} {args : Array Value} {below : List Frame} {meth : Method} {c : Code} {Q : State → Prop} {dC : Nat → ClassId} {dI : Nat → Nat → Nat} {b : Nat → Nat} {h : Nat → ClassId} {A : Nat → Prop} (uR uW uA uM uX uF uI uS : Nat → Int32) (ut us ur ub uo ui ul uk uh : Int32) (p1 p2 p3 : Int32) (hx : p.tables.exec = Jvm.exec) (hb : c.code = cX1_lay) (hml : c.maxLocals = 5) (hown : s.vm.findClass RX1 = some m.cls) (hg : ∀ w ∈ gw, w.before args s = true) (hA : ∀ q : Nat, s.heap.size ≤ q → A q) (hK : va_K (dC, dI) vwCl (ty_sm h) s) (hu : 0 ≤ us.toInt ∧ us.toInt ≤ 48) (hc : ∀ j : Nat, j < us.toNatClampNeg → -1 ≤ (uI j).toInt ∧ (uI j).toInt < j) (h12 : 1 ≤ p1.toInt ∧ p1.toInt ≤ 12) :
    ∀ (n : Nat) (x4 : Int32) (uS : Nat → Int32) (uk uh : Int32) (H : Heap) (locs : List Loc) (ls : Array Slot), (cnt us x4 n) → va_P (dC, dI) vwCl (ws_sm b h uR uW uA uM uX uF uI uS ut us ur ub uo ui ul uk uh) H → va_D A (ws_sm b h uR uW uA uM uX uF uI uS ut us ur ub uo ui ul uk uh) → va_S A s.heap H locs → lv_has ls 5 [(0, .ref (b 0)), (1, .int p1), (2, .int p2), (3, .int p3), (4, .int x4)] →
      (∀ (uS_o55 : Nat → Int32) (uk_o55 uh_o55 : Int32), sm_lay_L55 uR uW uA uM uX uF uI us p1 p2 p3 n x4 uS uk uh = .inl (uS_o55, uk_o55, uh_o55) → ∀ (H : Heap) (locs : List Loc) (ls : Array Slot), va_P (dC, dI) vwCl (ws_sm b h uR uW uA uM uX uF uI uS_o55 ut us ur ub uo ui ul uk_o55 uh_o55) H → va_D A (ws_sm b h uR uW uA uM uX uF uI uS_o55 ut us ur ub uo ui ul uk_o55 uh_o55) → va_S A s.heap H locs → lv_has ls 5 [(0, .ref (b 0)), (1, .int p1), (2, .int p2), (3, .int p3)] → W p l e (headSpec wsX1_lay ({ frames := 3, cells := 0, slots := 0, locals := 76 } : Room)).room s m args below meth c H locs 0 0 Q (F0 m 141 ls [])) →
      (∀ (r0_o55 : Int32) (uS_o55 : Nat → Int32) (uk_o55 uh_o55 : Int32), sm_lay_L55 uR uW uA uM uX uF uI us p1 p2 p3 n x4 uS uk uh = .inr (r0_o55, uS_o55, uk_o55, uh_o55) → ∀ (H : Heap) (locs : List Loc) (ls : Array Slot), va_P (dC, dI) vwCl (ws_sm b h uR uW uA uM uX uF uI uS_o55 ut us ur ub uo ui ul uk_o55 uh_o55) H → va_D A (ws_sm b h uR uW uA uM uX uF uI uS_o55 ut us ur ub uo ui ul uk_o55 uh_o55) → va_S A s.heap H locs → lv_has ls 5 [(0, .ref (b 0)), (1, .int p1), (2, .int p2), (3, .int p3)] → W p l e (headSpec wsX1_lay ({ frames := 3, cells := 0, slots := 0, locals := 76 } : Room)).room s m args below meth c H locs 0 0 Q (F0 m 98 ls [.int r0_o55])) →
      W p l e (headSpec wsX1_lay ({ frames := 3, cells := 0, slots := 0, locals := 76 } : Room)).room s m args below meth c H locs 0 0 Q (F0 m 55 ls []) := by
  intro n
  induction n with
  | zero =>
    intro x4 uS uk uh H locs ls hinv
    exact absurd hinv (cnt_z)
  | succ n ih =>
    intro x4 uS uk uh H locs ls hinv hP hD hS hl k0 k1
    refine lv_iload hx hb dX1_lay_55 (lv_at hl 4 rfl) ?_
    refine lv_aload_n hx hb dX1_lay_57 rfl (lv_at hl 0 rfl) ?_
    refine va_get (D := (dC, dI)) (ci := 1) (v := .int us) (C := RX1) (T := TX1) (N := 17) hx hb hg inX1 hown hK hP 0 rfl rfl 1 (by decide) (hg _ w_347) (fun _ h9 => h9) rfl dX1_lay_58 ?_
    refine lv_icmp_ge (tgt := 141) hx hb dX1_lay_61 (by decide) (fun c_61 => ?_) (fun c_61 => ?_)
    · exact k0 uS uk uh (by rw [sm_lay_L55_s]; rw [if_pos c_61]; (try rfl)) H locs ls hP hD hS (lv_sub hl [0, 1, 2, 3] rfl)
    · refine lv_aload_n hx hb dX1_lay_64 rfl (lv_at hl 0 rfl) ?_
      refine va_get (D := (dC, dI)) (ci := 1) (v := .ref (b 8)) (C := RX1) (T := TX1) (N := 17) hx hb hg inX1 hown hK hP 0 rfl rfl 13 (by decide) (hg _ w_359) (fun _ h9 => h9) rfl dX1_lay_65 ?_
      refine lv_iload hx hb dX1_lay_68 (lv_at hl 4 rfl) ?_
      refine lv_aload_n hx hb dX1_lay_70 rfl (lv_at hl 0 rfl) ?_
      refine lv_iload hx hb dX1_lay_71 (lv_at hl 4 rfl) ?_
      refine lv_iload_n hx hb dX1_lay_73 rfl (lv_at hl 1 rfl) ?_
      refine lv_iload_n hx hb dX1_lay_74 rfl (lv_at hl 2 rfl) ?_
      refine lv_iload_n hx hb dX1_lay_75 rfl (lv_at hl 3 rfl) ?_
      have hFc := va_free (wc := ws_sm b h uR uW uA uM uX uF uI uS ut us ur ub uo ui ul uk uh) hD hS hA [0, 1, 2, 3, 4, 5, 6, 7, 8] rfl
      refine va_calli (va_runV (As := [.int x4, .int p1, .int p2, .int p3]) (rest := [.int x4, .ref (b 8)]) ⟨hx, hb, hml, hown, hg⟩ (cm_place l dC dI b h H.size uR uW uA uM uX uF uI uS ut us ur ub uo ui ul uk uh x4 p1 p2 p3 (cnt_us hinv c_61 hu) (ch_us hinv c_61 hc) (⟨by have := h12.1; omega, h12.2⟩)) (cwV 4 hg (gi_V w_472 w_474 s_15 w_2 w_475) rfl rfl rfl (by decide +kernel) ⟨Nat.le_of_ble_eq_true rfl, Nat.le_of_ble_eq_true rfl⟩) ⟨pr_bl, va_recv hK hP (ci := 1) (q0 := 0) rfl rfl, pr_ok hK hP hD⟩ rfl rfl hl.1 rfl (lv_room (Nat.le_of_ble_eq_true rfl)) dX1_lay_76 ⟨Nat.le_of_ble_eq_true rfl, Nat.le_of_ble_eq_true rfl⟩) hS (fun q _ h => hFc q h) hFc (fun r_76 u t H1 locs ht hvm hw_76 hB hz1 hk1 hS => ?_)
      subst hw_76
      obtain ⟨hP, hK1, hD1⟩ := hB
      rw [ht] at hP
      have hD := hD1.weaken (fun _ q _ h => hFc q.1 h)
      generalize H1 = H at hP hS ⊢
      have hP : va_P (dC, dI) vwCl (ws_sm b h uR uW uA uM uX uF uI uS ut us ur ub uo ui ul uk uh) H := hP
      have hD : va_D A (ws_sm b h uR uW uA uM uX uF uI uS ut us ur ub uo ui ul uk uh) := hD
      refine va_iast hx hb hK hP hD hS 8 7 rfl rfl (cnt_in hinv c_61 hu.2) dX1_lay_79 (fun H locs hP hD hS => ?_)
      have hP : va_P (dC, dI) vwCl (ws_sm b h uR uW uA uM uX uF uI (upd uS x4.toNatClampNeg (sm_place uR uW uA uM uX uF uI uS x4 p1 p2 p3)) ut us ur ub uo ui ul uk uh) H := hP
      have hD : va_D A (ws_sm b h uR uW uA uM uX uF uI (upd uS x4.toNatClampNeg (sm_place uR uW uA uM uX uF uI uS x4 p1 p2 p3)) ut us ur ub uo ui ul uk uh) := hD
      refine lv_aload_n hx hb dX1_lay_80 rfl (lv_at hl 0 rfl) ?_
      refine va_get (D := (dC, dI)) (ci := 1) (v := .ref (b 8)) (C := RX1) (T := TX1) (N := 17) hx hb hg inX1 hown hK hP 0 rfl rfl 13 (by decide) (hg _ w_359) (fun _ h9 => h9) rfl dX1_lay_81 ?_
      refine lv_iload hx hb dX1_lay_84 (lv_at hl 4 rfl) ?_
      refine va_iald hx hb hK hP 8 7 rfl rfl (cnt_in hinv c_61 hu.2) dX1_lay_86 ?_
      refine lv_iconst (v := (-1)) hx hb dX1_lay_87 (by decide) ?_
      refine lv_icmp_ne (tgt := 99) hx hb dX1_lay_88 (by decide) (fun c_88 => ?_) (fun c_88 => ?_)
      · refine lv_aload_n hx hb dX1_lay_99 rfl (lv_at hl 0 rfl) ?_
        refine lv_aload_n hx hb dX1_lay_100 rfl (lv_at hl 0 rfl) ?_
        refine va_get (D := (dC, dI)) (ci := 1) (v := .ref (b 8)) (C := RX1) (T := TX1) (N := 17) hx hb hg inX1 hown hK hP 0 rfl rfl 13 (by decide) (hg _ w_359) (fun _ h9 => h9) rfl dX1_lay_101 ?_
        refine lv_iload hx hb dX1_lay_104 (lv_at hl 4 rfl) ?_
        refine va_iald hx hb hK hP 8 7 rfl rfl (cnt_in hinv c_61 hu.2) dX1_lay_106 ?_
        refine lv_iconst (v := 1) hx hb dX1_lay_107 (by decide) ?_
        refine lv_iadd hx hb dX1_lay_108 ?_
        refine lv_aload_n hx hb dX1_lay_109 rfl (lv_at hl 0 rfl) ?_
        refine va_get (D := (dC, dI)) (ci := 1) (v := .int uk) (C := RX1) (T := TX1) (N := 17) hx hb hg inX1 hown hK hP 0 rfl rfl 15 (by decide) (hg _ w_361) (fun _ h9 => h9) rfl dX1_lay_110 ?_
        refine lv_icmp_le (tgt := 128) hx hb dX1_lay_113 (by decide) (fun c_113 => ?_) (fun c_113 => ?_)
        · refine lv_aload_n hx hb dX1_lay_128 rfl (lv_at hl 0 rfl) ?_
          refine va_get (D := (dC, dI)) (ci := 1) (v := .int uk) (C := RX1) (T := TX1) (N := 17) hx hb hg inX1 hown hK hP 0 rfl rfl 15 (by decide) (hg _ w_361) (fun _ h9 => h9) rfl dX1_lay_129 ?_
          refine va_put (D := (dC, dI)) (ci := 1) (v := .int uk) (ty := .int) (C := RX1) (T := TX1) (N := 17) hx hb hg inX1 tyX1 tyX1_ok nmX1 hown hK hP hD hS 0 rfl rfl 15 (by decide) (hg _ w_361) (fun _ h9 => h9) rfl (by decide +kernel) rfl rfl (Nat.le_of_ble_eq_true rfl) dX1_lay_132 (fun H locs hP hD hS => ?_)
          have hP : va_P (dC, dI) vwCl (ws_sm b h uR uW uA uM uX uF uI (upd uS x4.toNatClampNeg (sm_place uR uW uA uM uX uF uI uS x4 p1 p2 p3)) ut us ur ub uo ui ul uk uh) H := hP
          have hD : va_D A (ws_sm b h uR uW uA uM uX uF uI (upd uS x4.toNatClampNeg (sm_place uR uW uA uM uX uF uI uS x4 p1 p2 p3)) ut us ur ub uo ui ul uk uh) := hD
          refine lv_iinc (v := x4 + 1) (lv' := [(4, .int (x4 + 1)), (0, .ref (b 0)), (1, .int p1), (2, .int p2), (3, .int p3)]) hx hb dX1_lay_135 hl (k := 4) rfl rfl (by decide) rfl (fun ls hl => ?_)
          refine lv_goto (tgt := 55) hx hb dX1_lay_138 (by decide) ?_
          exact ih (x4 + 1) (upd uS x4.toNatClampNeg (sm_place uR uW uA uM uX uF uI uS x4 p1 p2 p3)) uk uh H locs ls (cnt_s hinv c_61) hP hD hS (lv_sub hl [1, 2, 3, 4, 0] rfl) (fun uS_o55 uk_o55 uh_o55 hw H locs ls hP hD hS hl => k0 uS_o55 uk_o55 uh_o55 (by rw [sm_lay_L55_s]; rw [if_neg c_61, if_neg c_88, if_pos c_113]; exact hw) H locs ls hP hD hS hl) (fun r0_o55 uS_o55 uk_o55 uh_o55 hw H locs ls hP hD hS hl => k1 r0_o55 uS_o55 uk_o55 uh_o55 (by rw [sm_lay_L55_s]; rw [if_neg c_61, if_neg c_88, if_pos c_113]; exact hw) H locs ls hP hD hS hl)
        · refine lv_aload_n hx hb dX1_lay_116 rfl (lv_at hl 0 rfl) ?_
          refine va_get (D := (dC, dI)) (ci := 1) (v := .ref (b 8)) (C := RX1) (T := TX1) (N := 17) hx hb hg inX1 hown hK hP 0 rfl rfl 13 (by decide) (hg _ w_359) (fun _ h9 => h9) rfl dX1_lay_117 ?_
          refine lv_iload hx hb dX1_lay_120 (lv_at hl 4 rfl) ?_
          refine va_iald hx hb hK hP 8 7 rfl rfl (cnt_in hinv c_61 hu.2) dX1_lay_122 ?_
          refine lv_iconst (v := 1) hx hb dX1_lay_123 (by decide) ?_
          refine lv_iadd hx hb dX1_lay_124 ?_
          refine lv_goto (tgt := 132) hx hb dX1_lay_125 (by decide) ?_
          refine va_put (D := (dC, dI)) (ci := 1) (v := .int (((upd uS x4.toNatClampNeg (sm_place uR uW uA uM uX uF uI uS x4 p1 p2 p3)) x4.toNatClampNeg) + 1)) (ty := .int) (C := RX1) (T := TX1) (N := 17) hx hb hg inX1 tyX1 tyX1_ok nmX1 hown hK hP hD hS 0 rfl rfl 15 (by decide) (hg _ w_361) (fun _ h9 => h9) rfl (by decide +kernel) rfl rfl (Nat.le_of_ble_eq_true rfl) dX1_lay_132 (fun H locs hP hD hS => ?_)
          have hP : va_P (dC, dI) vwCl (ws_sm b h uR uW uA uM uX uF uI (upd uS x4.toNatClampNeg (sm_place uR uW uA uM uX uF uI uS x4 p1 p2 p3)) ut us ur ub uo ui ul (((upd uS x4.toNatClampNeg (sm_place uR uW uA uM uX uF uI uS x4 p1 p2 p3)) x4.toNatClampNeg) + 1) uh) H := hP
          have hD : va_D A (ws_sm b h uR uW uA uM uX uF uI (upd uS x4.toNatClampNeg (sm_place uR uW uA uM uX uF uI uS x4 p1 p2 p3)) ut us ur ub uo ui ul (((upd uS x4.toNatClampNeg (sm_place uR uW uA uM uX uF uI uS x4 p1 p2 p3)) x4.toNatClampNeg) + 1) uh) := hD
          refine lv_iinc (v := x4 + 1) (lv' := [(4, .int (x4 + 1)), (0, .ref (b 0)), (1, .int p1), (2, .int p2), (3, .int p3)]) hx hb dX1_lay_135 hl (k := 4) rfl rfl (by decide) rfl (fun ls hl => ?_)
          refine lv_goto (tgt := 55) hx hb dX1_lay_138 (by decide) ?_
          exact ih (x4 + 1) (upd uS x4.toNatClampNeg (sm_place uR uW uA uM uX uF uI uS x4 p1 p2 p3)) (((upd uS x4.toNatClampNeg (sm_place uR uW uA uM uX uF uI uS x4 p1 p2 p3)) x4.toNatClampNeg) + 1) uh H locs ls (cnt_s hinv c_61) hP hD hS (lv_sub hl [1, 2, 3, 4, 0] rfl) (fun uS_o55 uk_o55 uh_o55 hw H locs ls hP hD hS hl => k0 uS_o55 uk_o55 uh_o55 (by rw [sm_lay_L55_s]; rw [if_neg c_61, if_neg c_88, if_neg c_113]; exact hw) H locs ls hP hD hS hl) (fun r0_o55 uS_o55 uk_o55 uh_o55 hw H locs ls hP hD hS hl => k1 r0_o55 uS_o55 uk_o55 uh_o55 (by rw [sm_lay_L55_s]; rw [if_neg c_61, if_neg c_88, if_neg c_113]; exact hw) H locs ls hP hD hS hl)
      · refine lv_aload_n hx hb dX1_lay_91 rfl (lv_at hl 0 rfl) ?_
        refine lv_iload hx hb dX1_lay_92 (lv_at hl 4 rfl) ?_
        refine va_put (D := (dC, dI)) (ci := 1) (v := .int x4) (ty := .int) (C := RX1) (T := TX1) (N := 17) hx hb hg inX1 tyX1 tyX1_ok nmX1 hown hK hP hD hS 0 rfl rfl 16 (by decide) (hg _ w_362) (fun _ h9 => h9) rfl (by decide +kernel) rfl rfl (Nat.le_of_ble_eq_true rfl) dX1_lay_94 (fun H locs hP hD hS => ?_)
        have hP : va_P (dC, dI) vwCl (ws_sm b h uR uW uA uM uX uF uI (upd uS x4.toNatClampNeg (sm_place uR uW uA uM uX uF uI uS x4 p1 p2 p3)) ut us ur ub uo ui ul uk x4) H := hP
        have hD : va_D A (ws_sm b h uR uW uA uM uX uF uI (upd uS x4.toNatClampNeg (sm_place uR uW uA uM uX uF uI uS x4 p1 p2 p3)) ut us ur ub uo ui ul uk x4) := hD
        refine lv_iconst (v := (-1)) hx hb dX1_lay_97 (by decide) ?_
        exact k1 (-1) (upd uS x4.toNatClampNeg (sm_place uR uW uA uM uX uF uI uS x4 p1 p2 p3)) uk x4 (by rw [sm_lay_L55_s]; rw [if_neg c_61, if_pos c_88]; (try rfl)) H locs ls hP hD hS (lv_sub hl [0, 1, 2, 3] rfl)
set_option maxHeartbeats 4000000 in
set_option maxRecDepth 100000 in
theorem cm_lay (l : Launch) (dC : Nat → ClassId) (dI : Nat → Nat → Nat) (b : Nat → Nat) (h : Nat → ClassId) (sz : Nat) (uR uW uA uM uX uF uI uS : Nat → Int32) (ut us ur ub uo ui ul uk uh : Int32) (p1 p2 p3 : Int32) (hu : 0 ≤ us.toInt ∧ us.toInt ≤ 48) (hc : ∀ j : Nat, j < us.toNatClampNeg → -1 ≤ (uI j).toInt ∧ (uI j).toInt < j) : Met l yX1_lay wsX1_lay ({ frames := 3, cells := 0, slots := 0, locals := 76 } : Room) (va_Pc [.ref (b 0), .int p1, .int p2, .int p3] (pr (dC, dI) (ws_sm b h uR uW uA uM uX uF uI uS ut us ur ub uo ui ul uk uh) (ty_sm h) sz)) (va_Qi (fun (r : Int32) (u : (Nat → Int32) × Int32 × Int32 × Int32 × Int32) => sm_lay uR uW uA uM uX uF uI uS us ul uk uh p1 p2 p3 = (r, u)) (fun (u : (Nat → Int32) × Int32 × Int32 × Int32 × Int32) t => match u with | (uS', ut', ul', uk', uh') => po (dC, dI) (ws_sm b h uR uW uA uM uX uF uI uS' ut' us ur ub uo ui ul' uk' uh') (ty_sm h) (va_A (ws_sm b h uR uW uA uM uX uF uI uS ut us ur ub uo ui ul uk uh) sz) t) (va_A (ws_sm b h uR uW uA uM uX uF uI uS ut us ur ub uo ui ul uk uh) sz)) 0 0 (va_A (ws_sm b h uR uW uA uM uX uF uI uS ut us ur ub uo ui ul uk uh) sz) := by
  refine Met.ofW (cc := cX1_lay) (maxL := 5) (ret := (some .int)) (by decide) rfl ?_
  intro p e s m args below meth c s₁ B hml hv
  obtain ⟨rfl, hsz, hP, hK, hD0⟩ := hv
  have hx := B.exec
  have hb := B.bytes
  have hr := B.returns
  have hts := atoms_spec (ws := wsX1_lay) B.pre
  have hg : ∀ w ∈ gw, w.before _ s = true := fun w h => hts w (List.mem_cons_of_mem _ h)
  have hown : s.vm.findClass RX1 = some m.cls := findClass_of_methodNamed B.named
  have hlocks := B.notSynchronized
  subst hsz
  have hD := hD0.self (sz := s.heap.size)
  generalize hAe : va_A (ws_sm b h uR uW uA uM uX uF uI uS ut us ur ub uo ui ul uk uh) s.heap.size = A at hD ⊢
  have hA : ∀ q : Nat, s.heap.size ≤ q → A q := fun q h => by rw [← hAe]; exact Or.inr h
  clear hAe
  refine w_in (fun H locs eH eL => ?_)
  have hS : va_S A s.heap H locs := by rw [eH, eL]; exact va_S.rf
  have hP : va_P (dC, dI) vwCl (ws_sm b h uR uW uA uM uX uF uI uS ut us ur ub uo ui ul uk uh) H := by rw [eH]; exact hP
  clear eH eL
  have hl := lv_entry ([.ref (b 0), .int p1, .int p2, .int p3]) (n := 5) (Nat.le_of_ble_eq_true rfl)
  rw [lg_entry_eq]
  generalize (lg_sl ([.ref (b 0), .int p1, .int p2, .int p3]) ++ List.replicate (5 - (lg_sl ([.ref (b 0), .int p1, .int p2, .int p3])).length) Slot.unset).toArray = ls at hl ⊢
  have hl : lv_has ls 5 [(0, .ref (b 0)), (1, .int p1), (2, .int p2), (3, .int p3)] := hl
  refine lv_aload_n hx hb dX1_lay_0 rfl (lv_at hl 0 rfl) ?_
  refine lv_iload_n hx hb dX1_lay_1 rfl (lv_at hl 1 rfl) ?_
  refine lv_iconst (v := 1) hx hb dX1_lay_2 (by decide) ?_
  refine lv_icmp_lt (tgt := 20) hx hb dX1_lay_3 (by decide) (fun c_3 => ?_) (fun c_3 => ?_)
  · refine lv_iconst (v := 1) hx hb dX1_lay_20 (by decide) ?_
    refine lv_goto (tgt := 25) hx hb dX1_lay_21 (by decide) ?_
    refine va_put (D := (dC, dI)) (ci := 1) (v := .int 1) (ty := .int) (C := RX1) (T := TX1) (N := 17) hx hb hg inX1 tyX1 tyX1_ok nmX1 hown hK hP hD hS 0 rfl rfl 0 (by decide) (hg _ w_346) (fun _ h9 => h9) rfl (by decide +kernel) rfl rfl (Nat.le_of_ble_eq_true rfl) dX1_lay_25 (fun H locs hP hD hS => ?_)
    have hP : va_P (dC, dI) vwCl (ws_sm b h uR uW uA uM uX uF uI uS 1 us ur ub uo ui ul uk uh) H := hP
    have hD : va_D A (ws_sm b h uR uW uA uM uX uF uI uS 1 us ur ub uo ui ul uk uh) := hD
    refine lv_aload_n hx hb dX1_lay_28 rfl (lv_at hl 0 rfl) ?_
    refine va_get (D := (dC, dI)) (ci := 1) (v := .int 1) (C := RX1) (T := TX1) (N := 17) hx hb hg inX1 hown hK hP 0 rfl rfl 0 (by decide) (hg _ w_346) (fun _ h9 => h9) rfl dX1_lay_29 ?_
    refine lv_if_le (tgt := 37) hx hb dX1_lay_32 (by decide) (fun c_32 => ?_) (fun c_32 => ?_)
    · exact absurd c_32 (by decide)
    · refine lv_iconst (v := 0) hx hb dX1_lay_35 (by decide) ?_
      have hw : sm_lay uR uW uA uM uX uF uI uS us ul uk uh p1 p2 p3 = (0, uS, 1, ul, uk, uh) := by unfold sm_lay; rw [if_pos c_3]; (try rfl)
      exact W.iret (v := 0) hx hb hr (fun t ht hW => ⟨⟨0, (uS, 1, ul, uk, uh), rfl, hw, ⟨by rw [ht]; exact hP, va_K.moved hW.alike hK, hD⟩⟩, hS.F ht⟩) hS.2.2 dX1_lay_36
  · refine lv_iload_n hx hb dX1_lay_6 rfl (lv_at hl 1 rfl) ?_
    refine lv_bipush (v := 12) hx hb dX1_lay_7 (by decide) ?_
    refine lv_icmp_gt (tgt := 20) hx hb dX1_lay_9 (by decide) (fun c_9 => ?_) (fun c_9 => ?_)
    · refine lv_iconst (v := 1) hx hb dX1_lay_20 (by decide) ?_
      refine lv_goto (tgt := 25) hx hb dX1_lay_21 (by decide) ?_
      refine va_put (D := (dC, dI)) (ci := 1) (v := .int 1) (ty := .int) (C := RX1) (T := TX1) (N := 17) hx hb hg inX1 tyX1 tyX1_ok nmX1 hown hK hP hD hS 0 rfl rfl 0 (by decide) (hg _ w_346) (fun _ h9 => h9) rfl (by decide +kernel) rfl rfl (Nat.le_of_ble_eq_true rfl) dX1_lay_25 (fun H locs hP hD hS => ?_)
      have hP : va_P (dC, dI) vwCl (ws_sm b h uR uW uA uM uX uF uI uS 1 us ur ub uo ui ul uk uh) H := hP
      have hD : va_D A (ws_sm b h uR uW uA uM uX uF uI uS 1 us ur ub uo ui ul uk uh) := hD
      refine lv_aload_n hx hb dX1_lay_28 rfl (lv_at hl 0 rfl) ?_
      refine va_get (D := (dC, dI)) (ci := 1) (v := .int 1) (C := RX1) (T := TX1) (N := 17) hx hb hg inX1 hown hK hP 0 rfl rfl 0 (by decide) (hg _ w_346) (fun _ h9 => h9) rfl dX1_lay_29 ?_
      refine lv_if_le (tgt := 37) hx hb dX1_lay_32 (by decide) (fun c_32 => ?_) (fun c_32 => ?_)
      · exact absurd c_32 (by decide)
      · refine lv_iconst (v := 0) hx hb dX1_lay_35 (by decide) ?_
        have hw : sm_lay uR uW uA uM uX uF uI uS us ul uk uh p1 p2 p3 = (0, uS, 1, ul, uk, uh) := by unfold sm_lay; rw [if_neg c_3, if_pos c_9]; (try rfl)
        exact W.iret (v := 0) hx hb hr (fun t ht hW => ⟨⟨0, (uS, 1, ul, uk, uh), rfl, hw, ⟨by rw [ht]; exact hP, va_K.moved hW.alike hK, hD⟩⟩, hS.F ht⟩) hS.2.2 dX1_lay_36
    · refine lv_iload_n hx hb dX1_lay_12 rfl (lv_at hl 2 rfl) ?_
      refine lv_if_lt (tgt := 20) hx hb dX1_lay_13 (by decide) (fun c_13 => ?_) (fun c_13 => ?_)
      · refine lv_iconst (v := 1) hx hb dX1_lay_20 (by decide) ?_
        refine lv_goto (tgt := 25) hx hb dX1_lay_21 (by decide) ?_
        refine va_put (D := (dC, dI)) (ci := 1) (v := .int 1) (ty := .int) (C := RX1) (T := TX1) (N := 17) hx hb hg inX1 tyX1 tyX1_ok nmX1 hown hK hP hD hS 0 rfl rfl 0 (by decide) (hg _ w_346) (fun _ h9 => h9) rfl (by decide +kernel) rfl rfl (Nat.le_of_ble_eq_true rfl) dX1_lay_25 (fun H locs hP hD hS => ?_)
        have hP : va_P (dC, dI) vwCl (ws_sm b h uR uW uA uM uX uF uI uS 1 us ur ub uo ui ul uk uh) H := hP
        have hD : va_D A (ws_sm b h uR uW uA uM uX uF uI uS 1 us ur ub uo ui ul uk uh) := hD
        refine lv_aload_n hx hb dX1_lay_28 rfl (lv_at hl 0 rfl) ?_
        refine va_get (D := (dC, dI)) (ci := 1) (v := .int 1) (C := RX1) (T := TX1) (N := 17) hx hb hg inX1 hown hK hP 0 rfl rfl 0 (by decide) (hg _ w_346) (fun _ h9 => h9) rfl dX1_lay_29 ?_
        refine lv_if_le (tgt := 37) hx hb dX1_lay_32 (by decide) (fun c_32 => ?_) (fun c_32 => ?_)
        · exact absurd c_32 (by decide)
        · refine lv_iconst (v := 0) hx hb dX1_lay_35 (by decide) ?_
          have hw : sm_lay uR uW uA uM uX uF uI uS us ul uk uh p1 p2 p3 = (0, uS, 1, ul, uk, uh) := by unfold sm_lay; rw [if_neg c_3, if_neg c_9, if_pos c_13]; (try rfl)
          exact W.iret (v := 0) hx hb hr (fun t ht hW => ⟨⟨0, (uS, 1, ul, uk, uh), rfl, hw, ⟨by rw [ht]; exact hP, va_K.moved hW.alike hK, hD⟩⟩, hS.F ht⟩) hS.2.2 dX1_lay_36
      · refine lv_iload_n hx hb dX1_lay_16 rfl (lv_at hl 3 rfl) ?_
        refine lv_if_ge (tgt := 24) hx hb dX1_lay_17 (by decide) (fun c_17 => ?_) (fun c_17 => ?_)
        · refine lv_iconst (v := 0) hx hb dX1_lay_24 (by decide) ?_
          refine va_put (D := (dC, dI)) (ci := 1) (v := .int 0) (ty := .int) (C := RX1) (T := TX1) (N := 17) hx hb hg inX1 tyX1 tyX1_ok nmX1 hown hK hP hD hS 0 rfl rfl 0 (by decide) (hg _ w_346) (fun _ h9 => h9) rfl (by decide +kernel) rfl rfl (Nat.le_of_ble_eq_true rfl) dX1_lay_25 (fun H locs hP hD hS => ?_)
          have hP : va_P (dC, dI) vwCl (ws_sm b h uR uW uA uM uX uF uI uS 0 us ur ub uo ui ul uk uh) H := hP
          have hD : va_D A (ws_sm b h uR uW uA uM uX uF uI uS 0 us ur ub uo ui ul uk uh) := hD
          refine lv_aload_n hx hb dX1_lay_28 rfl (lv_at hl 0 rfl) ?_
          refine va_get (D := (dC, dI)) (ci := 1) (v := .int 0) (C := RX1) (T := TX1) (N := 17) hx hb hg inX1 hown hK hP 0 rfl rfl 0 (by decide) (hg _ w_346) (fun _ h9 => h9) rfl dX1_lay_29 ?_
          refine lv_if_le (tgt := 37) hx hb dX1_lay_32 (by decide) (fun c_32 => ?_) (fun c_32 => ?_)
          · refine lv_aload_n hx hb dX1_lay_37 rfl (lv_at hl 0 rfl) ?_
            refine lv_iconst (v := 0) hx hb dX1_lay_38 (by decide) ?_
            refine va_put (D := (dC, dI)) (ci := 1) (v := .int 0) (ty := .boolean) (C := RX1) (T := TX1) (N := 17) hx hb hg inX1 tyX1 tyX1_ok nmX1 hown hK hP hD hS 0 rfl rfl 14 (by decide) (hg _ w_360) (fun _ h9 => h9) rfl (by decide +kernel) rfl rfl (Nat.le_of_ble_eq_true rfl) dX1_lay_39 (fun H locs hP hD hS => ?_)
            have hP : va_P (dC, dI) vwCl (ws_sm b h uR uW uA uM uX uF uI uS 0 us ur ub uo ui 0 uk uh) H := hP
            have hD : va_D A (ws_sm b h uR uW uA uM uX uF uI uS 0 us ur ub uo ui 0 uk uh) := hD
            refine lv_aload_n hx hb dX1_lay_42 rfl (lv_at hl 0 rfl) ?_
            refine lv_iconst (v := (-1)) hx hb dX1_lay_43 (by decide) ?_
            refine va_put (D := (dC, dI)) (ci := 1) (v := .int (-1)) (ty := .int) (C := RX1) (T := TX1) (N := 17) hx hb hg inX1 tyX1 tyX1_ok nmX1 hown hK hP hD hS 0 rfl rfl 16 (by decide) (hg _ w_362) (fun _ h9 => h9) rfl (by decide +kernel) rfl rfl (Nat.le_of_ble_eq_true rfl) dX1_lay_44 (fun H locs hP hD hS => ?_)
            have hP : va_P (dC, dI) vwCl (ws_sm b h uR uW uA uM uX uF uI uS 0 us ur ub uo ui 0 uk (-1)) H := hP
            have hD : va_D A (ws_sm b h uR uW uA uM uX uF uI uS 0 us ur ub uo ui 0 uk (-1)) := hD
            refine lv_aload_n hx hb dX1_lay_47 rfl (lv_at hl 0 rfl) ?_
            refine lv_iconst (v := 1) hx hb dX1_lay_48 (by decide) ?_
            refine va_put (D := (dC, dI)) (ci := 1) (v := .int 1) (ty := .int) (C := RX1) (T := TX1) (N := 17) hx hb hg inX1 tyX1 tyX1_ok nmX1 hown hK hP hD hS 0 rfl rfl 15 (by decide) (hg _ w_361) (fun _ h9 => h9) rfl (by decide +kernel) rfl rfl (Nat.le_of_ble_eq_true rfl) dX1_lay_49 (fun H locs hP hD hS => ?_)
            have hP : va_P (dC, dI) vwCl (ws_sm b h uR uW uA uM uX uF uI uS 0 us ur ub uo ui 0 1 (-1)) H := hP
            have hD : va_D A (ws_sm b h uR uW uA uM uX uF uI uS 0 us ur ub uo ui 0 1 (-1)) := hD
            refine lv_iconst (v := 0) hx hb dX1_lay_52 (by decide) ?_
            refine lv_istore (lv' := [(4, .int 0), (0, .ref (b 0)), (1, .int p1), (2, .int p2), (3, .int p3)]) hx hb dX1_lay_53 hl (by decide) rfl (fun ls hl => ?_)
            refine cm_lay_L55 uR uW uA uM uX uF uI uS 0 us ur ub uo ui 0 1 (-1) p1 p2 p3 hx hb hml hown hg hA hK hu hc (⟨ge1 c_3, nlt_le c_9 (by decide)⟩) 49 0 uS 1 (-1) H locs ls (cnt_0 hu.1 (by have := hu.2; omega)) hP hD hS (lv_sub hl [1, 2, 3, 4, 0] rfl) (fun uS_o55 uk_o55 uh_o55 hw_55 H locs ls hP hD hS hl => ?_) (fun r0_o55 uS_o55 uk_o55 uh_o55 hw_55 H locs ls hP hD hS hl => ?_)
            · refine lv_aload_n hx hb dX1_lay_141 rfl (lv_at hl 0 rfl) ?_
              refine lv_iconst (v := 1) hx hb dX1_lay_142 (by decide) ?_
              refine va_put (D := (dC, dI)) (ci := 1) (v := .int 1) (ty := .boolean) (C := RX1) (T := TX1) (N := 17) hx hb hg inX1 tyX1 tyX1_ok nmX1 hown hK hP hD hS 0 rfl rfl 14 (by decide) (hg _ w_360) (fun _ h9 => h9) rfl (by decide +kernel) rfl rfl (Nat.le_of_ble_eq_true rfl) dX1_lay_143 (fun H locs hP hD hS => ?_)
              have hP : va_P (dC, dI) vwCl (ws_sm b h uR uW uA uM uX uF uI uS_o55 0 us ur ub uo ui 1 uk_o55 uh_o55) H := hP
              have hD : va_D A (ws_sm b h uR uW uA uM uX uF uI uS_o55 0 us ur ub uo ui 1 uk_o55 uh_o55) := hD
              refine lv_aload_n hx hb dX1_lay_146 rfl (lv_at hl 0 rfl) ?_
              refine va_get (D := (dC, dI)) (ci := 1) (v := .int uk_o55) (C := RX1) (T := TX1) (N := 17) hx hb hg inX1 hown hK hP 0 rfl rfl 15 (by decide) (hg _ w_361) (fun _ h9 => h9) rfl dX1_lay_147 ?_
              have hw : sm_lay uR uW uA uM uX uF uI uS us ul uk uh p1 p2 p3 = (uk_o55, uS_o55, 0, 1, uk_o55, uh_o55) := by unfold sm_lay; rw [if_neg c_3, if_neg c_9, if_neg c_13, if_pos c_17, hw_55]; (try dsimp only); (try rfl)
              exact W.iret (v := uk_o55) hx hb hr (fun t ht hW => ⟨⟨uk_o55, (uS_o55, 0, 1, uk_o55, uh_o55), rfl, hw, ⟨by rw [ht]; exact hP, va_K.moved hW.alike hK, hD⟩⟩, hS.F ht⟩) hS.2.2 dX1_lay_150
            · have hw : sm_lay uR uW uA uM uX uF uI uS us ul uk uh p1 p2 p3 = (r0_o55, uS_o55, 0, 0, uk_o55, uh_o55) := by unfold sm_lay; rw [if_neg c_3, if_neg c_9, if_neg c_13, if_pos c_17, hw_55]; (try dsimp only); (try rfl)
              exact W.iret (v := r0_o55) hx hb hr (fun t ht hW => ⟨⟨r0_o55, (uS_o55, 0, 0, uk_o55, uh_o55), rfl, hw, ⟨by rw [ht]; exact hP, va_K.moved hW.alike hK, hD⟩⟩, hS.F ht⟩) hS.2.2 dX1_lay_98
          · exact absurd c_32 (by decide)
        · refine lv_iconst (v := 1) hx hb dX1_lay_20 (by decide) ?_
          refine lv_goto (tgt := 25) hx hb dX1_lay_21 (by decide) ?_
          refine va_put (D := (dC, dI)) (ci := 1) (v := .int 1) (ty := .int) (C := RX1) (T := TX1) (N := 17) hx hb hg inX1 tyX1 tyX1_ok nmX1 hown hK hP hD hS 0 rfl rfl 0 (by decide) (hg _ w_346) (fun _ h9 => h9) rfl (by decide +kernel) rfl rfl (Nat.le_of_ble_eq_true rfl) dX1_lay_25 (fun H locs hP hD hS => ?_)
          have hP : va_P (dC, dI) vwCl (ws_sm b h uR uW uA uM uX uF uI uS 1 us ur ub uo ui ul uk uh) H := hP
          have hD : va_D A (ws_sm b h uR uW uA uM uX uF uI uS 1 us ur ub uo ui ul uk uh) := hD
          refine lv_aload_n hx hb dX1_lay_28 rfl (lv_at hl 0 rfl) ?_
          refine va_get (D := (dC, dI)) (ci := 1) (v := .int 1) (C := RX1) (T := TX1) (N := 17) hx hb hg inX1 hown hK hP 0 rfl rfl 0 (by decide) (hg _ w_346) (fun _ h9 => h9) rfl dX1_lay_29 ?_
          refine lv_if_le (tgt := 37) hx hb dX1_lay_32 (by decide) (fun c_32 => ?_) (fun c_32 => ?_)
          · exact absurd c_32 (by decide)
          · refine lv_iconst (v := 0) hx hb dX1_lay_35 (by decide) ?_
            have hw : sm_lay uR uW uA uM uX uF uI uS us ul uk uh p1 p2 p3 = (0, uS, 1, ul, uk, uh) := by unfold sm_lay; rw [if_neg c_3, if_neg c_9, if_neg c_13, if_neg c_17]; (try rfl)
            exact W.iret (v := 0) hx hb hr (fun t ht hW => ⟨⟨0, (uS, 1, ul, uk, uh), rfl, hw, ⟨by rw [ht]; exact hP, va_K.moved hW.alike hK, hD⟩⟩, hS.F ht⟩) hS.2.2 dX1_lay_36
set_option maxHeartbeats 4000000 in
set_option maxRecDepth 100000 in
theorem cm_homeless (l : Launch) (dC : Nat → ClassId) (dI : Nat → Nat → Nat) (b : Nat → Nat) (h : Nat → ClassId) (sz : Nat) (uR uW uA uM uX uF uI uS : Nat → Int32) (ut us ur ub uo ui ul uk uh : Int32)  : Met l yX1_homeless wsX1_homeless ({ frames := 0, cells := 0, slots := 0, locals := 0 } : Room) (va_Pc [.ref (b 0)] (pr (dC, dI) (ws_sm b h uR uW uA uM uX uF uI uS ut us ur ub uo ui ul uk uh) (ty_sm h) sz)) (va_Qi (fun (r : Int32) (u : Int32) => sm_homeless uh = (r, u)) (fun (ut' : Int32) t => po (dC, dI) (ws_sm b h uR uW uA uM uX uF uI uS ut' us ur ub uo ui ul uk uh) (ty_sm h) (va_A (ws_sm b h uR uW uA uM uX uF uI uS ut us ur ub uo ui ul uk uh) sz) t) (va_A (ws_sm b h uR uW uA uM uX uF uI uS ut us ur ub uo ui ul uk uh) sz)) 0 0 (va_A (ws_sm b h uR uW uA uM uX uF uI uS ut us ur ub uo ui ul uk uh) sz) := by
  refine Met.ofW (cc := cX1_homeless) (maxL := 1) (ret := (some .int)) (by decide) rfl ?_
  intro p e s m args below meth c s₁ B hml hv
  obtain ⟨rfl, hsz, hP, hK, hD0⟩ := hv
  have hx := B.exec
  have hb := B.bytes
  have hr := B.returns
  have hts := atoms_spec (ws := wsX1_homeless) B.pre
  have hg : ∀ w ∈ gw, w.before _ s = true := fun w h => hts w (List.mem_cons_of_mem _ h)
  have hown : s.vm.findClass RX1 = some m.cls := findClass_of_methodNamed B.named
  have hlocks := B.notSynchronized
  subst hsz
  have hD := hD0.self (sz := s.heap.size)
  generalize hAe : va_A (ws_sm b h uR uW uA uM uX uF uI uS ut us ur ub uo ui ul uk uh) s.heap.size = A at hD ⊢
  have hA : ∀ q : Nat, s.heap.size ≤ q → A q := fun q h => by rw [← hAe]; exact Or.inr h
  clear hAe
  refine w_in (fun H locs eH eL => ?_)
  have hS : va_S A s.heap H locs := by rw [eH, eL]; exact va_S.rf
  have hP : va_P (dC, dI) vwCl (ws_sm b h uR uW uA uM uX uF uI uS ut us ur ub uo ui ul uk uh) H := by rw [eH]; exact hP
  clear eH eL
  have hl := lv_entry ([.ref (b 0)]) (n := 1) (Nat.le_of_ble_eq_true rfl)
  rw [lg_entry_eq]
  generalize (lg_sl ([.ref (b 0)]) ++ List.replicate (1 - (lg_sl ([.ref (b 0)])).length) Slot.unset).toArray = ls at hl ⊢
  have hl : lv_has ls 1 [(0, .ref (b 0))] := hl
  refine lv_aload_n hx hb dX1_homeless_0 rfl (lv_at hl 0 rfl) ?_
  refine lv_iconst (v := 0) hx hb dX1_homeless_1 (by decide) ?_
  refine va_put (D := (dC, dI)) (ci := 1) (v := .int 0) (ty := .int) (C := RX1) (T := TX1) (N := 17) hx hb hg inX1 tyX1 tyX1_ok nmX1 hown hK hP hD hS 0 rfl rfl 0 (by decide) (hg _ w_346) (fun _ h9 => h9) rfl (by decide +kernel) rfl rfl (Nat.le_of_ble_eq_true rfl) dX1_homeless_2 (fun H locs hP hD hS => ?_)
  have hP : va_P (dC, dI) vwCl (ws_sm b h uR uW uA uM uX uF uI uS 0 us ur ub uo ui ul uk uh) H := hP
  have hD : va_D A (ws_sm b h uR uW uA uM uX uF uI uS 0 us ur ub uo ui ul uk uh) := hD
  refine lv_aload_n hx hb dX1_homeless_5 rfl (lv_at hl 0 rfl) ?_
  refine va_get (D := (dC, dI)) (ci := 1) (v := .int uh) (C := RX1) (T := TX1) (N := 17) hx hb hg inX1 hown hK hP 0 rfl rfl 16 (by decide) (hg _ w_362) (fun _ h9 => h9) rfl dX1_homeless_6 ?_
  have hw : sm_homeless uh = (uh, 0) := rfl
  exact W.iret (v := uh) hx hb hr (fun t ht hW => ⟨⟨uh, 0, rfl, hw, ⟨by rw [ht]; exact hP, va_K.moved hW.alike hK, hD⟩⟩, hS.F ht⟩) hS.2.2 dX1_homeless_9
set_option maxHeartbeats 4000000 in
set_option maxRecDepth 100000 in
theorem cm_stage (l : Launch) (dC : Nat → ClassId) (dI : Nat → Nat → Nat) (b : Nat → Nat) (h : Nat → ClassId) (sz : Nat) (uR uW uA uM uX uF uI uS : Nat → Int32) (ut us ur ub uo ui ul uk uh : Int32) (p1 : Int32) (hu : 0 ≤ us.toInt ∧ us.toInt ≤ 48) : Met l yX1_stage wsX1_stage ({ frames := 0, cells := 0, slots := 0, locals := 0 } : Room) (va_Pc [.ref (b 0), .int p1] (pr (dC, dI) (ws_sm b h uR uW uA uM uX uF uI uS ut us ur ub uo ui ul uk uh) (ty_sm h) sz)) (va_Qi (fun (r : Int32) (u : Int32) => sm_stage uS us ul p1 = (r, u)) (fun (ut' : Int32) t => po (dC, dI) (ws_sm b h uR uW uA uM uX uF uI uS ut' us ur ub uo ui ul uk uh) (ty_sm h) (va_A (ws_sm b h uR uW uA uM uX uF uI uS ut us ur ub uo ui ul uk uh) sz) t) (va_A (ws_sm b h uR uW uA uM uX uF uI uS ut us ur ub uo ui ul uk uh) sz)) 0 0 (va_A (ws_sm b h uR uW uA uM uX uF uI uS ut us ur ub uo ui ul uk uh) sz) := by
  refine Met.ofW (cc := cX1_stage) (maxL := 2) (ret := (some .int)) (by decide) rfl ?_
  intro p e s m args below meth c s₁ B hml hv
  obtain ⟨rfl, hsz, hP, hK, hD0⟩ := hv
  have hx := B.exec
  have hb := B.bytes
  have hr := B.returns
  have hts := atoms_spec (ws := wsX1_stage) B.pre
  have hg : ∀ w ∈ gw, w.before _ s = true := fun w h => hts w (List.mem_cons_of_mem _ h)
  have hown : s.vm.findClass RX1 = some m.cls := findClass_of_methodNamed B.named
  have hlocks := B.notSynchronized
  subst hsz
  have hD := hD0.self (sz := s.heap.size)
  generalize hAe : va_A (ws_sm b h uR uW uA uM uX uF uI uS ut us ur ub uo ui ul uk uh) s.heap.size = A at hD ⊢
  have hA : ∀ q : Nat, s.heap.size ≤ q → A q := fun q h => by rw [← hAe]; exact Or.inr h
  clear hAe
  refine w_in (fun H locs eH eL => ?_)
  have hS : va_S A s.heap H locs := by rw [eH, eL]; exact va_S.rf
  have hP : va_P (dC, dI) vwCl (ws_sm b h uR uW uA uM uX uF uI uS ut us ur ub uo ui ul uk uh) H := by rw [eH]; exact hP
  clear eH eL
  have hl := lv_entry ([.ref (b 0), .int p1]) (n := 2) (Nat.le_of_ble_eq_true rfl)
  rw [lg_entry_eq]
  generalize (lg_sl ([.ref (b 0), .int p1]) ++ List.replicate (2 - (lg_sl ([.ref (b 0), .int p1])).length) Slot.unset).toArray = ls at hl ⊢
  have hl : lv_has ls 2 [(0, .ref (b 0)), (1, .int p1)] := hl
  refine lv_aload_n hx hb dX1_stage_0 rfl (lv_at hl 0 rfl) ?_
  refine lv_iconst (v := 0) hx hb dX1_stage_1 (by decide) ?_
  refine va_put (D := (dC, dI)) (ci := 1) (v := .int 0) (ty := .int) (C := RX1) (T := TX1) (N := 17) hx hb hg inX1 tyX1 tyX1_ok nmX1 hown hK hP hD hS 0 rfl rfl 0 (by decide) (hg _ w_346) (fun _ h9 => h9) rfl (by decide +kernel) rfl rfl (Nat.le_of_ble_eq_true rfl) dX1_stage_2 (fun H locs hP hD hS => ?_)
  have hP : va_P (dC, dI) vwCl (ws_sm b h uR uW uA uM uX uF uI uS 0 us ur ub uo ui ul uk uh) H := hP
  have hD : va_D A (ws_sm b h uR uW uA uM uX uF uI uS 0 us ur ub uo ui ul uk uh) := hD
  refine lv_aload_n hx hb dX1_stage_5 rfl (lv_at hl 0 rfl) ?_
  refine va_get (D := (dC, dI)) (ci := 1) (v := .int ul) (C := RX1) (T := TX1) (N := 17) hx hb hg inX1 hown hK hP 0 rfl rfl 14 (by decide) (hg _ w_360) (fun _ h9 => h9) rfl dX1_stage_6 ?_
  refine lv_if_eq (tgt := 33) hx hb dX1_stage_9 (by decide) (fun c_9 => ?_) (fun c_9 => ?_)
  · refine lv_iconst (v := (-1)) hx hb dX1_stage_33 (by decide) ?_
    have hw : sm_stage uS us ul p1 = ((-1), 0) := by unfold sm_stage; rw [if_pos c_9]; (try rfl)
    exact W.iret (v := (-1)) hx hb hr (fun t ht hW => ⟨⟨(-1), 0, rfl, hw, ⟨by rw [ht]; exact hP, va_K.moved hW.alike hK, hD⟩⟩, hS.F ht⟩) hS.2.2 dX1_stage_34
  · refine lv_iload_n hx hb dX1_stage_12 rfl (lv_at hl 1 rfl) ?_
    refine lv_if_lt (tgt := 33) hx hb dX1_stage_13 (by decide) (fun c_13 => ?_) (fun c_13 => ?_)
    · refine lv_iconst (v := (-1)) hx hb dX1_stage_33 (by decide) ?_
      have hw : sm_stage uS us ul p1 = ((-1), 0) := by unfold sm_stage; rw [if_neg c_9, if_pos c_13]; (try rfl)
      exact W.iret (v := (-1)) hx hb hr (fun t ht hW => ⟨⟨(-1), 0, rfl, hw, ⟨by rw [ht]; exact hP, va_K.moved hW.alike hK, hD⟩⟩, hS.F ht⟩) hS.2.2 dX1_stage_34
    · refine lv_iload_n hx hb dX1_stage_16 rfl (lv_at hl 1 rfl) ?_
      refine lv_aload_n hx hb dX1_stage_17 rfl (lv_at hl 0 rfl) ?_
      refine va_get (D := (dC, dI)) (ci := 1) (v := .int us) (C := RX1) (T := TX1) (N := 17) hx hb hg inX1 hown hK hP 0 rfl rfl 1 (by decide) (hg _ w_347) (fun _ h9 => h9) rfl dX1_stage_18 ?_
      refine lv_icmp_ge (tgt := 33) hx hb dX1_stage_21 (by decide) (fun c_21 => ?_) (fun c_21 => ?_)
      · refine lv_iconst (v := (-1)) hx hb dX1_stage_33 (by decide) ?_
        have hw : sm_stage uS us ul p1 = ((-1), 0) := by unfold sm_stage; rw [if_neg c_9, if_neg c_13, if_pos c_21]; (try rfl)
        exact W.iret (v := (-1)) hx hb hr (fun t ht hW => ⟨⟨(-1), 0, rfl, hw, ⟨by rw [ht]; exact hP, va_K.moved hW.alike hK, hD⟩⟩, hS.F ht⟩) hS.2.2 dX1_stage_34
      · refine lv_aload_n hx hb dX1_stage_24 rfl (lv_at hl 0 rfl) ?_
        refine va_get (D := (dC, dI)) (ci := 1) (v := .ref (b 8)) (C := RX1) (T := TX1) (N := 17) hx hb hg inX1 hown hK hP 0 rfl rfl 13 (by decide) (hg _ w_359) (fun _ h9 => h9) rfl dX1_stage_25 ?_
        refine lv_iload_n hx hb dX1_stage_28 rfl (lv_at hl 1 rfl) ?_
        refine va_iald hx hb hK hP 8 7 rfl rfl (ix_us c_13 c_21 hu) dX1_stage_29 ?_
        refine lv_goto (tgt := 34) hx hb dX1_stage_30 (by decide) ?_
        have hw : sm_stage uS us ul p1 = (uS p1.toNatClampNeg, 0) := by unfold sm_stage; rw [if_neg c_9, if_neg c_13, if_neg c_21]; (try rfl)
        exact W.iret (v := uS p1.toNatClampNeg) hx hb hr (fun t ht hW => ⟨⟨(uS p1.toNatClampNeg), 0, rfl, hw, ⟨by rw [ht]; exact hP, va_K.moved hW.alike hK, hD⟩⟩, hS.F ht⟩) hS.2.2 dX1_stage_34
set_option maxHeartbeats 4000000 in
set_option maxRecDepth 100000 in
theorem cm_used (l : Launch) (dC : Nat → ClassId) (dI : Nat → Nat → Nat) (b : Nat → Nat) (h : Nat → ClassId) (sz : Nat) (uR uW uA uM uX uF uI uS : Nat → Int32) (ut us ur ub uo ui ul uk uh : Int32) (p1 p2 : Int32) (hu : 0 ≤ us.toInt ∧ us.toInt ≤ 48) : Met l yX1_used wsX1_used ({ frames := 1, cells := 0, slots := 0, locals := 25 } : Room) (va_Pc [.ref (b 0), .int p1, .int p2] (pr (dC, dI) (ws_sm b h uR uW uA uM uX uF uI uS ut us ur ub uo ui ul uk uh) (ty_sm h) sz)) (va_Qi (fun (r : Int32) (u : Int32) => sm_used uM uX uS us ul uk p1 p2 = (r, u)) (fun (ut' : Int32) t => po (dC, dI) (ws_sm b h uR uW uA uM uX uF uI uS ut' us ur ub uo ui ul uk uh) (ty_sm h) (va_A (ws_sm b h uR uW uA uM uX uF uI uS ut us ur ub uo ui ul uk uh) sz) t) (va_A (ws_sm b h uR uW uA uM uX uF uI uS ut us ur ub uo ui ul uk uh) sz)) 0 0 (va_A (ws_sm b h uR uW uA uM uX uF uI uS ut us ur ub uo ui ul uk uh) sz) := by
  refine Met.ofW (cc := cX1_used) (maxL := 3) (ret := (some .int)) (by decide) rfl ?_
  intro p e s m args below meth c s₁ B hml hv
  obtain ⟨rfl, hsz, hP, hK, hD0⟩ := hv
  have hx := B.exec
  have hb := B.bytes
  have hr := B.returns
  have hts := atoms_spec (ws := wsX1_used) B.pre
  have hg : ∀ w ∈ gw, w.before _ s = true := fun w h => hts w (List.mem_cons_of_mem _ h)
  have hown : s.vm.findClass RX1 = some m.cls := findClass_of_methodNamed B.named
  have hlocks := B.notSynchronized
  subst hsz
  have hD := hD0.self (sz := s.heap.size)
  generalize hAe : va_A (ws_sm b h uR uW uA uM uX uF uI uS ut us ur ub uo ui ul uk uh) s.heap.size = A at hD ⊢
  have hA : ∀ q : Nat, s.heap.size ≤ q → A q := fun q h => by rw [← hAe]; exact Or.inr h
  clear hAe
  refine w_in (fun H locs eH eL => ?_)
  have hS : va_S A s.heap H locs := by rw [eH, eL]; exact va_S.rf
  have hP : va_P (dC, dI) vwCl (ws_sm b h uR uW uA uM uX uF uI uS ut us ur ub uo ui ul uk uh) H := by rw [eH]; exact hP
  clear eH eL
  have hl := lv_entry ([.ref (b 0), .int p1, .int p2]) (n := 3) (Nat.le_of_ble_eq_true rfl)
  rw [lg_entry_eq]
  generalize (lg_sl ([.ref (b 0), .int p1, .int p2]) ++ List.replicate (3 - (lg_sl ([.ref (b 0), .int p1, .int p2])).length) Slot.unset).toArray = ls at hl ⊢
  have hl : lv_has ls 3 [(0, .ref (b 0)), (1, .int p1), (2, .int p2)] := hl
  refine lv_aload_n hx hb dX1_used_0 rfl (lv_at hl 0 rfl) ?_
  refine lv_iconst (v := 0) hx hb dX1_used_1 (by decide) ?_
  refine va_put (D := (dC, dI)) (ci := 1) (v := .int 0) (ty := .int) (C := RX1) (T := TX1) (N := 17) hx hb hg inX1 tyX1 tyX1_ok nmX1 hown hK hP hD hS 0 rfl rfl 0 (by decide) (hg _ w_346) (fun _ h9 => h9) rfl (by decide +kernel) rfl rfl (Nat.le_of_ble_eq_true rfl) dX1_used_2 (fun H locs hP hD hS => ?_)
  have hP : va_P (dC, dI) vwCl (ws_sm b h uR uW uA uM uX uF uI uS 0 us ur ub uo ui ul uk uh) H := hP
  have hD : va_D A (ws_sm b h uR uW uA uM uX uF uI uS 0 us ur ub uo ui ul uk uh) := hD
  refine lv_aload_n hx hb dX1_used_5 rfl (lv_at hl 0 rfl) ?_
  refine va_get (D := (dC, dI)) (ci := 1) (v := .int ul) (C := RX1) (T := TX1) (N := 17) hx hb hg inX1 hown hK hP 0 rfl rfl 14 (by decide) (hg _ w_360) (fun _ h9 => h9) rfl dX1_used_6 ?_
  refine lv_if_eq (tgt := 46) hx hb dX1_used_9 (by decide) (fun c_9 => ?_) (fun c_9 => ?_)
  · refine lv_iconst (v := (-1)) hx hb dX1_used_46 (by decide) ?_
    have hw : sm_used uM uX uS us ul uk p1 p2 = ((-1), 0) := by unfold sm_used; rw [if_pos c_9]; (try rfl)
    exact W.iret (v := (-1)) hx hb hr (fun t ht hW => ⟨⟨(-1), 0, rfl, hw, ⟨by rw [ht]; exact hP, va_K.moved hW.alike hK, hD⟩⟩, hS.F ht⟩) hS.2.2 dX1_used_47
  · refine lv_iload_n hx hb dX1_used_12 rfl (lv_at hl 1 rfl) ?_
    refine lv_if_lt (tgt := 46) hx hb dX1_used_13 (by decide) (fun c_13 => ?_) (fun c_13 => ?_)
    · refine lv_iconst (v := (-1)) hx hb dX1_used_46 (by decide) ?_
      have hw : sm_used uM uX uS us ul uk p1 p2 = ((-1), 0) := by unfold sm_used; rw [if_neg c_9, if_pos c_13]; (try rfl)
      exact W.iret (v := (-1)) hx hb hr (fun t ht hW => ⟨⟨(-1), 0, rfl, hw, ⟨by rw [ht]; exact hP, va_K.moved hW.alike hK, hD⟩⟩, hS.F ht⟩) hS.2.2 dX1_used_47
    · refine lv_iload_n hx hb dX1_used_16 rfl (lv_at hl 1 rfl) ?_
      refine lv_aload_n hx hb dX1_used_17 rfl (lv_at hl 0 rfl) ?_
      refine va_get (D := (dC, dI)) (ci := 1) (v := .int uk) (C := RX1) (T := TX1) (N := 17) hx hb hg inX1 hown hK hP 0 rfl rfl 15 (by decide) (hg _ w_361) (fun _ h9 => h9) rfl dX1_used_18 ?_
      refine lv_icmp_ge (tgt := 46) hx hb dX1_used_21 (by decide) (fun c_21 => ?_) (fun c_21 => ?_)
      · refine lv_iconst (v := (-1)) hx hb dX1_used_46 (by decide) ?_
        have hw : sm_used uM uX uS us ul uk p1 p2 = ((-1), 0) := by unfold sm_used; rw [if_neg c_9, if_neg c_13, if_pos c_21]; (try rfl)
        exact W.iret (v := (-1)) hx hb hr (fun t ht hW => ⟨⟨(-1), 0, rfl, hw, ⟨by rw [ht]; exact hP, va_K.moved hW.alike hK, hD⟩⟩, hS.F ht⟩) hS.2.2 dX1_used_47
      · refine lv_iload_n hx hb dX1_used_24 rfl (lv_at hl 2 rfl) ?_
        refine lv_if_lt (tgt := 46) hx hb dX1_used_25 (by decide) (fun c_25 => ?_) (fun c_25 => ?_)
        · refine lv_iconst (v := (-1)) hx hb dX1_used_46 (by decide) ?_
          have hw : sm_used uM uX uS us ul uk p1 p2 = ((-1), 0) := by unfold sm_used; rw [if_neg c_9, if_neg c_13, if_neg c_21, if_pos c_25]; (try rfl)
          exact W.iret (v := (-1)) hx hb hr (fun t ht hW => ⟨⟨(-1), 0, rfl, hw, ⟨by rw [ht]; exact hP, va_K.moved hW.alike hK, hD⟩⟩, hS.F ht⟩) hS.2.2 dX1_used_47
        · refine lv_iload_n hx hb dX1_used_28 rfl (lv_at hl 2 rfl) ?_
          refine lv_iconst (v := 3) hx hb dX1_used_29 (by decide) ?_
          refine lv_icmp_ge (tgt := 46) hx hb dX1_used_30 (by decide) (fun c_30 => ?_) (fun c_30 => ?_)
          · refine lv_iconst (v := (-1)) hx hb dX1_used_46 (by decide) ?_
            have hw : sm_used uM uX uS us ul uk p1 p2 = ((-1), 0) := by unfold sm_used; rw [if_neg c_9, if_neg c_13, if_neg c_21, if_neg c_25, if_pos c_30]; (try rfl)
            exact W.iret (v := (-1)) hx hb hr (fun t ht hW => ⟨⟨(-1), 0, rfl, hw, ⟨by rw [ht]; exact hP, va_K.moved hW.alike hK, hD⟩⟩, hS.F ht⟩) hS.2.2 dX1_used_47
          · refine lv_aload_n hx hb dX1_used_33 rfl (lv_at hl 0 rfl) ?_
            refine lv_aload_n hx hb dX1_used_34 rfl (lv_at hl 0 rfl) ?_
            refine va_get (D := (dC, dI)) (ci := 1) (v := .int us) (C := RX1) (T := TX1) (N := 17) hx hb hg inX1 hown hK hP 0 rfl rfl 1 (by decide) (hg _ w_347) (fun _ h9 => h9) rfl dX1_used_35 ?_
            refine lv_iload_n hx hb dX1_used_38 rfl (lv_at hl 1 rfl) ?_
            refine lv_iload_n hx hb dX1_used_39 rfl (lv_at hl 2 rfl) ?_
            have hFc := va_free (wc := ws_sm b h uR uW uA uM uX uF uI uS 0 us ur ub uo ui ul uk uh) hD hS hA [0, 1, 2, 3, 4, 5, 6, 7, 8] rfl
            refine va_calli (va_runV (As := [.int us, .int p1, .int p2]) (rest := []) ⟨hx, hb, hml, hown, hg⟩ (cm_sum l dC dI b h H.size uR uW uA uM uX uF uI uS 0 us ur ub uo ui ul uk uh us p1 p2 hu) (cwV 3 hg (gi_V w_480 w_482 s_17 w_2 w_483) rfl rfl rfl (by decide +kernel) ⟨Nat.le_of_ble_eq_true rfl, Nat.le_of_ble_eq_true rfl⟩) ⟨pr_bl, va_recv hK hP (ci := 1) (q0 := 0) rfl rfl, pr_ok hK hP hD⟩ rfl rfl hl.1 rfl (lv_room (Nat.le_of_ble_eq_true rfl)) dX1_used_40 ⟨Nat.le_of_ble_eq_true rfl, Nat.le_of_ble_eq_true rfl⟩) hS (fun q _ h => hFc q h) hFc (fun r_40 u t H1 locs ht hvm hw_40 hB hz1 hk1 hS => ?_)
            subst hw_40
            obtain ⟨hP, hK1, hD1⟩ := hB
            rw [ht] at hP
            have hD := hD1.weaken (fun _ q _ h => hFc q.1 h)
            generalize H1 = H at hP hS ⊢
            have hP : va_P (dC, dI) vwCl (ws_sm b h uR uW uA uM uX uF uI uS 0 us ur ub uo ui ul uk uh) H := hP
            have hD : va_D A (ws_sm b h uR uW uA uM uX uF uI uS 0 us ur ub uo ui ul uk uh) := hD
            refine lv_goto (tgt := 47) hx hb dX1_used_43 (by decide) ?_
            have hw : sm_used uM uX uS us ul uk p1 p2 = (sm_sum uM uX uS us p1 p2, 0) := by unfold sm_used; rw [if_neg c_9, if_neg c_13, if_neg c_21, if_neg c_25, if_neg c_30]; (try rfl)
            exact W.iret (v := sm_sum uM uX uS us p1 p2) hx hb hr (fun t ht hW => ⟨⟨(sm_sum uM uX uS us p1 p2), 0, rfl, hw, ⟨by rw [ht]; exact hP, va_K.moved hW.alike hK, hD⟩⟩, hS.F ht⟩) hS.2.2 dX1_used_47
set_option maxHeartbeats 4000000 in
set_option maxRecDepth 100000 in
theorem cm_count (l : Launch) (dC : Nat → ClassId) (dI : Nat → Nat → Nat) (b : Nat → Nat) (h : Nat → ClassId) (sz : Nat) (uR uW uA uM uX uF uI uS : Nat → Int32) (ut us ur ub uo ui ul uk uh : Int32) (p1 : Int32) : Met l yX1_count wsX1_count ({ frames := 0, cells := 0, slots := 0, locals := 0 } : Room) (va_Pc [.ref (b 0), .int p1] (pr (dC, dI) (ws_sm b h uR uW uA uM uX uF uI uS ut us ur ub uo ui ul uk uh) (ty_sm h) sz)) (va_Qi (fun (r : Int32) (u : Int32) => sm_count us ub uo p1 = (r, u)) (fun (ut' : Int32) t => po (dC, dI) (ws_sm b h uR uW uA uM uX uF uI uS ut' us ur ub uo ui ul uk uh) (ty_sm h) (va_A (ws_sm b h uR uW uA uM uX uF uI uS ut us ur ub uo ui ul uk uh) sz) t) (va_A (ws_sm b h uR uW uA uM uX uF uI uS ut us ur ub uo ui ul uk uh) sz)) 0 0 (va_A (ws_sm b h uR uW uA uM uX uF uI uS ut us ur ub uo ui ul uk uh) sz) := by
  refine Met.ofW (cc := cX1_count) (maxL := 2) (ret := (some .int)) (by decide) rfl ?_
  intro p e s m args below meth c s₁ B hml hv
  obtain ⟨rfl, hsz, hP, hK, hD0⟩ := hv
  have hx := B.exec
  have hb := B.bytes
  have hr := B.returns
  have hts := atoms_spec (ws := wsX1_count) B.pre
  have hg : ∀ w ∈ gw, w.before _ s = true := fun w h => hts w (List.mem_cons_of_mem _ h)
  have hown : s.vm.findClass RX1 = some m.cls := findClass_of_methodNamed B.named
  have hlocks := B.notSynchronized
  subst hsz
  have hD := hD0.self (sz := s.heap.size)
  generalize hAe : va_A (ws_sm b h uR uW uA uM uX uF uI uS ut us ur ub uo ui ul uk uh) s.heap.size = A at hD ⊢
  have hA : ∀ q : Nat, s.heap.size ≤ q → A q := fun q h => by rw [← hAe]; exact Or.inr h
  clear hAe
  refine w_in (fun H locs eH eL => ?_)
  have hS : va_S A s.heap H locs := by rw [eH, eL]; exact va_S.rf
  have hP : va_P (dC, dI) vwCl (ws_sm b h uR uW uA uM uX uF uI uS ut us ur ub uo ui ul uk uh) H := by rw [eH]; exact hP
  clear eH eL
  have hl := lv_entry ([.ref (b 0), .int p1]) (n := 2) (Nat.le_of_ble_eq_true rfl)
  rw [lg_entry_eq]
  generalize (lg_sl ([.ref (b 0), .int p1]) ++ List.replicate (2 - (lg_sl ([.ref (b 0), .int p1])).length) Slot.unset).toArray = ls at hl ⊢
  have hl : lv_has ls 2 [(0, .ref (b 0)), (1, .int p1)] := hl
  refine lv_aload_n hx hb dX1_count_0 rfl (lv_at hl 0 rfl) ?_
  refine lv_iconst (v := 0) hx hb dX1_count_1 (by decide) ?_
  refine va_put (D := (dC, dI)) (ci := 1) (v := .int 0) (ty := .int) (C := RX1) (T := TX1) (N := 17) hx hb hg inX1 tyX1 tyX1_ok nmX1 hown hK hP hD hS 0 rfl rfl 0 (by decide) (hg _ w_346) (fun _ h9 => h9) rfl (by decide +kernel) rfl rfl (Nat.le_of_ble_eq_true rfl) dX1_count_2 (fun H locs hP hD hS => ?_)
  have hP : va_P (dC, dI) vwCl (ws_sm b h uR uW uA uM uX uF uI uS 0 us ur ub uo ui ul uk uh) H := hP
  have hD : va_D A (ws_sm b h uR uW uA uM uX uF uI uS 0 us ur ub uo ui ul uk uh) := hD
  refine lv_iload_n hx hb dX1_count_5 rfl (lv_at hl 1 rfl) ?_
  refine lv_if_ne (tgt := 16) hx hb dX1_count_6 (by decide) (fun c_6 => ?_) (fun c_6 => ?_)
  · refine lv_iload_n hx hb dX1_count_16 rfl (lv_at hl 1 rfl) ?_
    refine lv_iconst (v := 1) hx hb dX1_count_17 (by decide) ?_
    refine lv_icmp_ne (tgt := 28) hx hb dX1_count_18 (by decide) (fun c_18 => ?_) (fun c_18 => ?_)
    · refine lv_iload_n hx hb dX1_count_28 rfl (lv_at hl 1 rfl) ?_
      refine lv_iconst (v := 2) hx hb dX1_count_29 (by decide) ?_
      refine lv_icmp_ne (tgt := 40) hx hb dX1_count_30 (by decide) (fun c_30 => ?_) (fun c_30 => ?_)
      · refine lv_iconst (v := (-1)) hx hb dX1_count_40 (by decide) ?_
        have hw : sm_count us ub uo p1 = ((-1), 0) := by unfold sm_count; rw [if_neg c_6, if_neg c_18, if_neg c_30]; (try rfl)
        exact W.iret (v := (-1)) hx hb hr (fun t ht hW => ⟨⟨(-1), 0, rfl, hw, ⟨by rw [ht]; exact hP, va_K.moved hW.alike hK, hD⟩⟩, hS.F ht⟩) hS.2.2 dX1_count_41
      · refine lv_aload_n hx hb dX1_count_33 rfl (lv_at hl 0 rfl) ?_
        refine va_get (D := (dC, dI)) (ci := 1) (v := .int uo) (C := RX1) (T := TX1) (N := 17) hx hb hg inX1 hown hK hP 0 rfl rfl 4 (by decide) (hg _ w_350) (fun _ h9 => h9) rfl dX1_count_34 ?_
        refine lv_goto (tgt := 41) hx hb dX1_count_37 (by decide) ?_
        have hw : sm_count us ub uo p1 = (uo, 0) := by unfold sm_count; rw [if_neg c_6, if_neg c_18, if_pos c_30]; (try rfl)
        exact W.iret (v := uo) hx hb hr (fun t ht hW => ⟨⟨uo, 0, rfl, hw, ⟨by rw [ht]; exact hP, va_K.moved hW.alike hK, hD⟩⟩, hS.F ht⟩) hS.2.2 dX1_count_41
    · refine lv_aload_n hx hb dX1_count_21 rfl (lv_at hl 0 rfl) ?_
      refine va_get (D := (dC, dI)) (ci := 1) (v := .int ub) (C := RX1) (T := TX1) (N := 17) hx hb hg inX1 hown hK hP 0 rfl rfl 3 (by decide) (hg _ w_349) (fun _ h9 => h9) rfl dX1_count_22 ?_
      refine lv_goto (tgt := 41) hx hb dX1_count_25 (by decide) ?_
      have hw : sm_count us ub uo p1 = (ub, 0) := by unfold sm_count; rw [if_neg c_6, if_pos c_18]; (try rfl)
      exact W.iret (v := ub) hx hb hr (fun t ht hW => ⟨⟨ub, 0, rfl, hw, ⟨by rw [ht]; exact hP, va_K.moved hW.alike hK, hD⟩⟩, hS.F ht⟩) hS.2.2 dX1_count_41
  · refine lv_aload_n hx hb dX1_count_9 rfl (lv_at hl 0 rfl) ?_
    refine va_get (D := (dC, dI)) (ci := 1) (v := .int us) (C := RX1) (T := TX1) (N := 17) hx hb hg inX1 hown hK hP 0 rfl rfl 1 (by decide) (hg _ w_347) (fun _ h9 => h9) rfl dX1_count_10 ?_
    refine lv_goto (tgt := 41) hx hb dX1_count_13 (by decide) ?_
    have hw : sm_count us ub uo p1 = (us, 0) := by unfold sm_count; rw [if_pos c_6]; (try rfl)
    exact W.iret (v := us) hx hb hr (fun t ht hW => ⟨⟨us, 0, rfl, hw, ⟨by rw [ht]; exact hP, va_K.moved hW.alike hK, hD⟩⟩, hS.F ht⟩) hS.2.2 dX1_count_41
