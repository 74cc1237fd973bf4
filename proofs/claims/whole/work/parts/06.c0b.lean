set_option maxHeartbeats 4000000 in
set_option maxRecDepth 100000 in
theorem cs_addStep (l : Launch) (dC : Nat → ClassId) (dI : Nat → Nat → Nat) (a : Nat → Nat) (k : Nat → ClassId) (sz : Nat) (rd wr : Nat → Int64) (ay ia mo wo so oi si mi wi : Nat → Int32) (ns nt nf np sl hs : Int32) (p1 p2 : Int64) (p3 p4 : Int32) (r' : Int32) (rd' wr' : Nat → Int64) (ay' ia' mo' wo' : Nat → Int32) (ns' np' sl' hs' : Int32) (hok : sl_addStep rd wr ay ia mo wo oi ns nf np p1 p2 p3 p4 = .inl (r', rd', wr', ay', ia', mo', wo', ns', np', sl', hs')) : Met l yX0_addStep wsX0_addStep ({ frames := 6, cells := 0, slots := 0, locals := 82 } : Room) (va_Pc [.ref (a 0), .long p1, .long p2, .int p3, .int p4] (pr (dC, dI) (ws_sl a k rd wr ay ia mo wo so oi si mi wi ns nt nf np sl hs) (ty_sl k) sz)) (va_Qi (fun (r : Int32) (_ : Unit) => r = r') (fun (_ : Unit) t => po (dC, dI) (ws_sl a k rd' wr' ay' ia' mo' wo' so oi si mi wi ns' nt nf np' sl' hs') (ty_sl k) (va_A (ws_sl a k rd wr ay ia mo wo so oi si mi wi ns nt nf np sl hs) sz) t) (va_A (ws_sl a k rd wr ay ia mo wo so oi si mi wi ns nt nf np sl hs) sz)) 0 0 (va_A (ws_sl a k rd wr ay ia mo wo so oi si mi wi ns nt nf np sl hs) sz) := by
  refine Met.ofW (cc := cX0_addStep) (maxL := 8) (ret := (some .int)) (by decide) rfl ?_
  intro p e s m args below meth c s₁ B hml hv
  obtain ⟨rfl, hsz, hP, hK, hD0⟩ := hv
  have hx := B.exec
  have hb := B.bytes
  have hr := B.returns
  have hts := atoms_spec (ws := wsX0_addStep) B.pre
  have hg : ∀ w ∈ gw, w.before _ s = true := fun w h => hts w (List.mem_cons_of_mem _ h)
  have hown : s.vm.findClass RX0 = some m.cls := findClass_of_methodNamed B.named
  have hlocks := B.notSynchronized
  subst hsz
  have hD := hD0.self (sz := s.heap.size)
  generalize hAe : va_A (ws_sl a k rd wr ay ia mo wo so oi si mi wi ns nt nf np sl hs) s.heap.size = A at hD ⊢
  have hA : ∀ q : Nat, s.heap.size ≤ q → A q := fun q h => by rw [← hAe]; exact Or.inr h
  clear hAe
  refine w_in (fun H locs eH eL => ?_)
  have hS : va_S A s.heap H locs := by rw [eH, eL]; exact va_S.rf
  have hP : va_P (dC, dI) vwCl (ws_sl a k rd wr ay ia mo wo so oi si mi wi ns nt nf np sl hs) H := by rw [eH]; exact hP
  clear eH eL
  have hl := lv_entry ([.ref (a 0), .long p1, .long p2, .int p3, .int p4]) (n := 8) (Nat.le_of_ble_eq_true rfl)
  rw [lg_entry_eq]
  generalize (lg_sl ([.ref (a 0), .long p1, .long p2, .int p3, .int p4]) ++ List.replicate (8 - (lg_sl ([.ref (a 0), .long p1, .long p2, .int p3, .int p4])).length) Slot.unset).toArray = ls at hl ⊢
  have hl : lv_has ls 8 [(0, .ref (a 0)), (1, .long p1), (3, .long p2), (5, .int p3), (6, .int p4)] := hl
  refine lv_aload_n hx hb dX0_addStep_0 rfl (lv_at hl 0 rfl) ?_
  refine va_get (D := (dC, dI)) (ci := 0) (v := .int ns) (C := RX0) (T := TX0) (N := 17) hx hb hg inX0 hown hK hP 0 rfl rfl 11 (by decide) (hg _ w_30) (fun _ h9 => h9) rfl dX0_addStep_1 ?_
  refine lv_if_lt (tgt := 16) hx hb dX0_addStep_4 (by decide) (fun c_4 => ?_) (fun c_4 => ?_)
  · have hw : sl_addStep rd wr ay ia mo wo oi ns nf np p1 p2 p3 p4 = .inr xIS := by unfold sl_addStep; rw [if_pos c_4]; (try rfl)
    exact absurd (hw.symm.trans hok) (by intro h9; cases h9)
  · refine lv_aload_n hx hb dX0_addStep_7 rfl (lv_at hl 0 rfl) ?_
    refine va_get (D := (dC, dI)) (ci := 0) (v := .int ns) (C := RX0) (T := TX0) (N := 17) hx hb hg inX0 hown hK hP 0 rfl rfl 11 (by decide) (hg _ w_30) (fun _ h9 => h9) rfl dX0_addStep_8 ?_
    refine lv_bipush (v := 48) hx hb dX0_addStep_11 (by decide) ?_
    refine lv_icmp_lt (tgt := 26) hx hb dX0_addStep_13 (by decide) (fun c_13 => ?_) (fun c_13 => ?_)
    · refine lv_aload_n hx hb dX0_addStep_26 rfl (lv_at hl 0 rfl) ?_
      refine va_get (D := (dC, dI)) (ci := 0) (v := .int np) (C := RX0) (T := TX0) (N := 17) hx hb hg inX0 hown hK hP 0 rfl rfl 14 (by decide) (hg _ w_33) (fun _ h9 => h9) rfl dX0_addStep_27 ?_
      refine lv_iload hx hb dX0_addStep_30 (lv_at hl 4 rfl) ?_
      refine lv_iadd hx hb dX0_addStep_32 ?_
      refine lv_sipush (v := 800) hx hb dX0_addStep_33 (by decide) ?_
      refine lv_icmp_le (tgt := 49) hx hb dX0_addStep_36 (by decide) (fun c_36 => ?_) (fun c_36 => ?_)
      · refine lv_aload_n hx hb dX0_addStep_49 rfl (lv_at hl 0 rfl) ?_
        refine va_get (D := (dC, dI)) (ci := 0) (v := .int ns) (C := RX0) (T := TX0) (N := 17) hx hb hg inX0 hown hK hP 0 rfl rfl 11 (by decide) (hg _ w_30) (fun _ h9 => h9) rfl dX0_addStep_50 ?_
        refine lv_istore (lv' := [(7, .int ns), (0, .ref (a 0)), (1, .long p1), (3, .long p2), (5, .int p3), (6, .int p4)]) hx hb dX0_addStep_53 hl (by decide) rfl (fun ls hl => ?_)
        refine lv_aload_n hx hb dX0_addStep_55 rfl (lv_at hl 1 rfl) ?_
        refine va_get (D := (dC, dI)) (ci := 0) (v := .ref (a 1)) (C := RX0) (T := TX0) (N := 17) hx hb hg inX0 hown hK hP 0 rfl rfl 0 (by decide) (hg _ w_19) (fun _ h9 => h9) rfl dX0_addStep_56 ?_
        refine lv_iload hx hb dX0_addStep_59 (lv_at hl 0 rfl) ?_
        refine lv_lload_n hx hb dX0_addStep_61 rfl (lv_at hl 2 rfl) ?_
        refine va_last hx hb hK hP hD hS 1 0 rfl rfl (ix_lt c_4 c_13 (by decide)) dX0_addStep_62 (fun H locs hP hD hS => ?_)
        have hP : va_P (dC, dI) vwCl (ws_sl a k (vp_updL rd ns.toNatClampNeg p1) wr ay ia mo wo so oi si mi wi ns nt nf np sl hs) H := hP
        have hD : va_D A (ws_sl a k (vp_updL rd ns.toNatClampNeg p1) wr ay ia mo wo so oi si mi wi ns nt nf np sl hs) := hD
        refine lv_aload_n hx hb dX0_addStep_63 rfl (lv_at hl 1 rfl) ?_
        refine va_get (D := (dC, dI)) (ci := 0) (v := .ref (a 2)) (C := RX0) (T := TX0) (N := 17) hx hb hg inX0 hown hK hP 0 rfl rfl 1 (by decide) (hg _ w_20) (fun _ h9 => h9) rfl dX0_addStep_64 ?_
        refine lv_iload hx hb dX0_addStep_67 (lv_at hl 0 rfl) ?_
        refine lv_lload_n hx hb dX0_addStep_69 rfl (lv_at hl 3 rfl) ?_
        refine va_last hx hb hK hP hD hS 2 1 rfl rfl (ix_lt c_4 c_13 (by decide)) dX0_addStep_70 (fun H locs hP hD hS => ?_)
        have hP : va_P (dC, dI) vwCl (ws_sl a k (vp_updL rd ns.toNatClampNeg p1) (vp_updL wr ns.toNatClampNeg p2) ay ia mo wo so oi si mi wi ns nt nf np sl hs) H := hP
        have hD : va_D A (ws_sl a k (vp_updL rd ns.toNatClampNeg p1) (vp_updL wr ns.toNatClampNeg p2) ay ia mo wo so oi si mi wi ns nt nf np sl hs) := hD
        refine lv_aload_n hx hb dX0_addStep_71 rfl (lv_at hl 1 rfl) ?_
        refine va_get (D := (dC, dI)) (ci := 0) (v := .ref (a 3)) (C := RX0) (T := TX0) (N := 17) hx hb hg inX0 hown hK hP 0 rfl rfl 2 (by decide) (hg _ w_21) (fun _ h9 => h9) rfl dX0_addStep_72 ?_
        refine lv_iload hx hb dX0_addStep_75 (lv_at hl 0 rfl) ?_
        refine lv_iload hx hb dX0_addStep_77 (lv_at hl 4 rfl) ?_
        refine va_iast hx hb hK hP hD hS 3 2 rfl rfl (ix_lt c_4 c_13 (by decide)) dX0_addStep_79 (fun H locs hP hD hS => ?_)
        have hP : va_P (dC, dI) vwCl (ws_sl a k (vp_updL rd ns.toNatClampNeg p1) (vp_updL wr ns.toNatClampNeg p2) (upd ay ns.toNatClampNeg p3) ia mo wo so oi si mi wi ns nt nf np sl hs) H := hP
        have hD : va_D A (ws_sl a k (vp_updL rd ns.toNatClampNeg p1) (vp_updL wr ns.toNatClampNeg p2) (upd ay ns.toNatClampNeg p3) ia mo wo so oi si mi wi ns nt nf np sl hs) := hD
        refine lv_aload_n hx hb dX0_addStep_80 rfl (lv_at hl 1 rfl) ?_
        refine va_get (D := (dC, dI)) (ci := 0) (v := .ref (a 4)) (C := RX0) (T := TX0) (N := 17) hx hb hg inX0 hown hK hP 0 rfl rfl 3 (by decide) (hg _ w_22) (fun _ h9 => h9) rfl dX0_addStep_81 ?_
        refine lv_iload hx hb dX0_addStep_84 (lv_at hl 0 rfl) ?_
        refine lv_aload_n hx hb dX0_addStep_86 rfl (lv_at hl 1 rfl) ?_
        have hFc := va_free (wc := ws_sl a k (vp_updL rd ns.toNatClampNeg p1) (vp_updL wr ns.toNatClampNeg p2) (upd ay ns.toNatClampNeg p3) ia mo wo so oi si mi wi ns nt nf np sl hs) hD hS hA [0, 1, 2, 3, 4, 5, 6, 7, 8, 9, 10, 11] rfl
        refine va_calli (va_runV (As := []) (rest := [.int ns, .ref (a 4)]) ⟨hx, hb, hml, hown, hg⟩ (cs_innermostIf l dC dI a k H.size (vp_updL rd ns.toNatClampNeg p1) (vp_updL wr ns.toNatClampNeg p2) (upd ay ns.toNatClampNeg p3) ia mo wo so oi si mi wi ns nt nf np sl hs) (cwV 0 hg (gi_V w_223 w_225 s_3 w_1 w_226) rfl rfl rfl (by decide +kernel) ⟨Nat.le_of_ble_eq_true rfl, Nat.le_of_ble_eq_true rfl⟩) ⟨pr_bl, va_recv hK hP (ci := 0) (q0 := 0) rfl rfl, pr_ok hK hP hD⟩ rfl rfl hl.1 rfl (lv_room (Nat.le_of_ble_eq_true rfl)) dX0_addStep_87 ⟨Nat.le_of_ble_eq_true rfl, Nat.le_of_ble_eq_true rfl⟩) hS (fun q _ h => hFc q h) hFc (fun r_87 u t H1 locs ht hvm hw_87 hB hz1 hk1 hS => ?_)
        subst hw_87
        obtain ⟨hP, hK1, hD1⟩ := hB
        rw [ht] at hP
        have hD := hD1.weaken (fun _ q _ h => hFc q.1 h)
        generalize H1 = H at hP hS ⊢
        have hP : va_P (dC, dI) vwCl (ws_sl a k (vp_updL rd ns.toNatClampNeg p1) (vp_updL wr ns.toNatClampNeg p2) (upd ay ns.toNatClampNeg p3) ia mo wo so oi si mi wi ns nt nf np sl hs) H := hP
        have hD : va_D A (ws_sl a k (vp_updL rd ns.toNatClampNeg p1) (vp_updL wr ns.toNatClampNeg p2) (upd ay ns.toNatClampNeg p3) ia mo wo so oi si mi wi ns nt nf np sl hs) := hD
        refine va_iast hx hb hK hP hD hS 4 3 rfl rfl (ix_lt c_4 c_13 (by decide)) dX0_addStep_90 (fun H locs hP hD hS => ?_)
        have hP : va_P (dC, dI) vwCl (ws_sl a k (vp_updL rd ns.toNatClampNeg p1) (vp_updL wr ns.toNatClampNeg p2) (upd ay ns.toNatClampNeg p3) (upd ia ns.toNatClampNeg (sl_innermostIf oi nf)) mo wo so oi si mi wi ns nt nf np sl hs) H := hP
        have hD : va_D A (ws_sl a k (vp_updL rd ns.toNatClampNeg p1) (vp_updL wr ns.toNatClampNeg p2) (upd ay ns.toNatClampNeg p3) (upd ia ns.toNatClampNeg (sl_innermostIf oi nf)) mo wo so oi si mi wi ns nt nf np sl hs) := hD
        refine lv_aload_n hx hb dX0_addStep_91 rfl (lv_at hl 1 rfl) ?_
        refine lv_iload hx hb dX0_addStep_92 (lv_at hl 0 rfl) ?_
        refine lv_iconst (v := 0) hx hb dX0_addStep_94 (by decide) ?_
        refine lv_iconst (v := 0) hx hb dX0_addStep_95 (by decide) ?_
        have hFc := va_free (wc := ws_sl a k (vp_updL rd ns.toNatClampNeg p1) (vp_updL wr ns.toNatClampNeg p2) (upd ay ns.toNatClampNeg p3) (upd ia ns.toNatClampNeg (sl_innermostIf oi nf)) mo wo so oi si mi wi ns nt nf np sl hs) hD hS hA [0, 1, 2, 3, 4, 5, 6, 7, 8, 9, 10, 11] rfl
        refine va_callv (va_runV (As := [.int ns, .int 0, .int 0]) (rest := []) ⟨hx, hb, hml, hown, hg⟩ (cs_need l dC dI a k H.size (vp_updL rd ns.toNatClampNeg p1) (vp_updL wr ns.toNatClampNeg p2) (upd ay ns.toNatClampNeg p3) (upd ia ns.toNatClampNeg (sl_innermostIf oi nf)) mo wo so oi si mi wi ns nt nf np sl hs ns 0 0) (cwV 3 hg (gi_V w_227 w_229 s_4 w_1 w_230) rfl rfl rfl (by decide +kernel) ⟨Nat.le_of_ble_eq_true rfl, Nat.le_of_ble_eq_true rfl⟩) ⟨pr_bl, va_recv hK hP (ci := 0) (q0 := 0) rfl rfl, pr_ok hK hP hD⟩ rfl rfl hl.1 rfl (lv_room (Nat.le_of_ble_eq_true rfl)) dX0_addStep_96 ⟨Nat.le_of_ble_eq_true rfl, Nat.le_of_ble_eq_true rfl⟩) hS (fun q _ h => hFc q h) hFc (fun u t H1 locs ht hvm hw_96 hB hz1 hk1 hS => ?_)
        obtain ⟨mo_96, wo_96⟩ := u
        obtain ⟨hP, hK1, hD1⟩ := hB
        rw [ht] at hP
        have hD := hD1.weaken (fun _ q _ h => hFc q.1 h)
        generalize H1 = H at hP hS ⊢
        have hP : va_P (dC, dI) vwCl (ws_sl a k (vp_updL rd ns.toNatClampNeg p1) (vp_updL wr ns.toNatClampNeg p2) (upd ay ns.toNatClampNeg p3) (upd ia ns.toNatClampNeg (sl_innermostIf oi nf)) mo_96 wo_96 so oi si mi wi ns nt nf np sl hs) H := hP
        have hD : va_D A (ws_sl a k (vp_updL rd ns.toNatClampNeg p1) (vp_updL wr ns.toNatClampNeg p2) (upd ay ns.toNatClampNeg p3) (upd ia ns.toNatClampNeg (sl_innermostIf oi nf)) mo_96 wo_96 so oi si mi wi ns nt nf np sl hs) := hD
        refine lv_aload_n hx hb dX0_addStep_99 rfl (lv_at hl 1 rfl) ?_
        refine lv_dup hx hb dX0_addStep_100 rfl ?_
        refine va_get (D := (dC, dI)) (ci := 0) (v := .int ns) (C := RX0) (T := TX0) (N := 17) hx hb hg inX0 hown hK hP 0 rfl rfl 11 (by decide) (hg _ w_30) (fun _ h9 => h9) rfl dX0_addStep_101 ?_
        refine lv_iconst (v := 1) hx hb dX0_addStep_104 (by decide) ?_
        refine lv_iadd hx hb dX0_addStep_105 ?_
        refine va_put (D := (dC, dI)) (ci := 0) (v := .int (ns + 1)) (ty := .int) (C := RX0) (T := TX0) (N := 17) hx hb hg inX0 tyX0 tyX0_ok nmX0 hown hK hP hD hS 0 rfl rfl 11 (by decide) (hg _ w_30) (fun _ h9 => h9) rfl (by decide +kernel) rfl rfl (Nat.le_of_ble_eq_true rfl) dX0_addStep_106 (fun H locs hP hD hS => ?_)
        have hP : va_P (dC, dI) vwCl (ws_sl a k (vp_updL rd ns.toNatClampNeg p1) (vp_updL wr ns.toNatClampNeg p2) (upd ay ns.toNatClampNeg p3) (upd ia ns.toNatClampNeg (sl_innermostIf oi nf)) mo_96 wo_96 so oi si mi wi (ns + 1) nt nf np sl hs) H := hP
        have hD : va_D A (ws_sl a k (vp_updL rd ns.toNatClampNeg p1) (vp_updL wr ns.toNatClampNeg p2) (upd ay ns.toNatClampNeg p3) (upd ia ns.toNatClampNeg (sl_innermostIf oi nf)) mo_96 wo_96 so oi si mi wi (ns + 1) nt nf np sl hs) := hD
        refine lv_aload_n hx hb dX0_addStep_109 rfl (lv_at hl 1 rfl) ?_
        refine lv_dup hx hb dX0_addStep_110 rfl ?_
        refine va_get (D := (dC, dI)) (ci := 0) (v := .int np) (C := RX0) (T := TX0) (N := 17) hx hb hg inX0 hown hK hP 0 rfl rfl 14 (by decide) (hg _ w_33) (fun _ h9 => h9) rfl dX0_addStep_111 ?_
        refine lv_iload hx hb dX0_addStep_114 (lv_at hl 5 rfl) ?_
        refine lv_iadd hx hb dX0_addStep_116 ?_
        refine va_put (D := (dC, dI)) (ci := 0) (v := .int (np + p4)) (ty := .int) (C := RX0) (T := TX0) (N := 17) hx hb hg inX0 tyX0 tyX0_ok nmX0 hown hK hP hD hS 0 rfl rfl 14 (by decide) (hg _ w_33) (fun _ h9 => h9) rfl (by decide +kernel) rfl rfl (Nat.le_of_ble_eq_true rfl) dX0_addStep_117 (fun H locs hP hD hS => ?_)
        have hP : va_P (dC, dI) vwCl (ws_sl a k (vp_updL rd ns.toNatClampNeg p1) (vp_updL wr ns.toNatClampNeg p2) (upd ay ns.toNatClampNeg p3) (upd ia ns.toNatClampNeg (sl_innermostIf oi nf)) mo_96 wo_96 so oi si mi wi (ns + 1) nt nf (np + p4) sl hs) H := hP
        have hD : va_D A (ws_sl a k (vp_updL rd ns.toNatClampNeg p1) (vp_updL wr ns.toNatClampNeg p2) (upd ay ns.toNatClampNeg p3) (upd ia ns.toNatClampNeg (sl_innermostIf oi nf)) mo_96 wo_96 so oi si mi wi (ns + 1) nt nf (np + p4) sl hs) := hD
        refine lv_aload_n hx hb dX0_addStep_120 rfl (lv_at hl 1 rfl) ?_
        have hFc := va_free (wc := ws_sl a k (vp_updL rd ns.toNatClampNeg p1) (vp_updL wr ns.toNatClampNeg p2) (upd ay ns.toNatClampNeg p3) (upd ia ns.toNatClampNeg (sl_innermostIf oi nf)) mo_96 wo_96 so oi si mi wi (ns + 1) nt nf (np + p4) sl hs) hD hS hA [0, 1, 2, 3, 4, 5, 6, 7, 8, 9, 10, 11] rfl
        refine va_callv (va_runV (As := []) (rest := []) ⟨hx, hb, hml, hown, hg⟩ (cs_forgetStages l dC dI a k H.size (vp_updL rd ns.toNatClampNeg p1) (vp_updL wr ns.toNatClampNeg p2) (upd ay ns.toNatClampNeg p3) (upd ia ns.toNatClampNeg (sl_innermostIf oi nf)) mo_96 wo_96 so oi si mi wi (ns + 1) nt nf (np + p4) sl hs) (cwV 0 hg (gi_V w_77 w_79 s_0 w_1 w_80) rfl rfl rfl (by decide +kernel) ⟨Nat.le_of_ble_eq_true rfl, Nat.le_of_ble_eq_true rfl⟩) ⟨pr_bl, va_recv hK hP (ci := 0) (q0 := 0) rfl rfl, pr_ok hK hP hD⟩ rfl rfl hl.1 rfl (lv_room (Nat.le_of_ble_eq_true rfl)) dX0_addStep_121 ⟨Nat.le_of_ble_eq_true rfl, Nat.le_of_ble_eq_true rfl⟩) hS (fun q _ h => hFc q h) hFc (fun u t H1 locs ht hvm hw_121 hB hz1 hk1 hS => ?_)
        obtain ⟨sl_121, hs_121⟩ := u
        obtain ⟨hP, hK1, hD1⟩ := hB
        rw [ht] at hP
        have hD := hD1.weaken (fun _ q _ h => hFc q.1 h)
        generalize H1 = H at hP hS ⊢
        have hP : va_P (dC, dI) vwCl (ws_sl a k (vp_updL rd ns.toNatClampNeg p1) (vp_updL wr ns.toNatClampNeg p2) (upd ay ns.toNatClampNeg p3) (upd ia ns.toNatClampNeg (sl_innermostIf oi nf)) mo_96 wo_96 so oi si mi wi (ns + 1) nt nf (np + p4) sl_121 hs_121) H := hP
        have hD : va_D A (ws_sl a k (vp_updL rd ns.toNatClampNeg p1) (vp_updL wr ns.toNatClampNeg p2) (upd ay ns.toNatClampNeg p3) (upd ia ns.toNatClampNeg (sl_innermostIf oi nf)) mo_96 wo_96 so oi si mi wi (ns + 1) nt nf (np + p4) sl_121 hs_121) := hD
        refine lv_iload hx hb dX0_addStep_124 (lv_at hl 0 rfl) ?_
        have hw : sl_addStep rd wr ay ia mo wo oi ns nf np p1 p2 p3 p4 = .inl (ns, vp_updL rd ns.toNatClampNeg p1, vp_updL wr ns.toNatClampNeg p2, upd ay ns.toNatClampNeg p3, upd ia ns.toNatClampNeg (sl_innermostIf oi nf), mo_96, wo_96, ns + 1, np + p4, sl_121, hs_121) := by unfold sl_addStep; rw [if_neg c_4, if_pos c_13, if_pos c_36, hw_96]; (try dsimp only); rw [hw_121]; (try dsimp only); (try rfl)
        have he := Sum.inl.inj (hok.symm.trans hw)
        simp only [Prod.mk.injEq] at he
        obtain ⟨e0, e1, e2, e3, e4, e5, e6, e7, e8, e9, e10⟩ := he
        exact W.iret (v := ns) hx hb hr (fun t ht hW => ⟨⟨ns, (), rfl, e0.symm, ⟨by rw [ht, e1, e2, e3, e4, e5, e6, e7, e8, e9, e10]; exact hP, va_K.moved hW.alike hK, by rw [e1, e2, e3, e4, e5, e6, e7, e8, e9, e10]; exact hD⟩⟩, hS.F ht⟩) hS.2.2 dX0_addStep_126
      · have hw : sl_addStep rd wr ay ia mo wo oi ns nf np p1 p2 p3 p4 = .inr xIS := by unfold sl_addStep; rw [if_neg c_4, if_pos c_13, if_neg c_36]; (try rfl)
        exact absurd (hw.symm.trans hok) (by intro h9; cases h9)
    · have hw : sl_addStep rd wr ay ia mo wo oi ns nf np p1 p2 p3 p4 = .inr xIS := by unfold sl_addStep; rw [if_neg c_4, if_neg c_13]; (try rfl)
      exact absurd (hw.symm.trans hok) (by intro h9; cases h9)
set_option maxHeartbeats 4000000 in
set_option maxRecDepth 100000 in
theorem cs_addStep_x (l : Launch) (hl9 : l.stackTraces = false) (dC : Nat → ClassId) (dI : Nat → Nat → Nat) (a : Nat → Nat) (k : Nat → ClassId) (sx : Nat → Nat) (sz : Nat) (rd wr : Nat → Int64) (ay ia mo wo so oi si mi wi : Nat → Int32) (ns nt nf np sl hs : Int32) (p1 p2 : Int64) (p3 p4 : Int32) (E9 : String) (hno : sl_addStep rd wr ay ia mo wo oi ns nf np p1 p2 p3 p4 = .inr E9) : vx_Met l yX0_addStep wsX0_addStep ({ frames := 6, cells := 1, slots := 6, locals := 82 } : Room) (va_Pc [.ref (a 0), .long p1, .long p2, .int p3, .int p4] (prx (dC, dI) (ws_sl a k rd wr ay ia mo wo so oi si mi wi ns nt nf np sl hs) (ty_sl k) sz sx)) (va_Qi (fun (_ : Int32) (_ : Unit) => False) (fun (_ : Unit) _ => True) (va_A (ws_sl a k rd wr ay ia mo wo so oi si mi wi ns nt nf np sl hs) sz)) (vx_X (fun _ : Unit => True) (fun E _ t => E = E9 ∧ po (dC, dI) (ws_sl a k rd wr ay ia mo wo so oi si mi wi ns nt nf np sl hs) (ty_sl k) (va_A (ws_sl a k rd wr ay ia mo wo so oi si mi wi ns nt nf np sl hs) sz) t) (va_A (ws_sl a k rd wr ay ia mo wo so oi si mi wi ns nt nf np sl hs) sz)) 1 6 (va_A (ws_sl a k rd wr ay ia mo wo so oi si mi wi ns nt nf np sl hs) sz) := by
  refine vx_ofW (cc := cX0_addStep) (maxL := 8) (ret := (some .int)) (by decide) rfl ?_
  intro p e s m args below meth c s₁ B hml hEx hv
  obtain ⟨rfl, ⟨hsz, hP, hK, hD0⟩, hX9⟩ := hv
  have hx := B.exec
  have hb := B.bytes
  have hr := B.returns
  have hts := atoms_spec (ws := wsX0_addStep) B.pre
  have hg : ∀ w ∈ gw, w.before _ s = true := fun w h => hts w (List.mem_cons_of_mem _ h)
  have hown : s.vm.findClass RX0 = some m.cls := findClass_of_methodNamed B.named
  have hlocks := B.notSynchronized
  subst hsz
  have hD := hD0.self (sz := s.heap.size)
  generalize hAe : va_A (ws_sl a k rd wr ay ia mo wo so oi si mi wi ns nt nf np sl hs) s.heap.size = A at hD hX9 ⊢
  have hA : ∀ q : Nat, s.heap.size ≤ q → A q := fun q h => by rw [← hAe]; exact Or.inr h
  clear hAe
  refine w_in (fun H locs eH eL => ?_)
  have hS : va_S A s.heap H locs := by rw [eH, eL]; exact va_S.rf
  have hP : va_P (dC, dI) vwCl (ws_sl a k rd wr ay ia mo wo so oi si mi wi ns nt nf np sl hs) H := by rw [eH]; exact hP
  clear eH eL
  have hl := lv_entry ([.ref (a 0), .long p1, .long p2, .int p3, .int p4]) (n := 8) (Nat.le_of_ble_eq_true rfl)
  rw [lg_entry_eq]
  generalize (lg_sl ([.ref (a 0), .long p1, .long p2, .int p3, .int p4]) ++ List.replicate (8 - (lg_sl ([.ref (a 0), .long p1, .long p2, .int p3, .int p4])).length) Slot.unset).toArray = ls at hl ⊢
  have hl : lv_has ls 8 [(0, .ref (a 0)), (1, .long p1), (3, .long p2), (5, .int p3), (6, .int p4)] := hl
  refine lv_aload_n hx hb dX0_addStep_0 rfl (lv_at hl 0 rfl) ?_
  refine va_get (D := (dC, dI)) (ci := 0) (v := .int ns) (C := RX0) (T := TX0) (N := 17) hx hb hg inX0 hown hK hP 0 rfl rfl 11 (by decide) (hg _ w_30) (fun _ h9 => h9) rfl dX0_addStep_1 ?_
  refine lv_if_lt (tgt := 16) hx hb dX0_addStep_4 (by decide) (fun c_4 => ?_) (fun c_4 => ?_)
  · have hw : sl_addStep rd wr ay ia mo wo oi ns nf np p1 p2 p3 p4 = .inr xIS := by unfold sl_addStep; rw [if_pos c_4]; (try rfl)
    have he := Sum.inr.inj (hno.symm.trans hw)
    exact vx_throwS (own := RX0) (cls := "java/lang/IllegalStateException") (names := ["java/lang/RuntimeException", "java/lang/Exception"]) hx hb hl9 hown (by decide +kernel) (by decide +kernel) (hg _ w_206) (hg _ w_9) (hX9.2.2.1 (156, "there are 48 steps") (by decide +kernel)) (hat_xIS_105 hg hX9) (by decide +kernel) hX9.1 hX9.2.1 hS (hl.1.trans hml.symm) dX0_addStep_16 dX0_addStep_19 dX0_addStep_20 dX0_addStep_22 dX0_addStep_25 (fun x hx => (hEx x hx).elim) (Nat.le_of_ble_eq_true rfl) (Nat.le_of_ble_eq_true rfl) (Nat.le_of_ble_eq_true rfl) (Nat.le_of_ble_eq_true rfl) hlocks (fun t ha hsz hk => ⟨(), trivial, ⟨he.symm, hP.kept (fun k q hq => hk q.1 (hP k q hq).lt), va_K.moved ha hK, hD⟩, Nat.le_trans hS.1 hsz, fun q h1 h2 => (hk q (Nat.lt_of_lt_of_le h1 hS.1)).trans (hS.2.1 q h1 h2)⟩) hS.2.2 (Nat.le_of_ble_eq_true rfl) (Nat.le_of_ble_eq_true rfl)
  · refine lv_aload_n hx hb dX0_addStep_7 rfl (lv_at hl 0 rfl) ?_
    refine va_get (D := (dC, dI)) (ci := 0) (v := .int ns) (C := RX0) (T := TX0) (N := 17) hx hb hg inX0 hown hK hP 0 rfl rfl 11 (by decide) (hg _ w_30) (fun _ h9 => h9) rfl dX0_addStep_8 ?_
    refine lv_bipush (v := 48) hx hb dX0_addStep_11 (by decide) ?_
    refine lv_icmp_lt (tgt := 26) hx hb dX0_addStep_13 (by decide) (fun c_13 => ?_) (fun c_13 => ?_)
    · refine lv_aload_n hx hb dX0_addStep_26 rfl (lv_at hl 0 rfl) ?_
      refine va_get (D := (dC, dI)) (ci := 0) (v := .int np) (C := RX0) (T := TX0) (N := 17) hx hb hg inX0 hown hK hP 0 rfl rfl 14 (by decide) (hg _ w_33) (fun _ h9 => h9) rfl dX0_addStep_27 ?_
      refine lv_iload hx hb dX0_addStep_30 (lv_at hl 4 rfl) ?_
      refine lv_iadd hx hb dX0_addStep_32 ?_
      refine lv_sipush (v := 800) hx hb dX0_addStep_33 (by decide) ?_
      refine lv_icmp_le (tgt := 49) hx hb dX0_addStep_36 (by decide) (fun c_36 => ?_) (fun c_36 => ?_)
      · exfalso
        have h9 := hno
        unfold sl_addStep at h9
        rw [if_neg c_4, if_pos c_13, if_pos c_36] at h9
        first | (cases h9; done) | ((repeat' split at h9) <;> cases h9)
      · have hw : sl_addStep rd wr ay ia mo wo oi ns nf np p1 p2 p3 p4 = .inr xIS := by unfold sl_addStep; rw [if_neg c_4, if_pos c_13, if_neg c_36]; (try rfl)
        have he := Sum.inr.inj (hno.symm.trans hw)
        exact vx_throwS (own := RX0) (cls := "java/lang/IllegalStateException") (names := ["java/lang/RuntimeException", "java/lang/Exception"]) hx hb hl9 hown (by decide +kernel) (by decide +kernel) (hg _ w_206) (hg _ w_9) (hX9.2.2.1 (158, "more than 800 places were read") (by decide +kernel)) (hat_xIS_105 hg hX9) (by decide +kernel) hX9.1 hX9.2.1 hS (hl.1.trans hml.symm) dX0_addStep_39 dX0_addStep_42 dX0_addStep_43 dX0_addStep_45 dX0_addStep_48 (fun x hx => (hEx x hx).elim) (Nat.le_of_ble_eq_true rfl) (Nat.le_of_ble_eq_true rfl) (Nat.le_of_ble_eq_true rfl) (Nat.le_of_ble_eq_true rfl) hlocks (fun t ha hsz hk => ⟨(), trivial, ⟨he.symm, hP.kept (fun k q hq => hk q.1 (hP k q hq).lt), va_K.moved ha hK, hD⟩, Nat.le_trans hS.1 hsz, fun q h1 h2 => (hk q (Nat.lt_of_lt_of_le h1 hS.1)).trans (hS.2.1 q h1 h2)⟩) hS.2.2 (Nat.le_of_ble_eq_true rfl) (Nat.le_of_ble_eq_true rfl)
    · have hw : sl_addStep rd wr ay ia mo wo oi ns nf np p1 p2 p3 p4 = .inr xIS := by unfold sl_addStep; rw [if_neg c_4, if_neg c_13]; (try rfl)
      have he := Sum.inr.inj (hno.symm.trans hw)
      exact vx_throwS (own := RX0) (cls := "java/lang/IllegalStateException") (names := ["java/lang/RuntimeException", "java/lang/Exception"]) hx hb hl9 hown (by decide +kernel) (by decide +kernel) (hg _ w_206) (hg _ w_9) (hX9.2.2.1 (156, "there are 48 steps") (by decide +kernel)) (hat_xIS_105 hg hX9) (by decide +kernel) hX9.1 hX9.2.1 hS (hl.1.trans hml.symm) dX0_addStep_16 dX0_addStep_19 dX0_addStep_20 dX0_addStep_22 dX0_addStep_25 (fun x hx => (hEx x hx).elim) (Nat.le_of_ble_eq_true rfl) (Nat.le_of_ble_eq_true rfl) (Nat.le_of_ble_eq_true rfl) (Nat.le_of_ble_eq_true rfl) hlocks (fun t ha hsz hk => ⟨(), trivial, ⟨he.symm, hP.kept (fun k q hq => hk q.1 (hP k q hq).lt), va_K.moved ha hK, hD⟩, Nat.le_trans hS.1 hsz, fun q h1 h2 => (hk q (Nat.lt_of_lt_of_le h1 hS.1)).trans (hS.2.1 q h1 h2)⟩) hS.2.2 (Nat.le_of_ble_eq_true rfl) (Nat.le_of_ble_eq_true rfl)
set_option maxHeartbeats 4000000 in
set_option maxRecDepth 100000 in
theorem cs_hasRoom (l : Launch) (dC : Nat → ClassId) (dI : Nat → Nat → Nat) (a : Nat → Nat) (k : Nat → ClassId) (sz : Nat) (rd wr : Nat → Int64) (ay ia mo wo so oi si mi wi : Nat → Int32) (ns nt nf np sl hs : Int32) (p1 p2 p3 p4 : Int32) : Met l yX0_hasRoom wsX0_hasRoom ({ frames := 0, cells := 0, slots := 0, locals := 0 } : Room) (va_Pc [.ref (a 0), .int p1, .int p2, .int p3, .int p4] (pr (dC, dI) (ws_sl a k rd wr ay ia mo wo so oi si mi wi ns nt nf np sl hs) (ty_sl k) sz)) (va_Qi (fun (r : Int32) (_ : Unit) => r = sl_hasRoom mo wo si mi wi p1 p2 p3 p4) (fun (_ : Unit) t => po (dC, dI) (ws_sl a k rd wr ay ia mo wo so oi si mi wi ns nt nf np sl hs) (ty_sl k) (va_A (ws_sl a k rd wr ay ia mo wo so oi si mi wi ns nt nf np sl hs) sz) t) (va_A (ws_sl a k rd wr ay ia mo wo so oi si mi wi ns nt nf np sl hs) sz)) 0 0 (va_A (ws_sl a k rd wr ay ia mo wo so oi si mi wi ns nt nf np sl hs) sz) := by
  refine Met.ofW (cc := cX0_hasRoom) (maxL := 5) (ret := (some .boolean)) (by decide) rfl ?_
  intro p e s m args below meth c s₁ B hml hv
  obtain ⟨rfl, hsz, hP, hK, hD0⟩ := hv
  have hx := B.exec
  have hb := B.bytes
  have hr := B.returns
  have hts := atoms_spec (ws := wsX0_hasRoom) B.pre
  have hg : ∀ w ∈ gw, w.before _ s = true := fun w h => hts w (List.mem_cons_of_mem _ h)
  have hown : s.vm.findClass RX0 = some m.cls := findClass_of_methodNamed B.named
  have hlocks := B.notSynchronized
  subst hsz
  have hD := hD0.self (sz := s.heap.size)
  generalize hAe : va_A (ws_sl a k rd wr ay ia mo wo so oi si mi wi ns nt nf np sl hs) s.heap.size = A at hD ⊢
  have hA : ∀ q : Nat, s.heap.size ≤ q → A q := fun q h => by rw [← hAe]; exact Or.inr h
  clear hAe
  refine w_in (fun H locs eH eL => ?_)
  have hS : va_S A s.heap H locs := by rw [eH, eL]; exact va_S.rf
  have hP : va_P (dC, dI) vwCl (ws_sl a k rd wr ay ia mo wo so oi si mi wi ns nt nf np sl hs) H := by rw [eH]; exact hP
  clear eH eL
  have hl := lv_entry ([.ref (a 0), .int p1, .int p2, .int p3, .int p4]) (n := 5) (Nat.le_of_ble_eq_true rfl)
  rw [lg_entry_eq]
  generalize (lg_sl ([.ref (a 0), .int p1, .int p2, .int p3, .int p4]) ++ List.replicate (5 - (lg_sl ([.ref (a 0), .int p1, .int p2, .int p3, .int p4])).length) Slot.unset).toArray = ls at hl ⊢
  have hl : lv_has ls 5 [(0, .ref (a 0)), (1, .int p1), (2, .int p2), (3, .int p3), (4, .int p4)] := hl
  refine lv_iload_n hx hb dX0_hasRoom_0 rfl (lv_at hl 1 rfl) ?_
  refine lv_if_lt (tgt := 20) hx hb dX0_hasRoom_1 (by decide) (fun c_1 => ?_) (fun c_1 => ?_)
  · refine lv_iconst (v := 0) hx hb dX0_hasRoom_20 (by decide) ?_
    have hw : 0 = sl_hasRoom mo wo si mi wi p1 p2 p3 p4 := by unfold sl_hasRoom; rw [if_pos c_1]; (try rfl)
    exact W.zret (v := 0) hx hb hr rfl (fun t ht hW => ⟨⟨0, (), rfl, hw, ⟨by rw [ht]; exact hP, va_K.moved hW.alike hK, hD⟩⟩, hS.F ht⟩) hS.2.2 dX0_hasRoom_21
  · refine lv_iload_n hx hb dX0_hasRoom_4 rfl (lv_at hl 1 rfl) ?_
    refine lv_bipush (v := 48) hx hb dX0_hasRoom_5 (by decide) ?_
    refine lv_icmp_ge (tgt := 20) hx hb dX0_hasRoom_7 (by decide) (fun c_7 => ?_) (fun c_7 => ?_)
    · refine lv_iconst (v := 0) hx hb dX0_hasRoom_20 (by decide) ?_
      have hw : 0 = sl_hasRoom mo wo si mi wi p1 p2 p3 p4 := by unfold sl_hasRoom; rw [if_neg c_1, if_pos c_7]; (try rfl)
      exact W.zret (v := 0) hx hb hr rfl (fun t ht hW => ⟨⟨0, (), rfl, hw, ⟨by rw [ht]; exact hP, va_K.moved hW.alike hK, hD⟩⟩, hS.F ht⟩) hS.2.2 dX0_hasRoom_21
    · refine lv_iload_n hx hb dX0_hasRoom_10 rfl (lv_at hl 2 rfl) ?_
      refine lv_if_lt (tgt := 20) hx hb dX0_hasRoom_11 (by decide) (fun c_11 => ?_) (fun c_11 => ?_)
      · refine lv_iconst (v := 0) hx hb dX0_hasRoom_20 (by decide) ?_
        have hw : 0 = sl_hasRoom mo wo si mi wi p1 p2 p3 p4 := by unfold sl_hasRoom; rw [if_neg c_1, if_neg c_7, if_pos c_11]; (try rfl)
        exact W.zret (v := 0) hx hb hr rfl (fun t ht hW => ⟨⟨0, (), rfl, hw, ⟨by rw [ht]; exact hP, va_K.moved hW.alike hK, hD⟩⟩, hS.F ht⟩) hS.2.2 dX0_hasRoom_21
      · refine lv_iload_n hx hb dX0_hasRoom_14 rfl (lv_at hl 2 rfl) ?_
        refine lv_bipush (v := 12) hx hb dX0_hasRoom_15 (by decide) ?_
        refine lv_icmp_lt (tgt := 22) hx hb dX0_hasRoom_17 (by decide) (fun c_17 => ?_) (fun c_17 => ?_)
        · refine lv_aload_n hx hb dX0_hasRoom_22 rfl (lv_at hl 0 rfl) ?_
          refine va_get (D := (dC, dI)) (ci := 0) (v := .ref (a 9)) (C := RX0) (T := TX0) (N := 17) hx hb hg inX0 hown hK hP 0 rfl rfl 8 (by decide) (hg _ w_27) (fun _ h9 => h9) rfl dX0_hasRoom_23 ?_
          refine lv_iload_n hx hb dX0_hasRoom_26 rfl (lv_at hl 2 rfl) ?_
          refine va_iald hx hb hK hP 9 8 rfl rfl (ix_lt c_11 c_17 (by decide)) dX0_hasRoom_27 ?_
          refine lv_bipush (v := 8) hx hb dX0_hasRoom_28 (by decide) ?_
          refine lv_icmp_ge (tgt := 72) hx hb dX0_hasRoom_30 (by decide) (fun c_30 => ?_) (fun c_30 => ?_)
          · refine lv_iconst (v := 0) hx hb dX0_hasRoom_72 (by decide) ?_
            have hw : 0 = sl_hasRoom mo wo si mi wi p1 p2 p3 p4 := by unfold sl_hasRoom; rw [if_neg c_1, if_neg c_7, if_neg c_11, if_pos c_17, if_pos c_30]; (try rfl)
            exact W.zret (v := 0) hx hb hr rfl (fun t ht hW => ⟨⟨0, (), rfl, hw, ⟨by rw [ht]; exact hP, va_K.moved hW.alike hK, hD⟩⟩, hS.F ht⟩) hS.2.2 dX0_hasRoom_73
          · refine lv_aload_n hx hb dX0_hasRoom_33 rfl (lv_at hl 0 rfl) ?_
            refine va_get (D := (dC, dI)) (ci := 0) (v := .ref (a 10)) (C := RX0) (T := TX0) (N := 17) hx hb hg inX0 hown hK hP 0 rfl rfl 9 (by decide) (hg _ w_28) (fun _ h9 => h9) rfl dX0_hasRoom_34 ?_
            refine lv_iload_n hx hb dX0_hasRoom_37 rfl (lv_at hl 2 rfl) ?_
            refine va_iald hx hb hK hP 10 9 rfl rfl (ix_lt c_11 c_17 (by decide)) dX0_hasRoom_38 ?_
            refine lv_aload_n hx hb dX0_hasRoom_39 rfl (lv_at hl 0 rfl) ?_
            refine va_get (D := (dC, dI)) (ci := 0) (v := .ref (a 5)) (C := RX0) (T := TX0) (N := 17) hx hb hg inX0 hown hK hP 0 rfl rfl 4 (by decide) (hg _ w_23) (fun _ h9 => h9) rfl dX0_hasRoom_40 ?_
            refine lv_iload_n hx hb dX0_hasRoom_43 rfl (lv_at hl 1 rfl) ?_
            refine va_iald hx hb hK hP 5 4 rfl rfl (ix_le c_1 c_7 (by decide)) dX0_hasRoom_44 ?_
            refine lv_iadd hx hb dX0_hasRoom_45 ?_
            refine lv_iload_n hx hb dX0_hasRoom_46 rfl (lv_at hl 3 rfl) ?_
            refine lv_icmp_gt (tgt := 72) hx hb dX0_hasRoom_47 (by decide) (fun c_47 => ?_) (fun c_47 => ?_)
            · refine lv_iconst (v := 0) hx hb dX0_hasRoom_72 (by decide) ?_
              have hw : 0 = sl_hasRoom mo wo si mi wi p1 p2 p3 p4 := by unfold sl_hasRoom; rw [if_neg c_1, if_neg c_7, if_neg c_11, if_pos c_17, if_neg c_30, if_pos c_47]; (try rfl)
              exact W.zret (v := 0) hx hb hr rfl (fun t ht hW => ⟨⟨0, (), rfl, hw, ⟨by rw [ht]; exact hP, va_K.moved hW.alike hK, hD⟩⟩, hS.F ht⟩) hS.2.2 dX0_hasRoom_73
            · refine lv_aload_n hx hb dX0_hasRoom_50 rfl (lv_at hl 0 rfl) ?_
              refine va_get (D := (dC, dI)) (ci := 0) (v := .ref (a 11)) (C := RX0) (T := TX0) (N := 17) hx hb hg inX0 hown hK hP 0 rfl rfl 10 (by decide) (hg _ w_29) (fun _ h9 => h9) rfl dX0_hasRoom_51 ?_
              refine lv_iload_n hx hb dX0_hasRoom_54 rfl (lv_at hl 2 rfl) ?_
              refine va_iald hx hb hK hP 11 10 rfl rfl (ix_lt c_11 c_17 (by decide)) dX0_hasRoom_55 ?_
              refine lv_aload_n hx hb dX0_hasRoom_56 rfl (lv_at hl 0 rfl) ?_
              refine va_get (D := (dC, dI)) (ci := 0) (v := .ref (a 6)) (C := RX0) (T := TX0) (N := 17) hx hb hg inX0 hown hK hP 0 rfl rfl 5 (by decide) (hg _ w_24) (fun _ h9 => h9) rfl dX0_hasRoom_57 ?_
              refine lv_iload_n hx hb dX0_hasRoom_60 rfl (lv_at hl 1 rfl) ?_
              refine va_iald hx hb hK hP 6 5 rfl rfl (ix_le c_1 c_7 (by decide)) dX0_hasRoom_61 ?_
              refine lv_iadd hx hb dX0_hasRoom_62 ?_
              refine lv_iload hx hb dX0_hasRoom_63 (lv_at hl 4 rfl) ?_
              refine lv_icmp_gt (tgt := 72) hx hb dX0_hasRoom_65 (by decide) (fun c_65 => ?_) (fun c_65 => ?_)
              · refine lv_iconst (v := 0) hx hb dX0_hasRoom_72 (by decide) ?_
                have hw : 0 = sl_hasRoom mo wo si mi wi p1 p2 p3 p4 := by unfold sl_hasRoom; rw [if_neg c_1, if_neg c_7, if_neg c_11, if_pos c_17, if_neg c_30, if_neg c_47, if_pos c_65]; (try rfl)
                exact W.zret (v := 0) hx hb hr rfl (fun t ht hW => ⟨⟨0, (), rfl, hw, ⟨by rw [ht]; exact hP, va_K.moved hW.alike hK, hD⟩⟩, hS.F ht⟩) hS.2.2 dX0_hasRoom_73
              · refine lv_iconst (v := 1) hx hb dX0_hasRoom_68 (by decide) ?_
                refine lv_goto (tgt := 73) hx hb dX0_hasRoom_69 (by decide) ?_
                have hw : 1 = sl_hasRoom mo wo si mi wi p1 p2 p3 p4 := by unfold sl_hasRoom; rw [if_neg c_1, if_neg c_7, if_neg c_11, if_pos c_17, if_neg c_30, if_neg c_47, if_neg c_65]; (try rfl)
                exact W.zret (v := 1) hx hb hr rfl (fun t ht hW => ⟨⟨1, (), rfl, hw, ⟨by rw [ht]; exact hP, va_K.moved hW.alike hK, hD⟩⟩, hS.F ht⟩) hS.2.2 dX0_hasRoom_73
        · refine lv_iconst (v := 0) hx hb dX0_hasRoom_20 (by decide) ?_
          have hw : 0 = sl_hasRoom mo wo si mi wi p1 p2 p3 p4 := by unfold sl_hasRoom; rw [if_neg c_1, if_neg c_7, if_neg c_11, if_neg c_17]; (try rfl)
          exact W.zret (v := 0) hx hb hr rfl (fun t ht hW => ⟨⟨0, (), rfl, hw, ⟨by rw [ht]; exact hP, va_K.moved hW.alike hK, hD⟩⟩, hS.F ht⟩) hS.2.2 dX0_hasRoom_21
set_option maxHeartbeats 4000000 in
set_option maxRecDepth 100000 in
theorem cs_settle (l : Launch) (dC : Nat → ClassId) (dI : Nat → Nat → Nat) (a : Nat → Nat) (k : Nat → ClassId) (sz : Nat) (rd wr : Nat → Int64) (ay ia mo wo so oi si mi wi : Nat → Int32) (ns nt nf np sl hs : Int32) (p1 p2 : Int32) : Met l yX0_settle wsX0_settle ({ frames := 0, cells := 0, slots := 0, locals := 0 } : Room) (va_Pc [.ref (a 0), .int p1, .int p2] (pr (dC, dI) (ws_sl a k rd wr ay ia mo wo so oi si mi wi ns nt nf np sl hs) (ty_sl k) sz)) (va_Qv (fun (u : (Nat → Int32) × (Nat → Int32) × (Nat → Int32) × (Nat → Int32)) => sl_settle mo wo so si mi wi p1 p2 = u) (fun (u : (Nat → Int32) × (Nat → Int32) × (Nat → Int32) × (Nat → Int32)) t => match u with | (so', si', mi', wi') => po (dC, dI) (ws_sl a k rd wr ay ia mo wo so' oi si' mi' wi' ns nt nf np sl hs) (ty_sl k) (va_A (ws_sl a k rd wr ay ia mo wo so oi si mi wi ns nt nf np sl hs) sz) t) (va_A (ws_sl a k rd wr ay ia mo wo so oi si mi wi ns nt nf np sl hs) sz)) 0 0 (va_A (ws_sl a k rd wr ay ia mo wo so oi si mi wi ns nt nf np sl hs) sz) := by
  refine Met.ofW (cc := cX0_settle) (maxL := 3) (ret := none) (by decide) rfl ?_
  intro p e s m args below meth c s₁ B hml hv
  obtain ⟨rfl, hsz, hP, hK, hD0⟩ := hv
  have hx := B.exec
  have hb := B.bytes
  have hr := B.returns
  have hts := atoms_spec (ws := wsX0_settle) B.pre
  have hg : ∀ w ∈ gw, w.before _ s = true := fun w h => hts w (List.mem_cons_of_mem _ h)
  have hown : s.vm.findClass RX0 = some m.cls := findClass_of_methodNamed B.named
  have hlocks := B.notSynchronized
  subst hsz
  have hD := hD0.self (sz := s.heap.size)
  generalize hAe : va_A (ws_sl a k rd wr ay ia mo wo so oi si mi wi ns nt nf np sl hs) s.heap.size = A at hD ⊢
  have hA : ∀ q : Nat, s.heap.size ≤ q → A q := fun q h => by rw [← hAe]; exact Or.inr h
  clear hAe
  refine w_in (fun H locs eH eL => ?_)
  have hS : va_S A s.heap H locs := by rw [eH, eL]; exact va_S.rf
  have hP : va_P (dC, dI) vwCl (ws_sl a k rd wr ay ia mo wo so oi si mi wi ns nt nf np sl hs) H := by rw [eH]; exact hP
  clear eH eL
  have hl := lv_entry ([.ref (a 0), .int p1, .int p2]) (n := 3) (Nat.le_of_ble_eq_true rfl)
  rw [lg_entry_eq]
  generalize (lg_sl ([.ref (a 0), .int p1, .int p2]) ++ List.replicate (3 - (lg_sl ([.ref (a 0), .int p1, .int p2])).length) Slot.unset).toArray = ls at hl ⊢
  have hl : lv_has ls 3 [(0, .ref (a 0)), (1, .int p1), (2, .int p2)] := hl
  refine lv_iload_n hx hb dX0_settle_0 rfl (lv_at hl 1 rfl) ?_
  refine lv_if_lt (tgt := 20) hx hb dX0_settle_1 (by decide) (fun c_1 => ?_) (fun c_1 => ?_)
  · have hw : sl_settle mo wo so si mi wi p1 p2 = (so, si, mi, wi) := by unfold sl_settle; rw [if_pos c_1]; (try rfl)
    exact W.vret hx hb hr (fun t ht hW => ⟨⟨(so, si, mi, wi), rfl, hw, ⟨by rw [ht]; exact hP, va_K.moved hW.alike hK, hD⟩⟩, hS.F ht⟩) hS.2.2 dX0_settle_20
  · refine lv_iload_n hx hb dX0_settle_4 rfl (lv_at hl 1 rfl) ?_
    refine lv_bipush (v := 48) hx hb dX0_settle_5 (by decide) ?_
    refine lv_icmp_ge (tgt := 20) hx hb dX0_settle_7 (by decide) (fun c_7 => ?_) (fun c_7 => ?_)
    · have hw : sl_settle mo wo so si mi wi p1 p2 = (so, si, mi, wi) := by unfold sl_settle; rw [if_neg c_1, if_pos c_7]; (try rfl)
      exact W.vret hx hb hr (fun t ht hW => ⟨⟨(so, si, mi, wi), rfl, hw, ⟨by rw [ht]; exact hP, va_K.moved hW.alike hK, hD⟩⟩, hS.F ht⟩) hS.2.2 dX0_settle_20
    · refine lv_iload_n hx hb dX0_settle_10 rfl (lv_at hl 2 rfl) ?_
      refine lv_if_lt (tgt := 20) hx hb dX0_settle_11 (by decide) (fun c_11 => ?_) (fun c_11 => ?_)
      · have hw : sl_settle mo wo so si mi wi p1 p2 = (so, si, mi, wi) := by unfold sl_settle; rw [if_neg c_1, if_neg c_7, if_pos c_11]; (try rfl)
        exact W.vret hx hb hr (fun t ht hW => ⟨⟨(so, si, mi, wi), rfl, hw, ⟨by rw [ht]; exact hP, va_K.moved hW.alike hK, hD⟩⟩, hS.F ht⟩) hS.2.2 dX0_settle_20
      · refine lv_iload_n hx hb dX0_settle_14 rfl (lv_at hl 2 rfl) ?_
        refine lv_bipush (v := 12) hx hb dX0_settle_15 (by decide) ?_
        refine lv_icmp_lt (tgt := 21) hx hb dX0_settle_17 (by decide) (fun c_17 => ?_) (fun c_17 => ?_)
        · refine lv_aload_n hx hb dX0_settle_21 rfl (lv_at hl 0 rfl) ?_
          refine va_get (D := (dC, dI)) (ci := 0) (v := .ref (a 7)) (C := RX0) (T := TX0) (N := 17) hx hb hg inX0 hown hK hP 0 rfl rfl 6 (by decide) (hg _ w_25) (fun _ h9 => h9) rfl dX0_settle_22 ?_
          refine lv_iload_n hx hb dX0_settle_25 rfl (lv_at hl 1 rfl) ?_
          refine lv_iload_n hx hb dX0_settle_26 rfl (lv_at hl 2 rfl) ?_
          refine va_iast hx hb hK hP hD hS 7 6 rfl rfl (ix_le c_1 c_7 (by decide)) dX0_settle_27 (fun H locs hP hD hS => ?_)
          have hP : va_P (dC, dI) vwCl (ws_sl a k rd wr ay ia mo wo (upd so p1.toNatClampNeg p2) oi si mi wi ns nt nf np sl hs) H := hP
          have hD : va_D A (ws_sl a k rd wr ay ia mo wo (upd so p1.toNatClampNeg p2) oi si mi wi ns nt nf np sl hs) := hD
          refine lv_aload_n hx hb dX0_settle_28 rfl (lv_at hl 0 rfl) ?_
          refine va_get (D := (dC, dI)) (ci := 0) (v := .ref (a 9)) (C := RX0) (T := TX0) (N := 17) hx hb hg inX0 hown hK hP 0 rfl rfl 8 (by decide) (hg _ w_27) (fun _ h9 => h9) rfl dX0_settle_29 ?_
          refine lv_iload_n hx hb dX0_settle_32 rfl (lv_at hl 2 rfl) ?_
          refine lv_dup2_11 hx hb dX0_settle_33 rfl rfl ?_
          refine va_iald hx hb hK hP 9 8 rfl rfl (ix_lt c_11 c_17 (by decide)) dX0_settle_34 ?_
          refine lv_iconst (v := 1) hx hb dX0_settle_35 (by decide) ?_
          refine lv_iadd hx hb dX0_settle_36 ?_
          refine va_iast hx hb hK hP hD hS 9 8 rfl rfl (ix_lt c_11 c_17 (by decide)) dX0_settle_37 (fun H locs hP hD hS => ?_)
          have hP : va_P (dC, dI) vwCl (ws_sl a k rd wr ay ia mo wo (upd so p1.toNatClampNeg p2) oi (upd si p2.toNatClampNeg ((si p2.toNatClampNeg) + 1)) mi wi ns nt nf np sl hs) H := hP
          have hD : va_D A (ws_sl a k rd wr ay ia mo wo (upd so p1.toNatClampNeg p2) oi (upd si p2.toNatClampNeg ((si p2.toNatClampNeg) + 1)) mi wi ns nt nf np sl hs) := hD
          refine lv_aload_n hx hb dX0_settle_38 rfl (lv_at hl 0 rfl) ?_
          refine va_get (D := (dC, dI)) (ci := 0) (v := .ref (a 10)) (C := RX0) (T := TX0) (N := 17) hx hb hg inX0 hown hK hP 0 rfl rfl 9 (by decide) (hg _ w_28) (fun _ h9 => h9) rfl dX0_settle_39 ?_
          refine lv_iload_n hx hb dX0_settle_42 rfl (lv_at hl 2 rfl) ?_
          refine lv_dup2_11 hx hb dX0_settle_43 rfl rfl ?_
          refine va_iald hx hb hK hP 10 9 rfl rfl (ix_lt c_11 c_17 (by decide)) dX0_settle_44 ?_
          refine lv_aload_n hx hb dX0_settle_45 rfl (lv_at hl 0 rfl) ?_
          refine va_get (D := (dC, dI)) (ci := 0) (v := .ref (a 5)) (C := RX0) (T := TX0) (N := 17) hx hb hg inX0 hown hK hP 0 rfl rfl 4 (by decide) (hg _ w_23) (fun _ h9 => h9) rfl dX0_settle_46 ?_
          refine lv_iload_n hx hb dX0_settle_49 rfl (lv_at hl 1 rfl) ?_
          refine va_iald hx hb hK hP 5 4 rfl rfl (ix_le c_1 c_7 (by decide)) dX0_settle_50 ?_
          refine lv_iadd hx hb dX0_settle_51 ?_
          refine va_iast hx hb hK hP hD hS 10 9 rfl rfl (ix_lt c_11 c_17 (by decide)) dX0_settle_52 (fun H locs hP hD hS => ?_)
          have hP : va_P (dC, dI) vwCl (ws_sl a k rd wr ay ia mo wo (upd so p1.toNatClampNeg p2) oi (upd si p2.toNatClampNeg ((si p2.toNatClampNeg) + 1)) (upd mi p2.toNatClampNeg ((mi p2.toNatClampNeg) + (mo p1.toNatClampNeg))) wi ns nt nf np sl hs) H := hP
          have hD : va_D A (ws_sl a k rd wr ay ia mo wo (upd so p1.toNatClampNeg p2) oi (upd si p2.toNatClampNeg ((si p2.toNatClampNeg) + 1)) (upd mi p2.toNatClampNeg ((mi p2.toNatClampNeg) + (mo p1.toNatClampNeg))) wi ns nt nf np sl hs) := hD
          refine lv_aload_n hx hb dX0_settle_53 rfl (lv_at hl 0 rfl) ?_
          refine va_get (D := (dC, dI)) (ci := 0) (v := .ref (a 11)) (C := RX0) (T := TX0) (N := 17) hx hb hg inX0 hown hK hP 0 rfl rfl 10 (by decide) (hg _ w_29) (fun _ h9 => h9) rfl dX0_settle_54 ?_
          refine lv_iload_n hx hb dX0_settle_57 rfl (lv_at hl 2 rfl) ?_
          refine lv_dup2_11 hx hb dX0_settle_58 rfl rfl ?_
          refine va_iald hx hb hK hP 11 10 rfl rfl (ix_lt c_11 c_17 (by decide)) dX0_settle_59 ?_
          refine lv_aload_n hx hb dX0_settle_60 rfl (lv_at hl 0 rfl) ?_
          refine va_get (D := (dC, dI)) (ci := 0) (v := .ref (a 6)) (C := RX0) (T := TX0) (N := 17) hx hb hg inX0 hown hK hP 0 rfl rfl 5 (by decide) (hg _ w_24) (fun _ h9 => h9) rfl dX0_settle_61 ?_
          refine lv_iload_n hx hb dX0_settle_64 rfl (lv_at hl 1 rfl) ?_
          refine va_iald hx hb hK hP 6 5 rfl rfl (ix_le c_1 c_7 (by decide)) dX0_settle_65 ?_
          refine lv_iadd hx hb dX0_settle_66 ?_
          refine va_iast hx hb hK hP hD hS 11 10 rfl rfl (ix_lt c_11 c_17 (by decide)) dX0_settle_67 (fun H locs hP hD hS => ?_)
          have hP : va_P (dC, dI) vwCl (ws_sl a k rd wr ay ia mo wo (upd so p1.toNatClampNeg p2) oi (upd si p2.toNatClampNeg ((si p2.toNatClampNeg) + 1)) (upd mi p2.toNatClampNeg ((mi p2.toNatClampNeg) + (mo p1.toNatClampNeg))) (upd wi p2.toNatClampNeg ((wi p2.toNatClampNeg) + (wo p1.toNatClampNeg))) ns nt nf np sl hs) H := hP
          have hD : va_D A (ws_sl a k rd wr ay ia mo wo (upd so p1.toNatClampNeg p2) oi (upd si p2.toNatClampNeg ((si p2.toNatClampNeg) + 1)) (upd mi p2.toNatClampNeg ((mi p2.toNatClampNeg) + (mo p1.toNatClampNeg))) (upd wi p2.toNatClampNeg ((wi p2.toNatClampNeg) + (wo p1.toNatClampNeg))) ns nt nf np sl hs) := hD
          have hw : sl_settle mo wo so si mi wi p1 p2 = (upd so p1.toNatClampNeg p2, upd si p2.toNatClampNeg ((si p2.toNatClampNeg) + 1), upd mi p2.toNatClampNeg ((mi p2.toNatClampNeg) + (mo p1.toNatClampNeg)), upd wi p2.toNatClampNeg ((wi p2.toNatClampNeg) + (wo p1.toNatClampNeg))) := by unfold sl_settle; rw [if_neg c_1, if_neg c_7, if_neg c_11, if_pos c_17]; (try rfl)
          exact W.vret hx hb hr (fun t ht hW => ⟨⟨(upd so p1.toNatClampNeg p2, upd si p2.toNatClampNeg ((si p2.toNatClampNeg) + 1), upd mi p2.toNatClampNeg ((mi p2.toNatClampNeg) + (mo p1.toNatClampNeg)), upd wi p2.toNatClampNeg ((wi p2.toNatClampNeg) + (wo p1.toNatClampNeg))), rfl, hw, ⟨by rw [ht]; exact hP, va_K.moved hW.alike hK, hD⟩⟩, hS.F ht⟩) hS.2.2 dX0_settle_68
        · have hw : sl_settle mo wo so si mi wi p1 p2 = (so, si, mi, wi) := by unfold sl_settle; rw [if_neg c_1, if_neg c_7, if_neg c_11, if_neg c_17]; (try rfl)
          exact W.vret hx hb hr (fun t ht hW => ⟨⟨(so, si, mi, wi), rfl, hw, ⟨by rw [ht]; exact hP, va_K.moved hW.alike hK, hD⟩⟩, hS.F ht⟩) hS.2.2 dX0_settle_20
set_option maxHeartbeats 4000000 in
set_option maxRecDepth 100000 in
theorem cs_earliestStage_L63 {p : Program} {l : Launch} {e : Env} {s : State} {m : MethodId} {args : Array Value} {below : List Frame} {meth : Method} {c : Code} {Q : State → Prop} {dC : Nat → ClassId} {dI : Nat → Nat → Nat} {a : Nat → Nat} {k : Nat → ClassId} {A : Nat → Prop} (rd wr : Nat → Int64) (ay ia mo wo so oi si mi wi : Nat → Int32) (ns nt nf np sl hs : Int32) (p1 : Int32) (w4 t6 : Int64) (hx : p.tables.exec = Jvm.exec) (hb : c.code = cX0_earliestStage) (hml : c.maxLocals = 9) (hown : s.vm.findClass RX0 = some m.cls) (hg : ∀ w ∈ gw, w.before args s = true) (hA : ∀ q : Nat, s.heap.size ≤ q → A q) (hK : va_K (dC, dI) vwCl (ty_sl k) s) (h48 : p1.toInt ≤ 48) :
    ∀ (n : Nat) (x3 x8 : Int32) (H : Heap) (locs : List Loc) (ls : Array Slot), (cnt p1 x8 n) → va_P (dC, dI) vwCl (ws_sl a k rd wr ay ia mo wo so oi si mi wi ns nt nf np sl hs) H → va_D A (ws_sl a k rd wr ay ia mo wo so oi si mi wi ns nt nf np sl hs) → va_S A s.heap H locs → lv_has ls 9 [(0, .ref (a 0)), (1, .int p1), (4, .long w4), (6, .long t6), (3, .int x3), (8, .int x8)] →
      (∀ (x3_o63 : Int32), sl_earliestStage_L63 rd wr so p1 w4 t6 n x3 x8 = x3_o63 → ∀ (H : Heap) (locs : List Loc) (ls : Array Slot), va_P (dC, dI) vwCl (ws_sl a k rd wr ay ia mo wo so oi si mi wi ns nt nf np sl hs) H → va_D A (ws_sl a k rd wr ay ia mo wo so oi si mi wi ns nt nf np sl hs) → va_S A s.heap H locs → lv_has ls 9 [(0, .ref (a 0)), (1, .int p1), (4, .long w4), (6, .long t6), (3, .int x3_o63)] → W p l e (headSpec wsX0_earliestStage ({ frames := 1, cells := 0, slots := 0, locals := 21 } : Room)).room s m args below meth c H locs 0 0 Q (F0 m 134 ls [])) →
      W p l e (headSpec wsX0_earliestStage ({ frames := 1, cells := 0, slots := 0, locals := 21 } : Room)).room s m args below meth c H locs 0 0 Q (F0 m 63 ls []) := by
  intro n
  induction n with
  | zero =>
    intro x3 x8 H locs ls hinv
    exact absurd hinv (cnt_z)
  | succ n ih =>
    intro x3 x8 H locs ls hinv hP hD hS hl k0
    refine lv_iload hx hb dX0_earliestStage_63 (lv_at hl 5 rfl) ?_
    refine lv_iload_n hx hb dX0_earliestStage_65 rfl (lv_at hl 1 rfl) ?_
    refine lv_icmp_ge (tgt := 134) hx hb dX0_earliestStage_66 (by decide) (fun c_66 => ?_) (fun c_66 => ?_)
    · exact k0 x3 (by rw [sl_earliestStage_L63_s]; rw [if_pos c_66]; (try rfl)) H locs ls hP hD hS (lv_sub hl [0, 1, 2, 3, 4] rfl)
    · refine lv_aload_n hx hb dX0_earliestStage_69 rfl (lv_at hl 0 rfl) ?_
      refine va_get (D := (dC, dI)) (ci := 0) (v := .ref (a 2)) (C := RX0) (T := TX0) (N := 17) hx hb hg inX0 hown hK hP 0 rfl rfl 1 (by decide) (hg _ w_20) (fun _ h9 => h9) rfl dX0_earliestStage_70 ?_
      refine lv_iload hx hb dX0_earliestStage_73 (lv_at hl 5 rfl) ?_
      refine va_lald hx hb hK hP 2 1 rfl rfl (cnt_in hinv c_66 h48) dX0_earliestStage_75 ?_
      refine lv_lload hx hb dX0_earliestStage_76 (lv_at hl 3 rfl) ?_
      refine lv_land hx hb dX0_earliestStage_78 ?_
      refine lv_lconst (v := 0) hx hb dX0_earliestStage_79 (by decide) ?_
      refine W.lcmp hx hb dX0_earliestStage_80 ?_
      refine lv_if_eq (tgt := 101) hx hb dX0_earliestStage_81 (by decide) (fun c_81 => ?_) (fun c_81 => ?_)
      · refine lv_aload_n hx hb dX0_earliestStage_101 rfl (lv_at hl 0 rfl) ?_
        refine va_get (D := (dC, dI)) (ci := 0) (v := .ref (a 1)) (C := RX0) (T := TX0) (N := 17) hx hb hg inX0 hown hK hP 0 rfl rfl 0 (by decide) (hg _ w_19) (fun _ h9 => h9) rfl dX0_earliestStage_102 ?_
        refine lv_iload hx hb dX0_earliestStage_105 (lv_at hl 5 rfl) ?_
        refine va_lald hx hb hK hP 1 0 rfl rfl (cnt_in hinv c_66 h48) dX0_earliestStage_107 ?_
        refine lv_lload hx hb dX0_earliestStage_108 (lv_at hl 2 rfl) ?_
        refine lv_land hx hb dX0_earliestStage_110 ?_
        refine lv_lconst (v := 0) hx hb dX0_earliestStage_111 (by decide) ?_
        refine W.lcmp hx hb dX0_earliestStage_112 ?_
        refine lv_if_eq (tgt := 128) hx hb dX0_earliestStage_113 (by decide) (fun c_113 => ?_) (fun c_113 => ?_)
        · refine lv_iinc (v := x8 + 1) (lv' := [(8, .int (x8 + 1)), (0, .ref (a 0)), (1, .int p1), (4, .long w4), (6, .long t6), (3, .int x3)]) hx hb dX0_earliestStage_128 hl (k := 5) rfl rfl (by decide) rfl (fun ls hl => ?_)
          refine lv_goto (tgt := 63) hx hb dX0_earliestStage_131 (by decide) ?_
          exact ih x3 (x8 + 1) H locs ls (cnt_s hinv c_66) hP hD hS (lv_sub hl [1, 2, 3, 4, 5, 0] rfl) (fun x3_o63 hw H locs ls hP hD hS hl => k0 x3_o63 (by rw [sl_earliestStage_L63_s]; rw [if_neg c_66, if_pos c_81, if_pos c_113]; exact hw) H locs ls hP hD hS hl)
        · refine lv_iload_n hx hb dX0_earliestStage_116 rfl (lv_at hl 4 rfl) ?_
          refine lv_aload_n hx hb dX0_earliestStage_117 rfl (lv_at hl 0 rfl) ?_
          refine va_get (D := (dC, dI)) (ci := 0) (v := .ref (a 7)) (C := RX0) (T := TX0) (N := 17) hx hb hg inX0 hown hK hP 0 rfl rfl 6 (by decide) (hg _ w_25) (fun _ h9 => h9) rfl dX0_earliestStage_118 ?_
          refine lv_iload hx hb dX0_earliestStage_121 (lv_at hl 5 rfl) ?_
          refine va_iald hx hb hK hP 7 6 rfl rfl (cnt_in hinv c_66 h48) dX0_earliestStage_123 ?_
          refine va_mmax hx hb (hml.trans hl.1.symm) hown (hg _ w_199) (hg _ w_200) (hg _ w_8) (hg _ w_201) (Nat.le_of_ble_eq_true rfl) (Nat.le_of_ble_eq_true rfl) (Nat.le_of_ble_eq_true rfl) (Nat.le_of_ble_eq_true rfl) dX0_earliestStage_124 ?_
          refine lv_istore_n (lv' := [(3, .int (if x3 < (so x8.toNatClampNeg) then (so x8.toNatClampNeg) else x3)), (0, .ref (a 0)), (1, .int p1), (4, .long w4), (6, .long t6), (8, .int x8)]) hx hb dX0_earliestStage_127 rfl hl (by decide) rfl (fun ls hl => ?_)
          refine lv_iinc (v := x8 + 1) (lv' := [(8, .int (x8 + 1)), (3, .int (if x3 < (so x8.toNatClampNeg) then (so x8.toNatClampNeg) else x3)), (0, .ref (a 0)), (1, .int p1), (4, .long w4), (6, .long t6)]) hx hb dX0_earliestStage_128 hl (k := 5) rfl rfl (by decide) rfl (fun ls hl => ?_)
          refine lv_goto (tgt := 63) hx hb dX0_earliestStage_131 (by decide) ?_
          exact ih (if x3 < (so x8.toNatClampNeg) then (so x8.toNatClampNeg) else x3) (x8 + 1) H locs ls (cnt_s hinv c_66) hP hD hS (lv_sub hl [2, 3, 4, 5, 1, 0] rfl) (fun x3_o63 hw H locs ls hP hD hS hl => k0 x3_o63 (by rw [sl_earliestStage_L63_s]; rw [if_neg c_66, if_pos c_81, if_neg c_113]; exact hw) H locs ls hP hD hS hl)
      · refine lv_iload_n hx hb dX0_earliestStage_84 rfl (lv_at hl 4 rfl) ?_
        refine lv_aload_n hx hb dX0_earliestStage_85 rfl (lv_at hl 0 rfl) ?_
        refine va_get (D := (dC, dI)) (ci := 0) (v := .ref (a 7)) (C := RX0) (T := TX0) (N := 17) hx hb hg inX0 hown hK hP 0 rfl rfl 6 (by decide) (hg _ w_25) (fun _ h9 => h9) rfl dX0_earliestStage_86 ?_
        refine lv_iload hx hb dX0_earliestStage_89 (lv_at hl 5 rfl) ?_
        refine va_iald hx hb hK hP 7 6 rfl rfl (cnt_in hinv c_66 h48) dX0_earliestStage_91 ?_
        refine lv_iconst (v := 1) hx hb dX0_earliestStage_92 (by decide) ?_
        refine lv_iadd hx hb dX0_earliestStage_93 ?_
        refine va_mmax hx hb (hml.trans hl.1.symm) hown (hg _ w_199) (hg _ w_200) (hg _ w_8) (hg _ w_201) (Nat.le_of_ble_eq_true rfl) (Nat.le_of_ble_eq_true rfl) (Nat.le_of_ble_eq_true rfl) (Nat.le_of_ble_eq_true rfl) dX0_earliestStage_94 ?_
        refine lv_istore_n (lv' := [(3, .int (if x3 < ((so x8.toNatClampNeg) + 1) then ((so x8.toNatClampNeg) + 1) else x3)), (0, .ref (a 0)), (1, .int p1), (4, .long w4), (6, .long t6), (8, .int x8)]) hx hb dX0_earliestStage_97 rfl hl (by decide) rfl (fun ls hl => ?_)
        refine lv_goto (tgt := 128) hx hb dX0_earliestStage_98 (by decide) ?_
        refine lv_iinc (v := x8 + 1) (lv' := [(8, .int (x8 + 1)), (3, .int (if x3 < ((so x8.toNatClampNeg) + 1) then ((so x8.toNatClampNeg) + 1) else x3)), (0, .ref (a 0)), (1, .int p1), (4, .long w4), (6, .long t6)]) hx hb dX0_earliestStage_128 hl (k := 5) rfl rfl (by decide) rfl (fun ls hl => ?_)
        refine lv_goto (tgt := 63) hx hb dX0_earliestStage_131 (by decide) ?_
        exact ih (if x3 < ((so x8.toNatClampNeg) + 1) then ((so x8.toNatClampNeg) + 1) else x3) (x8 + 1) H locs ls (cnt_s hinv c_66) hP hD hS (lv_sub hl [2, 3, 4, 5, 1, 0] rfl) (fun x3_o63 hw H locs ls hP hD hS hl => k0 x3_o63 (by rw [sl_earliestStage_L63_s]; rw [if_neg c_66, if_neg c_81]; exact hw) H locs ls hP hD hS hl)
set_option maxHeartbeats 4000000 in
set_option maxRecDepth 100000 in
theorem cs_earliestStage (l : Launch) (dC : Nat → ClassId) (dI : Nat → Nat → Nat) (a : Nat → Nat) (k : Nat → ClassId) (sz : Nat) (rd wr : Nat → Int64) (ay ia mo wo so oi si mi wi : Nat → Int32) (ns nt nf np sl hs : Int32) (p1 : Int32) : Met l yX0_earliestStage wsX0_earliestStage ({ frames := 1, cells := 0, slots := 0, locals := 21 } : Room) (va_Pc [.ref (a 0), .int p1] (pr (dC, dI) (ws_sl a k rd wr ay ia mo wo so oi si mi wi ns nt nf np sl hs) (ty_sl k) sz)) (va_Qi (fun (r : Int32) (_ : Unit) => r = sl_earliestStage rd wr ia so p1) (fun (_ : Unit) t => po (dC, dI) (ws_sl a k rd wr ay ia mo wo so oi si mi wi ns nt nf np sl hs) (ty_sl k) (va_A (ws_sl a k rd wr ay ia mo wo so oi si mi wi ns nt nf np sl hs) sz) t) (va_A (ws_sl a k rd wr ay ia mo wo so oi si mi wi ns nt nf np sl hs) sz)) 0 0 (va_A (ws_sl a k rd wr ay ia mo wo so oi si mi wi ns nt nf np sl hs) sz) := by
  refine Met.ofW (cc := cX0_earliestStage) (maxL := 9) (ret := (some .int)) (by decide) rfl ?_
  intro p e s m args below meth c s₁ B hml hv
  obtain ⟨rfl, hsz, hP, hK, hD0⟩ := hv
  have hx := B.exec
  have hb := B.bytes
  have hr := B.returns
  have hts := atoms_spec (ws := wsX0_earliestStage) B.pre
  have hg : ∀ w ∈ gw, w.before _ s = true := fun w h => hts w (List.mem_cons_of_mem _ h)
  have hown : s.vm.findClass RX0 = some m.cls := findClass_of_methodNamed B.named
  have hlocks := B.notSynchronized
  subst hsz
  have hD := hD0.self (sz := s.heap.size)
  generalize hAe : va_A (ws_sl a k rd wr ay ia mo wo so oi si mi wi ns nt nf np sl hs) s.heap.size = A at hD ⊢
  have hA : ∀ q : Nat, s.heap.size ≤ q → A q := fun q h => by rw [← hAe]; exact Or.inr h
  clear hAe
  refine w_in (fun H locs eH eL => ?_)
  have hS : va_S A s.heap H locs := by rw [eH, eL]; exact va_S.rf
  have hP : va_P (dC, dI) vwCl (ws_sl a k rd wr ay ia mo wo so oi si mi wi ns nt nf np sl hs) H := by rw [eH]; exact hP
  clear eH eL
  have hl := lv_entry ([.ref (a 0), .int p1]) (n := 9) (Nat.le_of_ble_eq_true rfl)
  rw [lg_entry_eq]
  generalize (lg_sl ([.ref (a 0), .int p1]) ++ List.replicate (9 - (lg_sl ([.ref (a 0), .int p1])).length) Slot.unset).toArray = ls at hl ⊢
  have hl : lv_has ls 9 [(0, .ref (a 0)), (1, .int p1)] := hl
  refine lv_iload_n hx hb dX0_earliestStage_0 rfl (lv_at hl 1 rfl) ?_
  refine lv_if_lt (tgt := 10) hx hb dX0_earliestStage_1 (by decide) (fun c_1 => ?_) (fun c_1 => ?_)
  · refine lv_iconst (v := 0) hx hb dX0_earliestStage_10 (by decide) ?_
    have hw : 0 = sl_earliestStage rd wr ia so p1 := by unfold sl_earliestStage; rw [if_pos c_1]; (try rfl)
    exact W.iret (v := 0) hx hb hr (fun t ht hW => ⟨⟨0, (), rfl, hw, ⟨by rw [ht]; exact hP, va_K.moved hW.alike hK, hD⟩⟩, hS.F ht⟩) hS.2.2 dX0_earliestStage_11
  · refine lv_iload_n hx hb dX0_earliestStage_4 rfl (lv_at hl 1 rfl) ?_
    refine lv_bipush (v := 48) hx hb dX0_earliestStage_5 (by decide) ?_
    refine lv_icmp_lt (tgt := 12) hx hb dX0_earliestStage_7 (by decide) (fun c_7 => ?_) (fun c_7 => ?_)
    · refine lv_aload_n hx hb dX0_earliestStage_12 rfl (lv_at hl 0 rfl) ?_
      refine va_get (D := (dC, dI)) (ci := 0) (v := .ref (a 4)) (C := RX0) (T := TX0) (N := 17) hx hb hg inX0 hown hK hP 0 rfl rfl 3 (by decide) (hg _ w_22) (fun _ h9 => h9) rfl dX0_earliestStage_13 ?_
      refine lv_iload_n hx hb dX0_earliestStage_16 rfl (lv_at hl 1 rfl) ?_
      refine va_iald hx hb hK hP 4 3 rfl rfl (ix_lt c_1 c_7 (by decide)) dX0_earliestStage_17 ?_
      refine lv_istore_n (lv' := [(2, .int (ia p1.toNatClampNeg)), (0, .ref (a 0)), (1, .int p1)]) hx hb dX0_earliestStage_18 rfl hl (by decide) rfl (fun ls hl => ?_)
      refine lv_iload_n hx hb dX0_earliestStage_19 rfl (lv_at hl 0 rfl) ?_
      refine lv_if_lt (tgt := 39) hx hb dX0_earliestStage_20 (by decide) (fun c_20 => ?_) (fun c_20 => ?_)
      · refine lv_iconst (v := 0) hx hb dX0_earliestStage_39 (by decide) ?_
        refine lv_istore_n (lv' := [(3, .int 0), (2, .int (ia p1.toNatClampNeg)), (0, .ref (a 0)), (1, .int p1)]) hx hb dX0_earliestStage_40 rfl hl (by decide) rfl (fun ls hl => ?_)
        refine lv_aload_n hx hb dX0_earliestStage_41 rfl (lv_at hl 2 rfl) ?_
        refine va_get (D := (dC, dI)) (ci := 0) (v := .ref (a 2)) (C := RX0) (T := TX0) (N := 17) hx hb hg inX0 hown hK hP 0 rfl rfl 1 (by decide) (hg _ w_20) (fun _ h9 => h9) rfl dX0_earliestStage_42 ?_
        refine lv_iload_n hx hb dX0_earliestStage_45 rfl (lv_at hl 3 rfl) ?_
        refine va_lald hx hb hK hP 2 1 rfl rfl (ix_lt c_1 c_7 (by decide)) dX0_earliestStage_46 ?_
        refine lv_lstore (lv' := [(4, .long (wr p1.toNatClampNeg)), (3, .int 0), (2, .int (ia p1.toNatClampNeg)), (0, .ref (a 0)), (1, .int p1)]) hx hb dX0_earliestStage_47 hl (by decide) rfl (fun ls hl => ?_)
        refine lv_aload_n hx hb dX0_earliestStage_49 rfl (lv_at hl 3 rfl) ?_
        refine va_get (D := (dC, dI)) (ci := 0) (v := .ref (a 1)) (C := RX0) (T := TX0) (N := 17) hx hb hg inX0 hown hK hP 0 rfl rfl 0 (by decide) (hg _ w_19) (fun _ h9 => h9) rfl dX0_earliestStage_50 ?_
        refine lv_iload_n hx hb dX0_earliestStage_53 rfl (lv_at hl 4 rfl) ?_
        refine va_lald hx hb hK hP 1 0 rfl rfl (ix_lt c_1 c_7 (by decide)) dX0_earliestStage_54 ?_
        refine lv_lload hx hb dX0_earliestStage_55 (lv_at hl 0 rfl) ?_
        refine lv_lor hx hb dX0_earliestStage_57 ?_
        refine lv_lstore (lv' := [(6, .long ((rd p1.toNatClampNeg) ||| (wr p1.toNatClampNeg))), (4, .long (wr p1.toNatClampNeg)), (3, .int 0), (2, .int (ia p1.toNatClampNeg)), (0, .ref (a 0)), (1, .int p1)]) hx hb dX0_earliestStage_58 hl (by decide) rfl (fun ls hl => ?_)
        refine lv_iconst (v := 0) hx hb dX0_earliestStage_60 (by decide) ?_
        refine lv_istore (lv' := [(8, .int 0), (6, .long ((rd p1.toNatClampNeg) ||| (wr p1.toNatClampNeg))), (4, .long (wr p1.toNatClampNeg)), (3, .int 0), (2, .int (ia p1.toNatClampNeg)), (0, .ref (a 0)), (1, .int p1)]) hx hb dX0_earliestStage_61 hl (by decide) rfl (fun ls hl => ?_)
        refine cs_earliestStage_L63 rd wr ay ia mo wo so oi si mi wi ns nt nf np sl hs p1 (wr p1.toNatClampNeg) ((rd p1.toNatClampNeg) ||| (wr p1.toNatClampNeg)) hx hb hml hown hg hA hK (le_of c_7 (by decide)) 49 0 0 H locs ls (cnt_0 (nn_of c_1) (lt_of c_7 (by decide))) hP hD hS (lv_sub hl [5, 6, 2, 1, 3, 0] rfl) (fun x3_o63 hw_63 H locs ls hP hD hS hl => ?_)
        refine lv_iload_n hx hb dX0_earliestStage_134 rfl (lv_at hl 4 rfl) ?_
        have hw : x3_o63 = sl_earliestStage rd wr ia so p1 := by unfold sl_earliestStage; rw [if_neg c_1, if_pos c_7, if_pos c_20, hw_63]; (try dsimp only); (try rfl)
        exact W.iret (v := x3_o63) hx hb hr (fun t ht hW => ⟨⟨x3_o63, (), rfl, hw, ⟨by rw [ht]; exact hP, va_K.moved hW.alike hK, hD⟩⟩, hS.F ht⟩) hS.2.2 dX0_earliestStage_135
      · refine lv_iload_n hx hb dX0_earliestStage_23 rfl (lv_at hl 0 rfl) ?_
        refine lv_iload_n hx hb dX0_earliestStage_24 rfl (lv_at hl 2 rfl) ?_
        refine lv_icmp_ge (tgt := 39) hx hb dX0_earliestStage_25 (by decide) (fun c_25 => ?_) (fun c_25 => ?_)
        · refine lv_iconst (v := 0) hx hb dX0_earliestStage_39 (by decide) ?_
          refine lv_istore_n (lv' := [(3, .int 0), (2, .int (ia p1.toNatClampNeg)), (0, .ref (a 0)), (1, .int p1)]) hx hb dX0_earliestStage_40 rfl hl (by decide) rfl (fun ls hl => ?_)
          refine lv_aload_n hx hb dX0_earliestStage_41 rfl (lv_at hl 2 rfl) ?_
          refine va_get (D := (dC, dI)) (ci := 0) (v := .ref (a 2)) (C := RX0) (T := TX0) (N := 17) hx hb hg inX0 hown hK hP 0 rfl rfl 1 (by decide) (hg _ w_20) (fun _ h9 => h9) rfl dX0_earliestStage_42 ?_
          refine lv_iload_n hx hb dX0_earliestStage_45 rfl (lv_at hl 3 rfl) ?_
          refine va_lald hx hb hK hP 2 1 rfl rfl (ix_lt c_1 c_7 (by decide)) dX0_earliestStage_46 ?_
          refine lv_lstore (lv' := [(4, .long (wr p1.toNatClampNeg)), (3, .int 0), (2, .int (ia p1.toNatClampNeg)), (0, .ref (a 0)), (1, .int p1)]) hx hb dX0_earliestStage_47 hl (by decide) rfl (fun ls hl => ?_)
          refine lv_aload_n hx hb dX0_earliestStage_49 rfl (lv_at hl 3 rfl) ?_
          refine va_get (D := (dC, dI)) (ci := 0) (v := .ref (a 1)) (C := RX0) (T := TX0) (N := 17) hx hb hg inX0 hown hK hP 0 rfl rfl 0 (by decide) (hg _ w_19) (fun _ h9 => h9) rfl dX0_earliestStage_50 ?_
          refine lv_iload_n hx hb dX0_earliestStage_53 rfl (lv_at hl 4 rfl) ?_
          refine va_lald hx hb hK hP 1 0 rfl rfl (ix_lt c_1 c_7 (by decide)) dX0_earliestStage_54 ?_
          refine lv_lload hx hb dX0_earliestStage_55 (lv_at hl 0 rfl) ?_
          refine lv_lor hx hb dX0_earliestStage_57 ?_
          refine lv_lstore (lv' := [(6, .long ((rd p1.toNatClampNeg) ||| (wr p1.toNatClampNeg))), (4, .long (wr p1.toNatClampNeg)), (3, .int 0), (2, .int (ia p1.toNatClampNeg)), (0, .ref (a 0)), (1, .int p1)]) hx hb dX0_earliestStage_58 hl (by decide) rfl (fun ls hl => ?_)
          refine lv_iconst (v := 0) hx hb dX0_earliestStage_60 (by decide) ?_
          refine lv_istore (lv' := [(8, .int 0), (6, .long ((rd p1.toNatClampNeg) ||| (wr p1.toNatClampNeg))), (4, .long (wr p1.toNatClampNeg)), (3, .int 0), (2, .int (ia p1.toNatClampNeg)), (0, .ref (a 0)), (1, .int p1)]) hx hb dX0_earliestStage_61 hl (by decide) rfl (fun ls hl => ?_)
          refine cs_earliestStage_L63 rd wr ay ia mo wo so oi si mi wi ns nt nf np sl hs p1 (wr p1.toNatClampNeg) ((rd p1.toNatClampNeg) ||| (wr p1.toNatClampNeg)) hx hb hml hown hg hA hK (le_of c_7 (by decide)) 49 0 0 H locs ls (cnt_0 (nn_of c_1) (lt_of c_7 (by decide))) hP hD hS (lv_sub hl [5, 6, 2, 1, 3, 0] rfl) (fun x3_o63 hw_63 H locs ls hP hD hS hl => ?_)
          refine lv_iload_n hx hb dX0_earliestStage_134 rfl (lv_at hl 4 rfl) ?_
          have hw : x3_o63 = sl_earliestStage rd wr ia so p1 := by unfold sl_earliestStage; rw [if_neg c_1, if_pos c_7, if_neg c_20, if_pos c_25, hw_63]; (try dsimp only); (try rfl)
          exact W.iret (v := x3_o63) hx hb hr (fun t ht hW => ⟨⟨x3_o63, (), rfl, hw, ⟨by rw [ht]; exact hP, va_K.moved hW.alike hK, hD⟩⟩, hS.F ht⟩) hS.2.2 dX0_earliestStage_135
        · refine lv_aload_n hx hb dX0_earliestStage_28 rfl (lv_at hl 1 rfl) ?_
          refine va_get (D := (dC, dI)) (ci := 0) (v := .ref (a 7)) (C := RX0) (T := TX0) (N := 17) hx hb hg inX0 hown hK hP 0 rfl rfl 6 (by decide) (hg _ w_25) (fun _ h9 => h9) rfl dX0_earliestStage_29 ?_
          refine lv_iload_n hx hb dX0_earliestStage_32 rfl (lv_at hl 0 rfl) ?_
          refine va_iald hx hb hK hP 7 6 rfl rfl (ix_tr c_20 c_25 c_7) dX0_earliestStage_33 ?_
          refine lv_iconst (v := 1) hx hb dX0_earliestStage_34 (by decide) ?_
          refine lv_iadd hx hb dX0_earliestStage_35 ?_
          refine lv_goto (tgt := 40) hx hb dX0_earliestStage_36 (by decide) ?_
          refine lv_istore_n (lv' := [(3, .int ((so (ia p1.toNatClampNeg).toNatClampNeg) + 1)), (2, .int (ia p1.toNatClampNeg)), (0, .ref (a 0)), (1, .int p1)]) hx hb dX0_earliestStage_40 rfl hl (by decide) rfl (fun ls hl => ?_)
          refine lv_aload_n hx hb dX0_earliestStage_41 rfl (lv_at hl 2 rfl) ?_
          refine va_get (D := (dC, dI)) (ci := 0) (v := .ref (a 2)) (C := RX0) (T := TX0) (N := 17) hx hb hg inX0 hown hK hP 0 rfl rfl 1 (by decide) (hg _ w_20) (fun _ h9 => h9) rfl dX0_earliestStage_42 ?_
          refine lv_iload_n hx hb dX0_earliestStage_45 rfl (lv_at hl 3 rfl) ?_
          refine va_lald hx hb hK hP 2 1 rfl rfl (ix_lt c_1 c_7 (by decide)) dX0_earliestStage_46 ?_
          refine lv_lstore (lv' := [(4, .long (wr p1.toNatClampNeg)), (3, .int ((so (ia p1.toNatClampNeg).toNatClampNeg) + 1)), (2, .int (ia p1.toNatClampNeg)), (0, .ref (a 0)), (1, .int p1)]) hx hb dX0_earliestStage_47 hl (by decide) rfl (fun ls hl => ?_)
          refine lv_aload_n hx hb dX0_earliestStage_49 rfl (lv_at hl 3 rfl) ?_
          refine va_get (D := (dC, dI)) (ci := 0) (v := .ref (a 1)) (C := RX0) (T := TX0) (N := 17) hx hb hg inX0 hown hK hP 0 rfl rfl 0 (by decide) (hg _ w_19) (fun _ h9 => h9) rfl dX0_earliestStage_50 ?_
          refine lv_iload_n hx hb dX0_earliestStage_53 rfl (lv_at hl 4 rfl) ?_
          refine va_lald hx hb hK hP 1 0 rfl rfl (ix_lt c_1 c_7 (by decide)) dX0_earliestStage_54 ?_
          refine lv_lload hx hb dX0_earliestStage_55 (lv_at hl 0 rfl) ?_
          refine lv_lor hx hb dX0_earliestStage_57 ?_
          refine lv_lstore (lv' := [(6, .long ((rd p1.toNatClampNeg) ||| (wr p1.toNatClampNeg))), (4, .long (wr p1.toNatClampNeg)), (3, .int ((so (ia p1.toNatClampNeg).toNatClampNeg) + 1)), (2, .int (ia p1.toNatClampNeg)), (0, .ref (a 0)), (1, .int p1)]) hx hb dX0_earliestStage_58 hl (by decide) rfl (fun ls hl => ?_)
          refine lv_iconst (v := 0) hx hb dX0_earliestStage_60 (by decide) ?_
          refine lv_istore (lv' := [(8, .int 0), (6, .long ((rd p1.toNatClampNeg) ||| (wr p1.toNatClampNeg))), (4, .long (wr p1.toNatClampNeg)), (3, .int ((so (ia p1.toNatClampNeg).toNatClampNeg) + 1)), (2, .int (ia p1.toNatClampNeg)), (0, .ref (a 0)), (1, .int p1)]) hx hb dX0_earliestStage_61 hl (by decide) rfl (fun ls hl => ?_)
          refine cs_earliestStage_L63 rd wr ay ia mo wo so oi si mi wi ns nt nf np sl hs p1 (wr p1.toNatClampNeg) ((rd p1.toNatClampNeg) ||| (wr p1.toNatClampNeg)) hx hb hml hown hg hA hK (le_of c_7 (by decide)) 49 ((so (ia p1.toNatClampNeg).toNatClampNeg) + 1) 0 H locs ls (cnt_0 (nn_of c_1) (lt_of c_7 (by decide))) hP hD hS (lv_sub hl [5, 6, 2, 1, 3, 0] rfl) (fun x3_o63 hw_63 H locs ls hP hD hS hl => ?_)
          refine lv_iload_n hx hb dX0_earliestStage_134 rfl (lv_at hl 4 rfl) ?_
          have hw : x3_o63 = sl_earliestStage rd wr ia so p1 := by unfold sl_earliestStage; rw [if_neg c_1, if_pos c_7, if_neg c_20, if_neg c_25, hw_63]; (try dsimp only); (try rfl)
          exact W.iret (v := x3_o63) hx hb hr (fun t ht hW => ⟨⟨x3_o63, (), rfl, hw, ⟨by rw [ht]; exact hP, va_K.moved hW.alike hK, hD⟩⟩, hS.F ht⟩) hS.2.2 dX0_earliestStage_135
    · refine lv_iconst (v := 0) hx hb dX0_earliestStage_10 (by decide) ?_
      have hw : 0 = sl_earliestStage rd wr ia so p1 := by unfold sl_earliestStage; rw [if_neg c_1, if_neg c_7]; (try rfl)
      exact W.iret (v := 0) hx hb hr (fun t ht hW => ⟨⟨0, (), rfl, hw, ⟨by rw [ht]; exact hP, va_K.moved hW.alike hK, hD⟩⟩, hS.F ht⟩) hS.2.2 dX0_earliestStage_11
set_option maxHeartbeats 4000000 in
set_option maxRecDepth 100000 in
theorem cs_stageOfSharedArray_L24 {p : Program} {l : Launch} {e : Env} {s : State} {m : MethodId} {args : Array Value} {below : List Frame} {meth : Method} {c : Code} {Q : State → Prop} {dC : Nat → ClassId} {dI : Nat → Nat → Nat} {a : Nat → Nat} {k : Nat → ClassId} {A : Nat → Prop} (rd wr : Nat → Int64) (ay ia mo wo so oi si mi wi : Nat → Int32) (ns nt nf np sl hs : Int32) (p1 : Int32) (hx : p.tables.exec = Jvm.exec) (hb : c.code = cX0_stageOfSharedArray) (hml : c.maxLocals = 3) (hown : s.vm.findClass RX0 = some m.cls) (hg : ∀ w ∈ gw, w.before args s = true) (hA : ∀ q : Nat, s.heap.size ≤ q → A q) (hK : va_K (dC, dI) vwCl (ty_sl k) s) (h0 : ¬ p1 < 0) (h1 : p1 < 48) :
    ∀ (n : Nat) (x2 : Int32) (H : Heap) (locs : List Loc) (ls : Array Slot), (cnt p1 x2 n) → va_P (dC, dI) vwCl (ws_sl a k rd wr ay ia mo wo so oi si mi wi ns nt nf np sl hs) H → va_D A (ws_sl a k rd wr ay ia mo wo so oi si mi wi ns nt nf np sl hs) → va_S A s.heap H locs → lv_has ls 3 [(0, .ref (a 0)), (1, .int p1), (2, .int x2)] →
      (∀ (_ : Unit), sl_stageOfSharedArray_L24 ay so p1 n x2 = .inl () → ∀ (H : Heap) (locs : List Loc) (ls : Array Slot), va_P (dC, dI) vwCl (ws_sl a k rd wr ay ia mo wo so oi si mi wi ns nt nf np sl hs) H → va_D A (ws_sl a k rd wr ay ia mo wo so oi si mi wi ns nt nf np sl hs) → va_S A s.heap H locs → lv_has ls 3 [(0, .ref (a 0)), (1, .int p1)] → W p l e (headSpec wsX0_stageOfSharedArray ({ frames := 0, cells := 0, slots := 0, locals := 0 } : Room)).room s m args below meth c H locs 0 0 Q (F0 m 57 ls [])) →
      (∀ (r0_o24 : Int32), sl_stageOfSharedArray_L24 ay so p1 n x2 = .inr r0_o24 → ∀ (H : Heap) (locs : List Loc) (ls : Array Slot), va_P (dC, dI) vwCl (ws_sl a k rd wr ay ia mo wo so oi si mi wi ns nt nf np sl hs) H → va_D A (ws_sl a k rd wr ay ia mo wo so oi si mi wi ns nt nf np sl hs) → va_S A s.heap H locs → lv_has ls 3 [(0, .ref (a 0)), (1, .int p1)] → W p l e (headSpec wsX0_stageOfSharedArray ({ frames := 0, cells := 0, slots := 0, locals := 0 } : Room)).room s m args below meth c H locs 0 0 Q (F0 m 50 ls [.int r0_o24])) →
      W p l e (headSpec wsX0_stageOfSharedArray ({ frames := 0, cells := 0, slots := 0, locals := 0 } : Room)).room s m args below meth c H locs 0 0 Q (F0 m 24 ls []) := by
  intro n
  induction n with
  | zero =>
    intro x2 H locs ls hinv
    exact absurd hinv (cnt_z)
  | succ n ih =>
    intro x2 H locs ls hinv hP hD hS hl k0 k1
    refine lv_iload_n hx hb dX0_stageOfSharedArray_24 rfl (lv_at hl 2 rfl) ?_
    refine lv_iload_n hx hb dX0_stageOfSharedArray_25 rfl (lv_at hl 1 rfl) ?_
    refine lv_icmp_ge (tgt := 57) hx hb dX0_stageOfSharedArray_26 (by decide) (fun c_26 => ?_) (fun c_26 => ?_)
    · exact k0 () (by rw [sl_stageOfSharedArray_L24_s]; rw [if_pos c_26]; (try rfl)) H locs ls hP hD hS (lv_sub hl [0, 1] rfl)
    · refine lv_aload_n hx hb dX0_stageOfSharedArray_29 rfl (lv_at hl 0 rfl) ?_
      refine va_get (D := (dC, dI)) (ci := 0) (v := .ref (a 3)) (C := RX0) (T := TX0) (N := 17) hx hb hg inX0 hown hK hP 0 rfl rfl 2 (by decide) (hg _ w_21) (fun _ h9 => h9) rfl dX0_stageOfSharedArray_30 ?_
      refine lv_iload_n hx hb dX0_stageOfSharedArray_33 rfl (lv_at hl 2 rfl) ?_
      refine va_iald hx hb hK hP 3 2 rfl rfl (cnt_in hinv c_26 (le_of h1 (by decide))) dX0_stageOfSharedArray_34 ?_
      refine lv_aload_n hx hb dX0_stageOfSharedArray_35 rfl (lv_at hl 0 rfl) ?_
      refine va_get (D := (dC, dI)) (ci := 0) (v := .ref (a 3)) (C := RX0) (T := TX0) (N := 17) hx hb hg inX0 hown hK hP 0 rfl rfl 2 (by decide) (hg _ w_21) (fun _ h9 => h9) rfl dX0_stageOfSharedArray_36 ?_
      refine lv_iload_n hx hb dX0_stageOfSharedArray_39 rfl (lv_at hl 1 rfl) ?_
      refine va_iald hx hb hK hP 3 2 rfl rfl (ix_lt h0 h1 (by decide)) dX0_stageOfSharedArray_40 ?_
      refine lv_icmp_ne (tgt := 51) hx hb dX0_stageOfSharedArray_41 (by decide) (fun c_41 => ?_) (fun c_41 => ?_)
      · refine lv_iinc (v := x2 + 1) (lv' := [(2, .int (x2 + 1)), (0, .ref (a 0)), (1, .int p1)]) hx hb dX0_stageOfSharedArray_51 hl (k := 2) rfl rfl (by decide) rfl (fun ls hl => ?_)
        refine lv_goto (tgt := 24) hx hb dX0_stageOfSharedArray_54 (by decide) ?_
        exact ih (x2 + 1) H locs ls (cnt_s hinv c_26) hP hD hS (lv_sub hl [1, 2, 0] rfl) (fun _ hw H locs ls hP hD hS hl => k0 () (by rw [sl_stageOfSharedArray_L24_s]; rw [if_neg c_26, if_neg c_41]; exact hw) H locs ls hP hD hS hl) (fun r0_o24 hw H locs ls hP hD hS hl => k1 r0_o24 (by rw [sl_stageOfSharedArray_L24_s]; rw [if_neg c_26, if_neg c_41]; exact hw) H locs ls hP hD hS hl)
      · refine lv_aload_n hx hb dX0_stageOfSharedArray_44 rfl (lv_at hl 0 rfl) ?_
        refine va_get (D := (dC, dI)) (ci := 0) (v := .ref (a 7)) (C := RX0) (T := TX0) (N := 17) hx hb hg inX0 hown hK hP 0 rfl rfl 6 (by decide) (hg _ w_25) (fun _ h9 => h9) rfl dX0_stageOfSharedArray_45 ?_
        refine lv_iload_n hx hb dX0_stageOfSharedArray_48 rfl (lv_at hl 2 rfl) ?_
        refine va_iald hx hb hK hP 7 6 rfl rfl (cnt_in hinv c_26 (le_of h1 (by decide))) dX0_stageOfSharedArray_49 ?_
        exact k1 (so x2.toNatClampNeg) (by rw [sl_stageOfSharedArray_L24_s]; rw [if_neg c_26, if_pos c_41]; (try rfl)) H locs ls hP hD hS (lv_sub hl [0, 1] rfl)
set_option maxHeartbeats 4000000 in
set_option maxRecDepth 100000 in
theorem cs_stageOfSharedArray (l : Launch) (dC : Nat → ClassId) (dI : Nat → Nat → Nat) (a : Nat → Nat) (k : Nat → ClassId) (sz : Nat) (rd wr : Nat → Int64) (ay ia mo wo so oi si mi wi : Nat → Int32) (ns nt nf np sl hs : Int32) (p1 : Int32) : Met l yX0_stageOfSharedArray wsX0_stageOfSharedArray ({ frames := 0, cells := 0, slots := 0, locals := 0 } : Room) (va_Pc [.ref (a 0), .int p1] (pr (dC, dI) (ws_sl a k rd wr ay ia mo wo so oi si mi wi ns nt nf np sl hs) (ty_sl k) sz)) (va_Qi (fun (r : Int32) (_ : Unit) => r = sl_stageOfSharedArray ay so p1) (fun (_ : Unit) t => po (dC, dI) (ws_sl a k rd wr ay ia mo wo so oi si mi wi ns nt nf np sl hs) (ty_sl k) (va_A (ws_sl a k rd wr ay ia mo wo so oi si mi wi ns nt nf np sl hs) sz) t) (va_A (ws_sl a k rd wr ay ia mo wo so oi si mi wi ns nt nf np sl hs) sz)) 0 0 (va_A (ws_sl a k rd wr ay ia mo wo so oi si mi wi ns nt nf np sl hs) sz) := by
  refine Met.ofW (cc := cX0_stageOfSharedArray) (maxL := 3) (ret := (some .int)) (by decide) rfl ?_
  intro p e s m args below meth c s₁ B hml hv
  obtain ⟨rfl, hsz, hP, hK, hD0⟩ := hv
  have hx := B.exec
  have hb := B.bytes
  have hr := B.returns
  have hts := atoms_spec (ws := wsX0_stageOfSharedArray) B.pre
  have hg : ∀ w ∈ gw, w.before _ s = true := fun w h => hts w (List.mem_cons_of_mem _ h)
  have hown : s.vm.findClass RX0 = some m.cls := findClass_of_methodNamed B.named
  have hlocks := B.notSynchronized
  subst hsz
  have hD := hD0.self (sz := s.heap.size)
  generalize hAe : va_A (ws_sl a k rd wr ay ia mo wo so oi si mi wi ns nt nf np sl hs) s.heap.size = A at hD ⊢
  have hA : ∀ q : Nat, s.heap.size ≤ q → A q := fun q h => by rw [← hAe]; exact Or.inr h
  clear hAe
  refine w_in (fun H locs eH eL => ?_)
  have hS : va_S A s.heap H locs := by rw [eH, eL]; exact va_S.rf
  have hP : va_P (dC, dI) vwCl (ws_sl a k rd wr ay ia mo wo so oi si mi wi ns nt nf np sl hs) H := by rw [eH]; exact hP
  clear eH eL
  have hl := lv_entry ([.ref (a 0), .int p1]) (n := 3) (Nat.le_of_ble_eq_true rfl)
  rw [lg_entry_eq]
  generalize (lg_sl ([.ref (a 0), .int p1]) ++ List.replicate (3 - (lg_sl ([.ref (a 0), .int p1])).length) Slot.unset).toArray = ls at hl ⊢
  have hl : lv_has ls 3 [(0, .ref (a 0)), (1, .int p1)] := hl
  refine lv_iload_n hx hb dX0_stageOfSharedArray_0 rfl (lv_at hl 1 rfl) ?_
  refine lv_if_lt (tgt := 20) hx hb dX0_stageOfSharedArray_1 (by decide) (fun c_1 => ?_) (fun c_1 => ?_)
  · refine lv_iconst (v := (-1)) hx hb dX0_stageOfSharedArray_20 (by decide) ?_
    have hw : (-1) = sl_stageOfSharedArray ay so p1 := by unfold sl_stageOfSharedArray; rw [if_pos c_1]; (try rfl)
    exact W.iret (v := (-1)) hx hb hr (fun t ht hW => ⟨⟨(-1), (), rfl, hw, ⟨by rw [ht]; exact hP, va_K.moved hW.alike hK, hD⟩⟩, hS.F ht⟩) hS.2.2 dX0_stageOfSharedArray_21
  · refine lv_iload_n hx hb dX0_stageOfSharedArray_4 rfl (lv_at hl 1 rfl) ?_
    refine lv_bipush (v := 48) hx hb dX0_stageOfSharedArray_5 (by decide) ?_
    refine lv_icmp_ge (tgt := 20) hx hb dX0_stageOfSharedArray_7 (by decide) (fun c_7 => ?_) (fun c_7 => ?_)
    · refine lv_iconst (v := (-1)) hx hb dX0_stageOfSharedArray_20 (by decide) ?_
      have hw : (-1) = sl_stageOfSharedArray ay so p1 := by unfold sl_stageOfSharedArray; rw [if_neg c_1, if_pos c_7]; (try rfl)
      exact W.iret (v := (-1)) hx hb hr (fun t ht hW => ⟨⟨(-1), (), rfl, hw, ⟨by rw [ht]; exact hP, va_K.moved hW.alike hK, hD⟩⟩, hS.F ht⟩) hS.2.2 dX0_stageOfSharedArray_21
    · refine lv_aload_n hx hb dX0_stageOfSharedArray_10 rfl (lv_at hl 0 rfl) ?_
      refine va_get (D := (dC, dI)) (ci := 0) (v := .ref (a 3)) (C := RX0) (T := TX0) (N := 17) hx hb hg inX0 hown hK hP 0 rfl rfl 2 (by decide) (hg _ w_21) (fun _ h9 => h9) rfl dX0_stageOfSharedArray_11 ?_
      refine lv_iload_n hx hb dX0_stageOfSharedArray_14 rfl (lv_at hl 1 rfl) ?_
      refine va_iald hx hb hK hP 3 2 rfl rfl (ix_le c_1 c_7 (by decide)) dX0_stageOfSharedArray_15 ?_
      refine lv_iconst (v := (-1)) hx hb dX0_stageOfSharedArray_16 (by decide) ?_
      refine lv_icmp_ne (tgt := 22) hx hb dX0_stageOfSharedArray_17 (by decide) (fun c_17 => ?_) (fun c_17 => ?_)
      · refine lv_iconst (v := 0) hx hb dX0_stageOfSharedArray_22 (by decide) ?_
        refine lv_istore_n (lv' := [(2, .int 0), (0, .ref (a 0)), (1, .int p1)]) hx hb dX0_stageOfSharedArray_23 rfl hl (by decide) rfl (fun ls hl => ?_)
        refine cs_stageOfSharedArray_L24 rd wr ay ia mo wo so oi si mi wi ns nt nf np sl hs p1 hx hb hml hown hg hA hK c_1 (lt_ge c_7) 49 0 H locs ls (cnt_0 (nn_of c_1) (lt_of2 c_7 (by decide))) hP hD hS (lv_sub hl [1, 2, 0] rfl) (fun _ hw_24 H locs ls hP hD hS hl => ?_) (fun r0_o24 hw_24 H locs ls hP hD hS hl => ?_)
        · refine lv_iconst (v := (-1)) hx hb dX0_stageOfSharedArray_57 (by decide) ?_
          have hw : (-1) = sl_stageOfSharedArray ay so p1 := by unfold sl_stageOfSharedArray; rw [if_neg c_1, if_neg c_7, if_neg c_17, hw_24]; (try dsimp only); (try rfl)
          exact W.iret (v := (-1)) hx hb hr (fun t ht hW => ⟨⟨(-1), (), rfl, hw, ⟨by rw [ht]; exact hP, va_K.moved hW.alike hK, hD⟩⟩, hS.F ht⟩) hS.2.2 dX0_stageOfSharedArray_58
        · have hw : r0_o24 = sl_stageOfSharedArray ay so p1 := by unfold sl_stageOfSharedArray; rw [if_neg c_1, if_neg c_7, if_neg c_17, hw_24]; (try dsimp only); (try rfl)
          exact W.iret (v := r0_o24) hx hb hr (fun t ht hW => ⟨⟨r0_o24, (), rfl, hw, ⟨by rw [ht]; exact hP, va_K.moved hW.alike hK, hD⟩⟩, hS.F ht⟩) hS.2.2 dX0_stageOfSharedArray_50
      · refine lv_iconst (v := (-1)) hx hb dX0_stageOfSharedArray_20 (by decide) ?_
        have hw : (-1) = sl_stageOfSharedArray ay so p1 := by unfold sl_stageOfSharedArray; rw [if_neg c_1, if_neg c_7, if_pos c_17]; (try rfl)
        exact W.iret (v := (-1)) hx hb hr (fun t ht hW => ⟨⟨(-1), (), rfl, hw, ⟨by rw [ht]; exact hP, va_K.moved hW.alike hK, hD⟩⟩, hS.F ht⟩) hS.2.2 dX0_stageOfSharedArray_21
set_option maxHeartbeats 4000000 in
set_option maxRecDepth 100000 in
theorem cs_findStage_L46 {p : Program} {l : Launch} {e : Env} {s : State} {m : MethodId} {args : Array Value} {below : List Frame} {meth : Method} {c : Code} {Q : State → Prop} {dC : Nat → ClassId} {dI : Nat → Nat → Nat} {a : Nat → Nat} {k : Nat → ClassId} {A : Nat → Prop} (rd wr : Nat → Int64) (ay ia mo wo so oi si mi wi : Nat → Int32) (ns nt nf np sl hs : Int32) (p1 p3 p4 x6 : Int32) (hx : p.tables.exec = Jvm.exec) (hb : c.code = cX0_findStage) (hml : c.maxLocals = 9) (hown : s.vm.findClass RX0 = some m.cls) (hg : ∀ w ∈ gw, w.before args s = true) (hA : ∀ q : Nat, s.heap.size ≤ q → A q) (hK : va_K (dC, dI) vwCl (ty_sl k) s) :
    ∀ (n : Nat) (x8 : Int32) (H : Heap) (locs : List Loc) (ls : Array Slot), (cnl x6 x8 n) → va_P (dC, dI) vwCl (ws_sl a k rd wr ay ia mo wo so oi si mi wi ns nt nf np sl hs) H → va_D A (ws_sl a k rd wr ay ia mo wo so oi si mi wi ns nt nf np sl hs) → va_S A s.heap H locs → lv_has ls 9 [(0, .ref (a 0)), (1, .int p1), (3, .int p3), (4, .int p4), (6, .int x6), (8, .int x8)] →
      (∀ (_ : Unit), sl_findStage_L46 mo wo si mi wi p1 p3 p4 x6 n x8 = .inl () → ∀ (H : Heap) (locs : List Loc) (ls : Array Slot), va_P (dC, dI) vwCl (ws_sl a k rd wr ay ia mo wo so oi si mi wi ns nt nf np sl hs) H → va_D A (ws_sl a k rd wr ay ia mo wo so oi si mi wi ns nt nf np sl hs) → va_S A s.heap H locs → lv_has ls 9 [(0, .ref (a 0)), (1, .int p1), (3, .int p3), (4, .int p4), (6, .int x6)] → W p l e (headSpec wsX0_findStage ({ frames := 2, cells := 0, slots := 0, locals := 49 } : Room)).room s m args below meth c H locs 0 0 Q (F0 m 75 ls [])) →
      (∀ (r0_o46 : Int32), sl_findStage_L46 mo wo si mi wi p1 p3 p4 x6 n x8 = .inr r0_o46 → ∀ (H : Heap) (locs : List Loc) (ls : Array Slot), va_P (dC, dI) vwCl (ws_sl a k rd wr ay ia mo wo so oi si mi wi ns nt nf np sl hs) H → va_D A (ws_sl a k rd wr ay ia mo wo so oi si mi wi ns nt nf np sl hs) → va_S A s.heap H locs → lv_has ls 9 [(0, .ref (a 0)), (1, .int p1), (3, .int p3), (4, .int p4), (6, .int x6)] → W p l e (headSpec wsX0_findStage ({ frames := 2, cells := 0, slots := 0, locals := 49 } : Room)).room s m args below meth c H locs 0 0 Q (F0 m 68 ls [.int r0_o46])) →
      W p l e (headSpec wsX0_findStage ({ frames := 2, cells := 0, slots := 0, locals := 49 } : Room)).room s m args below meth c H locs 0 0 Q (F0 m 46 ls []) := by
  intro n
  induction n with
  | zero =>
    intro x8 H locs ls hinv
    exact absurd hinv (cnl_z)
  | succ n ih =>
    intro x8 H locs ls hinv hP hD hS hl k0 k1
    refine lv_iload hx hb dX0_findStage_46 (lv_at hl 5 rfl) ?_
    refine lv_iload hx hb dX0_findStage_48 (lv_at hl 4 rfl) ?_
    refine lv_icmp_gt (tgt := 75) hx hb dX0_findStage_50 (by decide) (fun c_50 => ?_) (fun c_50 => ?_)
    · exact k0 () (by rw [sl_findStage_L46_s]; rw [if_pos c_50]; (try rfl)) H locs ls hP hD hS (lv_sub hl [0, 1, 2, 3, 4] rfl)
    · refine lv_aload_n hx hb dX0_findStage_53 rfl (lv_at hl 0 rfl) ?_
      refine lv_iload_n hx hb dX0_findStage_54 rfl (lv_at hl 1 rfl) ?_
      refine lv_iload hx hb dX0_findStage_55 (lv_at hl 5 rfl) ?_
      refine lv_iload_n hx hb dX0_findStage_57 rfl (lv_at hl 2 rfl) ?_
      refine lv_iload hx hb dX0_findStage_58 (lv_at hl 3 rfl) ?_
      have hFc := va_free (wc := ws_sl a k rd wr ay ia mo wo so oi si mi wi ns nt nf np sl hs) hD hS hA [0, 1, 2, 3, 4, 5, 6, 7, 8, 9, 10, 11] rfl
      refine va_calli (va_runV (As := [.int p1, .int x8, .int p3, .int p4]) (rest := []) ⟨hx, hb, hml, hown, hg⟩ (cs_hasRoom l dC dI a k H.size rd wr ay ia mo wo so oi si mi wi ns nt nf np sl hs p1 x8 p3 p4) (cwV 4 hg (gi_V w_332 w_334 s_9 w_1 w_335) rfl rfl rfl (by decide +kernel) ⟨Nat.le_of_ble_eq_true rfl, Nat.le_of_ble_eq_true rfl⟩) ⟨pr_bl, va_recv hK hP (ci := 0) (q0 := 0) rfl rfl, pr_ok hK hP hD⟩ rfl rfl hl.1 rfl (lv_room (Nat.le_of_ble_eq_true rfl)) dX0_findStage_60 ⟨Nat.le_of_ble_eq_true rfl, Nat.le_of_ble_eq_true rfl⟩) hS (fun q _ h => hFc q h) hFc (fun r_60 u t H1 locs ht hvm hw_60 hB hz1 hk1 hS => ?_)
      subst hw_60
      obtain ⟨hP, hK1, hD1⟩ := hB
      rw [ht] at hP
      have hD := hD1.weaken (fun _ q _ h => hFc q.1 h)
      generalize H1 = H at hP hS ⊢
      have hP : va_P (dC, dI) vwCl (ws_sl a k rd wr ay ia mo wo so oi si mi wi ns nt nf np sl hs) H := hP
      have hD : va_D A (ws_sl a k rd wr ay ia mo wo so oi si mi wi ns nt nf np sl hs) := hD
      refine lv_if_eq (tgt := 69) hx hb dX0_findStage_63 (by decide) (fun c_63 => ?_) (fun c_63 => ?_)
      · refine lv_iinc (v := x8 + 1) (lv' := [(8, .int (x8 + 1)), (0, .ref (a 0)), (1, .int p1), (3, .int p3), (4, .int p4), (6, .int x6)]) hx hb dX0_findStage_69 hl (k := 5) rfl rfl (by decide) rfl (fun ls hl => ?_)
        refine lv_goto (tgt := 46) hx hb dX0_findStage_72 (by decide) ?_
        exact ih (x8 + 1) H locs ls (cnl_s hinv c_50) hP hD hS (lv_sub hl [1, 2, 3, 4, 5, 0] rfl) (fun _ hw H locs ls hP hD hS hl => k0 () (by rw [sl_findStage_L46_s]; rw [if_neg c_50, if_pos c_63]; exact hw) H locs ls hP hD hS hl) (fun r0_o46 hw H locs ls hP hD hS hl => k1 r0_o46 (by rw [sl_findStage_L46_s]; rw [if_neg c_50, if_pos c_63]; exact hw) H locs ls hP hD hS hl)
      · refine lv_iload hx hb dX0_findStage_66 (lv_at hl 5 rfl) ?_
        exact k1 x8 (by rw [sl_findStage_L46_s]; rw [if_neg c_50, if_neg c_63]; (try rfl)) H locs ls hP hD hS (lv_sub hl [0, 1, 2, 3, 4] rfl)
set_option maxHeartbeats 4000000 in
set_option maxRecDepth 100000 in
theorem cs_findStage (l : Launch) (dC : Nat → ClassId) (dI : Nat → Nat → Nat) (a : Nat → Nat) (k : Nat → ClassId) (sz : Nat) (rd wr : Nat → Int64) (ay ia mo wo so oi si mi wi : Nat → Int32) (ns nt nf np sl hs : Int32) (p1 p2 p3 p4 : Int32) (hso : ∀ j : Nat, j < p1.toNatClampNeg → 0 ≤ (so j).toInt ∧ (so j).toInt < 12) (h2 : 1 ≤ p2.toInt ∧ p2.toInt ≤ 12) : Met l yX0_findStage wsX0_findStage ({ frames := 2, cells := 0, slots := 0, locals := 49 } : Room) (va_Pc [.ref (a 0), .int p1, .int p2, .int p3, .int p4] (pr (dC, dI) (ws_sl a k rd wr ay ia mo wo so oi si mi wi ns nt nf np sl hs) (ty_sl k) sz)) (va_Qi (fun (r : Int32) (_ : Unit) => r = sl_findStage rd wr ay ia mo wo so si mi wi p1 p2 p3 p4) (fun (_ : Unit) t => po (dC, dI) (ws_sl a k rd wr ay ia mo wo so oi si mi wi ns nt nf np sl hs) (ty_sl k) (va_A (ws_sl a k rd wr ay ia mo wo so oi si mi wi ns nt nf np sl hs) sz) t) (va_A (ws_sl a k rd wr ay ia mo wo so oi si mi wi ns nt nf np sl hs) sz)) 0 0 (va_A (ws_sl a k rd wr ay ia mo wo so oi si mi wi ns nt nf np sl hs) sz) := by
  refine Met.ofW (cc := cX0_findStage) (maxL := 9) (ret := (some .int)) (by decide) rfl ?_
  intro p e s m args below meth c s₁ B hml hv
  obtain ⟨rfl, hsz, hP, hK, hD0⟩ := hv
  have hx := B.exec
  have hb := B.bytes
  have hr := B.returns
  have hts := atoms_spec (ws := wsX0_findStage) B.pre
  have hg : ∀ w ∈ gw, w.before _ s = true := fun w h => hts w (List.mem_cons_of_mem _ h)
  have hown : s.vm.findClass RX0 = some m.cls := findClass_of_methodNamed B.named
  have hlocks := B.notSynchronized
  subst hsz
  have hD := hD0.self (sz := s.heap.size)
  generalize hAe : va_A (ws_sl a k rd wr ay ia mo wo so oi si mi wi ns nt nf np sl hs) s.heap.size = A at hD ⊢
  have hA : ∀ q : Nat, s.heap.size ≤ q → A q := fun q h => by rw [← hAe]; exact Or.inr h
  clear hAe
  refine w_in (fun H locs eH eL => ?_)
  have hS : va_S A s.heap H locs := by rw [eH, eL]; exact va_S.rf
  have hP : va_P (dC, dI) vwCl (ws_sl a k rd wr ay ia mo wo so oi si mi wi ns nt nf np sl hs) H := by rw [eH]; exact hP
  clear eH eL
  have hl := lv_entry ([.ref (a 0), .int p1, .int p2, .int p3, .int p4]) (n := 9) (Nat.le_of_ble_eq_true rfl)
  rw [lg_entry_eq]
  generalize (lg_sl ([.ref (a 0), .int p1, .int p2, .int p3, .int p4]) ++ List.replicate (9 - (lg_sl ([.ref (a 0), .int p1, .int p2, .int p3, .int p4])).length) Slot.unset).toArray = ls at hl ⊢
  have hl : lv_has ls 9 [(0, .ref (a 0)), (1, .int p1), (2, .int p2), (3, .int p3), (4, .int p4)] := hl
  refine lv_aload_n hx hb dX0_findStage_0 rfl (lv_at hl 0 rfl) ?_
  refine lv_iload_n hx hb dX0_findStage_1 rfl (lv_at hl 1 rfl) ?_
  have hFc := va_free (wc := ws_sl a k rd wr ay ia mo wo so oi si mi wi ns nt nf np sl hs) hD hS hA [0, 1, 2, 3, 4, 5, 6, 7, 8, 9, 10, 11] rfl
  refine va_calli (va_runV (As := [.int p1]) (rest := []) ⟨hx, hb, hml, hown, hg⟩ (cs_earliestStage l dC dI a k H.size rd wr ay ia mo wo so oi si mi wi ns nt nf np sl hs p1) (cwV 1 hg (gi_V w_324 w_326 s_7 w_1 w_327) rfl rfl rfl (by decide +kernel) ⟨Nat.le_of_ble_eq_true rfl, Nat.le_of_ble_eq_true rfl⟩) ⟨pr_bl, va_recv hK hP (ci := 0) (q0 := 0) rfl rfl, pr_ok hK hP hD⟩ rfl rfl hl.1 rfl (lv_room (Nat.le_of_ble_eq_true rfl)) dX0_findStage_2 ⟨Nat.le_of_ble_eq_true rfl, Nat.le_of_ble_eq_true rfl⟩) hS (fun q _ h => hFc q h) hFc (fun r_2 u t H1 locs ht hvm hw_2 hB hz1 hk1 hS => ?_)
  subst hw_2
  obtain ⟨hP, hK1, hD1⟩ := hB
  rw [ht] at hP
  have hD := hD1.weaken (fun _ q _ h => hFc q.1 h)
  generalize H1 = H at hP hS ⊢
  have hP : va_P (dC, dI) vwCl (ws_sl a k rd wr ay ia mo wo so oi si mi wi ns nt nf np sl hs) H := hP
  have hD : va_D A (ws_sl a k rd wr ay ia mo wo so oi si mi wi ns nt nf np sl hs) := hD
  refine lv_istore (lv' := [(5, .int (sl_earliestStage rd wr ia so p1)), (0, .ref (a 0)), (1, .int p1), (2, .int p2), (3, .int p3), (4, .int p4)]) hx hb dX0_findStage_5 hl (by decide) rfl (fun ls hl => ?_)
  refine lv_iload_n hx hb dX0_findStage_7 rfl (lv_at hl 3 rfl) ?_
  refine lv_iconst (v := 1) hx hb dX0_findStage_8 (by decide) ?_
  refine lv_isub hx hb dX0_findStage_9 ?_
  refine lv_istore (lv' := [(6, .int (p2 - 1)), (5, .int (sl_earliestStage rd wr ia so p1)), (0, .ref (a 0)), (1, .int p1), (2, .int p2), (3, .int p3), (4, .int p4)]) hx hb dX0_findStage_10 hl (by decide) rfl (fun ls hl => ?_)
  refine lv_aload_n hx hb dX0_findStage_12 rfl (lv_at hl 2 rfl) ?_
  refine lv_iload_n hx hb dX0_findStage_13 rfl (lv_at hl 3 rfl) ?_
  have hFc := va_free (wc := ws_sl a k rd wr ay ia mo wo so oi si mi wi ns nt nf np sl hs) hD hS hA [0, 1, 2, 3, 4, 5, 6, 7, 8, 9, 10, 11] rfl
  refine va_calli (va_runV (As := [.int p1]) (rest := []) ⟨hx, hb, hml, hown, hg⟩ (cs_stageOfSharedArray l dC dI a k H.size rd wr ay ia mo wo so oi si mi wi ns nt nf np sl hs p1) (cwV 1 hg (gi_V w_328 w_330 s_8 w_1 w_331) rfl rfl rfl (by decide +kernel) ⟨Nat.le_of_ble_eq_true rfl, Nat.le_of_ble_eq_true rfl⟩) ⟨pr_bl, va_recv hK hP (ci := 0) (q0 := 0) rfl rfl, pr_ok hK hP hD⟩ rfl rfl hl.1 rfl (lv_room (Nat.le_of_ble_eq_true rfl)) dX0_findStage_14 ⟨Nat.le_of_ble_eq_true rfl, Nat.le_of_ble_eq_true rfl⟩) hS (fun q _ h => hFc q h) hFc (fun r_14 u t H1 locs ht hvm hw_14 hB hz1 hk1 hS => ?_)
  subst hw_14
  obtain ⟨hP, hK1, hD1⟩ := hB
  rw [ht] at hP
  have hD := hD1.weaken (fun _ q _ h => hFc q.1 h)
  generalize H1 = H at hP hS ⊢
  have hP : va_P (dC, dI) vwCl (ws_sl a k rd wr ay ia mo wo so oi si mi wi ns nt nf np sl hs) H := hP
  have hD : va_D A (ws_sl a k rd wr ay ia mo wo so oi si mi wi ns nt nf np sl hs) := hD
  refine lv_istore (lv' := [(7, .int (sl_stageOfSharedArray ay so p1)), (6, .int (p2 - 1)), (5, .int (sl_earliestStage rd wr ia so p1)), (0, .ref (a 0)), (1, .int p1), (2, .int p2), (3, .int p3), (4, .int p4)]) hx hb dX0_findStage_17 hl (by decide) rfl (fun ls hl => ?_)
  refine lv_iload hx hb dX0_findStage_19 (lv_at hl 0 rfl) ?_
  refine lv_iconst (v := (-1)) hx hb dX0_findStage_21 (by decide) ?_
  refine lv_icmp_eq (tgt := 42) hx hb dX0_findStage_22 (by decide) (fun c_22 => ?_) (fun c_22 => ?_)
  · refine lv_iload hx hb dX0_findStage_42 (lv_at hl 2 rfl) ?_
    refine lv_istore (lv' := [(8, .int (sl_earliestStage rd wr ia so p1)), (7, .int (sl_stageOfSharedArray ay so p1)), (6, .int (p2 - 1)), (5, .int (sl_earliestStage rd wr ia so p1)), (0, .ref (a 0)), (1, .int p1), (2, .int p2), (3, .int p3), (4, .int p4)]) hx hb dX0_findStage_44 hl (by decide) rfl (fun ls hl => ?_)
    refine cs_findStage_L46 rd wr ay ia mo wo so oi si mi wi ns nt nf np sl hs p1 p3 p4 (p2 - 1) hx hb hml hown hg hA hK 14 (sl_earliestStage rd wr ia so p1) H locs ls (fs_in1 hso h2) hP hD hS (lv_sub hl [4, 5, 7, 8, 2, 0] rfl) (fun _ hw_46 H locs ls hP hD hS hl => ?_) (fun r0_o46 hw_46 H locs ls hP hD hS hl => ?_)
    · refine lv_iconst (v := (-1)) hx hb dX0_findStage_75 (by decide) ?_
      have hw : (-1) = sl_findStage rd wr ay ia mo wo so si mi wi p1 p2 p3 p4 := by unfold sl_findStage; rw [if_pos c_22, hw_46]; (try dsimp only); (try rfl)
      exact W.iret (v := (-1)) hx hb hr (fun t ht hW => ⟨⟨(-1), (), rfl, hw, ⟨by rw [ht]; exact hP, va_K.moved hW.alike hK, hD⟩⟩, hS.F ht⟩) hS.2.2 dX0_findStage_76
    · have hw : r0_o46 = sl_findStage rd wr ay ia mo wo so si mi wi p1 p2 p3 p4 := by unfold sl_findStage; rw [if_pos c_22, hw_46]; (try dsimp only); (try rfl)
      exact W.iret (v := r0_o46) hx hb hr (fun t ht hW => ⟨⟨r0_o46, (), rfl, hw, ⟨by rw [ht]; exact hP, va_K.moved hW.alike hK, hD⟩⟩, hS.F ht⟩) hS.2.2 dX0_findStage_68
  · refine lv_iload hx hb dX0_findStage_25 (lv_at hl 0 rfl) ?_
    refine lv_iload hx hb dX0_findStage_27 (lv_at hl 2 rfl) ?_
    refine lv_icmp_ge (tgt := 34) hx hb dX0_findStage_29 (by decide) (fun c_29 => ?_) (fun c_29 => ?_)
    · refine lv_iload hx hb dX0_findStage_34 (lv_at hl 0 rfl) ?_
      refine lv_istore (lv' := [(5, .int (sl_stageOfSharedArray ay so p1)), (7, .int (sl_stageOfSharedArray ay so p1)), (6, .int (p2 - 1)), (0, .ref (a 0)), (1, .int p1), (2, .int p2), (3, .int p3), (4, .int p4)]) hx hb dX0_findStage_36 hl (by decide) rfl (fun ls hl => ?_)
      refine lv_iload hx hb dX0_findStage_38 (lv_at hl 1 rfl) ?_
      refine lv_istore (lv' := [(6, .int (sl_stageOfSharedArray ay so p1)), (5, .int (sl_stageOfSharedArray ay so p1)), (7, .int (sl_stageOfSharedArray ay so p1)), (0, .ref (a 0)), (1, .int p1), (2, .int p2), (3, .int p3), (4, .int p4)]) hx hb dX0_findStage_40 hl (by decide) rfl (fun ls hl => ?_)
      refine lv_iload hx hb dX0_findStage_42 (lv_at hl 1 rfl) ?_
      refine lv_istore (lv' := [(8, .int (sl_stageOfSharedArray ay so p1)), (6, .int (sl_stageOfSharedArray ay so p1)), (5, .int (sl_stageOfSharedArray ay so p1)), (7, .int (sl_stageOfSharedArray ay so p1)), (0, .ref (a 0)), (1, .int p1), (2, .int p2), (3, .int p3), (4, .int p4)]) hx hb dX0_findStage_44 hl (by decide) rfl (fun ls hl => ?_)
      refine cs_findStage_L46 rd wr ay ia mo wo so oi si mi wi ns nt nf np sl hs p1 p3 p4 (sl_stageOfSharedArray ay so p1) hx hb hml hown hg hA hK 14 (sl_stageOfSharedArray ay so p1) H locs ls (fs_in2 hso c_22) hP hD hS (lv_sub hl [4, 5, 7, 8, 1, 0] rfl) (fun _ hw_46 H locs ls hP hD hS hl => ?_) (fun r0_o46 hw_46 H locs ls hP hD hS hl => ?_)
      · refine lv_iconst (v := (-1)) hx hb dX0_findStage_75 (by decide) ?_
        have hw : (-1) = sl_findStage rd wr ay ia mo wo so si mi wi p1 p2 p3 p4 := by unfold sl_findStage; rw [if_neg c_22, if_pos c_29, hw_46]; (try dsimp only); (try rfl)
        exact W.iret (v := (-1)) hx hb hr (fun t ht hW => ⟨⟨(-1), (), rfl, hw, ⟨by rw [ht]; exact hP, va_K.moved hW.alike hK, hD⟩⟩, hS.F ht⟩) hS.2.2 dX0_findStage_76
      · have hw : r0_o46 = sl_findStage rd wr ay ia mo wo so si mi wi p1 p2 p3 p4 := by unfold sl_findStage; rw [if_neg c_22, if_pos c_29, hw_46]; (try dsimp only); (try rfl)
        exact W.iret (v := r0_o46) hx hb hr (fun t ht hW => ⟨⟨r0_o46, (), rfl, hw, ⟨by rw [ht]; exact hP, va_K.moved hW.alike hK, hD⟩⟩, hS.F ht⟩) hS.2.2 dX0_findStage_68
    · refine lv_iconst (v := (-1)) hx hb dX0_findStage_32 (by decide) ?_
      have hw : (-1) = sl_findStage rd wr ay ia mo wo so si mi wi p1 p2 p3 p4 := by unfold sl_findStage; rw [if_neg c_22, if_neg c_29]; (try rfl)
      exact W.iret (v := (-1)) hx hb hr (fun t ht hW => ⟨⟨(-1), (), rfl, hw, ⟨by rw [ht]; exact hP, va_K.moved hW.alike hK, hD⟩⟩, hS.F ht⟩) hS.2.2 dX0_findStage_33
