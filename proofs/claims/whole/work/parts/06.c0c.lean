set_option maxHeartbeats 4000000 in
set_option maxRecDepth 100000 in
theorem cs_clear (l : Launch) (dC : Nat → ClassId) (dI : Nat → Nat → Nat) (a : Nat → Nat) (k : Nat → ClassId) (sz : Nat) (rd wr : Nat → Int64) (ay ia mo wo so oi si mi wi : Nat → Int32) (ns nt nf np sl hs : Int32)  : Met l yX0_clear wsX0_clear ({ frames := 1, cells := 0, slots := 0, locals := 20 } : Room) (va_Pc [.ref (a 0)] (pr (dC, dI) (ws_sl a k rd wr ay ia mo wo so oi si mi wi ns nt nf np sl hs) (ty_sl k) sz)) (va_Qv (fun (u : Int32 × Int32 × Int32 × Int32 × Int32 × Int32) => sl_clear = u) (fun (u : Int32 × Int32 × Int32 × Int32 × Int32 × Int32) t => match u with | (ns', nt', nf', np', sl', hs') => po (dC, dI) (ws_sl a k rd wr ay ia mo wo so oi si mi wi ns' nt' nf' np' sl' hs') (ty_sl k) (va_A (ws_sl a k rd wr ay ia mo wo so oi si mi wi ns nt nf np sl hs) sz) t) (va_A (ws_sl a k rd wr ay ia mo wo so oi si mi wi ns nt nf np sl hs) sz)) 0 0 (va_A (ws_sl a k rd wr ay ia mo wo so oi si mi wi ns nt nf np sl hs) sz) := by
  refine Met.ofW (cc := cX0_clear) (maxL := 1) (ret := none) (by decide) rfl ?_
  intro p e s m args below meth c s₁ B hml hv
  obtain ⟨rfl, hsz, hP, hK, hD0⟩ := hv
  have hx := B.exec
  have hb := B.bytes
  have hr := B.returns
  have hts := atoms_spec (ws := wsX0_clear) B.pre
  have hg : ∀ w ∈ gw, w.before _ s = true := fun w h => hts w (List.mem_cons_of_mem _ h)
  have hown : s.vm.findClass RX0 = some m.cls := findClass_of_methodNamed B.named
  have hlocks := B.notSynchronized
  subst hsz
  have hD := hD0.self (sz := s.heap.size)
  generalize hAe : va_A (ws_sl a k rd wr ay ia mo wo so oi si mi wi ns nt nf np sl hs) s.heap.size = A at hD ⊢
  have hA : ∀ q : Nat, s.heap.size ≤ q → A q := fun q h => by rw [← hAe]; exact Or.inr h
  clear hAe
  refine w_in (fun H locs eH eL => ?_)
  have hS : va_S A s.heap H locs := by rw [eH, eL]; exact va_S.rf
  have hP : va_P (dC, dI) vwCl (ws_sl a k rd wr ay ia mo wo so oi si mi wi ns nt nf np sl hs) H := by rw [eH]; exact hP
  clear eH eL
  have hl := lv_entry ([.ref (a 0)]) (n := 1) (Nat.le_of_ble_eq_true rfl)
  rw [lg_entry_eq]
  generalize (lg_sl ([.ref (a 0)]) ++ List.replicate (1 - (lg_sl ([.ref (a 0)])).length) Slot.unset).toArray = ls at hl ⊢
  have hl : lv_has ls 1 [(0, .ref (a 0))] := hl
  refine lv_aload_n hx hb dX0_clear_0 rfl (lv_at hl 0 rfl) ?_
  refine lv_iconst (v := 0) hx hb dX0_clear_1 (by decide) ?_
  refine va_put (D := (dC, dI)) (ci := 0) (v := .int 0) (ty := .int) (C := RX0) (T := TX0) (N := 17) hx hb hg inX0 tyX0 tyX0_ok nmX0 hown hK hP hD hS 0 rfl rfl 11 (by decide) (hg _ w_30) (fun _ h9 => h9) rfl (by decide +kernel) rfl rfl (Nat.le_of_ble_eq_true rfl) dX0_clear_2 (fun H locs hP hD hS => ?_)
  have hP : va_P (dC, dI) vwCl (ws_sl a k rd wr ay ia mo wo so oi si mi wi 0 nt nf np sl hs) H := hP
  have hD : va_D A (ws_sl a k rd wr ay ia mo wo so oi si mi wi 0 nt nf np sl hs) := hD
  refine lv_aload_n hx hb dX0_clear_5 rfl (lv_at hl 0 rfl) ?_
  refine lv_iconst (v := 0) hx hb dX0_clear_6 (by decide) ?_
  refine va_put (D := (dC, dI)) (ci := 0) (v := .int 0) (ty := .int) (C := RX0) (T := TX0) (N := 17) hx hb hg inX0 tyX0 tyX0_ok nmX0 hown hK hP hD hS 0 rfl rfl 12 (by decide) (hg _ w_31) (fun _ h9 => h9) rfl (by decide +kernel) rfl rfl (Nat.le_of_ble_eq_true rfl) dX0_clear_7 (fun H locs hP hD hS => ?_)
  have hP : va_P (dC, dI) vwCl (ws_sl a k rd wr ay ia mo wo so oi si mi wi 0 0 nf np sl hs) H := hP
  have hD : va_D A (ws_sl a k rd wr ay ia mo wo so oi si mi wi 0 0 nf np sl hs) := hD
  refine lv_aload_n hx hb dX0_clear_10 rfl (lv_at hl 0 rfl) ?_
  refine lv_iconst (v := 0) hx hb dX0_clear_11 (by decide) ?_
  refine va_put (D := (dC, dI)) (ci := 0) (v := .int 0) (ty := .int) (C := RX0) (T := TX0) (N := 17) hx hb hg inX0 tyX0 tyX0_ok nmX0 hown hK hP hD hS 0 rfl rfl 13 (by decide) (hg _ w_32) (fun _ h9 => h9) rfl (by decide +kernel) rfl rfl (Nat.le_of_ble_eq_true rfl) dX0_clear_12 (fun H locs hP hD hS => ?_)
  have hP : va_P (dC, dI) vwCl (ws_sl a k rd wr ay ia mo wo so oi si mi wi 0 0 0 np sl hs) H := hP
  have hD : va_D A (ws_sl a k rd wr ay ia mo wo so oi si mi wi 0 0 0 np sl hs) := hD
  refine lv_aload_n hx hb dX0_clear_15 rfl (lv_at hl 0 rfl) ?_
  refine lv_iconst (v := 0) hx hb dX0_clear_16 (by decide) ?_
  refine va_put (D := (dC, dI)) (ci := 0) (v := .int 0) (ty := .int) (C := RX0) (T := TX0) (N := 17) hx hb hg inX0 tyX0 tyX0_ok nmX0 hown hK hP hD hS 0 rfl rfl 14 (by decide) (hg _ w_33) (fun _ h9 => h9) rfl (by decide +kernel) rfl rfl (Nat.le_of_ble_eq_true rfl) dX0_clear_17 (fun H locs hP hD hS => ?_)
  have hP : va_P (dC, dI) vwCl (ws_sl a k rd wr ay ia mo wo so oi si mi wi 0 0 0 0 sl hs) H := hP
  have hD : va_D A (ws_sl a k rd wr ay ia mo wo so oi si mi wi 0 0 0 0 sl hs) := hD
  refine lv_aload_n hx hb dX0_clear_20 rfl (lv_at hl 0 rfl) ?_
  have hFc := va_free (wc := ws_sl a k rd wr ay ia mo wo so oi si mi wi 0 0 0 0 sl hs) hD hS hA [0, 1, 2, 3, 4, 5, 6, 7, 8, 9, 10, 11] rfl
  refine va_callv (va_runV (As := []) (rest := []) ⟨hx, hb, hml, hown, hg⟩ (cs_forgetStages l dC dI a k H.size rd wr ay ia mo wo so oi si mi wi 0 0 0 0 sl hs) (cwV 0 hg (gi_V w_77 w_79 s_0 w_1 w_80) rfl rfl rfl (by decide +kernel) ⟨Nat.le_of_ble_eq_true rfl, Nat.le_of_ble_eq_true rfl⟩) ⟨pr_bl, va_recv hK hP (ci := 0) (q0 := 0) rfl rfl, pr_ok hK hP hD⟩ rfl rfl hl.1 rfl (lv_room (Nat.le_of_ble_eq_true rfl)) dX0_clear_21 ⟨Nat.le_of_ble_eq_true rfl, Nat.le_of_ble_eq_true rfl⟩) hS (fun q _ h => hFc q h) hFc (fun u t H1 locs ht hvm hw_21 hB hz1 hk1 hS => ?_)
  obtain ⟨sl_21, hs_21⟩ := u
  obtain ⟨hP, hK1, hD1⟩ := hB
  rw [ht] at hP
  have hD := hD1.weaken (fun _ q _ h => hFc q.1 h)
  generalize H1 = H at hP hS ⊢
  have hP : va_P (dC, dI) vwCl (ws_sl a k rd wr ay ia mo wo so oi si mi wi 0 0 0 0 sl_21 hs_21) H := hP
  have hD : va_D A (ws_sl a k rd wr ay ia mo wo so oi si mi wi 0 0 0 0 sl_21 hs_21) := hD
  have hw : sl_clear = (0, 0, 0, 0, sl_21, hs_21) := by unfold sl_clear; rw [hw_21]; (try dsimp only); (try rfl)
  exact W.vret hx hb hr (fun t ht hW => ⟨⟨(0, 0, 0, 0, sl_21, hs_21), rfl, hw, ⟨by rw [ht]; exact hP, va_K.moved hW.alike hK, hD⟩⟩, hS.F ht⟩) hS.2.2 dX0_clear_24
set_option maxHeartbeats 4000000 in
set_option maxRecDepth 100000 in
theorem cs_assign (l : Launch) (dC : Nat → ClassId) (dI : Nat → Nat → Nat) (a : Nat → Nat) (k : Nat → ClassId) (sz : Nat) (rd wr : Nat → Int64) (ay ia mo wo so oi si mi wi : Nat → Int32) (ns nt nf np sl hs : Int32) (p1 p2 : Int32) (r' : Int32) (rd' wr' : Nat → Int64) (ay' ia' mo' wo' : Nat → Int32) (ns' np' sl' hs' : Int32) (hok : sl_assign rd wr ay ia mo wo oi ns nf np p1 p2 = .inl (r', rd', wr', ay', ia', mo', wo', ns', np', sl', hs')) : Met l yX0_assign wsX0_assign ({ frames := 7, cells := 0, slots := 0, locals := 109 } : Room) (va_Pc [.ref (a 0), .int p1, .int p2] (pr (dC, dI) (ws_sl a k rd wr ay ia mo wo so oi si mi wi ns nt nf np sl hs) (ty_sl k) sz)) (va_Qi (fun (r : Int32) (_ : Unit) => r = r') (fun (_ : Unit) t => po (dC, dI) (ws_sl a k rd' wr' ay' ia' mo' wo' so oi si mi wi ns' nt nf np' sl' hs') (ty_sl k) (va_A (ws_sl a k rd wr ay ia mo wo so oi si mi wi ns nt nf np sl hs) sz) t) (va_A (ws_sl a k rd wr ay ia mo wo so oi si mi wi ns nt nf np sl hs) sz)) 0 0 (va_A (ws_sl a k rd wr ay ia mo wo so oi si mi wi ns nt nf np sl hs) sz) := by
  refine Met.ofW (cc := cX0_assign) (maxL := 3) (ret := (some .int)) (by decide) rfl ?_
  intro p e s m args below meth c s₁ B hml hv
  obtain ⟨rfl, hsz, hP, hK, hD0⟩ := hv
  have hx := B.exec
  have hb := B.bytes
  have hr := B.returns
  have hts := atoms_spec (ws := wsX0_assign) B.pre
  have hg : ∀ w ∈ gw, w.before _ s = true := fun w h => hts w (List.mem_cons_of_mem _ h)
  have hown : s.vm.findClass RX0 = some m.cls := findClass_of_methodNamed B.named
  have hlocks := B.notSynchronized
  subst hsz
  have hD := hD0.self (sz := s.heap.size)
  generalize hAe : va_A (ws_sl a k rd wr ay ia mo wo so oi si mi wi ns nt nf np sl hs) s.heap.size = A at hD ⊢
  have hA : ∀ q : Nat, s.heap.size ≤ q → A q := fun q h => by rw [← hAe]; exact Or.inr h
  clear hAe
  refine w_in (fun H locs eH eL => ?_)
  have hS : va_S A s.heap H locs := by rw [eH, eL]; exact va_S.rf
  have hP : va_P (dC, dI) vwCl (ws_sl a k rd wr ay ia mo wo so oi si mi wi ns nt nf np sl hs) H := by rw [eH]; exact hP
  clear eH eL
  have hl := lv_entry ([.ref (a 0), .int p1, .int p2]) (n := 3) (Nat.le_of_ble_eq_true rfl)
  rw [lg_entry_eq]
  generalize (lg_sl ([.ref (a 0), .int p1, .int p2]) ++ List.replicate (3 - (lg_sl ([.ref (a 0), .int p1, .int p2])).length) Slot.unset).toArray = ls at hl ⊢
  have hl : lv_has ls 3 [(0, .ref (a 0)), (1, .int p1), (2, .int p2)] := hl
  refine lv_iload_n hx hb dX0_assign_0 rfl (lv_at hl 1 rfl) ?_
  rcases hq_1 : sl_requirePlace p1 with ⟨⟩ | E_1
  · refine va_callv (va_runS (As := [.int p1]) (rest := []) ⟨hx, hb, hml, hown, hg⟩ (cs_requirePlace l dC dI p1 hq_1) (va_cwS 1 hg (gi_S w_106 w_107 w_1 w_108) rfl rfl rfl (by decide +kernel) ⟨Nat.le_of_ble_eq_true rfl, Nat.le_of_ble_eq_true rfl⟩) ⟨(fun _ _ _ _ q => q), (fun _ _ _ => ⟨rfl, trivial⟩)⟩ rfl rfl hl.1 rfl (lv_room (Nat.le_of_ble_eq_true rfl)) dX0_assign_1 ⟨Nat.le_of_ble_eq_true rfl, Nat.le_of_ble_eq_true rfl⟩) hS (fun q _ h => False.elim h) (fun q h => False.elim h) (fun u t H1 locs ht hvm hw hB hz1 hk1 hS => ?_)
    have hP := hP.kept (fun k q hq => hk1 q.1 (hP k q hq).lt (fun h => h))
    generalize H1 = H at hP hS ⊢
    have hP : va_P (dC, dI) vwCl (ws_sl a k rd wr ay ia mo wo so oi si mi wi ns nt nf np sl hs) H := hP
    have hD : va_D A (ws_sl a k rd wr ay ia mo wo so oi si mi wi ns nt nf np sl hs) := hD
    refine lv_iload_n hx hb dX0_assign_4 rfl (lv_at hl 2 rfl) ?_
    rcases hq_5 : sl_requireReadable p2 with ⟨⟩ | E_5
    · refine va_callv (va_runS (As := [.int p2]) (rest := []) ⟨hx, hb, hml, hown, hg⟩ (cs_requireReadable l dC dI p2 hq_5) (va_cwS 1 hg (gi_S w_177 w_178 w_1 w_179) rfl rfl rfl (by decide +kernel) ⟨Nat.le_of_ble_eq_true rfl, Nat.le_of_ble_eq_true rfl⟩) ⟨(fun _ _ _ _ q => q), (fun _ _ _ => ⟨rfl, trivial⟩)⟩ rfl rfl hl.1 rfl (lv_room (Nat.le_of_ble_eq_true rfl)) dX0_assign_5 ⟨Nat.le_of_ble_eq_true rfl, Nat.le_of_ble_eq_true rfl⟩) hS (fun q _ h => False.elim h) (fun q h => False.elim h) (fun u t H1 locs ht hvm hw hB hz1 hk1 hS => ?_)
      have hP := hP.kept (fun k q hq => hk1 q.1 (hP k q hq).lt (fun h => h))
      generalize H1 = H at hP hS ⊢
      have hP : va_P (dC, dI) vwCl (ws_sl a k rd wr ay ia mo wo so oi si mi wi ns nt nf np sl hs) H := hP
      have hD : va_D A (ws_sl a k rd wr ay ia mo wo so oi si mi wi ns nt nf np sl hs) := hD
      refine lv_aload_n hx hb dX0_assign_8 rfl (lv_at hl 0 rfl) ?_
      refine lv_iload_n hx hb dX0_assign_9 rfl (lv_at hl 2 rfl) ?_
      refine lv_iload_n hx hb dX0_assign_10 rfl (lv_at hl 1 rfl) ?_
      refine va_calll (va_runS (As := [.int p2, .int p1]) (rest := [.ref (a 0)]) ⟨hx, hb, hml, hown, hg⟩ (cs_readingAndWriting l dC dI p2 p1) (va_cwS 2 hg (gi_S w_181 w_182 w_1 w_183) rfl rfl rfl (by decide +kernel) ⟨Nat.le_of_ble_eq_true rfl, Nat.le_of_ble_eq_true rfl⟩) ⟨(fun _ _ _ _ q => q), (fun _ _ _ => ⟨rfl, trivial⟩)⟩ rfl rfl hl.1 rfl (lv_room (Nat.le_of_ble_eq_true rfl)) dX0_assign_11 ⟨Nat.le_of_ble_eq_true rfl, Nat.le_of_ble_eq_true rfl⟩) hS (fun q _ h => False.elim h) (fun q h => False.elim h) (fun r_11 u t H1 locs ht hvm hw_11 hB hz1 hk1 hS => ?_)
      subst hw_11
      have hP := hP.kept (fun k q hq => hk1 q.1 (hP k q hq).lt (fun h => h))
      generalize H1 = H at hP hS ⊢
      have hP : va_P (dC, dI) vwCl (ws_sl a k rd wr ay ia mo wo so oi si mi wi ns nt nf np sl hs) H := hP
      have hD : va_D A (ws_sl a k rd wr ay ia mo wo so oi si mi wi ns nt nf np sl hs) := hD
      refine lv_lconst (v := 1) hx hb dX0_assign_14 (by decide) ?_
      refine lv_iload_n hx hb dX0_assign_15 rfl (lv_at hl 1 rfl) ?_
      refine lv_lshl (v := jl 1 p1) hx hb dX0_assign_16 rfl ?_
      refine lv_iconst (v := (-1)) hx hb dX0_assign_17 (by decide) ?_
      refine lv_iload_n hx hb dX0_assign_18 rfl (lv_at hl 2 rfl) ?_
      refine va_calli (va_runS (As := [.int p2]) (rest := [.int (-1), .long (jl 1 p1), .long (sl_readingAndWriting p2 p1), .ref (a 0)]) ⟨hx, hb, hml, hown, hg⟩ (cs_costOf l dC dI p2) (va_cwS 1 hg (gi_S w_190 w_191 w_1 w_192) rfl rfl rfl (by decide +kernel) ⟨Nat.le_of_ble_eq_true rfl, Nat.le_of_ble_eq_true rfl⟩) ⟨(fun _ _ _ _ q => q), (fun _ _ _ => ⟨rfl, trivial⟩)⟩ rfl rfl hl.1 rfl (lv_room (Nat.le_of_ble_eq_true rfl)) dX0_assign_19 ⟨Nat.le_of_ble_eq_true rfl, Nat.le_of_ble_eq_true rfl⟩) hS (fun q _ h => False.elim h) (fun q h => False.elim h) (fun r_19 u t H1 locs ht hvm hw_19 hB hz1 hk1 hS => ?_)
      subst hw_19
      have hP := hP.kept (fun k q hq => hk1 q.1 (hP k q hq).lt (fun h => h))
      generalize H1 = H at hP hS ⊢
      have hP : va_P (dC, dI) vwCl (ws_sl a k rd wr ay ia mo wo so oi si mi wi ns nt nf np sl hs) H := hP
      have hD : va_D A (ws_sl a k rd wr ay ia mo wo so oi si mi wi ns nt nf np sl hs) := hD
      rcases hq_22 : sl_addStep rd wr ay ia mo wo oi ns nf np (sl_readingAndWriting p2 p1) (jl 1 p1) (-1) (sl_costOf p2) with ⟨r_22, rd_22, wr_22, ay_22, ia_22, mo_22, wo_22, ns_22, np_22, sl_22, hs_22⟩ | E_22
      · have hFc := va_free (wc := ws_sl a k rd wr ay ia mo wo so oi si mi wi ns nt nf np sl hs) hD hS hA [0, 1, 2, 3, 4, 5, 6, 7, 8, 9, 10, 11] rfl
        refine va_calli (va_runV (As := [.long (sl_readingAndWriting p2 p1), .long (jl 1 p1), .int (-1), .int (sl_costOf p2)]) (rest := []) ⟨hx, hb, hml, hown, hg⟩ (cs_addStep l dC dI a k H.size rd wr ay ia mo wo so oi si mi wi ns nt nf np sl hs (sl_readingAndWriting p2 p1) (jl 1 p1) (-1) (sl_costOf p2) r_22 rd_22 wr_22 ay_22 ia_22 mo_22 wo_22 ns_22 np_22 sl_22 hs_22 hq_22) (cwV 4 hg (gi_V w_202 w_204 s_2 w_1 w_205) rfl rfl rfl (by decide +kernel) ⟨Nat.le_of_ble_eq_true rfl, Nat.le_of_ble_eq_true rfl⟩) ⟨pr_bl, va_recv hK hP (ci := 0) (q0 := 0) rfl rfl, pr_ok hK hP hD⟩ rfl rfl hl.1 rfl (lv_room (Nat.le_of_ble_eq_true rfl)) dX0_assign_22 ⟨Nat.le_of_ble_eq_true rfl, Nat.le_of_ble_eq_true rfl⟩) hS (fun q _ h => hFc q h) hFc (fun rr u t H1 locs ht hvm hw hB hz1 hk1 hS => ?_)
        have hw := hw.symm
        subst hw
        obtain ⟨hP, hK1, hD1⟩ := hB
        rw [ht] at hP
        have hD := hD1.weaken (fun _ q _ h => hFc q.1 h)
        generalize H1 = H at hP hS ⊢
        have hP : va_P (dC, dI) vwCl (ws_sl a k rd_22 wr_22 ay_22 ia_22 mo_22 wo_22 so oi si mi wi ns_22 nt nf np_22 sl_22 hs_22) H := hP
        have hD : va_D A (ws_sl a k rd_22 wr_22 ay_22 ia_22 mo_22 wo_22 so oi si mi wi ns_22 nt nf np_22 sl_22 hs_22) := hD
        have hw : sl_assign rd wr ay ia mo wo oi ns nf np p1 p2 = .inl (r_22, rd_22, wr_22, ay_22, ia_22, mo_22, wo_22, ns_22, np_22, sl_22, hs_22) := by unfold sl_assign; rw [hq_1]; (try dsimp only); rw [hq_5]; (try dsimp only); rw [hq_22]; (try dsimp only); (try rfl)
        have he := Sum.inl.inj (hok.symm.trans hw)
        simp only [Prod.mk.injEq] at he
        obtain ⟨e0, e1, e2, e3, e4, e5, e6, e7, e8, e9, e10⟩ := he
        exact W.iret (v := r_22) hx hb hr (fun t ht hW => ⟨⟨r_22, (), rfl, e0.symm, ⟨by rw [ht, e1, e2, e3, e4, e5, e6, e7, e8, e9, e10]; exact hP, va_K.moved hW.alike hK, by rw [e1, e2, e3, e4, e5, e6, e7, e8, e9, e10]; exact hD⟩⟩, hS.F ht⟩) hS.2.2 dX0_assign_25
      · have hw : sl_assign rd wr ay ia mo wo oi ns nf np p1 p2 = .inr E_22 := by unfold sl_assign; rw [hq_1]; (try dsimp only); rw [hq_5]; (try dsimp only); rw [hq_22]; (try dsimp only); (try rfl)
        exact absurd (hw.symm.trans hok) (by intro h9; cases h9)
    · have hw : sl_assign rd wr ay ia mo wo oi ns nf np p1 p2 = .inr E_5 := by unfold sl_assign; rw [hq_1]; (try dsimp only); rw [hq_5]; (try dsimp only); (try rfl)
      exact absurd (hw.symm.trans hok) (by intro h9; cases h9)
  · have hw : sl_assign rd wr ay ia mo wo oi ns nf np p1 p2 = .inr E_1 := by unfold sl_assign; rw [hq_1]; (try dsimp only); (try rfl)
    exact absurd (hw.symm.trans hok) (by intro h9; cases h9)
set_option maxHeartbeats 4000000 in
set_option maxRecDepth 100000 in
theorem cs_assign_x (l : Launch) (hl9 : l.stackTraces = false) (dC : Nat → ClassId) (dI : Nat → Nat → Nat) (a : Nat → Nat) (k : Nat → ClassId) (sx : Nat → Nat) (sz : Nat) (rd wr : Nat → Int64) (ay ia mo wo so oi si mi wi : Nat → Int32) (ns nt nf np sl hs : Int32) (p1 p2 : Int32) (E9 : String) (hno : sl_assign rd wr ay ia mo wo oi ns nf np p1 p2 = .inr E9) : vx_Met l yX0_assign wsX0_assign ({ frames := 7, cells := 1, slots := 6, locals := 109 } : Room) (va_Pc [.ref (a 0), .int p1, .int p2] (prx (dC, dI) (ws_sl a k rd wr ay ia mo wo so oi si mi wi ns nt nf np sl hs) (ty_sl k) sz sx)) (va_Qi (fun (_ : Int32) (_ : Unit) => False) (fun (_ : Unit) _ => True) (va_A (ws_sl a k rd wr ay ia mo wo so oi si mi wi ns nt nf np sl hs) sz)) (vx_X (fun _ : Unit => True) (fun E _ t => E = E9 ∧ po (dC, dI) (ws_sl a k rd wr ay ia mo wo so oi si mi wi ns nt nf np sl hs) (ty_sl k) (va_A (ws_sl a k rd wr ay ia mo wo so oi si mi wi ns nt nf np sl hs) sz) t) (va_A (ws_sl a k rd wr ay ia mo wo so oi si mi wi ns nt nf np sl hs) sz)) 1 6 (va_A (ws_sl a k rd wr ay ia mo wo so oi si mi wi ns nt nf np sl hs) sz) := by
  refine vx_ofW (cc := cX0_assign) (maxL := 3) (ret := (some .int)) (by decide) rfl ?_
  intro p e s m args below meth c s₁ B hml hEx hv
  obtain ⟨rfl, ⟨hsz, hP, hK, hD0⟩, hX9⟩ := hv
  have hx := B.exec
  have hb := B.bytes
  have hr := B.returns
  have hts := atoms_spec (ws := wsX0_assign) B.pre
  have hg : ∀ w ∈ gw, w.before _ s = true := fun w h => hts w (List.mem_cons_of_mem _ h)
  have hown : s.vm.findClass RX0 = some m.cls := findClass_of_methodNamed B.named
  have hlocks := B.notSynchronized
  subst hsz
  have hD := hD0.self (sz := s.heap.size)
  generalize hAe : va_A (ws_sl a k rd wr ay ia mo wo so oi si mi wi ns nt nf np sl hs) s.heap.size = A at hD hX9 ⊢
  have hA : ∀ q : Nat, s.heap.size ≤ q → A q := fun q h => by rw [← hAe]; exact Or.inr h
  clear hAe
  refine w_in (fun H locs eH eL => ?_)
  have hS : va_S A s.heap H locs := by rw [eH, eL]; exact va_S.rf
  have hP : va_P (dC, dI) vwCl (ws_sl a k rd wr ay ia mo wo so oi si mi wi ns nt nf np sl hs) H := by rw [eH]; exact hP
  clear eH eL
  have hl := lv_entry ([.ref (a 0), .int p1, .int p2]) (n := 3) (Nat.le_of_ble_eq_true rfl)
  rw [lg_entry_eq]
  generalize (lg_sl ([.ref (a 0), .int p1, .int p2]) ++ List.replicate (3 - (lg_sl ([.ref (a 0), .int p1, .int p2])).length) Slot.unset).toArray = ls at hl ⊢
  have hl : lv_has ls 3 [(0, .ref (a 0)), (1, .int p1), (2, .int p2)] := hl
  refine lv_iload_n hx hb dX0_assign_0 rfl (lv_at hl 1 rfl) ?_
  rcases hq_1 : sl_requirePlace p1 with ⟨⟩ | E_1
  · refine va_callv (va_runS (As := [.int p1]) (rest := []) ⟨hx, hb, hml, hown, hg⟩ (cs_requirePlace l dC dI p1 hq_1) (va_cwS 1 hg (gi_S w_106 w_107 w_1 w_108) rfl rfl rfl (by decide +kernel) ⟨Nat.le_of_ble_eq_true rfl, Nat.le_of_ble_eq_true rfl⟩) ⟨(fun _ _ _ _ q => q), (fun _ _ _ => ⟨rfl, trivial⟩)⟩ rfl rfl hl.1 rfl (lv_room (Nat.le_of_ble_eq_true rfl)) dX0_assign_1 ⟨Nat.le_of_ble_eq_true rfl, Nat.le_of_ble_eq_true rfl⟩) hS (fun q _ h => False.elim h) (fun q h => False.elim h) (fun u t H1 locs ht hvm hw hB hz1 hk1 hS => ?_)
    have hP := hP.kept (fun k q hq => hk1 q.1 (hP k q hq).lt (fun h => h))
    generalize H1 = H at hP hS ⊢
    have hP : va_P (dC, dI) vwCl (ws_sl a k rd wr ay ia mo wo so oi si mi wi ns nt nf np sl hs) H := hP
    have hD : va_D A (ws_sl a k rd wr ay ia mo wo so oi si mi wi ns nt nf np sl hs) := hD
    refine lv_iload_n hx hb dX0_assign_4 rfl (lv_at hl 2 rfl) ?_
    rcases hq_5 : sl_requireReadable p2 with ⟨⟩ | E_5
    · refine va_callv (va_runS (As := [.int p2]) (rest := []) ⟨hx, hb, hml, hown, hg⟩ (cs_requireReadable l dC dI p2 hq_5) (va_cwS 1 hg (gi_S w_177 w_178 w_1 w_179) rfl rfl rfl (by decide +kernel) ⟨Nat.le_of_ble_eq_true rfl, Nat.le_of_ble_eq_true rfl⟩) ⟨(fun _ _ _ _ q => q), (fun _ _ _ => ⟨rfl, trivial⟩)⟩ rfl rfl hl.1 rfl (lv_room (Nat.le_of_ble_eq_true rfl)) dX0_assign_5 ⟨Nat.le_of_ble_eq_true rfl, Nat.le_of_ble_eq_true rfl⟩) hS (fun q _ h => False.elim h) (fun q h => False.elim h) (fun u t H1 locs ht hvm hw hB hz1 hk1 hS => ?_)
      have hP := hP.kept (fun k q hq => hk1 q.1 (hP k q hq).lt (fun h => h))
      generalize H1 = H at hP hS ⊢
      have hP : va_P (dC, dI) vwCl (ws_sl a k rd wr ay ia mo wo so oi si mi wi ns nt nf np sl hs) H := hP
      have hD : va_D A (ws_sl a k rd wr ay ia mo wo so oi si mi wi ns nt nf np sl hs) := hD
      refine lv_aload_n hx hb dX0_assign_8 rfl (lv_at hl 0 rfl) ?_
      refine lv_iload_n hx hb dX0_assign_9 rfl (lv_at hl 2 rfl) ?_
      refine lv_iload_n hx hb dX0_assign_10 rfl (lv_at hl 1 rfl) ?_
      refine va_calll (va_runS (As := [.int p2, .int p1]) (rest := [.ref (a 0)]) ⟨hx, hb, hml, hown, hg⟩ (cs_readingAndWriting l dC dI p2 p1) (va_cwS 2 hg (gi_S w_181 w_182 w_1 w_183) rfl rfl rfl (by decide +kernel) ⟨Nat.le_of_ble_eq_true rfl, Nat.le_of_ble_eq_true rfl⟩) ⟨(fun _ _ _ _ q => q), (fun _ _ _ => ⟨rfl, trivial⟩)⟩ rfl rfl hl.1 rfl (lv_room (Nat.le_of_ble_eq_true rfl)) dX0_assign_11 ⟨Nat.le_of_ble_eq_true rfl, Nat.le_of_ble_eq_true rfl⟩) hS (fun q _ h => False.elim h) (fun q h => False.elim h) (fun r_11 u t H1 locs ht hvm hw_11 hB hz1 hk1 hS => ?_)
      subst hw_11
      have hP := hP.kept (fun k q hq => hk1 q.1 (hP k q hq).lt (fun h => h))
      generalize H1 = H at hP hS ⊢
      have hP : va_P (dC, dI) vwCl (ws_sl a k rd wr ay ia mo wo so oi si mi wi ns nt nf np sl hs) H := hP
      have hD : va_D A (ws_sl a k rd wr ay ia mo wo so oi si mi wi ns nt nf np sl hs) := hD
      refine lv_lconst (v := 1) hx hb dX0_assign_14 (by decide) ?_
      refine lv_iload_n hx hb dX0_assign_15 rfl (lv_at hl 1 rfl) ?_
      refine lv_lshl (v := jl 1 p1) hx hb dX0_assign_16 rfl ?_
      refine lv_iconst (v := (-1)) hx hb dX0_assign_17 (by decide) ?_
      refine lv_iload_n hx hb dX0_assign_18 rfl (lv_at hl 2 rfl) ?_
      refine va_calli (va_runS (As := [.int p2]) (rest := [.int (-1), .long (jl 1 p1), .long (sl_readingAndWriting p2 p1), .ref (a 0)]) ⟨hx, hb, hml, hown, hg⟩ (cs_costOf l dC dI p2) (va_cwS 1 hg (gi_S w_190 w_191 w_1 w_192) rfl rfl rfl (by decide +kernel) ⟨Nat.le_of_ble_eq_true rfl, Nat.le_of_ble_eq_true rfl⟩) ⟨(fun _ _ _ _ q => q), (fun _ _ _ => ⟨rfl, trivial⟩)⟩ rfl rfl hl.1 rfl (lv_room (Nat.le_of_ble_eq_true rfl)) dX0_assign_19 ⟨Nat.le_of_ble_eq_true rfl, Nat.le_of_ble_eq_true rfl⟩) hS (fun q _ h => False.elim h) (fun q h => False.elim h) (fun r_19 u t H1 locs ht hvm hw_19 hB hz1 hk1 hS => ?_)
      subst hw_19
      have hP := hP.kept (fun k q hq => hk1 q.1 (hP k q hq).lt (fun h => h))
      generalize H1 = H at hP hS ⊢
      have hP : va_P (dC, dI) vwCl (ws_sl a k rd wr ay ia mo wo so oi si mi wi ns nt nf np sl hs) H := hP
      have hD : va_D A (ws_sl a k rd wr ay ia mo wo so oi si mi wi ns nt nf np sl hs) := hD
      rcases hq_22 : sl_addStep rd wr ay ia mo wo oi ns nf np (sl_readingAndWriting p2 p1) (jl 1 p1) (-1) (sl_costOf p2) with ⟨r_22, rd_22, wr_22, ay_22, ia_22, mo_22, wo_22, ns_22, np_22, sl_22, hs_22⟩ | E_22
      · exfalso
        have h9 := hno
        unfold sl_assign at h9
        rw [hq_1] at h9
        (try dsimp only at h9)
        rw [hq_5] at h9
        (try dsimp only at h9)
        rw [hq_22] at h9
        (try dsimp only at h9)
        first | (cases h9; done) | ((repeat' split at h9) <;> cases h9)
      · have hFc := va_free (wc := ws_sl a k rd wr ay ia mo wo so oi si mi wi ns nt nf np sl hs) hD hS hA [0, 1, 2, 3, 4, 5, 6, 7, 8, 9, 10, 11] rfl
        refine vx_calli (vx_runV (As := [.long (sl_readingAndWriting p2 p1), .long (jl 1 p1), .int (-1), .int (sl_costOf p2)]) (rest := []) ⟨hx, hb, hml, hown, hg⟩ (cs_addStep_x l hl9 dC dI a k sx H.size rd wr ay ia mo wo so oi si mi wi ns nt nf np sl hs (sl_readingAndWriting p2 p1) (jl 1 p1) (-1) (sl_costOf p2) E_22 hq_22) (cwV 4 hg (gi_V w_202 w_204 s_2 w_1 w_205) rfl rfl rfl (by decide +kernel) ⟨Nat.le_of_ble_eq_true rfl, Nat.le_of_ble_eq_true rfl⟩) ⟨prx_bl, va_recv hK hP (ci := 0) (q0 := 0) rfl rfl, prx_ok hK hP hD hX9 hS hFc⟩ rfl rfl hl.1 rfl (lv_room (Nat.le_of_ble_eq_true rfl)) dX0_assign_22 ⟨Nat.le_of_ble_eq_true rfl, Nat.le_of_ble_eq_true rfl⟩) hS (fun q _ h => hFc q h) hFc (fun q _ h => hFc q h) (fun E ce q9 u t H1 locs ht hvm hwx hB hz1 hk1 hS hce hcv hcl => ?_) (fun rr u t H1 locs ht hvm hwx hB hz1 hk1 hS => hwx.elim)
        obtain ⟨hE, hB⟩ := hB
        have hE := hE.symm
        subst hE
        obtain ⟨hP, hK1, hD1⟩ := hB
        rw [ht] at hP
        have hD := hD1.weaken (fun _ q _ h => hFc q.1 h)
        generalize H1 = H at hP hS hce ⊢
        have hP : va_P (dC, dI) vwCl (ws_sl a k rd wr ay ia mo wo so oi si mi wi ns nt nf np sl hs) H := hP
        have hD : va_D A (ws_sl a k rd wr ay ia mo wo so oi si mi wi ns nt nf np sl hs) := hD
        have hw : sl_assign rd wr ay ia mo wo oi ns nf np p1 p2 = .inr E_22 := by unfold sl_assign; rw [hq_1]; (try dsimp only); rw [hq_5]; (try dsimp only); rw [hq_22]; (try dsimp only); (try rfl)
        have he := Sum.inr.inj (hno.symm.trans hw)
        exact vx_out (fun x hx => (hEx x hx).elim) hlocks hce hcv hcl (fun t ht ha => ⟨(), trivial, ⟨he.symm, by rw [ht]; exact hP, va_K.moved ha hK, hD⟩, hS.F ht⟩) hS.2.2 (Nat.le_of_ble_eq_true rfl) (Nat.le_of_ble_eq_true rfl)
    · have hFc := va_free (wc := ([] : va_W)) hD hS hA [] rfl
      refine vx_callv (vx_runS (As := [.int p2]) (rest := []) ⟨hx, hb, hml, hown, hg⟩ (cs_requireReadable_x l hl9 dC dI sx H.size p2 E_5 hq_5) (va_cwS 1 hg (gi_S w_177 w_178 w_1 w_179) rfl rfl rfl (by decide +kernel) ⟨Nat.le_of_ble_eq_true rfl, Nat.le_of_ble_eq_true rfl⟩) ⟨prx0_bl, prx_ok0 hX9 hS hFc⟩ rfl rfl hl.1 rfl (lv_room (Nat.le_of_ble_eq_true rfl)) dX0_assign_5 ⟨Nat.le_of_ble_eq_true rfl, Nat.le_of_ble_eq_true rfl⟩) hS (fun q _ h => hFc q h) hFc (fun q _ h => hFc q h) (fun E ce q9 u t H1 locs ht hvm hwx hB hz1 hk1 hS hce hcv hcl => ?_) (fun u t H1 locs ht hvm hwx hB hz1 hk1 hS => hwx.elim)
      have hB := hB.symm
      subst hB
      have hP := hP.kept (fun k q hq => hk1 q.1 (hP k q hq).lt (nA (hP k q hq).lt))
      generalize H1 = H at hP hS hce ⊢
      have hP : va_P (dC, dI) vwCl (ws_sl a k rd wr ay ia mo wo so oi si mi wi ns nt nf np sl hs) H := hP
      have hD : va_D A (ws_sl a k rd wr ay ia mo wo so oi si mi wi ns nt nf np sl hs) := hD
      have hw : sl_assign rd wr ay ia mo wo oi ns nf np p1 p2 = .inr E_5 := by unfold sl_assign; rw [hq_1]; (try dsimp only); rw [hq_5]; (try dsimp only); (try rfl)
      have he := Sum.inr.inj (hno.symm.trans hw)
      exact vx_out (fun x hx => (hEx x hx).elim) hlocks hce hcv hcl (fun t ht ha => ⟨(), trivial, ⟨he.symm, by rw [ht]; exact hP, va_K.moved ha hK, hD⟩, hS.F ht⟩) hS.2.2 (Nat.le_of_ble_eq_true rfl) (Nat.le_of_ble_eq_true rfl)
  · have hFc := va_free (wc := ([] : va_W)) hD hS hA [] rfl
    refine vx_callv (vx_runS (As := [.int p1]) (rest := []) ⟨hx, hb, hml, hown, hg⟩ (cs_requirePlace_x l hl9 dC dI sx H.size p1 E_1 hq_1) (va_cwS 1 hg (gi_S w_106 w_107 w_1 w_108) rfl rfl rfl (by decide +kernel) ⟨Nat.le_of_ble_eq_true rfl, Nat.le_of_ble_eq_true rfl⟩) ⟨prx0_bl, prx_ok0 hX9 hS hFc⟩ rfl rfl hl.1 rfl (lv_room (Nat.le_of_ble_eq_true rfl)) dX0_assign_1 ⟨Nat.le_of_ble_eq_true rfl, Nat.le_of_ble_eq_true rfl⟩) hS (fun q _ h => hFc q h) hFc (fun q _ h => hFc q h) (fun E ce q9 u t H1 locs ht hvm hwx hB hz1 hk1 hS hce hcv hcl => ?_) (fun u t H1 locs ht hvm hwx hB hz1 hk1 hS => hwx.elim)
    have hB := hB.symm
    subst hB
    have hP := hP.kept (fun k q hq => hk1 q.1 (hP k q hq).lt (nA (hP k q hq).lt))
    generalize H1 = H at hP hS hce ⊢
    have hP : va_P (dC, dI) vwCl (ws_sl a k rd wr ay ia mo wo so oi si mi wi ns nt nf np sl hs) H := hP
    have hD : va_D A (ws_sl a k rd wr ay ia mo wo so oi si mi wi ns nt nf np sl hs) := hD
    have hw : sl_assign rd wr ay ia mo wo oi ns nf np p1 p2 = .inr E_1 := by unfold sl_assign; rw [hq_1]; (try dsimp only); (try rfl)
    have he := Sum.inr.inj (hno.symm.trans hw)
    exact vx_out (fun x hx => (hEx x hx).elim) hlocks hce hcv hcl (fun t ht ha => ⟨(), trivial, ⟨he.symm, by rw [ht]; exact hP, va_K.moved ha hK, hD⟩, hS.F ht⟩) hS.2.2 (Nat.le_of_ble_eq_true rfl) (Nat.le_of_ble_eq_true rfl)
set_option maxHeartbeats 4000000 in
set_option maxRecDepth 100000 in
theorem cs_load (l : Launch) (dC : Nat → ClassId) (dI : Nat → Nat → Nat) (a : Nat → Nat) (k : Nat → ClassId) (sz : Nat) (rd wr : Nat → Int64) (ay ia mo wo so oi si mi wi : Nat → Int32) (ns nt nf np sl hs : Int32) (p1 p2 p3 : Int32) (r' : Int32) (rd' wr' : Nat → Int64) (ay' ia' mo' wo' : Nat → Int32) (ns' np' sl' hs' : Int32) (hok : sl_load rd wr ay ia mo wo oi ns nf np p1 p2 p3 = .inl (r', rd', wr', ay', ia', mo', wo', ns', np', sl', hs')) : Met l yX0_load wsX0_load ({ frames := 7, cells := 0, slots := 0, locals := 109 } : Room) (va_Pc [.ref (a 0), .int p1, .int p2, .int p3] (pr (dC, dI) (ws_sl a k rd wr ay ia mo wo so oi si mi wi ns nt nf np sl hs) (ty_sl k) sz)) (va_Qi (fun (r : Int32) (_ : Unit) => r = r') (fun (_ : Unit) t => po (dC, dI) (ws_sl a k rd' wr' ay' ia' mo' wo' so oi si mi wi ns' nt nf np' sl' hs') (ty_sl k) (va_A (ws_sl a k rd wr ay ia mo wo so oi si mi wi ns nt nf np sl hs) sz) t) (va_A (ws_sl a k rd wr ay ia mo wo so oi si mi wi ns nt nf np sl hs) sz)) 0 0 (va_A (ws_sl a k rd wr ay ia mo wo so oi si mi wi ns nt nf np sl hs) sz) := by
  refine Met.ofW (cc := cX0_load) (maxL := 4) (ret := (some .int)) (by decide) rfl ?_
  intro p e s m args below meth c s₁ B hml hv
  obtain ⟨rfl, hsz, hP, hK, hD0⟩ := hv
  have hx := B.exec
  have hb := B.bytes
  have hr := B.returns
  have hts := atoms_spec (ws := wsX0_load) B.pre
  have hg : ∀ w ∈ gw, w.before _ s = true := fun w h => hts w (List.mem_cons_of_mem _ h)
  have hown : s.vm.findClass RX0 = some m.cls := findClass_of_methodNamed B.named
  have hlocks := B.notSynchronized
  subst hsz
  have hD := hD0.self (sz := s.heap.size)
  generalize hAe : va_A (ws_sl a k rd wr ay ia mo wo so oi si mi wi ns nt nf np sl hs) s.heap.size = A at hD ⊢
  have hA : ∀ q : Nat, s.heap.size ≤ q → A q := fun q h => by rw [← hAe]; exact Or.inr h
  clear hAe
  refine w_in (fun H locs eH eL => ?_)
  have hS : va_S A s.heap H locs := by rw [eH, eL]; exact va_S.rf
  have hP : va_P (dC, dI) vwCl (ws_sl a k rd wr ay ia mo wo so oi si mi wi ns nt nf np sl hs) H := by rw [eH]; exact hP
  clear eH eL
  have hl := lv_entry ([.ref (a 0), .int p1, .int p2, .int p3]) (n := 4) (Nat.le_of_ble_eq_true rfl)
  rw [lg_entry_eq]
  generalize (lg_sl ([.ref (a 0), .int p1, .int p2, .int p3]) ++ List.replicate (4 - (lg_sl ([.ref (a 0), .int p1, .int p2, .int p3])).length) Slot.unset).toArray = ls at hl ⊢
  have hl : lv_has ls 4 [(0, .ref (a 0)), (1, .int p1), (2, .int p2), (3, .int p3)] := hl
  refine lv_iload_n hx hb dX0_load_0 rfl (lv_at hl 1 rfl) ?_
  rcases hq_1 : sl_requirePlace p1 with ⟨⟩ | E_1
  · refine va_callv (va_runS (As := [.int p1]) (rest := []) ⟨hx, hb, hml, hown, hg⟩ (cs_requirePlace l dC dI p1 hq_1) (va_cwS 1 hg (gi_S w_106 w_107 w_1 w_108) rfl rfl rfl (by decide +kernel) ⟨Nat.le_of_ble_eq_true rfl, Nat.le_of_ble_eq_true rfl⟩) ⟨(fun _ _ _ _ q => q), (fun _ _ _ => ⟨rfl, trivial⟩)⟩ rfl rfl hl.1 rfl (lv_room (Nat.le_of_ble_eq_true rfl)) dX0_load_1 ⟨Nat.le_of_ble_eq_true rfl, Nat.le_of_ble_eq_true rfl⟩) hS (fun q _ h => False.elim h) (fun q h => False.elim h) (fun u t H1 locs ht hvm hw hB hz1 hk1 hS => ?_)
    have hP := hP.kept (fun k q hq => hk1 q.1 (hP k q hq).lt (fun h => h))
    generalize H1 = H at hP hS ⊢
    have hP : va_P (dC, dI) vwCl (ws_sl a k rd wr ay ia mo wo so oi si mi wi ns nt nf np sl hs) H := hP
    have hD : va_D A (ws_sl a k rd wr ay ia mo wo so oi si mi wi ns nt nf np sl hs) := hD
    refine lv_iload_n hx hb dX0_load_4 rfl (lv_at hl 2 rfl) ?_
    rcases hq_5 : sl_requireArray p2 with ⟨⟩ | E_5
    · refine va_callv (va_runS (As := [.int p2]) (rest := []) ⟨hx, hb, hml, hown, hg⟩ (cs_requireArray l dC dI p2 hq_5) (va_cwS 1 hg (gi_S w_238 w_239 w_1 w_240) rfl rfl rfl (by decide +kernel) ⟨Nat.le_of_ble_eq_true rfl, Nat.le_of_ble_eq_true rfl⟩) ⟨(fun _ _ _ _ q => q), (fun _ _ _ => ⟨rfl, trivial⟩)⟩ rfl rfl hl.1 rfl (lv_room (Nat.le_of_ble_eq_true rfl)) dX0_load_5 ⟨Nat.le_of_ble_eq_true rfl, Nat.le_of_ble_eq_true rfl⟩) hS (fun q _ h => False.elim h) (fun q h => False.elim h) (fun u t H1 locs ht hvm hw hB hz1 hk1 hS => ?_)
      have hP := hP.kept (fun k q hq => hk1 q.1 (hP k q hq).lt (fun h => h))
      generalize H1 = H at hP hS ⊢
      have hP : va_P (dC, dI) vwCl (ws_sl a k rd wr ay ia mo wo so oi si mi wi ns nt nf np sl hs) H := hP
      have hD : va_D A (ws_sl a k rd wr ay ia mo wo so oi si mi wi ns nt nf np sl hs) := hD
      refine lv_iload_n hx hb dX0_load_8 rfl (lv_at hl 3 rfl) ?_
      rcases hq_9 : sl_requireReadable p3 with ⟨⟩ | E_9
      · refine va_callv (va_runS (As := [.int p3]) (rest := []) ⟨hx, hb, hml, hown, hg⟩ (cs_requireReadable l dC dI p3 hq_9) (va_cwS 1 hg (gi_S w_177 w_178 w_1 w_179) rfl rfl rfl (by decide +kernel) ⟨Nat.le_of_ble_eq_true rfl, Nat.le_of_ble_eq_true rfl⟩) ⟨(fun _ _ _ _ q => q), (fun _ _ _ => ⟨rfl, trivial⟩)⟩ rfl rfl hl.1 rfl (lv_room (Nat.le_of_ble_eq_true rfl)) dX0_load_9 ⟨Nat.le_of_ble_eq_true rfl, Nat.le_of_ble_eq_true rfl⟩) hS (fun q _ h => False.elim h) (fun q h => False.elim h) (fun u t H1 locs ht hvm hw hB hz1 hk1 hS => ?_)
        have hP := hP.kept (fun k q hq => hk1 q.1 (hP k q hq).lt (fun h => h))
        generalize H1 = H at hP hS ⊢
        have hP : va_P (dC, dI) vwCl (ws_sl a k rd wr ay ia mo wo so oi si mi wi ns nt nf np sl hs) H := hP
        have hD : va_D A (ws_sl a k rd wr ay ia mo wo so oi si mi wi ns nt nf np sl hs) := hD
        refine lv_aload_n hx hb dX0_load_12 rfl (lv_at hl 0 rfl) ?_
        refine lv_iload_n hx hb dX0_load_13 rfl (lv_at hl 3 rfl) ?_
        refine lv_iload_n hx hb dX0_load_14 rfl (lv_at hl 1 rfl) ?_
        refine va_calll (va_runS (As := [.int p3, .int p1]) (rest := [.ref (a 0)]) ⟨hx, hb, hml, hown, hg⟩ (cs_readingAndWriting l dC dI p3 p1) (va_cwS 2 hg (gi_S w_181 w_182 w_1 w_183) rfl rfl rfl (by decide +kernel) ⟨Nat.le_of_ble_eq_true rfl, Nat.le_of_ble_eq_true rfl⟩) ⟨(fun _ _ _ _ q => q), (fun _ _ _ => ⟨rfl, trivial⟩)⟩ rfl rfl hl.1 rfl (lv_room (Nat.le_of_ble_eq_true rfl)) dX0_load_15 ⟨Nat.le_of_ble_eq_true rfl, Nat.le_of_ble_eq_true rfl⟩) hS (fun q _ h => False.elim h) (fun q h => False.elim h) (fun r_15 u t H1 locs ht hvm hw_15 hB hz1 hk1 hS => ?_)
        subst hw_15
        have hP := hP.kept (fun k q hq => hk1 q.1 (hP k q hq).lt (fun h => h))
        generalize H1 = H at hP hS ⊢
        have hP : va_P (dC, dI) vwCl (ws_sl a k rd wr ay ia mo wo so oi si mi wi ns nt nf np sl hs) H := hP
        have hD : va_D A (ws_sl a k rd wr ay ia mo wo so oi si mi wi ns nt nf np sl hs) := hD
        refine lv_lconst (v := 1) hx hb dX0_load_18 (by decide) ?_
        refine lv_iload_n hx hb dX0_load_19 rfl (lv_at hl 1 rfl) ?_
        refine lv_lshl (v := jl 1 p1) hx hb dX0_load_20 rfl ?_
        refine lv_iload_n hx hb dX0_load_21 rfl (lv_at hl 2 rfl) ?_
        refine lv_iload_n hx hb dX0_load_22 rfl (lv_at hl 3 rfl) ?_
        refine va_calli (va_runS (As := [.int p3]) (rest := [.int p2, .long (jl 1 p1), .long (sl_readingAndWriting p3 p1), .ref (a 0)]) ⟨hx, hb, hml, hown, hg⟩ (cs_costOf l dC dI p3) (va_cwS 1 hg (gi_S w_190 w_191 w_1 w_192) rfl rfl rfl (by decide +kernel) ⟨Nat.le_of_ble_eq_true rfl, Nat.le_of_ble_eq_true rfl⟩) ⟨(fun _ _ _ _ q => q), (fun _ _ _ => ⟨rfl, trivial⟩)⟩ rfl rfl hl.1 rfl (lv_room (Nat.le_of_ble_eq_true rfl)) dX0_load_23 ⟨Nat.le_of_ble_eq_true rfl, Nat.le_of_ble_eq_true rfl⟩) hS (fun q _ h => False.elim h) (fun q h => False.elim h) (fun r_23 u t H1 locs ht hvm hw_23 hB hz1 hk1 hS => ?_)
        subst hw_23
        have hP := hP.kept (fun k q hq => hk1 q.1 (hP k q hq).lt (fun h => h))
        generalize H1 = H at hP hS ⊢
        have hP : va_P (dC, dI) vwCl (ws_sl a k rd wr ay ia mo wo so oi si mi wi ns nt nf np sl hs) H := hP
        have hD : va_D A (ws_sl a k rd wr ay ia mo wo so oi si mi wi ns nt nf np sl hs) := hD
        rcases hq_26 : sl_addStep rd wr ay ia mo wo oi ns nf np (sl_readingAndWriting p3 p1) (jl 1 p1) p2 (sl_costOf p3) with ⟨r_26, rd_26, wr_26, ay_26, ia_26, mo_26, wo_26, ns_26, np_26, sl_26, hs_26⟩ | E_26
        · have hFc := va_free (wc := ws_sl a k rd wr ay ia mo wo so oi si mi wi ns nt nf np sl hs) hD hS hA [0, 1, 2, 3, 4, 5, 6, 7, 8, 9, 10, 11] rfl
          refine va_calli (va_runV (As := [.long (sl_readingAndWriting p3 p1), .long (jl 1 p1), .int p2, .int (sl_costOf p3)]) (rest := []) ⟨hx, hb, hml, hown, hg⟩ (cs_addStep l dC dI a k H.size rd wr ay ia mo wo so oi si mi wi ns nt nf np sl hs (sl_readingAndWriting p3 p1) (jl 1 p1) p2 (sl_costOf p3) r_26 rd_26 wr_26 ay_26 ia_26 mo_26 wo_26 ns_26 np_26 sl_26 hs_26 hq_26) (cwV 4 hg (gi_V w_202 w_204 s_2 w_1 w_205) rfl rfl rfl (by decide +kernel) ⟨Nat.le_of_ble_eq_true rfl, Nat.le_of_ble_eq_true rfl⟩) ⟨pr_bl, va_recv hK hP (ci := 0) (q0 := 0) rfl rfl, pr_ok hK hP hD⟩ rfl rfl hl.1 rfl (lv_room (Nat.le_of_ble_eq_true rfl)) dX0_load_26 ⟨Nat.le_of_ble_eq_true rfl, Nat.le_of_ble_eq_true rfl⟩) hS (fun q _ h => hFc q h) hFc (fun rr u t H1 locs ht hvm hw hB hz1 hk1 hS => ?_)
          have hw := hw.symm
          subst hw
          obtain ⟨hP, hK1, hD1⟩ := hB
          rw [ht] at hP
          have hD := hD1.weaken (fun _ q _ h => hFc q.1 h)
          generalize H1 = H at hP hS ⊢
          have hP : va_P (dC, dI) vwCl (ws_sl a k rd_26 wr_26 ay_26 ia_26 mo_26 wo_26 so oi si mi wi ns_26 nt nf np_26 sl_26 hs_26) H := hP
          have hD : va_D A (ws_sl a k rd_26 wr_26 ay_26 ia_26 mo_26 wo_26 so oi si mi wi ns_26 nt nf np_26 sl_26 hs_26) := hD
          have hw : sl_load rd wr ay ia mo wo oi ns nf np p1 p2 p3 = .inl (r_26, rd_26, wr_26, ay_26, ia_26, mo_26, wo_26, ns_26, np_26, sl_26, hs_26) := by unfold sl_load; rw [hq_1]; (try dsimp only); rw [hq_5]; (try dsimp only); rw [hq_9]; (try dsimp only); rw [hq_26]; (try dsimp only); (try rfl)
          have he := Sum.inl.inj (hok.symm.trans hw)
          simp only [Prod.mk.injEq] at he
          obtain ⟨e0, e1, e2, e3, e4, e5, e6, e7, e8, e9, e10⟩ := he
          exact W.iret (v := r_26) hx hb hr (fun t ht hW => ⟨⟨r_26, (), rfl, e0.symm, ⟨by rw [ht, e1, e2, e3, e4, e5, e6, e7, e8, e9, e10]; exact hP, va_K.moved hW.alike hK, by rw [e1, e2, e3, e4, e5, e6, e7, e8, e9, e10]; exact hD⟩⟩, hS.F ht⟩) hS.2.2 dX0_load_29
        · have hw : sl_load rd wr ay ia mo wo oi ns nf np p1 p2 p3 = .inr E_26 := by unfold sl_load; rw [hq_1]; (try dsimp only); rw [hq_5]; (try dsimp only); rw [hq_9]; (try dsimp only); rw [hq_26]; (try dsimp only); (try rfl)
          exact absurd (hw.symm.trans hok) (by intro h9; cases h9)
      · have hw : sl_load rd wr ay ia mo wo oi ns nf np p1 p2 p3 = .inr E_9 := by unfold sl_load; rw [hq_1]; (try dsimp only); rw [hq_5]; (try dsimp only); rw [hq_9]; (try dsimp only); (try rfl)
        exact absurd (hw.symm.trans hok) (by intro h9; cases h9)
    · have hw : sl_load rd wr ay ia mo wo oi ns nf np p1 p2 p3 = .inr E_5 := by unfold sl_load; rw [hq_1]; (try dsimp only); rw [hq_5]; (try dsimp only); (try rfl)
      exact absurd (hw.symm.trans hok) (by intro h9; cases h9)
  · have hw : sl_load rd wr ay ia mo wo oi ns nf np p1 p2 p3 = .inr E_1 := by unfold sl_load; rw [hq_1]; (try dsimp only); (try rfl)
    exact absurd (hw.symm.trans hok) (by intro h9; cases h9)
set_option maxHeartbeats 4000000 in
set_option maxRecDepth 100000 in
theorem cs_load_x (l : Launch) (hl9 : l.stackTraces = false) (dC : Nat → ClassId) (dI : Nat → Nat → Nat) (a : Nat → Nat) (k : Nat → ClassId) (sx : Nat → Nat) (sz : Nat) (rd wr : Nat → Int64) (ay ia mo wo so oi si mi wi : Nat → Int32) (ns nt nf np sl hs : Int32) (p1 p2 p3 : Int32) (E9 : String) (hno : sl_load rd wr ay ia mo wo oi ns nf np p1 p2 p3 = .inr E9) : vx_Met l yX0_load wsX0_load ({ frames := 7, cells := 1, slots := 6, locals := 109 } : Room) (va_Pc [.ref (a 0), .int p1, .int p2, .int p3] (prx (dC, dI) (ws_sl a k rd wr ay ia mo wo so oi si mi wi ns nt nf np sl hs) (ty_sl k) sz sx)) (va_Qi (fun (_ : Int32) (_ : Unit) => False) (fun (_ : Unit) _ => True) (va_A (ws_sl a k rd wr ay ia mo wo so oi si mi wi ns nt nf np sl hs) sz)) (vx_X (fun _ : Unit => True) (fun E _ t => E = E9 ∧ po (dC, dI) (ws_sl a k rd wr ay ia mo wo so oi si mi wi ns nt nf np sl hs) (ty_sl k) (va_A (ws_sl a k rd wr ay ia mo wo so oi si mi wi ns nt nf np sl hs) sz) t) (va_A (ws_sl a k rd wr ay ia mo wo so oi si mi wi ns nt nf np sl hs) sz)) 1 6 (va_A (ws_sl a k rd wr ay ia mo wo so oi si mi wi ns nt nf np sl hs) sz) := by
  refine vx_ofW (cc := cX0_load) (maxL := 4) (ret := (some .int)) (by decide) rfl ?_
  intro p e s m args below meth c s₁ B hml hEx hv
  obtain ⟨rfl, ⟨hsz, hP, hK, hD0⟩, hX9⟩ := hv
  have hx := B.exec
  have hb := B.bytes
  have hr := B.returns
  have hts := atoms_spec (ws := wsX0_load) B.pre
  have hg : ∀ w ∈ gw, w.before _ s = true := fun w h => hts w (List.mem_cons_of_mem _ h)
  have hown : s.vm.findClass RX0 = some m.cls := findClass_of_methodNamed B.named
  have hlocks := B.notSynchronized
  subst hsz
  have hD := hD0.self (sz := s.heap.size)
  generalize hAe : va_A (ws_sl a k rd wr ay ia mo wo so oi si mi wi ns nt nf np sl hs) s.heap.size = A at hD hX9 ⊢
  have hA : ∀ q : Nat, s.heap.size ≤ q → A q := fun q h => by rw [← hAe]; exact Or.inr h
  clear hAe
  refine w_in (fun H locs eH eL => ?_)
  have hS : va_S A s.heap H locs := by rw [eH, eL]; exact va_S.rf
  have hP : va_P (dC, dI) vwCl (ws_sl a k rd wr ay ia mo wo so oi si mi wi ns nt nf np sl hs) H := by rw [eH]; exact hP
  clear eH eL
  have hl := lv_entry ([.ref (a 0), .int p1, .int p2, .int p3]) (n := 4) (Nat.le_of_ble_eq_true rfl)
  rw [lg_entry_eq]
  generalize (lg_sl ([.ref (a 0), .int p1, .int p2, .int p3]) ++ List.replicate (4 - (lg_sl ([.ref (a 0), .int p1, .int p2, .int p3])).length) Slot.unset).toArray = ls at hl ⊢
  have hl : lv_has ls 4 [(0, .ref (a 0)), (1, .int p1), (2, .int p2), (3, .int p3)] := hl
  refine lv_iload_n hx hb dX0_load_0 rfl (lv_at hl 1 rfl) ?_
  rcases hq_1 : sl_requirePlace p1 with ⟨⟩ | E_1
  · refine va_callv (va_runS (As := [.int p1]) (rest := []) ⟨hx, hb, hml, hown, hg⟩ (cs_requirePlace l dC dI p1 hq_1) (va_cwS 1 hg (gi_S w_106 w_107 w_1 w_108) rfl rfl rfl (by decide +kernel) ⟨Nat.le_of_ble_eq_true rfl, Nat.le_of_ble_eq_true rfl⟩) ⟨(fun _ _ _ _ q => q), (fun _ _ _ => ⟨rfl, trivial⟩)⟩ rfl rfl hl.1 rfl (lv_room (Nat.le_of_ble_eq_true rfl)) dX0_load_1 ⟨Nat.le_of_ble_eq_true rfl, Nat.le_of_ble_eq_true rfl⟩) hS (fun q _ h => False.elim h) (fun q h => False.elim h) (fun u t H1 locs ht hvm hw hB hz1 hk1 hS => ?_)
    have hP := hP.kept (fun k q hq => hk1 q.1 (hP k q hq).lt (fun h => h))
    generalize H1 = H at hP hS ⊢
    have hP : va_P (dC, dI) vwCl (ws_sl a k rd wr ay ia mo wo so oi si mi wi ns nt nf np sl hs) H := hP
    have hD : va_D A (ws_sl a k rd wr ay ia mo wo so oi si mi wi ns nt nf np sl hs) := hD
    refine lv_iload_n hx hb dX0_load_4 rfl (lv_at hl 2 rfl) ?_
    rcases hq_5 : sl_requireArray p2 with ⟨⟩ | E_5
    · refine va_callv (va_runS (As := [.int p2]) (rest := []) ⟨hx, hb, hml, hown, hg⟩ (cs_requireArray l dC dI p2 hq_5) (va_cwS 1 hg (gi_S w_238 w_239 w_1 w_240) rfl rfl rfl (by decide +kernel) ⟨Nat.le_of_ble_eq_true rfl, Nat.le_of_ble_eq_true rfl⟩) ⟨(fun _ _ _ _ q => q), (fun _ _ _ => ⟨rfl, trivial⟩)⟩ rfl rfl hl.1 rfl (lv_room (Nat.le_of_ble_eq_true rfl)) dX0_load_5 ⟨Nat.le_of_ble_eq_true rfl, Nat.le_of_ble_eq_true rfl⟩) hS (fun q _ h => False.elim h) (fun q h => False.elim h) (fun u t H1 locs ht hvm hw hB hz1 hk1 hS => ?_)
      have hP := hP.kept (fun k q hq => hk1 q.1 (hP k q hq).lt (fun h => h))
      generalize H1 = H at hP hS ⊢
      have hP : va_P (dC, dI) vwCl (ws_sl a k rd wr ay ia mo wo so oi si mi wi ns nt nf np sl hs) H := hP
      have hD : va_D A (ws_sl a k rd wr ay ia mo wo so oi si mi wi ns nt nf np sl hs) := hD
      refine lv_iload_n hx hb dX0_load_8 rfl (lv_at hl 3 rfl) ?_
      rcases hq_9 : sl_requireReadable p3 with ⟨⟩ | E_9
      · refine va_callv (va_runS (As := [.int p3]) (rest := []) ⟨hx, hb, hml, hown, hg⟩ (cs_requireReadable l dC dI p3 hq_9) (va_cwS 1 hg (gi_S w_177 w_178 w_1 w_179) rfl rfl rfl (by decide +kernel) ⟨Nat.le_of_ble_eq_true rfl, Nat.le_of_ble_eq_true rfl⟩) ⟨(fun _ _ _ _ q => q), (fun _ _ _ => ⟨rfl, trivial⟩)⟩ rfl rfl hl.1 rfl (lv_room (Nat.le_of_ble_eq_true rfl)) dX0_load_9 ⟨Nat.le_of_ble_eq_true rfl, Nat.le_of_ble_eq_true rfl⟩) hS (fun q _ h => False.elim h) (fun q h => False.elim h) (fun u t H1 locs ht hvm hw hB hz1 hk1 hS => ?_)
        have hP := hP.kept (fun k q hq => hk1 q.1 (hP k q hq).lt (fun h => h))
        generalize H1 = H at hP hS ⊢
        have hP : va_P (dC, dI) vwCl (ws_sl a k rd wr ay ia mo wo so oi si mi wi ns nt nf np sl hs) H := hP
        have hD : va_D A (ws_sl a k rd wr ay ia mo wo so oi si mi wi ns nt nf np sl hs) := hD
        refine lv_aload_n hx hb dX0_load_12 rfl (lv_at hl 0 rfl) ?_
        refine lv_iload_n hx hb dX0_load_13 rfl (lv_at hl 3 rfl) ?_
        refine lv_iload_n hx hb dX0_load_14 rfl (lv_at hl 1 rfl) ?_
        refine va_calll (va_runS (As := [.int p3, .int p1]) (rest := [.ref (a 0)]) ⟨hx, hb, hml, hown, hg⟩ (cs_readingAndWriting l dC dI p3 p1) (va_cwS 2 hg (gi_S w_181 w_182 w_1 w_183) rfl rfl rfl (by decide +kernel) ⟨Nat.le_of_ble_eq_true rfl, Nat.le_of_ble_eq_true rfl⟩) ⟨(fun _ _ _ _ q => q), (fun _ _ _ => ⟨rfl, trivial⟩)⟩ rfl rfl hl.1 rfl (lv_room (Nat.le_of_ble_eq_true rfl)) dX0_load_15 ⟨Nat.le_of_ble_eq_true rfl, Nat.le_of_ble_eq_true rfl⟩) hS (fun q _ h => False.elim h) (fun q h => False.elim h) (fun r_15 u t H1 locs ht hvm hw_15 hB hz1 hk1 hS => ?_)
        subst hw_15
        have hP := hP.kept (fun k q hq => hk1 q.1 (hP k q hq).lt (fun h => h))
        generalize H1 = H at hP hS ⊢
        have hP : va_P (dC, dI) vwCl (ws_sl a k rd wr ay ia mo wo so oi si mi wi ns nt nf np sl hs) H := hP
        have hD : va_D A (ws_sl a k rd wr ay ia mo wo so oi si mi wi ns nt nf np sl hs) := hD
        refine lv_lconst (v := 1) hx hb dX0_load_18 (by decide) ?_
        refine lv_iload_n hx hb dX0_load_19 rfl (lv_at hl 1 rfl) ?_
        refine lv_lshl (v := jl 1 p1) hx hb dX0_load_20 rfl ?_
        refine lv_iload_n hx hb dX0_load_21 rfl (lv_at hl 2 rfl) ?_
        refine lv_iload_n hx hb dX0_load_22 rfl (lv_at hl 3 rfl) ?_
        refine va_calli (va_runS (As := [.int p3]) (rest := [.int p2, .long (jl 1 p1), .long (sl_readingAndWriting p3 p1), .ref (a 0)]) ⟨hx, hb, hml, hown, hg⟩ (cs_costOf l dC dI p3) (va_cwS 1 hg (gi_S w_190 w_191 w_1 w_192) rfl rfl rfl (by decide +kernel) ⟨Nat.le_of_ble_eq_true rfl, Nat.le_of_ble_eq_true rfl⟩) ⟨(fun _ _ _ _ q => q), (fun _ _ _ => ⟨rfl, trivial⟩)⟩ rfl rfl hl.1 rfl (lv_room (Nat.le_of_ble_eq_true rfl)) dX0_load_23 ⟨Nat.le_of_ble_eq_true rfl, Nat.le_of_ble_eq_true rfl⟩) hS (fun q _ h => False.elim h) (fun q h => False.elim h) (fun r_23 u t H1 locs ht hvm hw_23 hB hz1 hk1 hS => ?_)
        subst hw_23
        have hP := hP.kept (fun k q hq => hk1 q.1 (hP k q hq).lt (fun h => h))
        generalize H1 = H at hP hS ⊢
        have hP : va_P (dC, dI) vwCl (ws_sl a k rd wr ay ia mo wo so oi si mi wi ns nt nf np sl hs) H := hP
        have hD : va_D A (ws_sl a k rd wr ay ia mo wo so oi si mi wi ns nt nf np sl hs) := hD
        rcases hq_26 : sl_addStep rd wr ay ia mo wo oi ns nf np (sl_readingAndWriting p3 p1) (jl 1 p1) p2 (sl_costOf p3) with ⟨r_26, rd_26, wr_26, ay_26, ia_26, mo_26, wo_26, ns_26, np_26, sl_26, hs_26⟩ | E_26
        · exfalso
          have h9 := hno
          unfold sl_load at h9
          rw [hq_1] at h9
          (try dsimp only at h9)
          rw [hq_5] at h9
          (try dsimp only at h9)
          rw [hq_9] at h9
          (try dsimp only at h9)
          rw [hq_26] at h9
          (try dsimp only at h9)
          first | (cases h9; done) | ((repeat' split at h9) <;> cases h9)
        · have hFc := va_free (wc := ws_sl a k rd wr ay ia mo wo so oi si mi wi ns nt nf np sl hs) hD hS hA [0, 1, 2, 3, 4, 5, 6, 7, 8, 9, 10, 11] rfl
          refine vx_calli (vx_runV (As := [.long (sl_readingAndWriting p3 p1), .long (jl 1 p1), .int p2, .int (sl_costOf p3)]) (rest := []) ⟨hx, hb, hml, hown, hg⟩ (cs_addStep_x l hl9 dC dI a k sx H.size rd wr ay ia mo wo so oi si mi wi ns nt nf np sl hs (sl_readingAndWriting p3 p1) (jl 1 p1) p2 (sl_costOf p3) E_26 hq_26) (cwV 4 hg (gi_V w_202 w_204 s_2 w_1 w_205) rfl rfl rfl (by decide +kernel) ⟨Nat.le_of_ble_eq_true rfl, Nat.le_of_ble_eq_true rfl⟩) ⟨prx_bl, va_recv hK hP (ci := 0) (q0 := 0) rfl rfl, prx_ok hK hP hD hX9 hS hFc⟩ rfl rfl hl.1 rfl (lv_room (Nat.le_of_ble_eq_true rfl)) dX0_load_26 ⟨Nat.le_of_ble_eq_true rfl, Nat.le_of_ble_eq_true rfl⟩) hS (fun q _ h => hFc q h) hFc (fun q _ h => hFc q h) (fun E ce q9 u t H1 locs ht hvm hwx hB hz1 hk1 hS hce hcv hcl => ?_) (fun rr u t H1 locs ht hvm hwx hB hz1 hk1 hS => hwx.elim)
          obtain ⟨hE, hB⟩ := hB
          have hE := hE.symm
          subst hE
          obtain ⟨hP, hK1, hD1⟩ := hB
          rw [ht] at hP
          have hD := hD1.weaken (fun _ q _ h => hFc q.1 h)
          generalize H1 = H at hP hS hce ⊢
          have hP : va_P (dC, dI) vwCl (ws_sl a k rd wr ay ia mo wo so oi si mi wi ns nt nf np sl hs) H := hP
          have hD : va_D A (ws_sl a k rd wr ay ia mo wo so oi si mi wi ns nt nf np sl hs) := hD
          have hw : sl_load rd wr ay ia mo wo oi ns nf np p1 p2 p3 = .inr E_26 := by unfold sl_load; rw [hq_1]; (try dsimp only); rw [hq_5]; (try dsimp only); rw [hq_9]; (try dsimp only); rw [hq_26]; (try dsimp only); (try rfl)
          have he := Sum.inr.inj (hno.symm.trans hw)
          exact vx_out (fun x hx => (hEx x hx).elim) hlocks hce hcv hcl (fun t ht ha => ⟨(), trivial, ⟨he.symm, by rw [ht]; exact hP, va_K.moved ha hK, hD⟩, hS.F ht⟩) hS.2.2 (Nat.le_of_ble_eq_true rfl) (Nat.le_of_ble_eq_true rfl)
      · have hFc := va_free (wc := ([] : va_W)) hD hS hA [] rfl
        refine vx_callv (vx_runS (As := [.int p3]) (rest := []) ⟨hx, hb, hml, hown, hg⟩ (cs_requireReadable_x l hl9 dC dI sx H.size p3 E_9 hq_9) (va_cwS 1 hg (gi_S w_177 w_178 w_1 w_179) rfl rfl rfl (by decide +kernel) ⟨Nat.le_of_ble_eq_true rfl, Nat.le_of_ble_eq_true rfl⟩) ⟨prx0_bl, prx_ok0 hX9 hS hFc⟩ rfl rfl hl.1 rfl (lv_room (Nat.le_of_ble_eq_true rfl)) dX0_load_9 ⟨Nat.le_of_ble_eq_true rfl, Nat.le_of_ble_eq_true rfl⟩) hS (fun q _ h => hFc q h) hFc (fun q _ h => hFc q h) (fun E ce q9 u t H1 locs ht hvm hwx hB hz1 hk1 hS hce hcv hcl => ?_) (fun u t H1 locs ht hvm hwx hB hz1 hk1 hS => hwx.elim)
        have hB := hB.symm
        subst hB
        have hP := hP.kept (fun k q hq => hk1 q.1 (hP k q hq).lt (nA (hP k q hq).lt))
        generalize H1 = H at hP hS hce ⊢
        have hP : va_P (dC, dI) vwCl (ws_sl a k rd wr ay ia mo wo so oi si mi wi ns nt nf np sl hs) H := hP
        have hD : va_D A (ws_sl a k rd wr ay ia mo wo so oi si mi wi ns nt nf np sl hs) := hD
        have hw : sl_load rd wr ay ia mo wo oi ns nf np p1 p2 p3 = .inr E_9 := by unfold sl_load; rw [hq_1]; (try dsimp only); rw [hq_5]; (try dsimp only); rw [hq_9]; (try dsimp only); (try rfl)
        have he := Sum.inr.inj (hno.symm.trans hw)
        exact vx_out (fun x hx => (hEx x hx).elim) hlocks hce hcv hcl (fun t ht ha => ⟨(), trivial, ⟨he.symm, by rw [ht]; exact hP, va_K.moved ha hK, hD⟩, hS.F ht⟩) hS.2.2 (Nat.le_of_ble_eq_true rfl) (Nat.le_of_ble_eq_true rfl)
    · have hFc := va_free (wc := ([] : va_W)) hD hS hA [] rfl
      refine vx_callv (vx_runS (As := [.int p2]) (rest := []) ⟨hx, hb, hml, hown, hg⟩ (cs_requireArray_x l hl9 dC dI sx H.size p2 E_5 hq_5) (va_cwS 1 hg (gi_S w_238 w_239 w_1 w_240) rfl rfl rfl (by decide +kernel) ⟨Nat.le_of_ble_eq_true rfl, Nat.le_of_ble_eq_true rfl⟩) ⟨prx0_bl, prx_ok0 hX9 hS hFc⟩ rfl rfl hl.1 rfl (lv_room (Nat.le_of_ble_eq_true rfl)) dX0_load_5 ⟨Nat.le_of_ble_eq_true rfl, Nat.le_of_ble_eq_true rfl⟩) hS (fun q _ h => hFc q h) hFc (fun q _ h => hFc q h) (fun E ce q9 u t H1 locs ht hvm hwx hB hz1 hk1 hS hce hcv hcl => ?_) (fun u t H1 locs ht hvm hwx hB hz1 hk1 hS => hwx.elim)
      have hB := hB.symm
      subst hB
      have hP := hP.kept (fun k q hq => hk1 q.1 (hP k q hq).lt (nA (hP k q hq).lt))
      generalize H1 = H at hP hS hce ⊢
      have hP : va_P (dC, dI) vwCl (ws_sl a k rd wr ay ia mo wo so oi si mi wi ns nt nf np sl hs) H := hP
      have hD : va_D A (ws_sl a k rd wr ay ia mo wo so oi si mi wi ns nt nf np sl hs) := hD
      have hw : sl_load rd wr ay ia mo wo oi ns nf np p1 p2 p3 = .inr E_5 := by unfold sl_load; rw [hq_1]; (try dsimp only); rw [hq_5]; (try dsimp only); (try rfl)
      have he := Sum.inr.inj (hno.symm.trans hw)
      exact vx_out (fun x hx => (hEx x hx).elim) hlocks hce hcv hcl (fun t ht ha => ⟨(), trivial, ⟨he.symm, by rw [ht]; exact hP, va_K.moved ha hK, hD⟩, hS.F ht⟩) hS.2.2 (Nat.le_of_ble_eq_true rfl) (Nat.le_of_ble_eq_true rfl)
  · have hFc := va_free (wc := ([] : va_W)) hD hS hA [] rfl
    refine vx_callv (vx_runS (As := [.int p1]) (rest := []) ⟨hx, hb, hml, hown, hg⟩ (cs_requirePlace_x l hl9 dC dI sx H.size p1 E_1 hq_1) (va_cwS 1 hg (gi_S w_106 w_107 w_1 w_108) rfl rfl rfl (by decide +kernel) ⟨Nat.le_of_ble_eq_true rfl, Nat.le_of_ble_eq_true rfl⟩) ⟨prx0_bl, prx_ok0 hX9 hS hFc⟩ rfl rfl hl.1 rfl (lv_room (Nat.le_of_ble_eq_true rfl)) dX0_load_1 ⟨Nat.le_of_ble_eq_true rfl, Nat.le_of_ble_eq_true rfl⟩) hS (fun q _ h => hFc q h) hFc (fun q _ h => hFc q h) (fun E ce q9 u t H1 locs ht hvm hwx hB hz1 hk1 hS hce hcv hcl => ?_) (fun u t H1 locs ht hvm hwx hB hz1 hk1 hS => hwx.elim)
    have hB := hB.symm
    subst hB
    have hP := hP.kept (fun k q hq => hk1 q.1 (hP k q hq).lt (nA (hP k q hq).lt))
    generalize H1 = H at hP hS hce ⊢
    have hP : va_P (dC, dI) vwCl (ws_sl a k rd wr ay ia mo wo so oi si mi wi ns nt nf np sl hs) H := hP
    have hD : va_D A (ws_sl a k rd wr ay ia mo wo so oi si mi wi ns nt nf np sl hs) := hD
    have hw : sl_load rd wr ay ia mo wo oi ns nf np p1 p2 p3 = .inr E_1 := by unfold sl_load; rw [hq_1]; (try dsimp only); (try rfl)
    have he := Sum.inr.inj (hno.symm.trans hw)
    exact vx_out (fun x hx => (hEx x hx).elim) hlocks hce hcv hcl (fun t ht ha => ⟨(), trivial, ⟨he.symm, by rw [ht]; exact hP, va_K.moved ha hK, hD⟩, hS.F ht⟩) hS.2.2 (Nat.le_of_ble_eq_true rfl) (Nat.le_of_ble_eq_true rfl)
set_option maxHeartbeats 4000000 in
set_option maxRecDepth 100000 in
theorem cs_store (l : Launch) (dC : Nat → ClassId) (dI : Nat → Nat → Nat) (a : Nat → Nat) (k : Nat → ClassId) (sz : Nat) (rd wr : Nat → Int64) (ay ia mo wo so oi si mi wi : Nat → Int32) (ns nt nf np sl hs : Int32) (p1 p2 p3 : Int32) (r' : Int32) (rd' wr' : Nat → Int64) (ay' ia' mo' wo' : Nat → Int32) (ns' np' sl' hs' : Int32) (hok : sl_store rd wr ay ia mo wo oi ns nf np p1 p2 p3 = .inl (r', rd', wr', ay', ia', mo', wo', ns', np', sl', hs')) : Met l yX0_store wsX0_store ({ frames := 7, cells := 0, slots := 0, locals := 109 } : Room) (va_Pc [.ref (a 0), .int p1, .int p2, .int p3] (pr (dC, dI) (ws_sl a k rd wr ay ia mo wo so oi si mi wi ns nt nf np sl hs) (ty_sl k) sz)) (va_Qi (fun (r : Int32) (_ : Unit) => r = r') (fun (_ : Unit) t => po (dC, dI) (ws_sl a k rd' wr' ay' ia' mo' wo' so oi si mi wi ns' nt nf np' sl' hs') (ty_sl k) (va_A (ws_sl a k rd wr ay ia mo wo so oi si mi wi ns nt nf np sl hs) sz) t) (va_A (ws_sl a k rd wr ay ia mo wo so oi si mi wi ns nt nf np sl hs) sz)) 0 0 (va_A (ws_sl a k rd wr ay ia mo wo so oi si mi wi ns nt nf np sl hs) sz) := by
  refine Met.ofW (cc := cX0_store) (maxL := 4) (ret := (some .int)) (by decide) rfl ?_
  intro p e s m args below meth c s₁ B hml hv
  obtain ⟨rfl, hsz, hP, hK, hD0⟩ := hv
  have hx := B.exec
  have hb := B.bytes
  have hr := B.returns
  have hts := atoms_spec (ws := wsX0_store) B.pre
  have hg : ∀ w ∈ gw, w.before _ s = true := fun w h => hts w (List.mem_cons_of_mem _ h)
  have hown : s.vm.findClass RX0 = some m.cls := findClass_of_methodNamed B.named
  have hlocks := B.notSynchronized
  subst hsz
  have hD := hD0.self (sz := s.heap.size)
  generalize hAe : va_A (ws_sl a k rd wr ay ia mo wo so oi si mi wi ns nt nf np sl hs) s.heap.size = A at hD ⊢
  have hA : ∀ q : Nat, s.heap.size ≤ q → A q := fun q h => by rw [← hAe]; exact Or.inr h
  clear hAe
  refine w_in (fun H locs eH eL => ?_)
  have hS : va_S A s.heap H locs := by rw [eH, eL]; exact va_S.rf
  have hP : va_P (dC, dI) vwCl (ws_sl a k rd wr ay ia mo wo so oi si mi wi ns nt nf np sl hs) H := by rw [eH]; exact hP
  clear eH eL
  have hl := lv_entry ([.ref (a 0), .int p1, .int p2, .int p3]) (n := 4) (Nat.le_of_ble_eq_true rfl)
  rw [lg_entry_eq]
  generalize (lg_sl ([.ref (a 0), .int p1, .int p2, .int p3]) ++ List.replicate (4 - (lg_sl ([.ref (a 0), .int p1, .int p2, .int p3])).length) Slot.unset).toArray = ls at hl ⊢
  have hl : lv_has ls 4 [(0, .ref (a 0)), (1, .int p1), (2, .int p2), (3, .int p3)] := hl
  refine lv_iload_n hx hb dX0_store_0 rfl (lv_at hl 1 rfl) ?_
  rcases hq_1 : sl_requireArray p1 with ⟨⟩ | E_1
  · refine va_callv (va_runS (As := [.int p1]) (rest := []) ⟨hx, hb, hml, hown, hg⟩ (cs_requireArray l dC dI p1 hq_1) (va_cwS 1 hg (gi_S w_238 w_239 w_1 w_240) rfl rfl rfl (by decide +kernel) ⟨Nat.le_of_ble_eq_true rfl, Nat.le_of_ble_eq_true rfl⟩) ⟨(fun _ _ _ _ q => q), (fun _ _ _ => ⟨rfl, trivial⟩)⟩ rfl rfl hl.1 rfl (lv_room (Nat.le_of_ble_eq_true rfl)) dX0_store_1 ⟨Nat.le_of_ble_eq_true rfl, Nat.le_of_ble_eq_true rfl⟩) hS (fun q _ h => False.elim h) (fun q h => False.elim h) (fun u t H1 locs ht hvm hw hB hz1 hk1 hS => ?_)
    have hP := hP.kept (fun k q hq => hk1 q.1 (hP k q hq).lt (fun h => h))
    generalize H1 = H at hP hS ⊢
    have hP : va_P (dC, dI) vwCl (ws_sl a k rd wr ay ia mo wo so oi si mi wi ns nt nf np sl hs) H := hP
    have hD : va_D A (ws_sl a k rd wr ay ia mo wo so oi si mi wi ns nt nf np sl hs) := hD
    refine lv_iload_n hx hb dX0_store_4 rfl (lv_at hl 2 rfl) ?_
    rcases hq_5 : sl_requireReadable p2 with ⟨⟩ | E_5
    · refine va_callv (va_runS (As := [.int p2]) (rest := []) ⟨hx, hb, hml, hown, hg⟩ (cs_requireReadable l dC dI p2 hq_5) (va_cwS 1 hg (gi_S w_177 w_178 w_1 w_179) rfl rfl rfl (by decide +kernel) ⟨Nat.le_of_ble_eq_true rfl, Nat.le_of_ble_eq_true rfl⟩) ⟨(fun _ _ _ _ q => q), (fun _ _ _ => ⟨rfl, trivial⟩)⟩ rfl rfl hl.1 rfl (lv_room (Nat.le_of_ble_eq_true rfl)) dX0_store_5 ⟨Nat.le_of_ble_eq_true rfl, Nat.le_of_ble_eq_true rfl⟩) hS (fun q _ h => False.elim h) (fun q h => False.elim h) (fun u t H1 locs ht hvm hw hB hz1 hk1 hS => ?_)
      have hP := hP.kept (fun k q hq => hk1 q.1 (hP k q hq).lt (fun h => h))
      generalize H1 = H at hP hS ⊢
      have hP : va_P (dC, dI) vwCl (ws_sl a k rd wr ay ia mo wo so oi si mi wi ns nt nf np sl hs) H := hP
      have hD : va_D A (ws_sl a k rd wr ay ia mo wo so oi si mi wi ns nt nf np sl hs) := hD
      refine lv_iload_n hx hb dX0_store_8 rfl (lv_at hl 3 rfl) ?_
      rcases hq_9 : sl_requireReadable p3 with ⟨⟩ | E_9
      · refine va_callv (va_runS (As := [.int p3]) (rest := []) ⟨hx, hb, hml, hown, hg⟩ (cs_requireReadable l dC dI p3 hq_9) (va_cwS 1 hg (gi_S w_177 w_178 w_1 w_179) rfl rfl rfl (by decide +kernel) ⟨Nat.le_of_ble_eq_true rfl, Nat.le_of_ble_eq_true rfl⟩) ⟨(fun _ _ _ _ q => q), (fun _ _ _ => ⟨rfl, trivial⟩)⟩ rfl rfl hl.1 rfl (lv_room (Nat.le_of_ble_eq_true rfl)) dX0_store_9 ⟨Nat.le_of_ble_eq_true rfl, Nat.le_of_ble_eq_true rfl⟩) hS (fun q _ h => False.elim h) (fun q h => False.elim h) (fun u t H1 locs ht hvm hw hB hz1 hk1 hS => ?_)
        have hP := hP.kept (fun k q hq => hk1 q.1 (hP k q hq).lt (fun h => h))
        generalize H1 = H at hP hS ⊢
        have hP : va_P (dC, dI) vwCl (ws_sl a k rd wr ay ia mo wo so oi si mi wi ns nt nf np sl hs) H := hP
        have hD : va_D A (ws_sl a k rd wr ay ia mo wo so oi si mi wi ns nt nf np sl hs) := hD
        refine lv_aload_n hx hb dX0_store_12 rfl (lv_at hl 0 rfl) ?_
        refine lv_iload_n hx hb dX0_store_13 rfl (lv_at hl 2 rfl) ?_
        refine lv_iload_n hx hb dX0_store_14 rfl (lv_at hl 3 rfl) ?_
        refine lv_ior hx hb dX0_store_15 ?_
        refine va_calll (va_runS (As := [.int (p2 ||| p3)]) (rest := [.ref (a 0)]) ⟨hx, hb, hml, hown, hg⟩ (cs_reading l dC dI (p2 ||| p3)) (va_cwS 1 hg (gi_S w_184 w_185 w_1 w_186) rfl rfl rfl (by decide +kernel) ⟨Nat.le_of_ble_eq_true rfl, Nat.le_of_ble_eq_true rfl⟩) ⟨(fun _ _ _ _ q => q), (fun _ _ _ => ⟨rfl, trivial⟩)⟩ rfl rfl hl.1 rfl (lv_room (Nat.le_of_ble_eq_true rfl)) dX0_store_16 ⟨Nat.le_of_ble_eq_true rfl, Nat.le_of_ble_eq_true rfl⟩) hS (fun q _ h => False.elim h) (fun q h => False.elim h) (fun r_16 u t H1 locs ht hvm hw_16 hB hz1 hk1 hS => ?_)
        subst hw_16
        have hP := hP.kept (fun k q hq => hk1 q.1 (hP k q hq).lt (fun h => h))
        generalize H1 = H at hP hS ⊢
        have hP : va_P (dC, dI) vwCl (ws_sl a k rd wr ay ia mo wo so oi si mi wi ns nt nf np sl hs) H := hP
        have hD : va_D A (ws_sl a k rd wr ay ia mo wo so oi si mi wi ns nt nf np sl hs) := hD
        refine lv_lconst (v := 0) hx hb dX0_store_19 (by decide) ?_
        refine lv_iload_n hx hb dX0_store_20 rfl (lv_at hl 1 rfl) ?_
        refine lv_iload_n hx hb dX0_store_21 rfl (lv_at hl 2 rfl) ?_
        refine va_calli (va_runS (As := [.int p2]) (rest := [.int p1, .long 0, .long (sl_reading (p2 ||| p3)), .ref (a 0)]) ⟨hx, hb, hml, hown, hg⟩ (cs_costOf l dC dI p2) (va_cwS 1 hg (gi_S w_190 w_191 w_1 w_192) rfl rfl rfl (by decide +kernel) ⟨Nat.le_of_ble_eq_true rfl, Nat.le_of_ble_eq_true rfl⟩) ⟨(fun _ _ _ _ q => q), (fun _ _ _ => ⟨rfl, trivial⟩)⟩ rfl rfl hl.1 rfl (lv_room (Nat.le_of_ble_eq_true rfl)) dX0_store_22 ⟨Nat.le_of_ble_eq_true rfl, Nat.le_of_ble_eq_true rfl⟩) hS (fun q _ h => False.elim h) (fun q h => False.elim h) (fun r_22 u t H1 locs ht hvm hw_22 hB hz1 hk1 hS => ?_)
        subst hw_22
        have hP := hP.kept (fun k q hq => hk1 q.1 (hP k q hq).lt (fun h => h))
        generalize H1 = H at hP hS ⊢
        have hP : va_P (dC, dI) vwCl (ws_sl a k rd wr ay ia mo wo so oi si mi wi ns nt nf np sl hs) H := hP
        have hD : va_D A (ws_sl a k rd wr ay ia mo wo so oi si mi wi ns nt nf np sl hs) := hD
        refine lv_iload_n hx hb dX0_store_25 rfl (lv_at hl 3 rfl) ?_
        refine va_calli (va_runS (As := [.int p3]) (rest := [.int (sl_costOf p2), .int p1, .long 0, .long (sl_reading (p2 ||| p3)), .ref (a 0)]) ⟨hx, hb, hml, hown, hg⟩ (cs_costOf l dC dI p3) (va_cwS 1 hg (gi_S w_190 w_191 w_1 w_192) rfl rfl rfl (by decide +kernel) ⟨Nat.le_of_ble_eq_true rfl, Nat.le_of_ble_eq_true rfl⟩) ⟨(fun _ _ _ _ q => q), (fun _ _ _ => ⟨rfl, trivial⟩)⟩ rfl rfl hl.1 rfl (lv_room (Nat.le_of_ble_eq_true rfl)) dX0_store_26 ⟨Nat.le_of_ble_eq_true rfl, Nat.le_of_ble_eq_true rfl⟩) hS (fun q _ h => False.elim h) (fun q h => False.elim h) (fun r_26 u t H1 locs ht hvm hw_26 hB hz1 hk1 hS => ?_)
        subst hw_26
        have hP := hP.kept (fun k q hq => hk1 q.1 (hP k q hq).lt (fun h => h))
        generalize H1 = H at hP hS ⊢
        have hP : va_P (dC, dI) vwCl (ws_sl a k rd wr ay ia mo wo so oi si mi wi ns nt nf np sl hs) H := hP
        have hD : va_D A (ws_sl a k rd wr ay ia mo wo so oi si mi wi ns nt nf np sl hs) := hD
        refine lv_iadd hx hb dX0_store_29 ?_
        rcases hq_30 : sl_addStep rd wr ay ia mo wo oi ns nf np (sl_reading (p2 ||| p3)) 0 p1 ((sl_costOf p2) + (sl_costOf p3)) with ⟨r_30, rd_30, wr_30, ay_30, ia_30, mo_30, wo_30, ns_30, np_30, sl_30, hs_30⟩ | E_30
        · have hFc := va_free (wc := ws_sl a k rd wr ay ia mo wo so oi si mi wi ns nt nf np sl hs) hD hS hA [0, 1, 2, 3, 4, 5, 6, 7, 8, 9, 10, 11] rfl
          refine va_calli (va_runV (As := [.long (sl_reading (p2 ||| p3)), .long 0, .int p1, .int ((sl_costOf p2) + (sl_costOf p3))]) (rest := []) ⟨hx, hb, hml, hown, hg⟩ (cs_addStep l dC dI a k H.size rd wr ay ia mo wo so oi si mi wi ns nt nf np sl hs (sl_reading (p2 ||| p3)) 0 p1 ((sl_costOf p2) + (sl_costOf p3)) r_30 rd_30 wr_30 ay_30 ia_30 mo_30 wo_30 ns_30 np_30 sl_30 hs_30 hq_30) (cwV 4 hg (gi_V w_202 w_204 s_2 w_1 w_205) rfl rfl rfl (by decide +kernel) ⟨Nat.le_of_ble_eq_true rfl, Nat.le_of_ble_eq_true rfl⟩) ⟨pr_bl, va_recv hK hP (ci := 0) (q0 := 0) rfl rfl, pr_ok hK hP hD⟩ rfl rfl hl.1 rfl (lv_room (Nat.le_of_ble_eq_true rfl)) dX0_store_30 ⟨Nat.le_of_ble_eq_true rfl, Nat.le_of_ble_eq_true rfl⟩) hS (fun q _ h => hFc q h) hFc (fun rr u t H1 locs ht hvm hw hB hz1 hk1 hS => ?_)
          have hw := hw.symm
          subst hw
          obtain ⟨hP, hK1, hD1⟩ := hB
          rw [ht] at hP
          have hD := hD1.weaken (fun _ q _ h => hFc q.1 h)
          generalize H1 = H at hP hS ⊢
          have hP : va_P (dC, dI) vwCl (ws_sl a k rd_30 wr_30 ay_30 ia_30 mo_30 wo_30 so oi si mi wi ns_30 nt nf np_30 sl_30 hs_30) H := hP
          have hD : va_D A (ws_sl a k rd_30 wr_30 ay_30 ia_30 mo_30 wo_30 so oi si mi wi ns_30 nt nf np_30 sl_30 hs_30) := hD
          have hw : sl_store rd wr ay ia mo wo oi ns nf np p1 p2 p3 = .inl (r_30, rd_30, wr_30, ay_30, ia_30, mo_30, wo_30, ns_30, np_30, sl_30, hs_30) := by unfold sl_store; rw [hq_1]; (try dsimp only); rw [hq_5]; (try dsimp only); rw [hq_9]; (try dsimp only); rw [hq_30]; (try dsimp only); (try rfl)
          have he := Sum.inl.inj (hok.symm.trans hw)
          simp only [Prod.mk.injEq] at he
          obtain ⟨e0, e1, e2, e3, e4, e5, e6, e7, e8, e9, e10⟩ := he
          exact W.iret (v := r_30) hx hb hr (fun t ht hW => ⟨⟨r_30, (), rfl, e0.symm, ⟨by rw [ht, e1, e2, e3, e4, e5, e6, e7, e8, e9, e10]; exact hP, va_K.moved hW.alike hK, by rw [e1, e2, e3, e4, e5, e6, e7, e8, e9, e10]; exact hD⟩⟩, hS.F ht⟩) hS.2.2 dX0_store_33
        · have hw : sl_store rd wr ay ia mo wo oi ns nf np p1 p2 p3 = .inr E_30 := by unfold sl_store; rw [hq_1]; (try dsimp only); rw [hq_5]; (try dsimp only); rw [hq_9]; (try dsimp only); rw [hq_30]; (try dsimp only); (try rfl)
          exact absurd (hw.symm.trans hok) (by intro h9; cases h9)
      · have hw : sl_store rd wr ay ia mo wo oi ns nf np p1 p2 p3 = .inr E_9 := by unfold sl_store; rw [hq_1]; (try dsimp only); rw [hq_5]; (try dsimp only); rw [hq_9]; (try dsimp only); (try rfl)
        exact absurd (hw.symm.trans hok) (by intro h9; cases h9)
    · have hw : sl_store rd wr ay ia mo wo oi ns nf np p1 p2 p3 = .inr E_5 := by unfold sl_store; rw [hq_1]; (try dsimp only); rw [hq_5]; (try dsimp only); (try rfl)
      exact absurd (hw.symm.trans hok) (by intro h9; cases h9)
  · have hw : sl_store rd wr ay ia mo wo oi ns nf np p1 p2 p3 = .inr E_1 := by unfold sl_store; rw [hq_1]; (try dsimp only); (try rfl)
    exact absurd (hw.symm.trans hok) (by intro h9; cases h9)
set_option maxHeartbeats 4000000 in
set_option maxRecDepth 100000 in
theorem cs_store_x (l : Launch) (hl9 : l.stackTraces = false) (dC : Nat → ClassId) (dI : Nat → Nat → Nat) (a : Nat → Nat) (k : Nat → ClassId) (sx : Nat → Nat) (sz : Nat) (rd wr : Nat → Int64) (ay ia mo wo so oi si mi wi : Nat → Int32) (ns nt nf np sl hs : Int32) (p1 p2 p3 : Int32) (E9 : String) (hno : sl_store rd wr ay ia mo wo oi ns nf np p1 p2 p3 = .inr E9) : vx_Met l yX0_store wsX0_store ({ frames := 7, cells := 1, slots := 6, locals := 109 } : Room) (va_Pc [.ref (a 0), .int p1, .int p2, .int p3] (prx (dC, dI) (ws_sl a k rd wr ay ia mo wo so oi si mi wi ns nt nf np sl hs) (ty_sl k) sz sx)) (va_Qi (fun (_ : Int32) (_ : Unit) => False) (fun (_ : Unit) _ => True) (va_A (ws_sl a k rd wr ay ia mo wo so oi si mi wi ns nt nf np sl hs) sz)) (vx_X (fun _ : Unit => True) (fun E _ t => E = E9 ∧ po (dC, dI) (ws_sl a k rd wr ay ia mo wo so oi si mi wi ns nt nf np sl hs) (ty_sl k) (va_A (ws_sl a k rd wr ay ia mo wo so oi si mi wi ns nt nf np sl hs) sz) t) (va_A (ws_sl a k rd wr ay ia mo wo so oi si mi wi ns nt nf np sl hs) sz)) 1 6 (va_A (ws_sl a k rd wr ay ia mo wo so oi si mi wi ns nt nf np sl hs) sz) := by
  refine vx_ofW (cc := cX0_store) (maxL := 4) (ret := (some .int)) (by decide) rfl ?_
  intro p e s m args below meth c s₁ B hml hEx hv
  obtain ⟨rfl, ⟨hsz, hP, hK, hD0⟩, hX9⟩ := hv
  have hx := B.exec
  have hb := B.bytes
  have hr := B.returns
  have hts := atoms_spec (ws := wsX0_store) B.pre
  have hg : ∀ w ∈ gw, w.before _ s = true := fun w h => hts w (List.mem_cons_of_mem _ h)
  have hown : s.vm.findClass RX0 = some m.cls := findClass_of_methodNamed B.named
  have hlocks := B.notSynchronized
  subst hsz
  have hD := hD0.self (sz := s.heap.size)
  generalize hAe : va_A (ws_sl a k rd wr ay ia mo wo so oi si mi wi ns nt nf np sl hs) s.heap.size = A at hD hX9 ⊢
  have hA : ∀ q : Nat, s.heap.size ≤ q → A q := fun q h => by rw [← hAe]; exact Or.inr h
  clear hAe
  refine w_in (fun H locs eH eL => ?_)
  have hS : va_S A s.heap H locs := by rw [eH, eL]; exact va_S.rf
  have hP : va_P (dC, dI) vwCl (ws_sl a k rd wr ay ia mo wo so oi si mi wi ns nt nf np sl hs) H := by rw [eH]; exact hP
  clear eH eL
  have hl := lv_entry ([.ref (a 0), .int p1, .int p2, .int p3]) (n := 4) (Nat.le_of_ble_eq_true rfl)
  rw [lg_entry_eq]
  generalize (lg_sl ([.ref (a 0), .int p1, .int p2, .int p3]) ++ List.replicate (4 - (lg_sl ([.ref (a 0), .int p1, .int p2, .int p3])).length) Slot.unset).toArray = ls at hl ⊢
  have hl : lv_has ls 4 [(0, .ref (a 0)), (1, .int p1), (2, .int p2), (3, .int p3)] := hl
  refine lv_iload_n hx hb dX0_store_0 rfl (lv_at hl 1 rfl) ?_
  rcases hq_1 : sl_requireArray p1 with ⟨⟩ | E_1
  · refine va_callv (va_runS (As := [.int p1]) (rest := []) ⟨hx, hb, hml, hown, hg⟩ (cs_requireArray l dC dI p1 hq_1) (va_cwS 1 hg (gi_S w_238 w_239 w_1 w_240) rfl rfl rfl (by decide +kernel) ⟨Nat.le_of_ble_eq_true rfl, Nat.le_of_ble_eq_true rfl⟩) ⟨(fun _ _ _ _ q => q), (fun _ _ _ => ⟨rfl, trivial⟩)⟩ rfl rfl hl.1 rfl (lv_room (Nat.le_of_ble_eq_true rfl)) dX0_store_1 ⟨Nat.le_of_ble_eq_true rfl, Nat.le_of_ble_eq_true rfl⟩) hS (fun q _ h => False.elim h) (fun q h => False.elim h) (fun u t H1 locs ht hvm hw hB hz1 hk1 hS => ?_)
    have hP := hP.kept (fun k q hq => hk1 q.1 (hP k q hq).lt (fun h => h))
    generalize H1 = H at hP hS ⊢
    have hP : va_P (dC, dI) vwCl (ws_sl a k rd wr ay ia mo wo so oi si mi wi ns nt nf np sl hs) H := hP
    have hD : va_D A (ws_sl a k rd wr ay ia mo wo so oi si mi wi ns nt nf np sl hs) := hD
    refine lv_iload_n hx hb dX0_store_4 rfl (lv_at hl 2 rfl) ?_
    rcases hq_5 : sl_requireReadable p2 with ⟨⟩ | E_5
    · refine va_callv (va_runS (As := [.int p2]) (rest := []) ⟨hx, hb, hml, hown, hg⟩ (cs_requireReadable l dC dI p2 hq_5) (va_cwS 1 hg (gi_S w_177 w_178 w_1 w_179) rfl rfl rfl (by decide +kernel) ⟨Nat.le_of_ble_eq_true rfl, Nat.le_of_ble_eq_true rfl⟩) ⟨(fun _ _ _ _ q => q), (fun _ _ _ => ⟨rfl, trivial⟩)⟩ rfl rfl hl.1 rfl (lv_room (Nat.le_of_ble_eq_true rfl)) dX0_store_5 ⟨Nat.le_of_ble_eq_true rfl, Nat.le_of_ble_eq_true rfl⟩) hS (fun q _ h => False.elim h) (fun q h => False.elim h) (fun u t H1 locs ht hvm hw hB hz1 hk1 hS => ?_)
      have hP := hP.kept (fun k q hq => hk1 q.1 (hP k q hq).lt (fun h => h))
      generalize H1 = H at hP hS ⊢
      have hP : va_P (dC, dI) vwCl (ws_sl a k rd wr ay ia mo wo so oi si mi wi ns nt nf np sl hs) H := hP
      have hD : va_D A (ws_sl a k rd wr ay ia mo wo so oi si mi wi ns nt nf np sl hs) := hD
      refine lv_iload_n hx hb dX0_store_8 rfl (lv_at hl 3 rfl) ?_
      rcases hq_9 : sl_requireReadable p3 with ⟨⟩ | E_9
      · refine va_callv (va_runS (As := [.int p3]) (rest := []) ⟨hx, hb, hml, hown, hg⟩ (cs_requireReadable l dC dI p3 hq_9) (va_cwS 1 hg (gi_S w_177 w_178 w_1 w_179) rfl rfl rfl (by decide +kernel) ⟨Nat.le_of_ble_eq_true rfl, Nat.le_of_ble_eq_true rfl⟩) ⟨(fun _ _ _ _ q => q), (fun _ _ _ => ⟨rfl, trivial⟩)⟩ rfl rfl hl.1 rfl (lv_room (Nat.le_of_ble_eq_true rfl)) dX0_store_9 ⟨Nat.le_of_ble_eq_true rfl, Nat.le_of_ble_eq_true rfl⟩) hS (fun q _ h => False.elim h) (fun q h => False.elim h) (fun u t H1 locs ht hvm hw hB hz1 hk1 hS => ?_)
        have hP := hP.kept (fun k q hq => hk1 q.1 (hP k q hq).lt (fun h => h))
        generalize H1 = H at hP hS ⊢
        have hP : va_P (dC, dI) vwCl (ws_sl a k rd wr ay ia mo wo so oi si mi wi ns nt nf np sl hs) H := hP
        have hD : va_D A (ws_sl a k rd wr ay ia mo wo so oi si mi wi ns nt nf np sl hs) := hD
        refine lv_aload_n hx hb dX0_store_12 rfl (lv_at hl 0 rfl) ?_
        refine lv_iload_n hx hb dX0_store_13 rfl (lv_at hl 2 rfl) ?_
        refine lv_iload_n hx hb dX0_store_14 rfl (lv_at hl 3 rfl) ?_
        refine lv_ior hx hb dX0_store_15 ?_
        refine va_calll (va_runS (As := [.int (p2 ||| p3)]) (rest := [.ref (a 0)]) ⟨hx, hb, hml, hown, hg⟩ (cs_reading l dC dI (p2 ||| p3)) (va_cwS 1 hg (gi_S w_184 w_185 w_1 w_186) rfl rfl rfl (by decide +kernel) ⟨Nat.le_of_ble_eq_true rfl, Nat.le_of_ble_eq_true rfl⟩) ⟨(fun _ _ _ _ q => q), (fun _ _ _ => ⟨rfl, trivial⟩)⟩ rfl rfl hl.1 rfl (lv_room (Nat.le_of_ble_eq_true rfl)) dX0_store_16 ⟨Nat.le_of_ble_eq_true rfl, Nat.le_of_ble_eq_true rfl⟩) hS (fun q _ h => False.elim h) (fun q h => False.elim h) (fun r_16 u t H1 locs ht hvm hw_16 hB hz1 hk1 hS => ?_)
        subst hw_16
        have hP := hP.kept (fun k q hq => hk1 q.1 (hP k q hq).lt (fun h => h))
        generalize H1 = H at hP hS ⊢
        have hP : va_P (dC, dI) vwCl (ws_sl a k rd wr ay ia mo wo so oi si mi wi ns nt nf np sl hs) H := hP
        have hD : va_D A (ws_sl a k rd wr ay ia mo wo so oi si mi wi ns nt nf np sl hs) := hD
        refine lv_lconst (v := 0) hx hb dX0_store_19 (by decide) ?_
        refine lv_iload_n hx hb dX0_store_20 rfl (lv_at hl 1 rfl) ?_
        refine lv_iload_n hx hb dX0_store_21 rfl (lv_at hl 2 rfl) ?_
        refine va_calli (va_runS (As := [.int p2]) (rest := [.int p1, .long 0, .long (sl_reading (p2 ||| p3)), .ref (a 0)]) ⟨hx, hb, hml, hown, hg⟩ (cs_costOf l dC dI p2) (va_cwS 1 hg (gi_S w_190 w_191 w_1 w_192) rfl rfl rfl (by decide +kernel) ⟨Nat.le_of_ble_eq_true rfl, Nat.le_of_ble_eq_true rfl⟩) ⟨(fun _ _ _ _ q => q), (fun _ _ _ => ⟨rfl, trivial⟩)⟩ rfl rfl hl.1 rfl (lv_room (Nat.le_of_ble_eq_true rfl)) dX0_store_22 ⟨Nat.le_of_ble_eq_true rfl, Nat.le_of_ble_eq_true rfl⟩) hS (fun q _ h => False.elim h) (fun q h => False.elim h) (fun r_22 u t H1 locs ht hvm hw_22 hB hz1 hk1 hS => ?_)
        subst hw_22
        have hP := hP.kept (fun k q hq => hk1 q.1 (hP k q hq).lt (fun h => h))
        generalize H1 = H at hP hS ⊢
        have hP : va_P (dC, dI) vwCl (ws_sl a k rd wr ay ia mo wo so oi si mi wi ns nt nf np sl hs) H := hP
        have hD : va_D A (ws_sl a k rd wr ay ia mo wo so oi si mi wi ns nt nf np sl hs) := hD
        refine lv_iload_n hx hb dX0_store_25 rfl (lv_at hl 3 rfl) ?_
        refine va_calli (va_runS (As := [.int p3]) (rest := [.int (sl_costOf p2), .int p1, .long 0, .long (sl_reading (p2 ||| p3)), .ref (a 0)]) ⟨hx, hb, hml, hown, hg⟩ (cs_costOf l dC dI p3) (va_cwS 1 hg (gi_S w_190 w_191 w_1 w_192) rfl rfl rfl (by decide +kernel) ⟨Nat.le_of_ble_eq_true rfl, Nat.le_of_ble_eq_true rfl⟩) ⟨(fun _ _ _ _ q => q), (fun _ _ _ => ⟨rfl, trivial⟩)⟩ rfl rfl hl.1 rfl (lv_room (Nat.le_of_ble_eq_true rfl)) dX0_store_26 ⟨Nat.le_of_ble_eq_true rfl, Nat.le_of_ble_eq_true rfl⟩) hS (fun q _ h => False.elim h) (fun q h => False.elim h) (fun r_26 u t H1 locs ht hvm hw_26 hB hz1 hk1 hS => ?_)
        subst hw_26
        have hP := hP.kept (fun k q hq => hk1 q.1 (hP k q hq).lt (fun h => h))
        generalize H1 = H at hP hS ⊢
        have hP : va_P (dC, dI) vwCl (ws_sl a k rd wr ay ia mo wo so oi si mi wi ns nt nf np sl hs) H := hP
        have hD : va_D A (ws_sl a k rd wr ay ia mo wo so oi si mi wi ns nt nf np sl hs) := hD
        refine lv_iadd hx hb dX0_store_29 ?_
        rcases hq_30 : sl_addStep rd wr ay ia mo wo oi ns nf np (sl_reading (p2 ||| p3)) 0 p1 ((sl_costOf p2) + (sl_costOf p3)) with ⟨r_30, rd_30, wr_30, ay_30, ia_30, mo_30, wo_30, ns_30, np_30, sl_30, hs_30⟩ | E_30
        · exfalso
          have h9 := hno
          unfold sl_store at h9
          rw [hq_1] at h9
          (try dsimp only at h9)
          rw [hq_5] at h9
          (try dsimp only at h9)
          rw [hq_9] at h9
          (try dsimp only at h9)
          rw [hq_30] at h9
          (try dsimp only at h9)
          first | (cases h9; done) | ((repeat' split at h9) <;> cases h9)
        · have hFc := va_free (wc := ws_sl a k rd wr ay ia mo wo so oi si mi wi ns nt nf np sl hs) hD hS hA [0, 1, 2, 3, 4, 5, 6, 7, 8, 9, 10, 11] rfl
          refine vx_calli (vx_runV (As := [.long (sl_reading (p2 ||| p3)), .long 0, .int p1, .int ((sl_costOf p2) + (sl_costOf p3))]) (rest := []) ⟨hx, hb, hml, hown, hg⟩ (cs_addStep_x l hl9 dC dI a k sx H.size rd wr ay ia mo wo so oi si mi wi ns nt nf np sl hs (sl_reading (p2 ||| p3)) 0 p1 ((sl_costOf p2) + (sl_costOf p3)) E_30 hq_30) (cwV 4 hg (gi_V w_202 w_204 s_2 w_1 w_205) rfl rfl rfl (by decide +kernel) ⟨Nat.le_of_ble_eq_true rfl, Nat.le_of_ble_eq_true rfl⟩) ⟨prx_bl, va_recv hK hP (ci := 0) (q0 := 0) rfl rfl, prx_ok hK hP hD hX9 hS hFc⟩ rfl rfl hl.1 rfl (lv_room (Nat.le_of_ble_eq_true rfl)) dX0_store_30 ⟨Nat.le_of_ble_eq_true rfl, Nat.le_of_ble_eq_true rfl⟩) hS (fun q _ h => hFc q h) hFc (fun q _ h => hFc q h) (fun E ce q9 u t H1 locs ht hvm hwx hB hz1 hk1 hS hce hcv hcl => ?_) (fun rr u t H1 locs ht hvm hwx hB hz1 hk1 hS => hwx.elim)
          obtain ⟨hE, hB⟩ := hB
          have hE := hE.symm
          subst hE
          obtain ⟨hP, hK1, hD1⟩ := hB
          rw [ht] at hP
          have hD := hD1.weaken (fun _ q _ h => hFc q.1 h)
          generalize H1 = H at hP hS hce ⊢
          have hP : va_P (dC, dI) vwCl (ws_sl a k rd wr ay ia mo wo so oi si mi wi ns nt nf np sl hs) H := hP
          have hD : va_D A (ws_sl a k rd wr ay ia mo wo so oi si mi wi ns nt nf np sl hs) := hD
          have hw : sl_store rd wr ay ia mo wo oi ns nf np p1 p2 p3 = .inr E_30 := by unfold sl_store; rw [hq_1]; (try dsimp only); rw [hq_5]; (try dsimp only); rw [hq_9]; (try dsimp only); rw [hq_30]; (try dsimp only); (try rfl)
          have he := Sum.inr.inj (hno.symm.trans hw)
          exact vx_out (fun x hx => (hEx x hx).elim) hlocks hce hcv hcl (fun t ht ha => ⟨(), trivial, ⟨he.symm, by rw [ht]; exact hP, va_K.moved ha hK, hD⟩, hS.F ht⟩) hS.2.2 (Nat.le_of_ble_eq_true rfl) (Nat.le_of_ble_eq_true rfl)
      · have hFc := va_free (wc := ([] : va_W)) hD hS hA [] rfl
        refine vx_callv (vx_runS (As := [.int p3]) (rest := []) ⟨hx, hb, hml, hown, hg⟩ (cs_requireReadable_x l hl9 dC dI sx H.size p3 E_9 hq_9) (va_cwS 1 hg (gi_S w_177 w_178 w_1 w_179) rfl rfl rfl (by decide +kernel) ⟨Nat.le_of_ble_eq_true rfl, Nat.le_of_ble_eq_true rfl⟩) ⟨prx0_bl, prx_ok0 hX9 hS hFc⟩ rfl rfl hl.1 rfl (lv_room (Nat.le_of_ble_eq_true rfl)) dX0_store_9 ⟨Nat.le_of_ble_eq_true rfl, Nat.le_of_ble_eq_true rfl⟩) hS (fun q _ h => hFc q h) hFc (fun q _ h => hFc q h) (fun E ce q9 u t H1 locs ht hvm hwx hB hz1 hk1 hS hce hcv hcl => ?_) (fun u t H1 locs ht hvm hwx hB hz1 hk1 hS => hwx.elim)
        have hB := hB.symm
        subst hB
        have hP := hP.kept (fun k q hq => hk1 q.1 (hP k q hq).lt (nA (hP k q hq).lt))
        generalize H1 = H at hP hS hce ⊢
        have hP : va_P (dC, dI) vwCl (ws_sl a k rd wr ay ia mo wo so oi si mi wi ns nt nf np sl hs) H := hP
        have hD : va_D A (ws_sl a k rd wr ay ia mo wo so oi si mi wi ns nt nf np sl hs) := hD
        have hw : sl_store rd wr ay ia mo wo oi ns nf np p1 p2 p3 = .inr E_9 := by unfold sl_store; rw [hq_1]; (try dsimp only); rw [hq_5]; (try dsimp only); rw [hq_9]; (try dsimp only); (try rfl)
        have he := Sum.inr.inj (hno.symm.trans hw)
        exact vx_out (fun x hx => (hEx x hx).elim) hlocks hce hcv hcl (fun t ht ha => ⟨(), trivial, ⟨he.symm, by rw [ht]; exact hP, va_K.moved ha hK, hD⟩, hS.F ht⟩) hS.2.2 (Nat.le_of_ble_eq_true rfl) (Nat.le_of_ble_eq_true rfl)
    · have hFc := va_free (wc := ([] : va_W)) hD hS hA [] rfl
      refine vx_callv (vx_runS (As := [.int p2]) (rest := []) ⟨hx, hb, hml, hown, hg⟩ (cs_requireReadable_x l hl9 dC dI sx H.size p2 E_5 hq_5) (va_cwS 1 hg (gi_S w_177 w_178 w_1 w_179) rfl rfl rfl (by decide +kernel) ⟨Nat.le_of_ble_eq_true rfl, Nat.le_of_ble_eq_true rfl⟩) ⟨prx0_bl, prx_ok0 hX9 hS hFc⟩ rfl rfl hl.1 rfl (lv_room (Nat.le_of_ble_eq_true rfl)) dX0_store_5 ⟨Nat.le_of_ble_eq_true rfl, Nat.le_of_ble_eq_true rfl⟩) hS (fun q _ h => hFc q h) hFc (fun q _ h => hFc q h) (fun E ce q9 u t H1 locs ht hvm hwx hB hz1 hk1 hS hce hcv hcl => ?_) (fun u t H1 locs ht hvm hwx hB hz1 hk1 hS => hwx.elim)
      have hB := hB.symm
      subst hB
      have hP := hP.kept (fun k q hq => hk1 q.1 (hP k q hq).lt (nA (hP k q hq).lt))
      generalize H1 = H at hP hS hce ⊢
      have hP : va_P (dC, dI) vwCl (ws_sl a k rd wr ay ia mo wo so oi si mi wi ns nt nf np sl hs) H := hP
      have hD : va_D A (ws_sl a k rd wr ay ia mo wo so oi si mi wi ns nt nf np sl hs) := hD
      have hw : sl_store rd wr ay ia mo wo oi ns nf np p1 p2 p3 = .inr E_5 := by unfold sl_store; rw [hq_1]; (try dsimp only); rw [hq_5]; (try dsimp only); (try rfl)
      have he := Sum.inr.inj (hno.symm.trans hw)
      exact vx_out (fun x hx => (hEx x hx).elim) hlocks hce hcv hcl (fun t ht ha => ⟨(), trivial, ⟨he.symm, by rw [ht]; exact hP, va_K.moved ha hK, hD⟩, hS.F ht⟩) hS.2.2 (Nat.le_of_ble_eq_true rfl) (Nat.le_of_ble_eq_true rfl)
  · have hFc := va_free (wc := ([] : va_W)) hD hS hA [] rfl
    refine vx_callv (vx_runS (As := [.int p1]) (rest := []) ⟨hx, hb, hml, hown, hg⟩ (cs_requireArray_x l hl9 dC dI sx H.size p1 E_1 hq_1) (va_cwS 1 hg (gi_S w_238 w_239 w_1 w_240) rfl rfl rfl (by decide +kernel) ⟨Nat.le_of_ble_eq_true rfl, Nat.le_of_ble_eq_true rfl⟩) ⟨prx0_bl, prx_ok0 hX9 hS hFc⟩ rfl rfl hl.1 rfl (lv_room (Nat.le_of_ble_eq_true rfl)) dX0_store_1 ⟨Nat.le_of_ble_eq_true rfl, Nat.le_of_ble_eq_true rfl⟩) hS (fun q _ h => hFc q h) hFc (fun q _ h => hFc q h) (fun E ce q9 u t H1 locs ht hvm hwx hB hz1 hk1 hS hce hcv hcl => ?_) (fun u t H1 locs ht hvm hwx hB hz1 hk1 hS => hwx.elim)
    have hB := hB.symm
    subst hB
    have hP := hP.kept (fun k q hq => hk1 q.1 (hP k q hq).lt (nA (hP k q hq).lt))
    generalize H1 = H at hP hS hce ⊢
    have hP : va_P (dC, dI) vwCl (ws_sl a k rd wr ay ia mo wo so oi si mi wi ns nt nf np sl hs) H := hP
    have hD : va_D A (ws_sl a k rd wr ay ia mo wo so oi si mi wi ns nt nf np sl hs) := hD
    have hw : sl_store rd wr ay ia mo wo oi ns nf np p1 p2 p3 = .inr E_1 := by unfold sl_store; rw [hq_1]; (try dsimp only); (try rfl)
    have he := Sum.inr.inj (hno.symm.trans hw)
    exact vx_out (fun x hx => (hEx x hx).elim) hlocks hce hcv hcl (fun t ht ha => ⟨(), trivial, ⟨he.symm, by rw [ht]; exact hP, va_K.moved ha hK, hD⟩, hS.F ht⟩) hS.2.2 (Nat.le_of_ble_eq_true rfl) (Nat.le_of_ble_eq_true rfl)
set_option maxHeartbeats 4000000 in
set_option maxRecDepth 100000 in
theorem cs_valid (l : Launch) (dC : Nat → ClassId) (dI : Nat → Nat → Nat) (a : Nat → Nat) (k : Nat → ClassId) (sz : Nat) (rd wr : Nat → Int64) (ay ia mo wo so oi si mi wi : Nat → Int32) (ns nt nf np sl hs : Int32) (p1 p2 : Int32) (r' : Int32) (rd' wr' : Nat → Int64) (ay' ia' mo' wo' : Nat → Int32) (ns' np' sl' hs' : Int32) (hok : sl_valid rd wr ay ia mo wo oi ns nf np p1 = .inl (r', rd', wr', ay', ia', mo', wo', ns', np', sl', hs')) : Met l yX0_valid wsX0_valid ({ frames := 7, cells := 0, slots := 0, locals := 109 } : Room) (va_Pc [.ref (a 0), .int p1, .int p2] (pr (dC, dI) (ws_sl a k rd wr ay ia mo wo so oi si mi wi ns nt nf np sl hs) (ty_sl k) sz)) (va_Qi (fun (r : Int32) (_ : Unit) => r = r') (fun (_ : Unit) t => po (dC, dI) (ws_sl a k rd' wr' ay' ia' mo' wo' so oi si mi wi ns' nt nf np' sl' hs') (ty_sl k) (va_A (ws_sl a k rd wr ay ia mo wo so oi si mi wi ns nt nf np sl hs) sz) t) (va_A (ws_sl a k rd wr ay ia mo wo so oi si mi wi ns nt nf np sl hs) sz)) 0 0 (va_A (ws_sl a k rd wr ay ia mo wo so oi si mi wi ns nt nf np sl hs) sz) := by
  refine Met.ofW (cc := cX0_valid) (maxL := 4) (ret := (some .int)) (by decide) rfl ?_
  intro p e s m args below meth c s₁ B hml hv
  obtain ⟨rfl, hsz, hP, hK, hD0⟩ := hv
  have hx := B.exec
  have hb := B.bytes
  have hr := B.returns
  have hts := atoms_spec (ws := wsX0_valid) B.pre
  have hg : ∀ w ∈ gw, w.before _ s = true := fun w h => hts w (List.mem_cons_of_mem _ h)
  have hown : s.vm.findClass RX0 = some m.cls := findClass_of_methodNamed B.named
  have hlocks := B.notSynchronized
  subst hsz
  have hD := hD0.self (sz := s.heap.size)
  generalize hAe : va_A (ws_sl a k rd wr ay ia mo wo so oi si mi wi ns nt nf np sl hs) s.heap.size = A at hD ⊢
  have hA : ∀ q : Nat, s.heap.size ≤ q → A q := fun q h => by rw [← hAe]; exact Or.inr h
  clear hAe
  refine w_in (fun H locs eH eL => ?_)
  have hS : va_S A s.heap H locs := by rw [eH, eL]; exact va_S.rf
  have hP : va_P (dC, dI) vwCl (ws_sl a k rd wr ay ia mo wo so oi si mi wi ns nt nf np sl hs) H := by rw [eH]; exact hP
  clear eH eL
  have hl := lv_entry ([.ref (a 0), .int p1, .int p2]) (n := 4) (Nat.le_of_ble_eq_true rfl)
  rw [lg_entry_eq]
  generalize (lg_sl ([.ref (a 0), .int p1, .int p2]) ++ List.replicate (4 - (lg_sl ([.ref (a 0), .int p1, .int p2])).length) Slot.unset).toArray = ls at hl ⊢
  have hl : lv_has ls 4 [(0, .ref (a 0)), (1, .int p1), (2, .int p2)] := hl
  refine lv_iload_n hx hb dX0_valid_0 rfl (lv_at hl 1 rfl) ?_
  refine lv_if_lt (tgt := 10) hx hb dX0_valid_1 (by decide) (fun c_1 => ?_) (fun c_1 => ?_)
  · have hw : sl_valid rd wr ay ia mo wo oi ns nf np p1 = .inr xIO := by unfold sl_valid; rw [if_pos c_1]; (try rfl)
    exact absurd (hw.symm.trans hok) (by intro h9; cases h9)
  · refine lv_iload_n hx hb dX0_valid_4 rfl (lv_at hl 1 rfl) ?_
    refine lv_bipush (v := 12) hx hb dX0_valid_5 (by decide) ?_
    refine lv_icmp_lt (tgt := 20) hx hb dX0_valid_7 (by decide) (fun c_7 => ?_) (fun c_7 => ?_)
    · refine lv_iconst (v := 1) hx hb dX0_valid_20 (by decide) ?_
      refine lv_bipush (v := 16) hx hb dX0_valid_21 (by decide) ?_
      refine lv_iload_n hx hb dX0_valid_23 rfl (lv_at hl 1 rfl) ?_
      refine lv_iadd hx hb dX0_valid_24 ?_
      refine lv_ishl hx hb dX0_valid_25 ?_
      refine lv_istore_n (lv' := [(3, .int (1 <<< ((16 + p1) &&& 31))), (0, .ref (a 0)), (1, .int p1), (2, .int p2)]) hx hb dX0_valid_26 rfl hl (by decide) rfl (fun ls hl => ?_)
      refine lv_aload_n hx hb dX0_valid_27 rfl (lv_at hl 1 rfl) ?_
      refine lv_iload_n hx hb dX0_valid_28 rfl (lv_at hl 0 rfl) ?_
      refine va_calll (va_runS (As := [.int (1 <<< ((16 + p1) &&& 31))]) (rest := [.ref (a 0)]) ⟨hx, hb, hml, hown, hg⟩ (cs_validitiesOf l dC dI (1 <<< ((16 + p1) &&& 31))) (va_cwS 1 hg (gi_S w_187 w_188 w_1 w_189) rfl rfl rfl (by decide +kernel) ⟨Nat.le_of_ble_eq_true rfl, Nat.le_of_ble_eq_true rfl⟩) ⟨(fun _ _ _ _ q => q), (fun _ _ _ => ⟨rfl, trivial⟩)⟩ rfl rfl hl.1 rfl (lv_room (Nat.le_of_ble_eq_true rfl)) dX0_valid_29 ⟨Nat.le_of_ble_eq_true rfl, Nat.le_of_ble_eq_true rfl⟩) hS (fun q _ h => False.elim h) (fun q h => False.elim h) (fun r_29 u t H1 locs ht hvm hw_29 hB hz1 hk1 hS => ?_)
      subst hw_29
      have hP := hP.kept (fun k q hq => hk1 q.1 (hP k q hq).lt (fun h => h))
      generalize H1 = H at hP hS ⊢
      have hP : va_P (dC, dI) vwCl (ws_sl a k rd wr ay ia mo wo so oi si mi wi ns nt nf np sl hs) H := hP
      have hD : va_D A (ws_sl a k rd wr ay ia mo wo so oi si mi wi ns nt nf np sl hs) := hD
      refine lv_iload_n hx hb dX0_valid_32 rfl (lv_at hl 0 rfl) ?_
      refine lv_i2l hx hb dX0_valid_33 rfl ?_
      refine lv_iload_n hx hb dX0_valid_34 rfl (lv_at hl 0 rfl) ?_
      refine va_calll (va_runS (As := [.int (1 <<< ((16 + p1) &&& 31))]) (rest := [.long ((1 <<< ((16 + p1) &&& 31)).toInt64), .long (sl_validitiesOf (1 <<< ((16 + p1) &&& 31))), .ref (a 0)]) ⟨hx, hb, hml, hown, hg⟩ (cs_validitiesOf l dC dI (1 <<< ((16 + p1) &&& 31))) (va_cwS 1 hg (gi_S w_187 w_188 w_1 w_189) rfl rfl rfl (by decide +kernel) ⟨Nat.le_of_ble_eq_true rfl, Nat.le_of_ble_eq_true rfl⟩) ⟨(fun _ _ _ _ q => q), (fun _ _ _ => ⟨rfl, trivial⟩)⟩ rfl rfl hl.1 rfl (lv_room (Nat.le_of_ble_eq_true rfl)) dX0_valid_35 ⟨Nat.le_of_ble_eq_true rfl, Nat.le_of_ble_eq_true rfl⟩) hS (fun q _ h => False.elim h) (fun q h => False.elim h) (fun r_35 u t H1 locs ht hvm hw_35 hB hz1 hk1 hS => ?_)
      subst hw_35
      have hP := hP.kept (fun k q hq => hk1 q.1 (hP k q hq).lt (fun h => h))
      generalize H1 = H at hP hS ⊢
      have hP : va_P (dC, dI) vwCl (ws_sl a k rd wr ay ia mo wo so oi si mi wi ns nt nf np sl hs) H := hP
      have hD : va_D A (ws_sl a k rd wr ay ia mo wo so oi si mi wi ns nt nf np sl hs) := hD
      refine lv_lor hx hb dX0_valid_38 ?_
      refine lv_iconst (v := (-1)) hx hb dX0_valid_39 (by decide) ?_
      refine lv_iconst (v := 0) hx hb dX0_valid_40 (by decide) ?_
      rcases hq_41 : sl_addStep rd wr ay ia mo wo oi ns nf np (sl_validitiesOf (1 <<< ((16 + p1) &&& 31))) (((1 <<< ((16 + p1) &&& 31)).toInt64) ||| (sl_validitiesOf (1 <<< ((16 + p1) &&& 31)))) (-1) 0 with ⟨r_41, rd_41, wr_41, ay_41, ia_41, mo_41, wo_41, ns_41, np_41, sl_41, hs_41⟩ | E_41
      · have hFc := va_free (wc := ws_sl a k rd wr ay ia mo wo so oi si mi wi ns nt nf np sl hs) hD hS hA [0, 1, 2, 3, 4, 5, 6, 7, 8, 9, 10, 11] rfl
        refine va_calli (va_runV (As := [.long (sl_validitiesOf (1 <<< ((16 + p1) &&& 31))), .long (((1 <<< ((16 + p1) &&& 31)).toInt64) ||| (sl_validitiesOf (1 <<< ((16 + p1) &&& 31)))), .int (-1), .int 0]) (rest := []) ⟨hx, hb, hml, hown, hg⟩ (cs_addStep l dC dI a k H.size rd wr ay ia mo wo so oi si mi wi ns nt nf np sl hs (sl_validitiesOf (1 <<< ((16 + p1) &&& 31))) (((1 <<< ((16 + p1) &&& 31)).toInt64) ||| (sl_validitiesOf (1 <<< ((16 + p1) &&& 31)))) (-1) 0 r_41 rd_41 wr_41 ay_41 ia_41 mo_41 wo_41 ns_41 np_41 sl_41 hs_41 hq_41) (cwV 4 hg (gi_V w_202 w_204 s_2 w_1 w_205) rfl rfl rfl (by decide +kernel) ⟨Nat.le_of_ble_eq_true rfl, Nat.le_of_ble_eq_true rfl⟩) ⟨pr_bl, va_recv hK hP (ci := 0) (q0 := 0) rfl rfl, pr_ok hK hP hD⟩ rfl rfl hl.1 rfl (lv_room (Nat.le_of_ble_eq_true rfl)) dX0_valid_41 ⟨Nat.le_of_ble_eq_true rfl, Nat.le_of_ble_eq_true rfl⟩) hS (fun q _ h => hFc q h) hFc (fun rr u t H1 locs ht hvm hw hB hz1 hk1 hS => ?_)
        have hw := hw.symm
        subst hw
        obtain ⟨hP, hK1, hD1⟩ := hB
        rw [ht] at hP
        have hD := hD1.weaken (fun _ q _ h => hFc q.1 h)
        generalize H1 = H at hP hS ⊢
        have hP : va_P (dC, dI) vwCl (ws_sl a k rd_41 wr_41 ay_41 ia_41 mo_41 wo_41 so oi si mi wi ns_41 nt nf np_41 sl_41 hs_41) H := hP
        have hD : va_D A (ws_sl a k rd_41 wr_41 ay_41 ia_41 mo_41 wo_41 so oi si mi wi ns_41 nt nf np_41 sl_41 hs_41) := hD
        have hw : sl_valid rd wr ay ia mo wo oi ns nf np p1 = .inl (r_41, rd_41, wr_41, ay_41, ia_41, mo_41, wo_41, ns_41, np_41, sl_41, hs_41) := by unfold sl_valid; rw [if_neg c_1, if_pos c_7, hq_41]; (try dsimp only); (try rfl)
        have he := Sum.inl.inj (hok.symm.trans hw)
        simp only [Prod.mk.injEq] at he
        obtain ⟨e0, e1, e2, e3, e4, e5, e6, e7, e8, e9, e10⟩ := he
        exact W.iret (v := r_41) hx hb hr (fun t ht hW => ⟨⟨r_41, (), rfl, e0.symm, ⟨by rw [ht, e1, e2, e3, e4, e5, e6, e7, e8, e9, e10]; exact hP, va_K.moved hW.alike hK, by rw [e1, e2, e3, e4, e5, e6, e7, e8, e9, e10]; exact hD⟩⟩, hS.F ht⟩) hS.2.2 dX0_valid_44
      · have hw : sl_valid rd wr ay ia mo wo oi ns nf np p1 = .inr E_41 := by unfold sl_valid; rw [if_neg c_1, if_pos c_7, hq_41]; (try dsimp only); (try rfl)
        exact absurd (hw.symm.trans hok) (by intro h9; cases h9)
    · have hw : sl_valid rd wr ay ia mo wo oi ns nf np p1 = .inr xIO := by unfold sl_valid; rw [if_neg c_1, if_neg c_7]; (try rfl)
      exact absurd (hw.symm.trans hok) (by intro h9; cases h9)
set_option maxHeartbeats 4000000 in
set_option maxRecDepth 100000 in
theorem cs_valid_x (l : Launch) (hl9 : l.stackTraces = false) (dC : Nat → ClassId) (dI : Nat → Nat → Nat) (a : Nat → Nat) (k : Nat → ClassId) (sx : Nat → Nat) (sz : Nat) (rd wr : Nat → Int64) (ay ia mo wo so oi si mi wi : Nat → Int32) (ns nt nf np sl hs : Int32) (p1 p2 : Int32) (E9 : String) (hno : sl_valid rd wr ay ia mo wo oi ns nf np p1 = .inr E9) : vx_Met l yX0_valid wsX0_valid ({ frames := 7, cells := 1, slots := 6, locals := 109 } : Room) (va_Pc [.ref (a 0), .int p1, .int p2] (prx (dC, dI) (ws_sl a k rd wr ay ia mo wo so oi si mi wi ns nt nf np sl hs) (ty_sl k) sz sx)) (va_Qi (fun (_ : Int32) (_ : Unit) => False) (fun (_ : Unit) _ => True) (va_A (ws_sl a k rd wr ay ia mo wo so oi si mi wi ns nt nf np sl hs) sz)) (vx_X (fun _ : Unit => True) (fun E _ t => E = E9 ∧ po (dC, dI) (ws_sl a k rd wr ay ia mo wo so oi si mi wi ns nt nf np sl hs) (ty_sl k) (va_A (ws_sl a k rd wr ay ia mo wo so oi si mi wi ns nt nf np sl hs) sz) t) (va_A (ws_sl a k rd wr ay ia mo wo so oi si mi wi ns nt nf np sl hs) sz)) 1 6 (va_A (ws_sl a k rd wr ay ia mo wo so oi si mi wi ns nt nf np sl hs) sz) := by
  refine vx_ofW (cc := cX0_valid) (maxL := 4) (ret := (some .int)) (by decide) rfl ?_
  intro p e s m args below meth c s₁ B hml hEx hv
  obtain ⟨rfl, ⟨hsz, hP, hK, hD0⟩, hX9⟩ := hv
  have hx := B.exec
  have hb := B.bytes
  have hr := B.returns
  have hts := atoms_spec (ws := wsX0_valid) B.pre
  have hg : ∀ w ∈ gw, w.before _ s = true := fun w h => hts w (List.mem_cons_of_mem _ h)
  have hown : s.vm.findClass RX0 = some m.cls := findClass_of_methodNamed B.named
  have hlocks := B.notSynchronized
  subst hsz
  have hD := hD0.self (sz := s.heap.size)
  generalize hAe : va_A (ws_sl a k rd wr ay ia mo wo so oi si mi wi ns nt nf np sl hs) s.heap.size = A at hD hX9 ⊢
  have hA : ∀ q : Nat, s.heap.size ≤ q → A q := fun q h => by rw [← hAe]; exact Or.inr h
  clear hAe
  refine w_in (fun H locs eH eL => ?_)
  have hS : va_S A s.heap H locs := by rw [eH, eL]; exact va_S.rf
  have hP : va_P (dC, dI) vwCl (ws_sl a k rd wr ay ia mo wo so oi si mi wi ns nt nf np sl hs) H := by rw [eH]; exact hP
  clear eH eL
  have hl := lv_entry ([.ref (a 0), .int p1, .int p2]) (n := 4) (Nat.le_of_ble_eq_true rfl)
  rw [lg_entry_eq]
  generalize (lg_sl ([.ref (a 0), .int p1, .int p2]) ++ List.replicate (4 - (lg_sl ([.ref (a 0), .int p1, .int p2])).length) Slot.unset).toArray = ls at hl ⊢
  have hl : lv_has ls 4 [(0, .ref (a 0)), (1, .int p1), (2, .int p2)] := hl
  refine lv_iload_n hx hb dX0_valid_0 rfl (lv_at hl 1 rfl) ?_
  refine lv_if_lt (tgt := 10) hx hb dX0_valid_1 (by decide) (fun c_1 => ?_) (fun c_1 => ?_)
  · have hw : sl_valid rd wr ay ia mo wo oi ns nf np p1 = .inr xIO := by unfold sl_valid; rw [if_pos c_1]; (try rfl)
    have he := Sum.inr.inj (hno.symm.trans hw)
    exact vx_throwS (own := RX0) (cls := "java/lang/IndexOutOfBoundsException") (names := ["java/lang/RuntimeException", "java/lang/Exception"]) hx hb hl9 hown (by decide +kernel) (by decide +kernel) (hg _ w_109) (hg _ w_6) (hX9.2.2.1 (91, "no such instance") (by decide +kernel)) (hat_xIO_93 hg hX9) (by decide +kernel) hX9.1 hX9.2.1 hS (hl.1.trans hml.symm) dX0_valid_10 dX0_valid_13 dX0_valid_14 dX0_valid_16 dX0_valid_19 (fun x hx => (hEx x hx).elim) (Nat.le_of_ble_eq_true rfl) (Nat.le_of_ble_eq_true rfl) (Nat.le_of_ble_eq_true rfl) (Nat.le_of_ble_eq_true rfl) hlocks (fun t ha hsz hk => ⟨(), trivial, ⟨he.symm, hP.kept (fun k q hq => hk q.1 (hP k q hq).lt), va_K.moved ha hK, hD⟩, Nat.le_trans hS.1 hsz, fun q h1 h2 => (hk q (Nat.lt_of_lt_of_le h1 hS.1)).trans (hS.2.1 q h1 h2)⟩) hS.2.2 (Nat.le_of_ble_eq_true rfl) (Nat.le_of_ble_eq_true rfl)
  · refine lv_iload_n hx hb dX0_valid_4 rfl (lv_at hl 1 rfl) ?_
    refine lv_bipush (v := 12) hx hb dX0_valid_5 (by decide) ?_
    refine lv_icmp_lt (tgt := 20) hx hb dX0_valid_7 (by decide) (fun c_7 => ?_) (fun c_7 => ?_)
    · refine lv_iconst (v := 1) hx hb dX0_valid_20 (by decide) ?_
      refine lv_bipush (v := 16) hx hb dX0_valid_21 (by decide) ?_
      refine lv_iload_n hx hb dX0_valid_23 rfl (lv_at hl 1 rfl) ?_
      refine lv_iadd hx hb dX0_valid_24 ?_
      refine lv_ishl hx hb dX0_valid_25 ?_
      refine lv_istore_n (lv' := [(3, .int (1 <<< ((16 + p1) &&& 31))), (0, .ref (a 0)), (1, .int p1), (2, .int p2)]) hx hb dX0_valid_26 rfl hl (by decide) rfl (fun ls hl => ?_)
      refine lv_aload_n hx hb dX0_valid_27 rfl (lv_at hl 1 rfl) ?_
      refine lv_iload_n hx hb dX0_valid_28 rfl (lv_at hl 0 rfl) ?_
      refine va_calll (va_runS (As := [.int (1 <<< ((16 + p1) &&& 31))]) (rest := [.ref (a 0)]) ⟨hx, hb, hml, hown, hg⟩ (cs_validitiesOf l dC dI (1 <<< ((16 + p1) &&& 31))) (va_cwS 1 hg (gi_S w_187 w_188 w_1 w_189) rfl rfl rfl (by decide +kernel) ⟨Nat.le_of_ble_eq_true rfl, Nat.le_of_ble_eq_true rfl⟩) ⟨(fun _ _ _ _ q => q), (fun _ _ _ => ⟨rfl, trivial⟩)⟩ rfl rfl hl.1 rfl (lv_room (Nat.le_of_ble_eq_true rfl)) dX0_valid_29 ⟨Nat.le_of_ble_eq_true rfl, Nat.le_of_ble_eq_true rfl⟩) hS (fun q _ h => False.elim h) (fun q h => False.elim h) (fun r_29 u t H1 locs ht hvm hw_29 hB hz1 hk1 hS => ?_)
      subst hw_29
      have hP := hP.kept (fun k q hq => hk1 q.1 (hP k q hq).lt (fun h => h))
      generalize H1 = H at hP hS ⊢
      have hP : va_P (dC, dI) vwCl (ws_sl a k rd wr ay ia mo wo so oi si mi wi ns nt nf np sl hs) H := hP
      have hD : va_D A (ws_sl a k rd wr ay ia mo wo so oi si mi wi ns nt nf np sl hs) := hD
      refine lv_iload_n hx hb dX0_valid_32 rfl (lv_at hl 0 rfl) ?_
      refine lv_i2l hx hb dX0_valid_33 rfl ?_
      refine lv_iload_n hx hb dX0_valid_34 rfl (lv_at hl 0 rfl) ?_
      refine va_calll (va_runS (As := [.int (1 <<< ((16 + p1) &&& 31))]) (rest := [.long ((1 <<< ((16 + p1) &&& 31)).toInt64), .long (sl_validitiesOf (1 <<< ((16 + p1) &&& 31))), .ref (a 0)]) ⟨hx, hb, hml, hown, hg⟩ (cs_validitiesOf l dC dI (1 <<< ((16 + p1) &&& 31))) (va_cwS 1 hg (gi_S w_187 w_188 w_1 w_189) rfl rfl rfl (by decide +kernel) ⟨Nat.le_of_ble_eq_true rfl, Nat.le_of_ble_eq_true rfl⟩) ⟨(fun _ _ _ _ q => q), (fun _ _ _ => ⟨rfl, trivial⟩)⟩ rfl rfl hl.1 rfl (lv_room (Nat.le_of_ble_eq_true rfl)) dX0_valid_35 ⟨Nat.le_of_ble_eq_true rfl, Nat.le_of_ble_eq_true rfl⟩) hS (fun q _ h => False.elim h) (fun q h => False.elim h) (fun r_35 u t H1 locs ht hvm hw_35 hB hz1 hk1 hS => ?_)
      subst hw_35
      have hP := hP.kept (fun k q hq => hk1 q.1 (hP k q hq).lt (fun h => h))
      generalize H1 = H at hP hS ⊢
      have hP : va_P (dC, dI) vwCl (ws_sl a k rd wr ay ia mo wo so oi si mi wi ns nt nf np sl hs) H := hP
      have hD : va_D A (ws_sl a k rd wr ay ia mo wo so oi si mi wi ns nt nf np sl hs) := hD
      refine lv_lor hx hb dX0_valid_38 ?_
      refine lv_iconst (v := (-1)) hx hb dX0_valid_39 (by decide) ?_
      refine lv_iconst (v := 0) hx hb dX0_valid_40 (by decide) ?_
      rcases hq_41 : sl_addStep rd wr ay ia mo wo oi ns nf np (sl_validitiesOf (1 <<< ((16 + p1) &&& 31))) (((1 <<< ((16 + p1) &&& 31)).toInt64) ||| (sl_validitiesOf (1 <<< ((16 + p1) &&& 31)))) (-1) 0 with ⟨r_41, rd_41, wr_41, ay_41, ia_41, mo_41, wo_41, ns_41, np_41, sl_41, hs_41⟩ | E_41
      · exfalso
        have h9 := hno
        unfold sl_valid at h9
        rw [if_neg c_1, if_pos c_7, hq_41] at h9
        (try dsimp only at h9)
        first | (cases h9; done) | ((repeat' split at h9) <;> cases h9)
      · have hFc := va_free (wc := ws_sl a k rd wr ay ia mo wo so oi si mi wi ns nt nf np sl hs) hD hS hA [0, 1, 2, 3, 4, 5, 6, 7, 8, 9, 10, 11] rfl
        refine vx_calli (vx_runV (As := [.long (sl_validitiesOf (1 <<< ((16 + p1) &&& 31))), .long (((1 <<< ((16 + p1) &&& 31)).toInt64) ||| (sl_validitiesOf (1 <<< ((16 + p1) &&& 31)))), .int (-1), .int 0]) (rest := []) ⟨hx, hb, hml, hown, hg⟩ (cs_addStep_x l hl9 dC dI a k sx H.size rd wr ay ia mo wo so oi si mi wi ns nt nf np sl hs (sl_validitiesOf (1 <<< ((16 + p1) &&& 31))) (((1 <<< ((16 + p1) &&& 31)).toInt64) ||| (sl_validitiesOf (1 <<< ((16 + p1) &&& 31)))) (-1) 0 E_41 hq_41) (cwV 4 hg (gi_V w_202 w_204 s_2 w_1 w_205) rfl rfl rfl (by decide +kernel) ⟨Nat.le_of_ble_eq_true rfl, Nat.le_of_ble_eq_true rfl⟩) ⟨prx_bl, va_recv hK hP (ci := 0) (q0 := 0) rfl rfl, prx_ok hK hP hD hX9 hS hFc⟩ rfl rfl hl.1 rfl (lv_room (Nat.le_of_ble_eq_true rfl)) dX0_valid_41 ⟨Nat.le_of_ble_eq_true rfl, Nat.le_of_ble_eq_true rfl⟩) hS (fun q _ h => hFc q h) hFc (fun q _ h => hFc q h) (fun E ce q9 u t H1 locs ht hvm hwx hB hz1 hk1 hS hce hcv hcl => ?_) (fun rr u t H1 locs ht hvm hwx hB hz1 hk1 hS => hwx.elim)
        obtain ⟨hE, hB⟩ := hB
        have hE := hE.symm
        subst hE
        obtain ⟨hP, hK1, hD1⟩ := hB
        rw [ht] at hP
        have hD := hD1.weaken (fun _ q _ h => hFc q.1 h)
        generalize H1 = H at hP hS hce ⊢
        have hP : va_P (dC, dI) vwCl (ws_sl a k rd wr ay ia mo wo so oi si mi wi ns nt nf np sl hs) H := hP
        have hD : va_D A (ws_sl a k rd wr ay ia mo wo so oi si mi wi ns nt nf np sl hs) := hD
        have hw : sl_valid rd wr ay ia mo wo oi ns nf np p1 = .inr E_41 := by unfold sl_valid; rw [if_neg c_1, if_pos c_7, hq_41]; (try dsimp only); (try rfl)
        have he := Sum.inr.inj (hno.symm.trans hw)
        exact vx_out (fun x hx => (hEx x hx).elim) hlocks hce hcv hcl (fun t ht ha => ⟨(), trivial, ⟨he.symm, by rw [ht]; exact hP, va_K.moved ha hK, hD⟩, hS.F ht⟩) hS.2.2 (Nat.le_of_ble_eq_true rfl) (Nat.le_of_ble_eq_true rfl)
    · have hw : sl_valid rd wr ay ia mo wo oi ns nf np p1 = .inr xIO := by unfold sl_valid; rw [if_neg c_1, if_neg c_7]; (try rfl)
      have he := Sum.inr.inj (hno.symm.trans hw)
      exact vx_throwS (own := RX0) (cls := "java/lang/IndexOutOfBoundsException") (names := ["java/lang/RuntimeException", "java/lang/Exception"]) hx hb hl9 hown (by decide +kernel) (by decide +kernel) (hg _ w_109) (hg _ w_6) (hX9.2.2.1 (91, "no such instance") (by decide +kernel)) (hat_xIO_93 hg hX9) (by decide +kernel) hX9.1 hX9.2.1 hS (hl.1.trans hml.symm) dX0_valid_10 dX0_valid_13 dX0_valid_14 dX0_valid_16 dX0_valid_19 (fun x hx => (hEx x hx).elim) (Nat.le_of_ble_eq_true rfl) (Nat.le_of_ble_eq_true rfl) (Nat.le_of_ble_eq_true rfl) (Nat.le_of_ble_eq_true rfl) hlocks (fun t ha hsz hk => ⟨(), trivial, ⟨he.symm, hP.kept (fun k q hq => hk q.1 (hP k q hq).lt), va_K.moved ha hK, hD⟩, Nat.le_trans hS.1 hsz, fun q h1 h2 => (hk q (Nat.lt_of_lt_of_le h1 hS.1)).trans (hS.2.1 q h1 h2)⟩) hS.2.2 (Nat.le_of_ble_eq_true rfl) (Nat.le_of_ble_eq_true rfl)
set_option maxHeartbeats 4000000 in
set_option maxRecDepth 100000 in
theorem cs_drop (l : Launch) (dC : Nat → ClassId) (dI : Nat → Nat → Nat) (a : Nat → Nat) (k : Nat → ClassId) (sz : Nat) (rd wr : Nat → Int64) (ay ia mo wo so oi si mi wi : Nat → Int32) (ns nt nf np sl hs : Int32)  (r' : Int32) (rd' wr' : Nat → Int64) (ay' ia' mo' wo' : Nat → Int32) (ns' np' sl' hs' : Int32) (hok : sl_drop rd wr ay ia mo wo oi ns nf np = .inl (r', rd', wr', ay', ia', mo', wo', ns', np', sl', hs')) : Met l yX0_drop wsX0_drop ({ frames := 7, cells := 0, slots := 0, locals := 109 } : Room) (va_Pc [.ref (a 0)] (pr (dC, dI) (ws_sl a k rd wr ay ia mo wo so oi si mi wi ns nt nf np sl hs) (ty_sl k) sz)) (va_Qi (fun (r : Int32) (_ : Unit) => r = r') (fun (_ : Unit) t => po (dC, dI) (ws_sl a k rd' wr' ay' ia' mo' wo' so oi si mi wi ns' nt nf np' sl' hs') (ty_sl k) (va_A (ws_sl a k rd wr ay ia mo wo so oi si mi wi ns nt nf np sl hs) sz) t) (va_A (ws_sl a k rd wr ay ia mo wo so oi si mi wi ns nt nf np sl hs) sz)) 0 0 (va_A (ws_sl a k rd wr ay ia mo wo so oi si mi wi ns nt nf np sl hs) sz) := by
  refine Met.ofW (cc := cX0_drop) (maxL := 1) (ret := (some .int)) (by decide) rfl ?_
  intro p e s m args below meth c s₁ B hml hv
  obtain ⟨rfl, hsz, hP, hK, hD0⟩ := hv
  have hx := B.exec
  have hb := B.bytes
  have hr := B.returns
  have hts := atoms_spec (ws := wsX0_drop) B.pre
  have hg : ∀ w ∈ gw, w.before _ s = true := fun w h => hts w (List.mem_cons_of_mem _ h)
  have hown : s.vm.findClass RX0 = some m.cls := findClass_of_methodNamed B.named
  have hlocks := B.notSynchronized
  subst hsz
  have hD := hD0.self (sz := s.heap.size)
  generalize hAe : va_A (ws_sl a k rd wr ay ia mo wo so oi si mi wi ns nt nf np sl hs) s.heap.size = A at hD ⊢
  have hA : ∀ q : Nat, s.heap.size ≤ q → A q := fun q h => by rw [← hAe]; exact Or.inr h
  clear hAe
  refine w_in (fun H locs eH eL => ?_)
  have hS : va_S A s.heap H locs := by rw [eH, eL]; exact va_S.rf
  have hP : va_P (dC, dI) vwCl (ws_sl a k rd wr ay ia mo wo so oi si mi wi ns nt nf np sl hs) H := by rw [eH]; exact hP
  clear eH eL
  have hl := lv_entry ([.ref (a 0)]) (n := 1) (Nat.le_of_ble_eq_true rfl)
  rw [lg_entry_eq]
  generalize (lg_sl ([.ref (a 0)]) ++ List.replicate (1 - (lg_sl ([.ref (a 0)])).length) Slot.unset).toArray = ls at hl ⊢
  have hl : lv_has ls 1 [(0, .ref (a 0))] := hl
  refine lv_aload_n hx hb dX0_drop_0 rfl (lv_at hl 0 rfl) ?_
  refine lv_lconst (v := 0) hx hb dX0_drop_1 (by decide) ?_
  refine lv_ldc2 (v := 1099511627776) hx hb hown (hg _ w_264) dX0_drop_2 ?_
  refine lv_iconst (v := (-1)) hx hb dX0_drop_5 (by decide) ?_
  refine lv_iconst (v := 0) hx hb dX0_drop_6 (by decide) ?_
  rcases hq_7 : sl_addStep rd wr ay ia mo wo oi ns nf np 0 1099511627776 (-1) 0 with ⟨r_7, rd_7, wr_7, ay_7, ia_7, mo_7, wo_7, ns_7, np_7, sl_7, hs_7⟩ | E_7
  · have hFc := va_free (wc := ws_sl a k rd wr ay ia mo wo so oi si mi wi ns nt nf np sl hs) hD hS hA [0, 1, 2, 3, 4, 5, 6, 7, 8, 9, 10, 11] rfl
    refine va_calli (va_runV (As := [.long 0, .long 1099511627776, .int (-1), .int 0]) (rest := []) ⟨hx, hb, hml, hown, hg⟩ (cs_addStep l dC dI a k H.size rd wr ay ia mo wo so oi si mi wi ns nt nf np sl hs 0 1099511627776 (-1) 0 r_7 rd_7 wr_7 ay_7 ia_7 mo_7 wo_7 ns_7 np_7 sl_7 hs_7 hq_7) (cwV 4 hg (gi_V w_202 w_204 s_2 w_1 w_205) rfl rfl rfl (by decide +kernel) ⟨Nat.le_of_ble_eq_true rfl, Nat.le_of_ble_eq_true rfl⟩) ⟨pr_bl, va_recv hK hP (ci := 0) (q0 := 0) rfl rfl, pr_ok hK hP hD⟩ rfl rfl hl.1 rfl (lv_room (Nat.le_of_ble_eq_true rfl)) dX0_drop_7 ⟨Nat.le_of_ble_eq_true rfl, Nat.le_of_ble_eq_true rfl⟩) hS (fun q _ h => hFc q h) hFc (fun rr u t H1 locs ht hvm hw hB hz1 hk1 hS => ?_)
    have hw := hw.symm
    subst hw
    obtain ⟨hP, hK1, hD1⟩ := hB
    rw [ht] at hP
    have hD := hD1.weaken (fun _ q _ h => hFc q.1 h)
    generalize H1 = H at hP hS ⊢
    have hP : va_P (dC, dI) vwCl (ws_sl a k rd_7 wr_7 ay_7 ia_7 mo_7 wo_7 so oi si mi wi ns_7 nt nf np_7 sl_7 hs_7) H := hP
    have hD : va_D A (ws_sl a k rd_7 wr_7 ay_7 ia_7 mo_7 wo_7 so oi si mi wi ns_7 nt nf np_7 sl_7 hs_7) := hD
    have hw : sl_drop rd wr ay ia mo wo oi ns nf np = .inl (r_7, rd_7, wr_7, ay_7, ia_7, mo_7, wo_7, ns_7, np_7, sl_7, hs_7) := by unfold sl_drop; rw [hq_7]; (try dsimp only); (try rfl)
    have he := Sum.inl.inj (hok.symm.trans hw)
    simp only [Prod.mk.injEq] at he
    obtain ⟨e0, e1, e2, e3, e4, e5, e6, e7, e8, e9, e10⟩ := he
    exact W.iret (v := r_7) hx hb hr (fun t ht hW => ⟨⟨r_7, (), rfl, e0.symm, ⟨by rw [ht, e1, e2, e3, e4, e5, e6, e7, e8, e9, e10]; exact hP, va_K.moved hW.alike hK, by rw [e1, e2, e3, e4, e5, e6, e7, e8, e9, e10]; exact hD⟩⟩, hS.F ht⟩) hS.2.2 dX0_drop_10
  · have hw : sl_drop rd wr ay ia mo wo oi ns nf np = .inr E_7 := by unfold sl_drop; rw [hq_7]; (try dsimp only); (try rfl)
    exact absurd (hw.symm.trans hok) (by intro h9; cases h9)
set_option maxHeartbeats 4000000 in
set_option maxRecDepth 100000 in
theorem cs_drop_x (l : Launch) (hl9 : l.stackTraces = false) (dC : Nat → ClassId) (dI : Nat → Nat → Nat) (a : Nat → Nat) (k : Nat → ClassId) (sx : Nat → Nat) (sz : Nat) (rd wr : Nat → Int64) (ay ia mo wo so oi si mi wi : Nat → Int32) (ns nt nf np sl hs : Int32)  (E9 : String) (hno : sl_drop rd wr ay ia mo wo oi ns nf np = .inr E9) : vx_Met l yX0_drop wsX0_drop ({ frames := 7, cells := 1, slots := 6, locals := 109 } : Room) (va_Pc [.ref (a 0)] (prx (dC, dI) (ws_sl a k rd wr ay ia mo wo so oi si mi wi ns nt nf np sl hs) (ty_sl k) sz sx)) (va_Qi (fun (_ : Int32) (_ : Unit) => False) (fun (_ : Unit) _ => True) (va_A (ws_sl a k rd wr ay ia mo wo so oi si mi wi ns nt nf np sl hs) sz)) (vx_X (fun _ : Unit => True) (fun E _ t => E = E9 ∧ po (dC, dI) (ws_sl a k rd wr ay ia mo wo so oi si mi wi ns nt nf np sl hs) (ty_sl k) (va_A (ws_sl a k rd wr ay ia mo wo so oi si mi wi ns nt nf np sl hs) sz) t) (va_A (ws_sl a k rd wr ay ia mo wo so oi si mi wi ns nt nf np sl hs) sz)) 1 6 (va_A (ws_sl a k rd wr ay ia mo wo so oi si mi wi ns nt nf np sl hs) sz) := by
  refine vx_ofW (cc := cX0_drop) (maxL := 1) (ret := (some .int)) (by decide) rfl ?_
  intro p e s m args below meth c s₁ B hml hEx hv
  obtain ⟨rfl, ⟨hsz, hP, hK, hD0⟩, hX9⟩ := hv
  have hx := B.exec
  have hb := B.bytes
  have hr := B.returns
  have hts := atoms_spec (ws := wsX0_drop) B.pre
  have hg : ∀ w ∈ gw, w.before _ s = true := fun w h => hts w (List.mem_cons_of_mem _ h)
  have hown : s.vm.findClass RX0 = some m.cls := findClass_of_methodNamed B.named
  have hlocks := B.notSynchronized
  subst hsz
  have hD := hD0.self (sz := s.heap.size)
  generalize hAe : va_A (ws_sl a k rd wr ay ia mo wo so oi si mi wi ns nt nf np sl hs) s.heap.size = A at hD hX9 ⊢
  have hA : ∀ q : Nat, s.heap.size ≤ q → A q := fun q h => by rw [← hAe]; exact Or.inr h
  clear hAe
  refine w_in (fun H locs eH eL => ?_)
  have hS : va_S A s.heap H locs := by rw [eH, eL]; exact va_S.rf
  have hP : va_P (dC, dI) vwCl (ws_sl a k rd wr ay ia mo wo so oi si mi wi ns nt nf np sl hs) H := by rw [eH]; exact hP
  clear eH eL
  have hl := lv_entry ([.ref (a 0)]) (n := 1) (Nat.le_of_ble_eq_true rfl)
  rw [lg_entry_eq]
  generalize (lg_sl ([.ref (a 0)]) ++ List.replicate (1 - (lg_sl ([.ref (a 0)])).length) Slot.unset).toArray = ls at hl ⊢
  have hl : lv_has ls 1 [(0, .ref (a 0))] := hl
  refine lv_aload_n hx hb dX0_drop_0 rfl (lv_at hl 0 rfl) ?_
  refine lv_lconst (v := 0) hx hb dX0_drop_1 (by decide) ?_
  refine lv_ldc2 (v := 1099511627776) hx hb hown (hg _ w_264) dX0_drop_2 ?_
  refine lv_iconst (v := (-1)) hx hb dX0_drop_5 (by decide) ?_
  refine lv_iconst (v := 0) hx hb dX0_drop_6 (by decide) ?_
  rcases hq_7 : sl_addStep rd wr ay ia mo wo oi ns nf np 0 1099511627776 (-1) 0 with ⟨r_7, rd_7, wr_7, ay_7, ia_7, mo_7, wo_7, ns_7, np_7, sl_7, hs_7⟩ | E_7
  · exfalso
    have h9 := hno
    unfold sl_drop at h9
    rw [hq_7] at h9
    (try dsimp only at h9)
    first | (cases h9; done) | ((repeat' split at h9) <;> cases h9)
  · have hFc := va_free (wc := ws_sl a k rd wr ay ia mo wo so oi si mi wi ns nt nf np sl hs) hD hS hA [0, 1, 2, 3, 4, 5, 6, 7, 8, 9, 10, 11] rfl
    refine vx_calli (vx_runV (As := [.long 0, .long 1099511627776, .int (-1), .int 0]) (rest := []) ⟨hx, hb, hml, hown, hg⟩ (cs_addStep_x l hl9 dC dI a k sx H.size rd wr ay ia mo wo so oi si mi wi ns nt nf np sl hs 0 1099511627776 (-1) 0 E_7 hq_7) (cwV 4 hg (gi_V w_202 w_204 s_2 w_1 w_205) rfl rfl rfl (by decide +kernel) ⟨Nat.le_of_ble_eq_true rfl, Nat.le_of_ble_eq_true rfl⟩) ⟨prx_bl, va_recv hK hP (ci := 0) (q0 := 0) rfl rfl, prx_ok hK hP hD hX9 hS hFc⟩ rfl rfl hl.1 rfl (lv_room (Nat.le_of_ble_eq_true rfl)) dX0_drop_7 ⟨Nat.le_of_ble_eq_true rfl, Nat.le_of_ble_eq_true rfl⟩) hS (fun q _ h => hFc q h) hFc (fun q _ h => hFc q h) (fun E ce q9 u t H1 locs ht hvm hwx hB hz1 hk1 hS hce hcv hcl => ?_) (fun rr u t H1 locs ht hvm hwx hB hz1 hk1 hS => hwx.elim)
    obtain ⟨hE, hB⟩ := hB
    have hE := hE.symm
    subst hE
    obtain ⟨hP, hK1, hD1⟩ := hB
    rw [ht] at hP
    have hD := hD1.weaken (fun _ q _ h => hFc q.1 h)
    generalize H1 = H at hP hS hce ⊢
    have hP : va_P (dC, dI) vwCl (ws_sl a k rd wr ay ia mo wo so oi si mi wi ns nt nf np sl hs) H := hP
    have hD : va_D A (ws_sl a k rd wr ay ia mo wo so oi si mi wi ns nt nf np sl hs) := hD
    have hw : sl_drop rd wr ay ia mo wo oi ns nf np = .inr E_7 := by unfold sl_drop; rw [hq_7]; (try dsimp only); (try rfl)
    have he := Sum.inr.inj (hno.symm.trans hw)
    exact vx_out (fun x hx => (hEx x hx).elim) hlocks hce hcv hcl (fun t ht ha => ⟨(), trivial, ⟨he.symm, by rw [ht]; exact hP, va_K.moved ha hK, hD⟩, hS.F ht⟩) hS.2.2 (Nat.le_of_ble_eq_true rfl) (Nat.le_of_ble_eq_true rfl)
