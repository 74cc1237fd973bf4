set_option maxHeartbeats 4000000 in
set_option maxRecDepth 100000 in
theorem cs_open (l : Launch) (dC : Nat → ClassId) (dI : Nat → Nat → Nat) (a : Nat → Nat) (k : Nat → ClassId) (sz : Nat) (rd wr : Nat → Int64) (ay ia mo wo so oi si mi wi : Nat → Int32) (ns nt nf np sl hs : Int32) (p1 : Int32) (r' : Int32) (rd' wr' : Nat → Int64) (ay' ia' mo' wo' oi' : Nat → Int32) (ns' nf' np' sl' hs' : Int32) (hok : sl_open rd wr ay ia mo wo oi ns nf np p1 = .inl (r', rd', wr', ay', ia', mo', wo', oi', ns', nf', np', sl', hs')) : Met l yX0_open wsX0_open ({ frames := 7, cells := 0, slots := 0, locals := 109 } : Room) (va_Pc [.ref (a 0), .int p1] (pr (dC, dI) (ws_sl a k rd wr ay ia mo wo so oi si mi wi ns nt nf np sl hs) (ty_sl k) sz)) (va_Qi (fun (r : Int32) (_ : Unit) => r = r') (fun (_ : Unit) t => po (dC, dI) (ws_sl a k rd' wr' ay' ia' mo' wo' so oi' si mi wi ns' nt nf' np' sl' hs') (ty_sl k) (va_A (ws_sl a k rd wr ay ia mo wo so oi si mi wi ns nt nf np sl hs) sz) t) (va_A (ws_sl a k rd wr ay ia mo wo so oi si mi wi ns nt nf np sl hs) sz)) 0 0 (va_A (ws_sl a k rd wr ay ia mo wo so oi si mi wi ns nt nf np sl hs) sz) := by
  refine Met.ofW (cc := cX0_open) (maxL := 3) (ret := (some .int)) (by decide) rfl ?_
  intro p e s m args below meth c s₁ B hml hv
  obtain ⟨rfl, hsz, hP, hK, hD0⟩ := hv
  have hx := B.exec
  have hb := B.bytes
  have hr := B.returns
  have hts := atoms_spec (ws := wsX0_open) B.pre
  have hg : ∀ w ∈ gw, w.before _ s = true := fun w h => hts w (List.mem_cons_of_mem _ h)
  have hown : s.vm.findClass RX0 = some m.cls := findClass_of_methodNamed B.named
  have hlocks := B.notSynchronized
  subst hsz
  have hD := hD0.self (sz := s.heap.size)
  generalize hAe : va_A (ws_sl a k rd wr ay ia mo wo so oi si mi wi ns nt nf np sl hs) s.heap.size = A at hD ⊢
  have hA : ∀ q : Nat, s.heap.size ≤ q → A q := fun q h => by rw [← hAe]; exact Or.inr h
  clear hAe
  refine w_in (fun H locs eH eL => ?_)
  have hS : va_S A s.heap H locs := by rw [eH, eL]; exact va_S.rf
  have hP : va_P (dC, dI) vwCl (ws_sl a k rd wr ay ia mo wo so oi si mi wi ns nt nf np sl hs) H := by rw [eH]; exact hP
  clear eH eL
  have hl := lv_entry ([.ref (a 0), .int p1]) (n := 3) (Nat.le_of_ble_eq_true rfl)
  rw [lg_entry_eq]
  generalize (lg_sl ([.ref (a 0), .int p1]) ++ List.replicate (3 - (lg_sl ([.ref (a 0), .int p1])).length) Slot.unset).toArray = ls at hl ⊢
  have hl : lv_has ls 3 [(0, .ref (a 0)), (1, .int p1)] := hl
  refine lv_iload_n hx hb dX0_open_0 rfl (lv_at hl 1 rfl) ?_
  rcases hq_1 : sl_requireReadable p1 with ⟨⟩ | E_1
  · refine va_callv (va_runS (As := [.int p1]) (rest := []) ⟨hx, hb, hml, hown, hg⟩ (cs_requireReadable l dC dI p1 hq_1) (va_cwS 1 hg (gi_S w_177 w_178 w_1 w_179) rfl rfl rfl (by decide +kernel) ⟨Nat.le_of_ble_eq_true rfl, Nat.le_of_ble_eq_true rfl⟩) ⟨(fun _ _ _ _ q => q), (fun _ _ _ => ⟨rfl, trivial⟩)⟩ rfl rfl hl.1 rfl (lv_room (Nat.le_of_ble_eq_true rfl)) dX0_open_1 ⟨Nat.le_of_ble_eq_true rfl, Nat.le_of_ble_eq_true rfl⟩) hS (fun q _ h => False.elim h) (fun q h => False.elim h) (fun u t H1 locs ht hvm hw hB hz1 hk1 hS => ?_)
    have hP := hP.kept (fun k q hq => hk1 q.1 (hP k q hq).lt (fun h => h))
    generalize H1 = H at hP hS ⊢
    have hP : va_P (dC, dI) vwCl (ws_sl a k rd wr ay ia mo wo so oi si mi wi ns nt nf np sl hs) H := hP
    have hD : va_D A (ws_sl a k rd wr ay ia mo wo so oi si mi wi ns nt nf np sl hs) := hD
    refine lv_aload_n hx hb dX0_open_4 rfl (lv_at hl 0 rfl) ?_
    refine va_get (D := (dC, dI)) (ci := 0) (v := .int nf) (C := RX0) (T := TX0) (N := 17) hx hb hg inX0 hown hK hP 0 rfl rfl 13 (by decide) (hg _ w_32) (fun _ h9 => h9) rfl dX0_open_5 ?_
    refine lv_if_lt (tgt := 20) hx hb dX0_open_8 (by decide) (fun c_8 => ?_) (fun c_8 => ?_)
    · have hw : sl_open rd wr ay ia mo wo oi ns nf np p1 = .inr xIS := by unfold sl_open; rw [hq_1]; (try dsimp only); rw [if_pos c_8]; (try rfl)
      exact absurd (hw.symm.trans hok) (by intro h9; cases h9)
    · refine lv_aload_n hx hb dX0_open_11 rfl (lv_at hl 0 rfl) ?_
      refine va_get (D := (dC, dI)) (ci := 0) (v := .int nf) (C := RX0) (T := TX0) (N := 17) hx hb hg inX0 hown hK hP 0 rfl rfl 13 (by decide) (hg _ w_32) (fun _ h9 => h9) rfl dX0_open_12 ?_
      refine lv_bipush (v := 8) hx hb dX0_open_15 (by decide) ?_
      refine lv_icmp_lt (tgt := 30) hx hb dX0_open_17 (by decide) (fun c_17 => ?_) (fun c_17 => ?_)
      · refine lv_aload_n hx hb dX0_open_30 rfl (lv_at hl 0 rfl) ?_
        refine lv_iload_n hx hb dX0_open_31 rfl (lv_at hl 1 rfl) ?_
        refine va_calll (va_runS (As := [.int p1]) (rest := [.ref (a 0)]) ⟨hx, hb, hml, hown, hg⟩ (cs_reading l dC dI p1) (va_cwS 1 hg (gi_S w_184 w_185 w_1 w_186) rfl rfl rfl (by decide +kernel) ⟨Nat.le_of_ble_eq_true rfl, Nat.le_of_ble_eq_true rfl⟩) ⟨(fun _ _ _ _ q => q), (fun _ _ _ => ⟨rfl, trivial⟩)⟩ rfl rfl hl.1 rfl (lv_room (Nat.le_of_ble_eq_true rfl)) dX0_open_32 ⟨Nat.le_of_ble_eq_true rfl, Nat.le_of_ble_eq_true rfl⟩) hS (fun q _ h => False.elim h) (fun q h => False.elim h) (fun r_32 u t H1 locs ht hvm hw_32 hB hz1 hk1 hS => ?_)
        subst hw_32
        have hP := hP.kept (fun k q hq => hk1 q.1 (hP k q hq).lt (fun h => h))
        generalize H1 = H at hP hS ⊢
        have hP : va_P (dC, dI) vwCl (ws_sl a k rd wr ay ia mo wo so oi si mi wi ns nt nf np sl hs) H := hP
        have hD : va_D A (ws_sl a k rd wr ay ia mo wo so oi si mi wi ns nt nf np sl hs) := hD
        refine lv_lconst (v := 0) hx hb dX0_open_35 (by decide) ?_
        refine lv_iconst (v := (-1)) hx hb dX0_open_36 (by decide) ?_
        refine lv_iload_n hx hb dX0_open_37 rfl (lv_at hl 1 rfl) ?_
        refine va_calli (va_runS (As := [.int p1]) (rest := [.int (-1), .long 0, .long (sl_reading p1), .ref (a 0)]) ⟨hx, hb, hml, hown, hg⟩ (cs_costOf l dC dI p1) (va_cwS 1 hg (gi_S w_190 w_191 w_1 w_192) rfl rfl rfl (by decide +kernel) ⟨Nat.le_of_ble_eq_true rfl, Nat.le_of_ble_eq_true rfl⟩) ⟨(fun _ _ _ _ q => q), (fun _ _ _ => ⟨rfl, trivial⟩)⟩ rfl rfl hl.1 rfl (lv_room (Nat.le_of_ble_eq_true rfl)) dX0_open_38 ⟨Nat.le_of_ble_eq_true rfl, Nat.le_of_ble_eq_true rfl⟩) hS (fun q _ h => False.elim h) (fun q h => False.elim h) (fun r_38 u t H1 locs ht hvm hw_38 hB hz1 hk1 hS => ?_)
        subst hw_38
        have hP := hP.kept (fun k q hq => hk1 q.1 (hP k q hq).lt (fun h => h))
        generalize H1 = H at hP hS ⊢
        have hP : va_P (dC, dI) vwCl (ws_sl a k rd wr ay ia mo wo so oi si mi wi ns nt nf np sl hs) H := hP
        have hD : va_D A (ws_sl a k rd wr ay ia mo wo so oi si mi wi ns nt nf np sl hs) := hD
        rcases hq_41 : sl_addStep rd wr ay ia mo wo oi ns nf np (sl_reading p1) 0 (-1) (sl_costOf p1) with ⟨r_41, rd_41, wr_41, ay_41, ia_41, mo_41, wo_41, ns_41, np_41, sl_41, hs_41⟩ | E_41
        · have hFc := va_free (wc := ws_sl a k rd wr ay ia mo wo so oi si mi wi ns nt nf np sl hs) hD hS hA [0, 1, 2, 3, 4, 5, 6, 7, 8, 9, 10, 11] rfl
          refine va_calli (va_runV (As := [.long (sl_reading p1), .long 0, .int (-1), .int (sl_costOf p1)]) (rest := []) ⟨hx, hb, hml, hown, hg⟩ (cs_addStep l dC dI a k H.size rd wr ay ia mo wo so oi si mi wi ns nt nf np sl hs (sl_reading p1) 0 (-1) (sl_costOf p1) r_41 rd_41 wr_41 ay_41 ia_41 mo_41 wo_41 ns_41 np_41 sl_41 hs_41 hq_41) (cwV 4 hg (gi_V w_202 w_204 s_2 w_1 w_205) rfl rfl rfl (by decide +kernel) ⟨Nat.le_of_ble_eq_true rfl, Nat.le_of_ble_eq_true rfl⟩) ⟨pr_bl, va_recv hK hP (ci := 0) (q0 := 0) rfl rfl, pr_ok hK hP hD⟩ rfl rfl hl.1 rfl (lv_room (Nat.le_of_ble_eq_true rfl)) dX0_open_41 ⟨Nat.le_of_ble_eq_true rfl, Nat.le_of_ble_eq_true rfl⟩) hS (fun q _ h => hFc q h) hFc (fun rr u t H1 locs ht hvm hw hB hz1 hk1 hS => ?_)
          have hw := hw.symm
          subst hw
          obtain ⟨hP, hK1, hD1⟩ := hB
          rw [ht] at hP
          have hD := hD1.weaken (fun _ q _ h => hFc q.1 h)
          generalize H1 = H at hP hS ⊢
          have hP : va_P (dC, dI) vwCl (ws_sl a k rd_41 wr_41 ay_41 ia_41 mo_41 wo_41 so oi si mi wi ns_41 nt nf np_41 sl_41 hs_41) H := hP
          have hD : va_D A (ws_sl a k rd_41 wr_41 ay_41 ia_41 mo_41 wo_41 so oi si mi wi ns_41 nt nf np_41 sl_41 hs_41) := hD
          refine lv_istore_n (lv' := [(2, .int r_41), (0, .ref (a 0)), (1, .int p1)]) hx hb dX0_open_44 rfl hl (by decide) rfl (fun ls hl => ?_)
          refine lv_aload_n hx hb dX0_open_45 rfl (lv_at hl 1 rfl) ?_
          refine va_get (D := (dC, dI)) (ci := 0) (v := .ref (a 8)) (C := RX0) (T := TX0) (N := 17) hx hb hg inX0 hown hK hP 0 rfl rfl 7 (by decide) (hg _ w_26) (fun _ h9 => h9) rfl dX0_open_46 ?_
          refine lv_aload_n hx hb dX0_open_49 rfl (lv_at hl 1 rfl) ?_
          refine va_get (D := (dC, dI)) (ci := 0) (v := .int nf) (C := RX0) (T := TX0) (N := 17) hx hb hg inX0 hown hK hP 0 rfl rfl 13 (by decide) (hg _ w_32) (fun _ h9 => h9) rfl dX0_open_50 ?_
          refine lv_iload_n hx hb dX0_open_53 rfl (lv_at hl 0 rfl) ?_
          refine va_iast hx hb hK hP hD hS 8 7 rfl rfl (ix_lt c_8 c_17 (by decide)) dX0_open_54 (fun H locs hP hD hS => ?_)
          have hP : va_P (dC, dI) vwCl (ws_sl a k rd_41 wr_41 ay_41 ia_41 mo_41 wo_41 so (upd oi nf.toNatClampNeg r_41) si mi wi ns_41 nt nf np_41 sl_41 hs_41) H := hP
          have hD : va_D A (ws_sl a k rd_41 wr_41 ay_41 ia_41 mo_41 wo_41 so (upd oi nf.toNatClampNeg r_41) si mi wi ns_41 nt nf np_41 sl_41 hs_41) := hD
          refine lv_aload_n hx hb dX0_open_55 rfl (lv_at hl 1 rfl) ?_
          refine lv_dup hx hb dX0_open_56 rfl ?_
          refine va_get (D := (dC, dI)) (ci := 0) (v := .int nf) (C := RX0) (T := TX0) (N := 17) hx hb hg inX0 hown hK hP 0 rfl rfl 13 (by decide) (hg _ w_32) (fun _ h9 => h9) rfl dX0_open_57 ?_
          refine lv_iconst (v := 1) hx hb dX0_open_60 (by decide) ?_
          refine lv_iadd hx hb dX0_open_61 ?_
          refine va_put (D := (dC, dI)) (ci := 0) (v := .int (nf + 1)) (ty := .int) (C := RX0) (T := TX0) (N := 17) hx hb hg inX0 tyX0 tyX0_ok nmX0 hown hK hP hD hS 0 rfl rfl 13 (by decide) (hg _ w_32) (fun _ h9 => h9) rfl (by decide +kernel) rfl rfl (Nat.le_of_ble_eq_true rfl) dX0_open_62 (fun H locs hP hD hS => ?_)
          have hP : va_P (dC, dI) vwCl (ws_sl a k rd_41 wr_41 ay_41 ia_41 mo_41 wo_41 so (upd oi nf.toNatClampNeg r_41) si mi wi ns_41 nt (nf + 1) np_41 sl_41 hs_41) H := hP
          have hD : va_D A (ws_sl a k rd_41 wr_41 ay_41 ia_41 mo_41 wo_41 so (upd oi nf.toNatClampNeg r_41) si mi wi ns_41 nt (nf + 1) np_41 sl_41 hs_41) := hD
          refine lv_iload_n hx hb dX0_open_65 rfl (lv_at hl 0 rfl) ?_
          have hw : sl_open rd wr ay ia mo wo oi ns nf np p1 = .inl (r_41, rd_41, wr_41, ay_41, ia_41, mo_41, wo_41, upd oi nf.toNatClampNeg r_41, ns_41, nf + 1, np_41, sl_41, hs_41) := by unfold sl_open; rw [hq_1]; (try dsimp only); rw [if_neg c_8, if_pos c_17, hq_41]; (try dsimp only); (try rfl)
          have he := Sum.inl.inj (hok.symm.trans hw)
          simp only [Prod.mk.injEq] at he
          obtain ⟨e0, e1, e2, e3, e4, e5, e6, e7, e8, e9, e10, e11, e12⟩ := he
          exact W.iret (v := r_41) hx hb hr (fun t ht hW => ⟨⟨r_41, (), rfl, e0.symm, ⟨by rw [ht, e1, e2, e3, e4, e5, e6, e7, e8, e9, e10, e11, e12]; exact hP, va_K.moved hW.alike hK, by rw [e1, e2, e3, e4, e5, e6, e7, e8, e9, e10, e11, e12]; exact hD⟩⟩, hS.F ht⟩) hS.2.2 dX0_open_66
        · have hw : sl_open rd wr ay ia mo wo oi ns nf np p1 = .inr E_41 := by unfold sl_open; rw [hq_1]; (try dsimp only); rw [if_neg c_8, if_pos c_17, hq_41]; (try dsimp only); (try rfl)
          exact absurd (hw.symm.trans hok) (by intro h9; cases h9)
      · have hw : sl_open rd wr ay ia mo wo oi ns nf np p1 = .inr xIS := by unfold sl_open; rw [hq_1]; (try dsimp only); rw [if_neg c_8, if_neg c_17]; (try rfl)
        exact absurd (hw.symm.trans hok) (by intro h9; cases h9)
  · have hw : sl_open rd wr ay ia mo wo oi ns nf np p1 = .inr E_1 := by unfold sl_open; rw [hq_1]; (try dsimp only); (try rfl)
    exact absurd (hw.symm.trans hok) (by intro h9; cases h9)
set_option maxHeartbeats 4000000 in
set_option maxRecDepth 100000 in
theorem cs_open_x (l : Launch) (hl9 : l.stackTraces = false) (dC : Nat → ClassId) (dI : Nat → Nat → Nat) (a : Nat → Nat) (k : Nat → ClassId) (sx : Nat → Nat) (sz : Nat) (rd wr : Nat → Int64) (ay ia mo wo so oi si mi wi : Nat → Int32) (ns nt nf np sl hs : Int32) (p1 : Int32) (E9 : String) (hno : sl_open rd wr ay ia mo wo oi ns nf np p1 = .inr E9) : vx_Met l yX0_open wsX0_open ({ frames := 7, cells := 1, slots := 6, locals := 109 } : Room) (va_Pc [.ref (a 0), .int p1] (prx (dC, dI) (ws_sl a k rd wr ay ia mo wo so oi si mi wi ns nt nf np sl hs) (ty_sl k) sz sx)) (va_Qi (fun (_ : Int32) (_ : Unit) => False) (fun (_ : Unit) _ => True) (va_A (ws_sl a k rd wr ay ia mo wo so oi si mi wi ns nt nf np sl hs) sz)) (vx_X (fun _ : Unit => True) (fun E _ t => E = E9 ∧ po (dC, dI) (ws_sl a k rd wr ay ia mo wo so oi si mi wi ns nt nf np sl hs) (ty_sl k) (va_A (ws_sl a k rd wr ay ia mo wo so oi si mi wi ns nt nf np sl hs) sz) t) (va_A (ws_sl a k rd wr ay ia mo wo so oi si mi wi ns nt nf np sl hs) sz)) 1 6 (va_A (ws_sl a k rd wr ay ia mo wo so oi si mi wi ns nt nf np sl hs) sz) := by
  refine vx_ofW (cc := cX0_open) (maxL := 3) (ret := (some .int)) (by decide) rfl ?_
  intro p e s m args below meth c s₁ B hml hEx hv
  obtain ⟨rfl, ⟨hsz, hP, hK, hD0⟩, hX9⟩ := hv
  have hx := B.exec
  have hb := B.bytes
  have hr := B.returns
  have hts := atoms_spec (ws := wsX0_open) B.pre
  have hg : ∀ w ∈ gw, w.before _ s = true := fun w h => hts w (List.mem_cons_of_mem _ h)
  have hown : s.vm.findClass RX0 = some m.cls := findClass_of_methodNamed B.named
  have hlocks := B.notSynchronized
  subst hsz
  have hD := hD0.self (sz := s.heap.size)
  generalize hAe : va_A (ws_sl a k rd wr ay ia mo wo so oi si mi wi ns nt nf np sl hs) s.heap.size = A at hD hX9 ⊢
  have hA : ∀ q : Nat, s.heap.size ≤ q → A q := fun q h => by rw [← hAe]; exact Or.inr h
  clear hAe
  refine w_in (fun H locs eH eL => ?_)
  have hS : va_S A s.heap H locs := by rw [eH, eL]; exact va_S.rf
  have hP : va_P (dC, dI) vwCl (ws_sl a k rd wr ay ia mo wo so oi si mi wi ns nt nf np sl hs) H := by rw [eH]; exact hP
  clear eH eL
  have hl := lv_entry ([.ref (a 0), .int p1]) (n := 3) (Nat.le_of_ble_eq_true rfl)
  rw [lg_entry_eq]
  generalize (lg_sl ([.ref (a 0), .int p1]) ++ List.replicate (3 - (lg_sl ([.ref (a 0), .int p1])).length) Slot.unset).toArray = ls at hl ⊢
  have hl : lv_has ls 3 [(0, .ref (a 0)), (1, .int p1)] := hl
  refine lv_iload_n hx hb dX0_open_0 rfl (lv_at hl 1 rfl) ?_
  rcases hq_1 : sl_requireReadable p1 with ⟨⟩ | E_1
  · refine va_callv (va_runS (As := [.int p1]) (rest := []) ⟨hx, hb, hml, hown, hg⟩ (cs_requireReadable l dC dI p1 hq_1) (va_cwS 1 hg (gi_S w_177 w_178 w_1 w_179) rfl rfl rfl (by decide +kernel) ⟨Nat.le_of_ble_eq_true rfl, Nat.le_of_ble_eq_true rfl⟩) ⟨(fun _ _ _ _ q => q), (fun _ _ _ => ⟨rfl, trivial⟩)⟩ rfl rfl hl.1 rfl (lv_room (Nat.le_of_ble_eq_true rfl)) dX0_open_1 ⟨Nat.le_of_ble_eq_true rfl, Nat.le_of_ble_eq_true rfl⟩) hS (fun q _ h => False.elim h) (fun q h => False.elim h) (fun u t H1 locs ht hvm hw hB hz1 hk1 hS => ?_)
    have hP := hP.kept (fun k q hq => hk1 q.1 (hP k q hq).lt (fun h => h))
    generalize H1 = H at hP hS ⊢
    have hP : va_P (dC, dI) vwCl (ws_sl a k rd wr ay ia mo wo so oi si mi wi ns nt nf np sl hs) H := hP
    have hD : va_D A (ws_sl a k rd wr ay ia mo wo so oi si mi wi ns nt nf np sl hs) := hD
    refine lv_aload_n hx hb dX0_open_4 rfl (lv_at hl 0 rfl) ?_
    refine va_get (D := (dC, dI)) (ci := 0) (v := .int nf) (C := RX0) (T := TX0) (N := 17) hx hb hg inX0 hown hK hP 0 rfl rfl 13 (by decide) (hg _ w_32) (fun _ h9 => h9) rfl dX0_open_5 ?_
    refine lv_if_lt (tgt := 20) hx hb dX0_open_8 (by decide) (fun c_8 => ?_) (fun c_8 => ?_)
    · have hw : sl_open rd wr ay ia mo wo oi ns nf np p1 = .inr xIS := by unfold sl_open; rw [hq_1]; (try dsimp only); rw [if_pos c_8]; (try rfl)
      have he := Sum.inr.inj (hno.symm.trans hw)
      exact vx_throwS (own := RX0) (cls := "java/lang/IllegalStateException") (names := ["java/lang/RuntimeException", "java/lang/Exception"]) hx hb hl9 hown (by decide +kernel) (by decide +kernel) (hg _ w_206) (hg _ w_9) (hX9.2.2.1 (103, "too many IFs are open") (by decide +kernel)) (hat_xIS_105 hg hX9) (by decide +kernel) hX9.1 hX9.2.1 hS (hl.1.trans hml.symm) dX0_open_20 dX0_open_23 dX0_open_24 dX0_open_26 dX0_open_29 (fun x hx => (hEx x hx).elim) (Nat.le_of_ble_eq_true rfl) (Nat.le_of_ble_eq_true rfl) (Nat.le_of_ble_eq_true rfl) (Nat.le_of_ble_eq_true rfl) hlocks (fun t ha hsz hk => ⟨(), trivial, ⟨he.symm, hP.kept (fun k q hq => hk q.1 (hP k q hq).lt), va_K.moved ha hK, hD⟩, Nat.le_trans hS.1 hsz, fun q h1 h2 => (hk q (Nat.lt_of_lt_of_le h1 hS.1)).trans (hS.2.1 q h1 h2)⟩) hS.2.2 (Nat.le_of_ble_eq_true rfl) (Nat.le_of_ble_eq_true rfl)
    · refine lv_aload_n hx hb dX0_open_11 rfl (lv_at hl 0 rfl) ?_
      refine va_get (D := (dC, dI)) (ci := 0) (v := .int nf) (C := RX0) (T := TX0) (N := 17) hx hb hg inX0 hown hK hP 0 rfl rfl 13 (by decide) (hg _ w_32) (fun _ h9 => h9) rfl dX0_open_12 ?_
      refine lv_bipush (v := 8) hx hb dX0_open_15 (by decide) ?_
      refine lv_icmp_lt (tgt := 30) hx hb dX0_open_17 (by decide) (fun c_17 => ?_) (fun c_17 => ?_)
      · refine lv_aload_n hx hb dX0_open_30 rfl (lv_at hl 0 rfl) ?_
        refine lv_iload_n hx hb dX0_open_31 rfl (lv_at hl 1 rfl) ?_
        refine va_calll (va_runS (As := [.int p1]) (rest := [.ref (a 0)]) ⟨hx, hb, hml, hown, hg⟩ (cs_reading l dC dI p1) (va_cwS 1 hg (gi_S w_184 w_185 w_1 w_186) rfl rfl rfl (by decide +kernel) ⟨Nat.le_of_ble_eq_true rfl, Nat.le_of_ble_eq_true rfl⟩) ⟨(fun _ _ _ _ q => q), (fun _ _ _ => ⟨rfl, trivial⟩)⟩ rfl rfl hl.1 rfl (lv_room (Nat.le_of_ble_eq_true rfl)) dX0_open_32 ⟨Nat.le_of_ble_eq_true rfl, Nat.le_of_ble_eq_true rfl⟩) hS (fun q _ h => False.elim h) (fun q h => False.elim h) (fun r_32 u t H1 locs ht hvm hw_32 hB hz1 hk1 hS => ?_)
        subst hw_32
        have hP := hP.kept (fun k q hq => hk1 q.1 (hP k q hq).lt (fun h => h))
        generalize H1 = H at hP hS ⊢
        have hP : va_P (dC, dI) vwCl (ws_sl a k rd wr ay ia mo wo so oi si mi wi ns nt nf np sl hs) H := hP
        have hD : va_D A (ws_sl a k rd wr ay ia mo wo so oi si mi wi ns nt nf np sl hs) := hD
        refine lv_lconst (v := 0) hx hb dX0_open_35 (by decide) ?_
        refine lv_iconst (v := (-1)) hx hb dX0_open_36 (by decide) ?_
        refine lv_iload_n hx hb dX0_open_37 rfl (lv_at hl 1 rfl) ?_
        refine va_calli (va_runS (As := [.int p1]) (rest := [.int (-1), .long 0, .long (sl_reading p1), .ref (a 0)]) ⟨hx, hb, hml, hown, hg⟩ (cs_costOf l dC dI p1) (va_cwS 1 hg (gi_S w_190 w_191 w_1 w_192) rfl rfl rfl (by decide +kernel) ⟨Nat.le_of_ble_eq_true rfl, Nat.le_of_ble_eq_true rfl⟩) ⟨(fun _ _ _ _ q => q), (fun _ _ _ => ⟨rfl, trivial⟩)⟩ rfl rfl hl.1 rfl (lv_room (Nat.le_of_ble_eq_true rfl)) dX0_open_38 ⟨Nat.le_of_ble_eq_true rfl, Nat.le_of_ble_eq_true rfl⟩) hS (fun q _ h => False.elim h) (fun q h => False.elim h) (fun r_38 u t H1 locs ht hvm hw_38 hB hz1 hk1 hS => ?_)
        subst hw_38
        have hP := hP.kept (fun k q hq => hk1 q.1 (hP k q hq).lt (fun h => h))
        generalize H1 = H at hP hS ⊢
        have hP : va_P (dC, dI) vwCl (ws_sl a k rd wr ay ia mo wo so oi si mi wi ns nt nf np sl hs) H := hP
        have hD : va_D A (ws_sl a k rd wr ay ia mo wo so oi si mi wi ns nt nf np sl hs) := hD
        rcases hq_41 : sl_addStep rd wr ay ia mo wo oi ns nf np (sl_reading p1) 0 (-1) (sl_costOf p1) with ⟨r_41, rd_41, wr_41, ay_41, ia_41, mo_41, wo_41, ns_41, np_41, sl_41, hs_41⟩ | E_41
        · exfalso
          have h9 := hno
          unfold sl_open at h9
          rw [hq_1] at h9
          (try dsimp only at h9)
          rw [if_neg c_8, if_pos c_17, hq_41] at h9
          (try dsimp only at h9)
          first | (cases h9; done) | ((repeat' split at h9) <;> cases h9)
        · have hFc := va_free (wc := ws_sl a k rd wr ay ia mo wo so oi si mi wi ns nt nf np sl hs) hD hS hA [0, 1, 2, 3, 4, 5, 6, 7, 8, 9, 10, 11] rfl
          refine vx_calli (vx_runV (As := [.long (sl_reading p1), .long 0, .int (-1), .int (sl_costOf p1)]) (rest := []) ⟨hx, hb, hml, hown, hg⟩ (cs_addStep_x l hl9 dC dI a k sx H.size rd wr ay ia mo wo so oi si mi wi ns nt nf np sl hs (sl_reading p1) 0 (-1) (sl_costOf p1) E_41 hq_41) (cwV 4 hg (gi_V w_202 w_204 s_2 w_1 w_205) rfl rfl rfl (by decide +kernel) ⟨Nat.le_of_ble_eq_true rfl, Nat.le_of_ble_eq_true rfl⟩) ⟨prx_bl, va_recv hK hP (ci := 0) (q0 := 0) rfl rfl, prx_ok hK hP hD hX9 hS hFc⟩ rfl rfl hl.1 rfl (lv_room (Nat.le_of_ble_eq_true rfl)) dX0_open_41 ⟨Nat.le_of_ble_eq_true rfl, Nat.le_of_ble_eq_true rfl⟩) hS (fun q _ h => hFc q h) hFc (fun q _ h => hFc q h) (fun E ce q9 u t H1 locs ht hvm hwx hB hz1 hk1 hS hce hcv hcl => ?_) (fun rr u t H1 locs ht hvm hwx hB hz1 hk1 hS => hwx.elim)
          obtain ⟨hE, hB⟩ := hB
          have hE := hE.symm
          subst hE
          obtain ⟨hP, hK1, hD1⟩ := hB
          rw [ht] at hP
          have hD := hD1.weaken (fun _ q _ h => hFc q.1 h)
          generalize H1 = H at hP hS hce ⊢
          have hP : va_P (dC, dI) vwCl (ws_sl a k rd wr ay ia mo wo so oi si mi wi ns nt nf np sl hs) H := hP
          have hD : va_D A (ws_sl a k rd wr ay ia mo wo so oi si mi wi ns nt nf np sl hs) := hD
          have hw : sl_open rd wr ay ia mo wo oi ns nf np p1 = .inr E_41 := by unfold sl_open; rw [hq_1]; (try dsimp only); rw [if_neg c_8, if_pos c_17, hq_41]; (try dsimp only); (try rfl)
          have he := Sum.inr.inj (hno.symm.trans hw)
          exact vx_out (fun x hx => (hEx x hx).elim) hlocks hce hcv hcl (fun t ht ha => ⟨(), trivial, ⟨he.symm, by rw [ht]; exact hP, va_K.moved ha hK, hD⟩, hS.F ht⟩) hS.2.2 (Nat.le_of_ble_eq_true rfl) (Nat.le_of_ble_eq_true rfl)
      · have hw : sl_open rd wr ay ia mo wo oi ns nf np p1 = .inr xIS := by unfold sl_open; rw [hq_1]; (try dsimp only); rw [if_neg c_8, if_neg c_17]; (try rfl)
        have he := Sum.inr.inj (hno.symm.trans hw)
        exact vx_throwS (own := RX0) (cls := "java/lang/IllegalStateException") (names := ["java/lang/RuntimeException", "java/lang/Exception"]) hx hb hl9 hown (by decide +kernel) (by decide +kernel) (hg _ w_206) (hg _ w_9) (hX9.2.2.1 (103, "too many IFs are open") (by decide +kernel)) (hat_xIS_105 hg hX9) (by decide +kernel) hX9.1 hX9.2.1 hS (hl.1.trans hml.symm) dX0_open_20 dX0_open_23 dX0_open_24 dX0_open_26 dX0_open_29 (fun x hx => (hEx x hx).elim) (Nat.le_of_ble_eq_true rfl) (Nat.le_of_ble_eq_true rfl) (Nat.le_of_ble_eq_true rfl) (Nat.le_of_ble_eq_true rfl) hlocks (fun t ha hsz hk => ⟨(), trivial, ⟨he.symm, hP.kept (fun k q hq => hk q.1 (hP k q hq).lt), va_K.moved ha hK, hD⟩, Nat.le_trans hS.1 hsz, fun q h1 h2 => (hk q (Nat.lt_of_lt_of_le h1 hS.1)).trans (hS.2.1 q h1 h2)⟩) hS.2.2 (Nat.le_of_ble_eq_true rfl) (Nat.le_of_ble_eq_true rfl)
  · have hFc := va_free (wc := ([] : va_W)) hD hS hA [] rfl
    refine vx_callv (vx_runS (As := [.int p1]) (rest := []) ⟨hx, hb, hml, hown, hg⟩ (cs_requireReadable_x l hl9 dC dI sx H.size p1 E_1 hq_1) (va_cwS 1 hg (gi_S w_177 w_178 w_1 w_179) rfl rfl rfl (by decide +kernel) ⟨Nat.le_of_ble_eq_true rfl, Nat.le_of_ble_eq_true rfl⟩) ⟨prx0_bl, prx_ok0 hX9 hS hFc⟩ rfl rfl hl.1 rfl (lv_room (Nat.le_of_ble_eq_true rfl)) dX0_open_1 ⟨Nat.le_of_ble_eq_true rfl, Nat.le_of_ble_eq_true rfl⟩) hS (fun q _ h => hFc q h) hFc (fun q _ h => hFc q h) (fun E ce q9 u t H1 locs ht hvm hwx hB hz1 hk1 hS hce hcv hcl => ?_) (fun u t H1 locs ht hvm hwx hB hz1 hk1 hS => hwx.elim)
    have hB := hB.symm
    subst hB
    have hP := hP.kept (fun k q hq => hk1 q.1 (hP k q hq).lt (nA (hP k q hq).lt))
    generalize H1 = H at hP hS hce ⊢
    have hP : va_P (dC, dI) vwCl (ws_sl a k rd wr ay ia mo wo so oi si mi wi ns nt nf np sl hs) H := hP
    have hD : va_D A (ws_sl a k rd wr ay ia mo wo so oi si mi wi ns nt nf np sl hs) := hD
    have hw : sl_open rd wr ay ia mo wo oi ns nf np p1 = .inr E_1 := by unfold sl_open; rw [hq_1]; (try dsimp only); (try rfl)
    have he := Sum.inr.inj (hno.symm.trans hw)
    exact vx_out (fun x hx => (hEx x hx).elim) hlocks hce hcv hcl (fun t ht ha => ⟨(), trivial, ⟨he.symm, by rw [ht]; exact hP, va_K.moved ha hK, hD⟩, hS.F ht⟩) hS.2.2 (Nat.le_of_ble_eq_true rfl) (Nat.le_of_ble_eq_true rfl)
set_option maxHeartbeats 4000000 in
set_option maxRecDepth 100000 in
theorem cs_close (l : Launch) (dC : Nat → ClassId) (dI : Nat → Nat → Nat) (a : Nat → Nat) (k : Nat → ClassId) (sz : Nat) (rd wr : Nat → Int64) (ay ia mo wo so oi si mi wi : Nat → Int32) (ns nt nf np sl hs : Int32)  (r' nf' : Int32) (hok : sl_close oi nf = .inl (r', nf')) : Met l yX0_close wsX0_close ({ frames := 6, cells := 0, slots := 0, locals := 82 } : Room) (va_Pc [.ref (a 0)] (pr (dC, dI) (ws_sl a k rd wr ay ia mo wo so oi si mi wi ns nt nf np sl hs) (ty_sl k) sz)) (va_Qi (fun (r : Int32) (_ : Unit) => r = r') (fun (_ : Unit) t => po (dC, dI) (ws_sl a k rd wr ay ia mo wo so oi si mi wi ns nt nf' np sl hs) (ty_sl k) (va_A (ws_sl a k rd wr ay ia mo wo so oi si mi wi ns nt nf np sl hs) sz) t) (va_A (ws_sl a k rd wr ay ia mo wo so oi si mi wi ns nt nf np sl hs) sz)) 0 0 (va_A (ws_sl a k rd wr ay ia mo wo so oi si mi wi ns nt nf np sl hs) sz) := by
  refine Met.ofW (cc := cX0_close) (maxL := 1) (ret := (some .int)) (by decide) rfl ?_
  intro p e s m args below meth c s₁ B hml hv
  obtain ⟨rfl, hsz, hP, hK, hD0⟩ := hv
  have hx := B.exec
  have hb := B.bytes
  have hr := B.returns
  have hts := atoms_spec (ws := wsX0_close) B.pre
  have hg : ∀ w ∈ gw, w.before _ s = true := fun w h => hts w (List.mem_cons_of_mem _ h)
  have hown : s.vm.findClass RX0 = some m.cls := findClass_of_methodNamed B.named
  have hlocks := B.notSynchronized
  subst hsz
  have hD := hD0.self (sz := s.heap.size)
  generalize hAe : va_A (ws_sl a k rd wr ay ia mo wo so oi si mi wi ns nt nf np sl hs) s.heap.size = A at hD ⊢
  have hA : ∀ q : Nat, s.heap.size ≤ q → A q := fun q h => by rw [← hAe]; exact Or.inr h
  clear hAe
  refine w_in (fun H locs eH eL => ?_)
  have hS : va_S A s.heap H locs := by rw [eH, eL]; exact va_S.rf
  have hP : va_P (dC, dI) vwCl (ws_sl a k rd wr ay ia mo wo so oi si mi wi ns nt nf np sl hs) H := by rw [eH]; exact hP
  clear eH eL
  have hl := lv_entry ([.ref (a 0)]) (n := 1) (Nat.le_of_ble_eq_true rfl)
  rw [lg_entry_eq]
  generalize (lg_sl ([.ref (a 0)]) ++ List.replicate (1 - (lg_sl ([.ref (a 0)])).length) Slot.unset).toArray = ls at hl ⊢
  have hl : lv_has ls 1 [(0, .ref (a 0))] := hl
  refine lv_aload_n hx hb dX0_close_0 rfl (lv_at hl 0 rfl) ?_
  refine va_get (D := (dC, dI)) (ci := 0) (v := .int nf) (C := RX0) (T := TX0) (N := 17) hx hb hg inX0 hown hK hP 0 rfl rfl 13 (by decide) (hg _ w_32) (fun _ h9 => h9) rfl dX0_close_1 ?_
  refine lv_iconst (v := 1) hx hb dX0_close_4 (by decide) ?_
  refine lv_icmp_lt (tgt := 17) hx hb dX0_close_5 (by decide) (fun c_5 => ?_) (fun c_5 => ?_)
  · have hw : sl_close oi nf = .inr xIS := by unfold sl_close; rw [if_pos c_5]; (try rfl)
    exact absurd (hw.symm.trans hok) (by intro h9; cases h9)
  · refine lv_aload_n hx hb dX0_close_8 rfl (lv_at hl 0 rfl) ?_
    refine va_get (D := (dC, dI)) (ci := 0) (v := .int nf) (C := RX0) (T := TX0) (N := 17) hx hb hg inX0 hown hK hP 0 rfl rfl 13 (by decide) (hg _ w_32) (fun _ h9 => h9) rfl dX0_close_9 ?_
    refine lv_bipush (v := 8) hx hb dX0_close_12 (by decide) ?_
    refine lv_icmp_le (tgt := 27) hx hb dX0_close_14 (by decide) (fun c_14 => ?_) (fun c_14 => ?_)
    · refine lv_aload_n hx hb dX0_close_27 rfl (lv_at hl 0 rfl) ?_
      refine lv_dup hx hb dX0_close_28 rfl ?_
      refine va_get (D := (dC, dI)) (ci := 0) (v := .int nf) (C := RX0) (T := TX0) (N := 17) hx hb hg inX0 hown hK hP 0 rfl rfl 13 (by decide) (hg _ w_32) (fun _ h9 => h9) rfl dX0_close_29 ?_
      refine lv_iconst (v := 1) hx hb dX0_close_32 (by decide) ?_
      refine lv_isub hx hb dX0_close_33 ?_
      refine va_put (D := (dC, dI)) (ci := 0) (v := .int (nf - 1)) (ty := .int) (C := RX0) (T := TX0) (N := 17) hx hb hg inX0 tyX0 tyX0_ok nmX0 hown hK hP hD hS 0 rfl rfl 13 (by decide) (hg _ w_32) (fun _ h9 => h9) rfl (by decide +kernel) rfl rfl (Nat.le_of_ble_eq_true rfl) dX0_close_34 (fun H locs hP hD hS => ?_)
      have hP : va_P (dC, dI) vwCl (ws_sl a k rd wr ay ia mo wo so oi si mi wi ns nt (nf - 1) np sl hs) H := hP
      have hD : va_D A (ws_sl a k rd wr ay ia mo wo so oi si mi wi ns nt (nf - 1) np sl hs) := hD
      refine lv_aload_n hx hb dX0_close_37 rfl (lv_at hl 0 rfl) ?_
      refine va_get (D := (dC, dI)) (ci := 0) (v := .ref (a 8)) (C := RX0) (T := TX0) (N := 17) hx hb hg inX0 hown hK hP 0 rfl rfl 7 (by decide) (hg _ w_26) (fun _ h9 => h9) rfl dX0_close_38 ?_
      refine lv_aload_n hx hb dX0_close_41 rfl (lv_at hl 0 rfl) ?_
      refine va_get (D := (dC, dI)) (ci := 0) (v := .int (nf - 1)) (C := RX0) (T := TX0) (N := 17) hx hb hg inX0 hown hK hP 0 rfl rfl 13 (by decide) (hg _ w_32) (fun _ h9 => h9) rfl dX0_close_42 ?_
      refine va_iald hx hb hK hP 8 7 rfl rfl (ix_m2 c_5 c_14) dX0_close_45 ?_
      have hw : sl_close oi nf = .inl (oi (nf - 1).toNatClampNeg, nf - 1) := by unfold sl_close; rw [if_neg c_5, if_pos c_14]; (try rfl)
      have he := Sum.inl.inj (hok.symm.trans hw)
      simp only [Prod.mk.injEq] at he
      obtain ⟨e0, e1⟩ := he
      exact W.iret (v := oi (nf - 1).toNatClampNeg) hx hb hr (fun t ht hW => ⟨⟨(oi (nf - 1).toNatClampNeg), (), rfl, e0.symm, ⟨by rw [ht, e1]; exact hP, va_K.moved hW.alike hK, by rw [e1]; exact hD⟩⟩, hS.F ht⟩) hS.2.2 dX0_close_46
    · have hw : sl_close oi nf = .inr xIS := by unfold sl_close; rw [if_neg c_5, if_neg c_14]; (try rfl)
      exact absurd (hw.symm.trans hok) (by intro h9; cases h9)
set_option maxHeartbeats 4000000 in
set_option maxRecDepth 100000 in
theorem cs_close_x (l : Launch) (hl9 : l.stackTraces = false) (dC : Nat → ClassId) (dI : Nat → Nat → Nat) (a : Nat → Nat) (k : Nat → ClassId) (sx : Nat → Nat) (sz : Nat) (rd wr : Nat → Int64) (ay ia mo wo so oi si mi wi : Nat → Int32) (ns nt nf np sl hs : Int32)  (E9 : String) (hno : sl_close oi nf = .inr E9) : vx_Met l yX0_close wsX0_close ({ frames := 6, cells := 1, slots := 6, locals := 82 } : Room) (va_Pc [.ref (a 0)] (prx (dC, dI) (ws_sl a k rd wr ay ia mo wo so oi si mi wi ns nt nf np sl hs) (ty_sl k) sz sx)) (va_Qi (fun (_ : Int32) (_ : Unit) => False) (fun (_ : Unit) _ => True) (va_A (ws_sl a k rd wr ay ia mo wo so oi si mi wi ns nt nf np sl hs) sz)) (vx_X (fun _ : Unit => True) (fun E _ t => E = E9 ∧ po (dC, dI) (ws_sl a k rd wr ay ia mo wo so oi si mi wi ns nt nf np sl hs) (ty_sl k) (va_A (ws_sl a k rd wr ay ia mo wo so oi si mi wi ns nt nf np sl hs) sz) t) (va_A (ws_sl a k rd wr ay ia mo wo so oi si mi wi ns nt nf np sl hs) sz)) 1 6 (va_A (ws_sl a k rd wr ay ia mo wo so oi si mi wi ns nt nf np sl hs) sz) := by
  refine vx_ofW (cc := cX0_close) (maxL := 1) (ret := (some .int)) (by decide) rfl ?_
  intro p e s m args below meth c s₁ B hml hEx hv
  obtain ⟨rfl, ⟨hsz, hP, hK, hD0⟩, hX9⟩ := hv
  have hx := B.exec
  have hb := B.bytes
  have hr := B.returns
  have hts := atoms_spec (ws := wsX0_close) B.pre
  have hg : ∀ w ∈ gw, w.before _ s = true := fun w h => hts w (List.mem_cons_of_mem _ h)
  have hown : s.vm.findClass RX0 = some m.cls := findClass_of_methodNamed B.named
  have hlocks := B.notSynchronized
  subst hsz
  have hD := hD0.self (sz := s.heap.size)
  generalize hAe : va_A (ws_sl a k rd wr ay ia mo wo so oi si mi wi ns nt nf np sl hs) s.heap.size = A at hD hX9 ⊢
  have hA : ∀ q : Nat, s.heap.size ≤ q → A q := fun q h => by rw [← hAe]; exact Or.inr h
  clear hAe
  refine w_in (fun H locs eH eL => ?_)
  have hS : va_S A s.heap H locs := by rw [eH, eL]; exact va_S.rf
  have hP : va_P (dC, dI) vwCl (ws_sl a k rd wr ay ia mo wo so oi si mi wi ns nt nf np sl hs) H := by rw [eH]; exact hP
  clear eH eL
  have hl := lv_entry ([.ref (a 0)]) (n := 1) (Nat.le_of_ble_eq_true rfl)
  rw [lg_entry_eq]
  generalize (lg_sl ([.ref (a 0)]) ++ List.replicate (1 - (lg_sl ([.ref (a 0)])).length) Slot.unset).toArray = ls at hl ⊢
  have hl : lv_has ls 1 [(0, .ref (a 0))] := hl
  refine lv_aload_n hx hb dX0_close_0 rfl (lv_at hl 0 rfl) ?_
  refine va_get (D := (dC, dI)) (ci := 0) (v := .int nf) (C := RX0) (T := TX0) (N := 17) hx hb hg inX0 hown hK hP 0 rfl rfl 13 (by decide) (hg _ w_32) (fun _ h9 => h9) rfl dX0_close_1 ?_
  refine lv_iconst (v := 1) hx hb dX0_close_4 (by decide) ?_
  refine lv_icmp_lt (tgt := 17) hx hb dX0_close_5 (by decide) (fun c_5 => ?_) (fun c_5 => ?_)
  · have hw : sl_close oi nf = .inr xIS := by unfold sl_close; rw [if_pos c_5]; (try rfl)
    have he := Sum.inr.inj (hno.symm.trans hw)
    exact vx_throwS (own := RX0) (cls := "java/lang/IllegalStateException") (names := ["java/lang/RuntimeException", "java/lang/Exception"]) hx hb hl9 hown (by decide +kernel) (by decide +kernel) (hg _ w_206) (hg _ w_9) (hX9.2.2.1 (106, "no IF is open") (by decide +kernel)) (hat_xIS_105 hg hX9) (by decide +kernel) hX9.1 hX9.2.1 hS (hl.1.trans hml.symm) dX0_close_17 dX0_close_20 dX0_close_21 dX0_close_23 dX0_close_26 (fun x hx => (hEx x hx).elim) (Nat.le_of_ble_eq_true rfl) (Nat.le_of_ble_eq_true rfl) (Nat.le_of_ble_eq_true rfl) (Nat.le_of_ble_eq_true rfl) hlocks (fun t ha hsz hk => ⟨(), trivial, ⟨he.symm, hP.kept (fun k q hq => hk q.1 (hP k q hq).lt), va_K.moved ha hK, hD⟩, Nat.le_trans hS.1 hsz, fun q h1 h2 => (hk q (Nat.lt_of_lt_of_le h1 hS.1)).trans (hS.2.1 q h1 h2)⟩) hS.2.2 (Nat.le_of_ble_eq_true rfl) (Nat.le_of_ble_eq_true rfl)
  · refine lv_aload_n hx hb dX0_close_8 rfl (lv_at hl 0 rfl) ?_
    refine va_get (D := (dC, dI)) (ci := 0) (v := .int nf) (C := RX0) (T := TX0) (N := 17) hx hb hg inX0 hown hK hP 0 rfl rfl 13 (by decide) (hg _ w_32) (fun _ h9 => h9) rfl dX0_close_9 ?_
    refine lv_bipush (v := 8) hx hb dX0_close_12 (by decide) ?_
    refine lv_icmp_le (tgt := 27) hx hb dX0_close_14 (by decide) (fun c_14 => ?_) (fun c_14 => ?_)
    · exfalso
      have h9 := hno
      unfold sl_close at h9
      rw [if_neg c_5, if_pos c_14] at h9
      first | (cases h9; done) | ((repeat' split at h9) <;> cases h9)
    · have hw : sl_close oi nf = .inr xIS := by unfold sl_close; rw [if_neg c_5, if_neg c_14]; (try rfl)
      have he := Sum.inr.inj (hno.symm.trans hw)
      exact vx_throwS (own := RX0) (cls := "java/lang/IllegalStateException") (names := ["java/lang/RuntimeException", "java/lang/Exception"]) hx hb hl9 hown (by decide +kernel) (by decide +kernel) (hg _ w_206) (hg _ w_9) (hX9.2.2.1 (106, "no IF is open") (by decide +kernel)) (hat_xIS_105 hg hX9) (by decide +kernel) hX9.1 hX9.2.1 hS (hl.1.trans hml.symm) dX0_close_17 dX0_close_20 dX0_close_21 dX0_close_23 dX0_close_26 (fun x hx => (hEx x hx).elim) (Nat.le_of_ble_eq_true rfl) (Nat.le_of_ble_eq_true rfl) (Nat.le_of_ble_eq_true rfl) (Nat.le_of_ble_eq_true rfl) hlocks (fun t ha hsz hk => ⟨(), trivial, ⟨he.symm, hP.kept (fun k q hq => hk q.1 (hP k q hq).lt), va_K.moved ha hK, hD⟩, Nat.le_trans hS.1 hsz, fun q h1 h2 => (hk q (Nat.lt_of_lt_of_le h1 hS.1)).trans (hS.2.1 q h1 h2)⟩) hS.2.2 (Nat.le_of_ble_eq_true rfl) (Nat.le_of_ble_eq_true rfl)
set_option maxHeartbeats 4000000 in
set_option maxRecDepth 100000 in
theorem cs_apply (l : Launch) (dC : Nat → ClassId) (dI : Nat → Nat → Nat) (a : Nat → Nat) (k : Nat → ClassId) (sz : Nat) (rd wr : Nat → Int64) (ay ia mo wo so oi si mi wi : Nat → Int32) (ns nt nf np sl hs : Int32) (p1 p2 p3 : Int32) (r' : Int32) (rd' wr' : Nat → Int64) (ay' ia' mo' wo' : Nat → Int32) (ns' nt' np' sl' hs' : Int32) (hok : sl_apply rd wr ay ia mo wo oi ns nt nf np p1 p2 p3 = .inl (r', rd', wr', ay', ia', mo', wo', ns', nt', np', sl', hs')) : Met l yX0_apply wsX0_apply ({ frames := 7, cells := 0, slots := 0, locals := 109 } : Room) (va_Pc [.ref (a 0), .int p1, .int p2, .int p3] (pr (dC, dI) (ws_sl a k rd wr ay ia mo wo so oi si mi wi ns nt nf np sl hs) (ty_sl k) sz)) (va_Qi (fun (r : Int32) (_ : Unit) => r = r') (fun (_ : Unit) t => po (dC, dI) (ws_sl a k rd' wr' ay' ia' mo' wo' so oi si mi wi ns' nt' nf np' sl' hs') (ty_sl k) (va_A (ws_sl a k rd wr ay ia mo wo so oi si mi wi ns nt nf np sl hs) sz) t) (va_A (ws_sl a k rd wr ay ia mo wo so oi si mi wi ns nt nf np sl hs) sz)) 0 0 (va_A (ws_sl a k rd wr ay ia mo wo so oi si mi wi ns nt nf np sl hs) sz) := by
  refine Met.ofW (cc := cX0_apply) (maxL := 7) (ret := (some .int)) (by decide) rfl ?_
  intro p e s m args below meth c s₁ B hml hv
  obtain ⟨rfl, hsz, hP, hK, hD0⟩ := hv
  have hx := B.exec
  have hb := B.bytes
  have hr := B.returns
  have hts := atoms_spec (ws := wsX0_apply) B.pre
  have hg : ∀ w ∈ gw, w.before _ s = true := fun w h => hts w (List.mem_cons_of_mem _ h)
  have hown : s.vm.findClass RX0 = some m.cls := findClass_of_methodNamed B.named
  have hlocks := B.notSynchronized
  subst hsz
  have hD := hD0.self (sz := s.heap.size)
  generalize hAe : va_A (ws_sl a k rd wr ay ia mo wo so oi si mi wi ns nt nf np sl hs) s.heap.size = A at hD ⊢
  have hA : ∀ q : Nat, s.heap.size ≤ q → A q := fun q h => by rw [← hAe]; exact Or.inr h
  clear hAe
  refine w_in (fun H locs eH eL => ?_)
  have hS : va_S A s.heap H locs := by rw [eH, eL]; exact va_S.rf
  have hP : va_P (dC, dI) vwCl (ws_sl a k rd wr ay ia mo wo so oi si mi wi ns nt nf np sl hs) H := by rw [eH]; exact hP
  clear eH eL
  have hl := lv_entry ([.ref (a 0), .int p1, .int p2, .int p3]) (n := 7) (Nat.le_of_ble_eq_true rfl)
  rw [lg_entry_eq]
  generalize (lg_sl ([.ref (a 0), .int p1, .int p2, .int p3]) ++ List.replicate (7 - (lg_sl ([.ref (a 0), .int p1, .int p2, .int p3])).length) Slot.unset).toArray = ls at hl ⊢
  have hl : lv_has ls 7 [(0, .ref (a 0)), (1, .int p1), (2, .int p2), (3, .int p3)] := hl
  refine lv_iload_n hx hb dX0_apply_0 rfl (lv_at hl 3 rfl) ?_
  rcases hq_1 : sl_requirePlace p3 with ⟨⟩ | E_1
  · refine va_callv (va_runS (As := [.int p3]) (rest := []) ⟨hx, hb, hml, hown, hg⟩ (cs_requirePlace l dC dI p3 hq_1) (va_cwS 1 hg (gi_S w_106 w_107 w_1 w_108) rfl rfl rfl (by decide +kernel) ⟨Nat.le_of_ble_eq_true rfl, Nat.le_of_ble_eq_true rfl⟩) ⟨(fun _ _ _ _ q => q), (fun _ _ _ => ⟨rfl, trivial⟩)⟩ rfl rfl hl.1 rfl (lv_room (Nat.le_of_ble_eq_true rfl)) dX0_apply_1 ⟨Nat.le_of_ble_eq_true rfl, Nat.le_of_ble_eq_true rfl⟩) hS (fun q _ h => False.elim h) (fun q h => False.elim h) (fun u t H1 locs ht hvm hw hB hz1 hk1 hS => ?_)
    have hP := hP.kept (fun k q hq => hk1 q.1 (hP k q hq).lt (fun h => h))
    generalize H1 = H at hP hS ⊢
    have hP : va_P (dC, dI) vwCl (ws_sl a k rd wr ay ia mo wo so oi si mi wi ns nt nf np sl hs) H := hP
    have hD : va_D A (ws_sl a k rd wr ay ia mo wo so oi si mi wi ns nt nf np sl hs) := hD
    refine lv_iload_n hx hb dX0_apply_4 rfl (lv_at hl 1 rfl) ?_
    rcases hq_5 : sl_requireReadable p1 with ⟨⟩ | E_5
    · refine va_callv (va_runS (As := [.int p1]) (rest := []) ⟨hx, hb, hml, hown, hg⟩ (cs_requireReadable l dC dI p1 hq_5) (va_cwS 1 hg (gi_S w_177 w_178 w_1 w_179) rfl rfl rfl (by decide +kernel) ⟨Nat.le_of_ble_eq_true rfl, Nat.le_of_ble_eq_true rfl⟩) ⟨(fun _ _ _ _ q => q), (fun _ _ _ => ⟨rfl, trivial⟩)⟩ rfl rfl hl.1 rfl (lv_room (Nat.le_of_ble_eq_true rfl)) dX0_apply_5 ⟨Nat.le_of_ble_eq_true rfl, Nat.le_of_ble_eq_true rfl⟩) hS (fun q _ h => False.elim h) (fun q h => False.elim h) (fun u t H1 locs ht hvm hw hB hz1 hk1 hS => ?_)
      have hP := hP.kept (fun k q hq => hk1 q.1 (hP k q hq).lt (fun h => h))
      generalize H1 = H at hP hS ⊢
      have hP : va_P (dC, dI) vwCl (ws_sl a k rd wr ay ia mo wo so oi si mi wi ns nt nf np sl hs) H := hP
      have hD : va_D A (ws_sl a k rd wr ay ia mo wo so oi si mi wi ns nt nf np sl hs) := hD
      refine lv_iload_n hx hb dX0_apply_8 rfl (lv_at hl 1 rfl) ?_
      refine va_calli (va_runS (As := [.int p1]) (rest := []) ⟨hx, hb, hml, hown, hg⟩ (ci_count l dC dI p1) (va_cwS 1 hg (gi_S w_193 w_194 w_7 w_195) rfl rfl rfl (by decide +kernel) ⟨Nat.le_of_ble_eq_true rfl, Nat.le_of_ble_eq_true rfl⟩) ⟨(fun _ _ _ _ q => q), (fun _ _ _ => ⟨rfl, trivial⟩)⟩ rfl rfl hl.1 rfl (lv_room (Nat.le_of_ble_eq_true rfl)) dX0_apply_9 ⟨Nat.le_of_ble_eq_true rfl, Nat.le_of_ble_eq_true rfl⟩) hS (fun q _ h => False.elim h) (fun q h => False.elim h) (fun r_9 u t H1 locs ht hvm hw_9 hB hz1 hk1 hS => ?_)
      subst hw_9
      have hP := hP.kept (fun k q hq => hk1 q.1 (hP k q hq).lt (fun h => h))
      generalize H1 = H at hP hS ⊢
      have hP : va_P (dC, dI) vwCl (ws_sl a k rd wr ay ia mo wo so oi si mi wi ns nt nf np sl hs) H := hP
      have hD : va_D A (ws_sl a k rd wr ay ia mo wo so oi si mi wi ns nt nf np sl hs) := hD
      refine lv_istore (lv' := [(4, .int (ib_count p1)), (0, .ref (a 0)), (1, .int p1), (2, .int p2), (3, .int p3)]) hx hb dX0_apply_12 hl (by decide) rfl (fun ls hl => ?_)
      refine lv_iload_n hx hb dX0_apply_14 rfl (lv_at hl 3 rfl) ?_
      refine lv_iconst (v := 1) hx hb dX0_apply_15 (by decide) ?_
      refine lv_icmp_lt (tgt := 25) hx hb dX0_apply_16 (by decide) (fun c_16 => ?_) (fun c_16 => ?_)
      · have hw : sl_apply rd wr ay ia mo wo oi ns nt nf np p1 p2 p3 = .inr xIA := by unfold sl_apply; rw [hq_1]; (try dsimp only); rw [hq_5]; (try dsimp only); rw [if_pos c_16]; (try rfl)
        exact absurd (hw.symm.trans hok) (by intro h9; cases h9)
      · refine lv_iload_n hx hb dX0_apply_19 rfl (lv_at hl 3 rfl) ?_
        refine lv_bipush (v := 32) hx hb dX0_apply_20 (by decide) ?_
        refine lv_icmp_le (tgt := 35) hx hb dX0_apply_22 (by decide) (fun c_22 => ?_) (fun c_22 => ?_)
        · refine lv_iload hx hb dX0_apply_35 (lv_at hl 0 rfl) ?_
          refine lv_iconst (v := 1) hx hb dX0_apply_37 (by decide) ?_
          refine lv_icmp_lt (tgt := 47) hx hb dX0_apply_38 (by decide) (fun c_38 => ?_) (fun c_38 => ?_)
          · have hw : sl_apply rd wr ay ia mo wo oi ns nt nf np p1 p2 p3 = .inr xIA := by unfold sl_apply; rw [hq_1]; (try dsimp only); rw [hq_5]; (try dsimp only); rw [if_neg c_16, if_pos c_22, if_pos c_38]; (try rfl)
            exact absurd (hw.symm.trans hok) (by intro h9; cases h9)
          · refine lv_iload hx hb dX0_apply_41 (lv_at hl 0 rfl) ?_
            refine lv_iconst (v := 4) hx hb dX0_apply_43 (by decide) ?_
            refine lv_icmp_le (tgt := 57) hx hb dX0_apply_44 (by decide) (fun c_44 => ?_) (fun c_44 => ?_)
            · refine lv_aload_n hx hb dX0_apply_57 rfl (lv_at hl 1 rfl) ?_
              refine va_get (D := (dC, dI)) (ci := 0) (v := .int nt) (C := RX0) (T := TX0) (N := 17) hx hb hg inX0 hown hK hP 0 rfl rfl 12 (by decide) (hg _ w_31) (fun _ h9 => h9) rfl dX0_apply_58 ?_
              refine lv_bipush (v := 8) hx hb dX0_apply_61 (by decide) ?_
              refine lv_icmp_lt (tgt := 76) hx hb dX0_apply_63 (by decide) (fun c_63 => ?_) (fun c_63 => ?_)
              · refine lv_iload_n hx hb dX0_apply_76 rfl (lv_at hl 2 rfl) ?_
                refine va_calli (va_runS (As := [.int p1]) (rest := []) ⟨hx, hb, hml, hown, hg⟩ (cs_costOf l dC dI p1) (va_cwS 1 hg (gi_S w_190 w_191 w_1 w_192) rfl rfl rfl (by decide +kernel) ⟨Nat.le_of_ble_eq_true rfl, Nat.le_of_ble_eq_true rfl⟩) ⟨(fun _ _ _ _ q => q), (fun _ _ _ => ⟨rfl, trivial⟩)⟩ rfl rfl hl.1 rfl (lv_room (Nat.le_of_ble_eq_true rfl)) dX0_apply_77 ⟨Nat.le_of_ble_eq_true rfl, Nat.le_of_ble_eq_true rfl⟩) hS (fun q _ h => False.elim h) (fun q h => False.elim h) (fun r_77 u t H1 locs ht hvm hw_77 hB hz1 hk1 hS => ?_)
                subst hw_77
                have hP := hP.kept (fun k q hq => hk1 q.1 (hP k q hq).lt (fun h => h))
                generalize H1 = H at hP hS ⊢
                have hP : va_P (dC, dI) vwCl (ws_sl a k rd wr ay ia mo wo so oi si mi wi ns nt nf np sl hs) H := hP
                have hD : va_D A (ws_sl a k rd wr ay ia mo wo so oi si mi wi ns nt nf np sl hs) := hD
                refine lv_iconst (v := 0) hx hb dX0_apply_80 (by decide) ?_
                refine va_calli (va_runS (As := [.int 0]) (rest := [.int (sl_costOf p1)]) ⟨hx, hb, hml, hown, hg⟩ (cs_costOf l dC dI 0) (va_cwS 1 hg (gi_S w_190 w_191 w_1 w_192) rfl rfl rfl (by decide +kernel) ⟨Nat.le_of_ble_eq_true rfl, Nat.le_of_ble_eq_true rfl⟩) ⟨(fun _ _ _ _ q => q), (fun _ _ _ => ⟨rfl, trivial⟩)⟩ rfl rfl hl.1 rfl (lv_room (Nat.le_of_ble_eq_true rfl)) dX0_apply_81 ⟨Nat.le_of_ble_eq_true rfl, Nat.le_of_ble_eq_true rfl⟩) hS (fun q _ h => False.elim h) (fun q h => False.elim h) (fun r_81 u t H1 locs ht hvm hw_81 hB hz1 hk1 hS => ?_)
                subst hw_81
                have hP := hP.kept (fun k q hq => hk1 q.1 (hP k q hq).lt (fun h => h))
                generalize H1 = H at hP hS ⊢
                have hP : va_P (dC, dI) vwCl (ws_sl a k rd wr ay ia mo wo so oi si mi wi ns nt nf np sl hs) H := hP
                have hD : va_D A (ws_sl a k rd wr ay ia mo wo so oi si mi wi ns nt nf np sl hs) := hD
                refine lv_iadd hx hb dX0_apply_84 ?_
                refine lv_istore (lv' := [(5, .int ((sl_costOf p1) + (sl_costOf 0))), (4, .int (ib_count p1)), (0, .ref (a 0)), (1, .int p1), (2, .int p2), (3, .int p3)]) hx hb dX0_apply_85 hl (by decide) rfl (fun ls hl => ?_)
                refine lv_aload_n hx hb dX0_apply_87 rfl (lv_at hl 2 rfl) ?_
                refine lv_iload_n hx hb dX0_apply_88 rfl (lv_at hl 3 rfl) ?_
                refine lv_iload_n hx hb dX0_apply_89 rfl (lv_at hl 5 rfl) ?_
                refine va_calll (va_runS (As := [.int p1, .int p3]) (rest := [.ref (a 0)]) ⟨hx, hb, hml, hown, hg⟩ (cs_readingAndWriting l dC dI p1 p3) (va_cwS 2 hg (gi_S w_181 w_182 w_1 w_183) rfl rfl rfl (by decide +kernel) ⟨Nat.le_of_ble_eq_true rfl, Nat.le_of_ble_eq_true rfl⟩) ⟨(fun _ _ _ _ q => q), (fun _ _ _ => ⟨rfl, trivial⟩)⟩ rfl rfl hl.1 rfl (lv_room (Nat.le_of_ble_eq_true rfl)) dX0_apply_90 ⟨Nat.le_of_ble_eq_true rfl, Nat.le_of_ble_eq_true rfl⟩) hS (fun q _ h => False.elim h) (fun q h => False.elim h) (fun r_90 u t H1 locs ht hvm hw_90 hB hz1 hk1 hS => ?_)
                subst hw_90
                have hP := hP.kept (fun k q hq => hk1 q.1 (hP k q hq).lt (fun h => h))
                generalize H1 = H at hP hS ⊢
                have hP : va_P (dC, dI) vwCl (ws_sl a k rd wr ay ia mo wo so oi si mi wi ns nt nf np sl hs) H := hP
                have hD : va_D A (ws_sl a k rd wr ay ia mo wo so oi si mi wi ns nt nf np sl hs) := hD
                refine lv_lconst (v := 1) hx hb dX0_apply_93 (by decide) ?_
                refine lv_iload_n hx hb dX0_apply_94 rfl (lv_at hl 5 rfl) ?_
                refine lv_lshl (v := jl 1 p3) hx hb dX0_apply_95 rfl ?_
                refine lv_iconst (v := (-1)) hx hb dX0_apply_96 (by decide) ?_
                refine lv_iload hx hb dX0_apply_97 (lv_at hl 0 rfl) ?_
                rcases hq_99 : sl_addStep rd wr ay ia mo wo oi ns nf np (sl_readingAndWriting p1 p3) (jl 1 p3) (-1) ((sl_costOf p1) + (sl_costOf 0)) with ⟨r_99, rd_99, wr_99, ay_99, ia_99, mo_99, wo_99, ns_99, np_99, sl_99, hs_99⟩ | E_99
                · have hFc := va_free (wc := ws_sl a k rd wr ay ia mo wo so oi si mi wi ns nt nf np sl hs) hD hS hA [0, 1, 2, 3, 4, 5, 6, 7, 8, 9, 10, 11] rfl
                  refine va_calli (va_runV (As := [.long (sl_readingAndWriting p1 p3), .long (jl 1 p3), .int (-1), .int ((sl_costOf p1) + (sl_costOf 0))]) (rest := []) ⟨hx, hb, hml, hown, hg⟩ (cs_addStep l dC dI a k H.size rd wr ay ia mo wo so oi si mi wi ns nt nf np sl hs (sl_readingAndWriting p1 p3) (jl 1 p3) (-1) ((sl_costOf p1) + (sl_costOf 0)) r_99 rd_99 wr_99 ay_99 ia_99 mo_99 wo_99 ns_99 np_99 sl_99 hs_99 hq_99) (cwV 4 hg (gi_V w_202 w_204 s_2 w_1 w_205) rfl rfl rfl (by decide +kernel) ⟨Nat.le_of_ble_eq_true rfl, Nat.le_of_ble_eq_true rfl⟩) ⟨pr_bl, va_recv hK hP (ci := 0) (q0 := 0) rfl rfl, pr_ok hK hP hD⟩ rfl rfl hl.1 rfl (lv_room (Nat.le_of_ble_eq_true rfl)) dX0_apply_99 ⟨Nat.le_of_ble_eq_true rfl, Nat.le_of_ble_eq_true rfl⟩) hS (fun q _ h => hFc q h) hFc (fun rr u t H1 locs ht hvm hw hB hz1 hk1 hS => ?_)
                  have hw := hw.symm
                  subst hw
                  obtain ⟨hP, hK1, hD1⟩ := hB
                  rw [ht] at hP
                  have hD := hD1.weaken (fun _ q _ h => hFc q.1 h)
                  generalize H1 = H at hP hS ⊢
                  have hP : va_P (dC, dI) vwCl (ws_sl a k rd_99 wr_99 ay_99 ia_99 mo_99 wo_99 so oi si mi wi ns_99 nt nf np_99 sl_99 hs_99) H := hP
                  have hD : va_D A (ws_sl a k rd_99 wr_99 ay_99 ia_99 mo_99 wo_99 so oi si mi wi ns_99 nt nf np_99 sl_99 hs_99) := hD
                  refine lv_istore (lv' := [(6, .int r_99), (5, .int ((sl_costOf p1) + (sl_costOf 0))), (4, .int (ib_count p1)), (0, .ref (a 0)), (1, .int p1), (2, .int p2), (3, .int p3)]) hx hb dX0_apply_102 hl (by decide) rfl (fun ls hl => ?_)
                  refine lv_aload_n hx hb dX0_apply_104 rfl (lv_at hl 3 rfl) ?_
                  refine lv_iload hx hb dX0_apply_105 (lv_at hl 0 rfl) ?_
                  refine lv_iload_n hx hb dX0_apply_107 rfl (lv_at hl 5 rfl) ?_
                  refine lv_bipush (v := 16) hx hb dX0_apply_108 (by decide) ?_
                  refine lv_iload hx hb dX0_apply_110 (lv_at hl 2 rfl) ?_
                  refine lv_imul hx hb dX0_apply_112 ?_
                  refine lv_bipush (v := 8) hx hb dX0_apply_113 (by decide) ?_
                  refine lv_iadd hx hb dX0_apply_115 ?_
                  refine lv_imul hx hb dX0_apply_116 ?_
                  refine lv_bipush (v := 8) hx hb dX0_apply_117 (by decide) ?_
                  refine lv_iload hx hb dX0_apply_119 (lv_at hl 2 rfl) ?_
                  refine lv_imul hx hb dX0_apply_121 ?_
                  have hFc := va_free (wc := ws_sl a k rd_99 wr_99 ay_99 ia_99 mo_99 wo_99 so oi si mi wi ns_99 nt nf np_99 sl_99 hs_99) hD hS hA [0, 1, 2, 3, 4, 5, 6, 7, 8, 9, 10, 11] rfl
                  refine va_callv (va_runV (As := [.int r_99, .int (p2 * ((16 * (ib_count p1)) + 8)), .int (8 * (ib_count p1))]) (rest := []) ⟨hx, hb, hml, hown, hg⟩ (cs_need l dC dI a k H.size rd_99 wr_99 ay_99 ia_99 mo_99 wo_99 so oi si mi wi ns_99 nt nf np_99 sl_99 hs_99 r_99 (p2 * ((16 * (ib_count p1)) + 8)) (8 * (ib_count p1))) (cwV 3 hg (gi_V w_227 w_229 s_4 w_1 w_230) rfl rfl rfl (by decide +kernel) ⟨Nat.le_of_ble_eq_true rfl, Nat.le_of_ble_eq_true rfl⟩) ⟨pr_bl, va_recv hK hP (ci := 0) (q0 := 0) rfl rfl, pr_ok hK hP hD⟩ rfl rfl hl.1 rfl (lv_room (Nat.le_of_ble_eq_true rfl)) dX0_apply_122 ⟨Nat.le_of_ble_eq_true rfl, Nat.le_of_ble_eq_true rfl⟩) hS (fun q _ h => hFc q h) hFc (fun u t H1 locs ht hvm hw_122 hB hz1 hk1 hS => ?_)
                  obtain ⟨mo_122, wo_122⟩ := u
                  obtain ⟨hP, hK1, hD1⟩ := hB
                  rw [ht] at hP
                  have hD := hD1.weaken (fun _ q _ h => hFc q.1 h)
                  generalize H1 = H at hP hS ⊢
                  have hP : va_P (dC, dI) vwCl (ws_sl a k rd_99 wr_99 ay_99 ia_99 mo_122 wo_122 so oi si mi wi ns_99 nt nf np_99 sl_99 hs_99) H := hP
                  have hD : va_D A (ws_sl a k rd_99 wr_99 ay_99 ia_99 mo_122 wo_122 so oi si mi wi ns_99 nt nf np_99 sl_99 hs_99) := hD
                  refine lv_aload_n hx hb dX0_apply_125 rfl (lv_at hl 3 rfl) ?_
                  refine lv_dup hx hb dX0_apply_126 rfl ?_
                  refine va_get (D := (dC, dI)) (ci := 0) (v := .int nt) (C := RX0) (T := TX0) (N := 17) hx hb hg inX0 hown hK hP 0 rfl rfl 12 (by decide) (hg _ w_31) (fun _ h9 => h9) rfl dX0_apply_127 ?_
                  refine lv_iconst (v := 1) hx hb dX0_apply_130 (by decide) ?_
                  refine lv_iadd hx hb dX0_apply_131 ?_
                  refine va_put (D := (dC, dI)) (ci := 0) (v := .int (nt + 1)) (ty := .int) (C := RX0) (T := TX0) (N := 17) hx hb hg inX0 tyX0 tyX0_ok nmX0 hown hK hP hD hS 0 rfl rfl 12 (by decide) (hg _ w_31) (fun _ h9 => h9) rfl (by decide +kernel) rfl rfl (Nat.le_of_ble_eq_true rfl) dX0_apply_132 (fun H locs hP hD hS => ?_)
                  have hP : va_P (dC, dI) vwCl (ws_sl a k rd_99 wr_99 ay_99 ia_99 mo_122 wo_122 so oi si mi wi ns_99 (nt + 1) nf np_99 sl_99 hs_99) H := hP
                  have hD : va_D A (ws_sl a k rd_99 wr_99 ay_99 ia_99 mo_122 wo_122 so oi si mi wi ns_99 (nt + 1) nf np_99 sl_99 hs_99) := hD
                  refine lv_iload hx hb dX0_apply_135 (lv_at hl 0 rfl) ?_
                  have hw : sl_apply rd wr ay ia mo wo oi ns nt nf np p1 p2 p3 = .inl (r_99, rd_99, wr_99, ay_99, ia_99, mo_122, wo_122, ns_99, nt + 1, np_99, sl_99, hs_99) := by unfold sl_apply; rw [hq_1]; (try dsimp only); rw [hq_5]; (try dsimp only); rw [if_neg c_16, if_pos c_22, if_neg c_38, if_pos c_44, if_pos c_63, hq_99]; (try dsimp only); rw [hw_122]; (try dsimp only); (try rfl)
                  have he := Sum.inl.inj (hok.symm.trans hw)
                  simp only [Prod.mk.injEq] at he
                  obtain ⟨e0, e1, e2, e3, e4, e5, e6, e7, e8, e9, e10, e11⟩ := he
                  exact W.iret (v := r_99) hx hb hr (fun t ht hW => ⟨⟨r_99, (), rfl, e0.symm, ⟨by rw [ht, e1, e2, e3, e4, e5, e6, e7, e8, e9, e10, e11]; exact hP, va_K.moved hW.alike hK, by rw [e1, e2, e3, e4, e5, e6, e7, e8, e9, e10, e11]; exact hD⟩⟩, hS.F ht⟩) hS.2.2 dX0_apply_137
                · have hw : sl_apply rd wr ay ia mo wo oi ns nt nf np p1 p2 p3 = .inr E_99 := by unfold sl_apply; rw [hq_1]; (try dsimp only); rw [hq_5]; (try dsimp only); rw [if_neg c_16, if_pos c_22, if_neg c_38, if_pos c_44, if_pos c_63, hq_99]; (try dsimp only); (try rfl)
                  exact absurd (hw.symm.trans hok) (by intro h9; cases h9)
              · have hw : sl_apply rd wr ay ia mo wo oi ns nt nf np p1 p2 p3 = .inr xIS := by unfold sl_apply; rw [hq_1]; (try dsimp only); rw [hq_5]; (try dsimp only); rw [if_neg c_16, if_pos c_22, if_neg c_38, if_pos c_44, if_neg c_63]; (try rfl)
                exact absurd (hw.symm.trans hok) (by intro h9; cases h9)
            · have hw : sl_apply rd wr ay ia mo wo oi ns nt nf np p1 p2 p3 = .inr xIA := by unfold sl_apply; rw [hq_1]; (try dsimp only); rw [hq_5]; (try dsimp only); rw [if_neg c_16, if_pos c_22, if_neg c_38, if_neg c_44]; (try rfl)
              exact absurd (hw.symm.trans hok) (by intro h9; cases h9)
        · have hw : sl_apply rd wr ay ia mo wo oi ns nt nf np p1 p2 p3 = .inr xIA := by unfold sl_apply; rw [hq_1]; (try dsimp only); rw [hq_5]; (try dsimp only); rw [if_neg c_16, if_neg c_22]; (try rfl)
          exact absurd (hw.symm.trans hok) (by intro h9; cases h9)
    · have hw : sl_apply rd wr ay ia mo wo oi ns nt nf np p1 p2 p3 = .inr E_5 := by unfold sl_apply; rw [hq_1]; (try dsimp only); rw [hq_5]; (try dsimp only); (try rfl)
      exact absurd (hw.symm.trans hok) (by intro h9; cases h9)
  · have hw : sl_apply rd wr ay ia mo wo oi ns nt nf np p1 p2 p3 = .inr E_1 := by unfold sl_apply; rw [hq_1]; (try dsimp only); (try rfl)
    exact absurd (hw.symm.trans hok) (by intro h9; cases h9)
set_option maxHeartbeats 4000000 in
set_option maxRecDepth 100000 in
theorem cs_apply_x (l : Launch) (hl9 : l.stackTraces = false) (dC : Nat → ClassId) (dI : Nat → Nat → Nat) (a : Nat → Nat) (k : Nat → ClassId) (sx : Nat → Nat) (sz : Nat) (rd wr : Nat → Int64) (ay ia mo wo so oi si mi wi : Nat → Int32) (ns nt nf np sl hs : Int32) (p1 p2 p3 : Int32) (E9 : String) (hno : sl_apply rd wr ay ia mo wo oi ns nt nf np p1 p2 p3 = .inr E9) : vx_Met l yX0_apply wsX0_apply ({ frames := 7, cells := 1, slots := 6, locals := 109 } : Room) (va_Pc [.ref (a 0), .int p1, .int p2, .int p3] (prx (dC, dI) (ws_sl a k rd wr ay ia mo wo so oi si mi wi ns nt nf np sl hs) (ty_sl k) sz sx)) (va_Qi (fun (_ : Int32) (_ : Unit) => False) (fun (_ : Unit) _ => True) (va_A (ws_sl a k rd wr ay ia mo wo so oi si mi wi ns nt nf np sl hs) sz)) (vx_X (fun _ : Unit => True) (fun E _ t => E = E9 ∧ po (dC, dI) (ws_sl a k rd wr ay ia mo wo so oi si mi wi ns nt nf np sl hs) (ty_sl k) (va_A (ws_sl a k rd wr ay ia mo wo so oi si mi wi ns nt nf np sl hs) sz) t) (va_A (ws_sl a k rd wr ay ia mo wo so oi si mi wi ns nt nf np sl hs) sz)) 1 6 (va_A (ws_sl a k rd wr ay ia mo wo so oi si mi wi ns nt nf np sl hs) sz) := by
  refine vx_ofW (cc := cX0_apply) (maxL := 7) (ret := (some .int)) (by decide) rfl ?_
  intro p e s m args below meth c s₁ B hml hEx hv
  obtain ⟨rfl, ⟨hsz, hP, hK, hD0⟩, hX9⟩ := hv
  have hx := B.exec
  have hb := B.bytes
  have hr := B.returns
  have hts := atoms_spec (ws := wsX0_apply) B.pre
  have hg : ∀ w ∈ gw, w.before _ s = true := fun w h => hts w (List.mem_cons_of_mem _ h)
  have hown : s.vm.findClass RX0 = some m.cls := findClass_of_methodNamed B.named
  have hlocks := B.notSynchronized
  subst hsz
  have hD := hD0.self (sz := s.heap.size)
  generalize hAe : va_A (ws_sl a k rd wr ay ia mo wo so oi si mi wi ns nt nf np sl hs) s.heap.size = A at hD hX9 ⊢
  have hA : ∀ q : Nat, s.heap.size ≤ q → A q := fun q h => by rw [← hAe]; exact Or.inr h
  clear hAe
  refine w_in (fun H locs eH eL => ?_)
  have hS : va_S A s.heap H locs := by rw [eH, eL]; exact va_S.rf
  have hP : va_P (dC, dI) vwCl (ws_sl a k rd wr ay ia mo wo so oi si mi wi ns nt nf np sl hs) H := by rw [eH]; exact hP
  clear eH eL
  have hl := lv_entry ([.ref (a 0), .int p1, .int p2, .int p3]) (n := 7) (Nat.le_of_ble_eq_true rfl)
  rw [lg_entry_eq]
  generalize (lg_sl ([.ref (a 0), .int p1, .int p2, .int p3]) ++ List.replicate (7 - (lg_sl ([.ref (a 0), .int p1, .int p2, .int p3])).length) Slot.unset).toArray = ls at hl ⊢
  have hl : lv_has ls 7 [(0, .ref (a 0)), (1, .int p1), (2, .int p2), (3, .int p3)] := hl
  refine lv_iload_n hx hb dX0_apply_0 rfl (lv_at hl 3 rfl) ?_
  rcases hq_1 : sl_requirePlace p3 with ⟨⟩ | E_1
  · refine va_callv (va_runS (As := [.int p3]) (rest := []) ⟨hx, hb, hml, hown, hg⟩ (cs_requirePlace l dC dI p3 hq_1) (va_cwS 1 hg (gi_S w_106 w_107 w_1 w_108) rfl rfl rfl (by decide +kernel) ⟨Nat.le_of_ble_eq_true rfl, Nat.le_of_ble_eq_true rfl⟩) ⟨(fun _ _ _ _ q => q), (fun _ _ _ => ⟨rfl, trivial⟩)⟩ rfl rfl hl.1 rfl (lv_room (Nat.le_of_ble_eq_true rfl)) dX0_apply_1 ⟨Nat.le_of_ble_eq_true rfl, Nat.le_of_ble_eq_true rfl⟩) hS (fun q _ h => False.elim h) (fun q h => False.elim h) (fun u t H1 locs ht hvm hw hB hz1 hk1 hS => ?_)
    have hP := hP.kept (fun k q hq => hk1 q.1 (hP k q hq).lt (fun h => h))
    generalize H1 = H at hP hS ⊢
    have hP : va_P (dC, dI) vwCl (ws_sl a k rd wr ay ia mo wo so oi si mi wi ns nt nf np sl hs) H := hP
    have hD : va_D A (ws_sl a k rd wr ay ia mo wo so oi si mi wi ns nt nf np sl hs) := hD
    refine lv_iload_n hx hb dX0_apply_4 rfl (lv_at hl 1 rfl) ?_
    rcases hq_5 : sl_requireReadable p1 with ⟨⟩ | E_5
    · refine va_callv (va_runS (As := [.int p1]) (rest := []) ⟨hx, hb, hml, hown, hg⟩ (cs_requireReadable l dC dI p1 hq_5) (va_cwS 1 hg (gi_S w_177 w_178 w_1 w_179) rfl rfl rfl (by decide +kernel) ⟨Nat.le_of_ble_eq_true rfl, Nat.le_of_ble_eq_true rfl⟩) ⟨(fun _ _ _ _ q => q), (fun _ _ _ => ⟨rfl, trivial⟩)⟩ rfl rfl hl.1 rfl (lv_room (Nat.le_of_ble_eq_true rfl)) dX0_apply_5 ⟨Nat.le_of_ble_eq_true rfl, Nat.le_of_ble_eq_true rfl⟩) hS (fun q _ h => False.elim h) (fun q h => False.elim h) (fun u t H1 locs ht hvm hw hB hz1 hk1 hS => ?_)
      have hP := hP.kept (fun k q hq => hk1 q.1 (hP k q hq).lt (fun h => h))
      generalize H1 = H at hP hS ⊢
      have hP : va_P (dC, dI) vwCl (ws_sl a k rd wr ay ia mo wo so oi si mi wi ns nt nf np sl hs) H := hP
      have hD : va_D A (ws_sl a k rd wr ay ia mo wo so oi si mi wi ns nt nf np sl hs) := hD
      refine lv_iload_n hx hb dX0_apply_8 rfl (lv_at hl 1 rfl) ?_
      refine va_calli (va_runS (As := [.int p1]) (rest := []) ⟨hx, hb, hml, hown, hg⟩ (ci_count l dC dI p1) (va_cwS 1 hg (gi_S w_193 w_194 w_7 w_195) rfl rfl rfl (by decide +kernel) ⟨Nat.le_of_ble_eq_true rfl, Nat.le_of_ble_eq_true rfl⟩) ⟨(fun _ _ _ _ q => q), (fun _ _ _ => ⟨rfl, trivial⟩)⟩ rfl rfl hl.1 rfl (lv_room (Nat.le_of_ble_eq_true rfl)) dX0_apply_9 ⟨Nat.le_of_ble_eq_true rfl, Nat.le_of_ble_eq_true rfl⟩) hS (fun q _ h => False.elim h) (fun q h => False.elim h) (fun r_9 u t H1 locs ht hvm hw_9 hB hz1 hk1 hS => ?_)
      subst hw_9
      have hP := hP.kept (fun k q hq => hk1 q.1 (hP k q hq).lt (fun h => h))
      generalize H1 = H at hP hS ⊢
      have hP : va_P (dC, dI) vwCl (ws_sl a k rd wr ay ia mo wo so oi si mi wi ns nt nf np sl hs) H := hP
      have hD : va_D A (ws_sl a k rd wr ay ia mo wo so oi si mi wi ns nt nf np sl hs) := hD
      refine lv_istore (lv' := [(4, .int (ib_count p1)), (0, .ref (a 0)), (1, .int p1), (2, .int p2), (3, .int p3)]) hx hb dX0_apply_12 hl (by decide) rfl (fun ls hl => ?_)
      refine lv_iload_n hx hb dX0_apply_14 rfl (lv_at hl 3 rfl) ?_
      refine lv_iconst (v := 1) hx hb dX0_apply_15 (by decide) ?_
      refine lv_icmp_lt (tgt := 25) hx hb dX0_apply_16 (by decide) (fun c_16 => ?_) (fun c_16 => ?_)
      · have hw : sl_apply rd wr ay ia mo wo oi ns nt nf np p1 p2 p3 = .inr xIA := by unfold sl_apply; rw [hq_1]; (try dsimp only); rw [hq_5]; (try dsimp only); rw [if_pos c_16]; (try rfl)
        have he := Sum.inr.inj (hno.symm.trans hw)
        exact vx_throwS (own := RX0) (cls := "java/lang/IllegalArgumentException") (names := ["java/lang/RuntimeException", "java/lang/Exception"]) hx hb hl9 hown (by decide +kernel) (by decide +kernel) (hg _ w_289) (hg _ w_10) (hX9.2.2.1 (115, "room is not 1 to 32") (by decide +kernel)) (hat_xIA_117 hg hX9) (by decide +kernel) hX9.1 hX9.2.1 hS (hl.1.trans hml.symm) dX0_apply_25 dX0_apply_28 dX0_apply_29 dX0_apply_31 dX0_apply_34 (fun x hx => (hEx x hx).elim) (Nat.le_of_ble_eq_true rfl) (Nat.le_of_ble_eq_true rfl) (Nat.le_of_ble_eq_true rfl) (Nat.le_of_ble_eq_true rfl) hlocks (fun t ha hsz hk => ⟨(), trivial, ⟨he.symm, hP.kept (fun k q hq => hk q.1 (hP k q hq).lt), va_K.moved ha hK, hD⟩, Nat.le_trans hS.1 hsz, fun q h1 h2 => (hk q (Nat.lt_of_lt_of_le h1 hS.1)).trans (hS.2.1 q h1 h2)⟩) hS.2.2 (Nat.le_of_ble_eq_true rfl) (Nat.le_of_ble_eq_true rfl)
      · refine lv_iload_n hx hb dX0_apply_19 rfl (lv_at hl 3 rfl) ?_
        refine lv_bipush (v := 32) hx hb dX0_apply_20 (by decide) ?_
        refine lv_icmp_le (tgt := 35) hx hb dX0_apply_22 (by decide) (fun c_22 => ?_) (fun c_22 => ?_)
        · refine lv_iload hx hb dX0_apply_35 (lv_at hl 0 rfl) ?_
          refine lv_iconst (v := 1) hx hb dX0_apply_37 (by decide) ?_
          refine lv_icmp_lt (tgt := 47) hx hb dX0_apply_38 (by decide) (fun c_38 => ?_) (fun c_38 => ?_)
          · have hw : sl_apply rd wr ay ia mo wo oi ns nt nf np p1 p2 p3 = .inr xIA := by unfold sl_apply; rw [hq_1]; (try dsimp only); rw [hq_5]; (try dsimp only); rw [if_neg c_16, if_pos c_22, if_pos c_38]; (try rfl)
            have he := Sum.inr.inj (hno.symm.trans hw)
            exact vx_throwS (own := RX0) (cls := "java/lang/IllegalArgumentException") (names := ["java/lang/RuntimeException", "java/lang/Exception"]) hx hb hl9 hown (by decide +kernel) (by decide +kernel) (hg _ w_289) (hg _ w_10) (hX9.2.2.1 (118, "not 1 to 4 keys") (by decide +kernel)) (hat_xIA_117 hg hX9) (by decide +kernel) hX9.1 hX9.2.1 hS (hl.1.trans hml.symm) dX0_apply_47 dX0_apply_50 dX0_apply_51 dX0_apply_53 dX0_apply_56 (fun x hx => (hEx x hx).elim) (Nat.le_of_ble_eq_true rfl) (Nat.le_of_ble_eq_true rfl) (Nat.le_of_ble_eq_true rfl) (Nat.le_of_ble_eq_true rfl) hlocks (fun t ha hsz hk => ⟨(), trivial, ⟨he.symm, hP.kept (fun k q hq => hk q.1 (hP k q hq).lt), va_K.moved ha hK, hD⟩, Nat.le_trans hS.1 hsz, fun q h1 h2 => (hk q (Nat.lt_of_lt_of_le h1 hS.1)).trans (hS.2.1 q h1 h2)⟩) hS.2.2 (Nat.le_of_ble_eq_true rfl) (Nat.le_of_ble_eq_true rfl)
          · refine lv_iload hx hb dX0_apply_41 (lv_at hl 0 rfl) ?_
            refine lv_iconst (v := 4) hx hb dX0_apply_43 (by decide) ?_
            refine lv_icmp_le (tgt := 57) hx hb dX0_apply_44 (by decide) (fun c_44 => ?_) (fun c_44 => ?_)
            · refine lv_aload_n hx hb dX0_apply_57 rfl (lv_at hl 1 rfl) ?_
              refine va_get (D := (dC, dI)) (ci := 0) (v := .int nt) (C := RX0) (T := TX0) (N := 17) hx hb hg inX0 hown hK hP 0 rfl rfl 12 (by decide) (hg _ w_31) (fun _ h9 => h9) rfl dX0_apply_58 ?_
              refine lv_bipush (v := 8) hx hb dX0_apply_61 (by decide) ?_
              refine lv_icmp_lt (tgt := 76) hx hb dX0_apply_63 (by decide) (fun c_63 => ?_) (fun c_63 => ?_)
              · refine lv_iload_n hx hb dX0_apply_76 rfl (lv_at hl 2 rfl) ?_
                refine va_calli (va_runS (As := [.int p1]) (rest := []) ⟨hx, hb, hml, hown, hg⟩ (cs_costOf l dC dI p1) (va_cwS 1 hg (gi_S w_190 w_191 w_1 w_192) rfl rfl rfl (by decide +kernel) ⟨Nat.le_of_ble_eq_true rfl, Nat.le_of_ble_eq_true rfl⟩) ⟨(fun _ _ _ _ q => q), (fun _ _ _ => ⟨rfl, trivial⟩)⟩ rfl rfl hl.1 rfl (lv_room (Nat.le_of_ble_eq_true rfl)) dX0_apply_77 ⟨Nat.le_of_ble_eq_true rfl, Nat.le_of_ble_eq_true rfl⟩) hS (fun q _ h => False.elim h) (fun q h => False.elim h) (fun r_77 u t H1 locs ht hvm hw_77 hB hz1 hk1 hS => ?_)
                subst hw_77
                have hP := hP.kept (fun k q hq => hk1 q.1 (hP k q hq).lt (fun h => h))
                generalize H1 = H at hP hS ⊢
                have hP : va_P (dC, dI) vwCl (ws_sl a k rd wr ay ia mo wo so oi si mi wi ns nt nf np sl hs) H := hP
                have hD : va_D A (ws_sl a k rd wr ay ia mo wo so oi si mi wi ns nt nf np sl hs) := hD
                refine lv_iconst (v := 0) hx hb dX0_apply_80 (by decide) ?_
                refine va_calli (va_runS (As := [.int 0]) (rest := [.int (sl_costOf p1)]) ⟨hx, hb, hml, hown, hg⟩ (cs_costOf l dC dI 0) (va_cwS 1 hg (gi_S w_190 w_191 w_1 w_192) rfl rfl rfl (by decide +kernel) ⟨Nat.le_of_ble_eq_true rfl, Nat.le_of_ble_eq_true rfl⟩) ⟨(fun _ _ _ _ q => q), (fun _ _ _ => ⟨rfl, trivial⟩)⟩ rfl rfl hl.1 rfl (lv_room (Nat.le_of_ble_eq_true rfl)) dX0_apply_81 ⟨Nat.le_of_ble_eq_true rfl, Nat.le_of_ble_eq_true rfl⟩) hS (fun q _ h => False.elim h) (fun q h => False.elim h) (fun r_81 u t H1 locs ht hvm hw_81 hB hz1 hk1 hS => ?_)
                subst hw_81
                have hP := hP.kept (fun k q hq => hk1 q.1 (hP k q hq).lt (fun h => h))
                generalize H1 = H at hP hS ⊢
                have hP : va_P (dC, dI) vwCl (ws_sl a k rd wr ay ia mo wo so oi si mi wi ns nt nf np sl hs) H := hP
                have hD : va_D A (ws_sl a k rd wr ay ia mo wo so oi si mi wi ns nt nf np sl hs) := hD
                refine lv_iadd hx hb dX0_apply_84 ?_
                refine lv_istore (lv' := [(5, .int ((sl_costOf p1) + (sl_costOf 0))), (4, .int (ib_count p1)), (0, .ref (a 0)), (1, .int p1), (2, .int p2), (3, .int p3)]) hx hb dX0_apply_85 hl (by decide) rfl (fun ls hl => ?_)
                refine lv_aload_n hx hb dX0_apply_87 rfl (lv_at hl 2 rfl) ?_
                refine lv_iload_n hx hb dX0_apply_88 rfl (lv_at hl 3 rfl) ?_
                refine lv_iload_n hx hb dX0_apply_89 rfl (lv_at hl 5 rfl) ?_
                refine va_calll (va_runS (As := [.int p1, .int p3]) (rest := [.ref (a 0)]) ⟨hx, hb, hml, hown, hg⟩ (cs_readingAndWriting l dC dI p1 p3) (va_cwS 2 hg (gi_S w_181 w_182 w_1 w_183) rfl rfl rfl (by decide +kernel) ⟨Nat.le_of_ble_eq_true rfl, Nat.le_of_ble_eq_true rfl⟩) ⟨(fun _ _ _ _ q => q), (fun _ _ _ => ⟨rfl, trivial⟩)⟩ rfl rfl hl.1 rfl (lv_room (Nat.le_of_ble_eq_true rfl)) dX0_apply_90 ⟨Nat.le_of_ble_eq_true rfl, Nat.le_of_ble_eq_true rfl⟩) hS (fun q _ h => False.elim h) (fun q h => False.elim h) (fun r_90 u t H1 locs ht hvm hw_90 hB hz1 hk1 hS => ?_)
                subst hw_90
                have hP := hP.kept (fun k q hq => hk1 q.1 (hP k q hq).lt (fun h => h))
                generalize H1 = H at hP hS ⊢
                have hP : va_P (dC, dI) vwCl (ws_sl a k rd wr ay ia mo wo so oi si mi wi ns nt nf np sl hs) H := hP
                have hD : va_D A (ws_sl a k rd wr ay ia mo wo so oi si mi wi ns nt nf np sl hs) := hD
                refine lv_lconst (v := 1) hx hb dX0_apply_93 (by decide) ?_
                refine lv_iload_n hx hb dX0_apply_94 rfl (lv_at hl 5 rfl) ?_
                refine lv_lshl (v := jl 1 p3) hx hb dX0_apply_95 rfl ?_
                refine lv_iconst (v := (-1)) hx hb dX0_apply_96 (by decide) ?_
                refine lv_iload hx hb dX0_apply_97 (lv_at hl 0 rfl) ?_
                rcases hq_99 : sl_addStep rd wr ay ia mo wo oi ns nf np (sl_readingAndWriting p1 p3) (jl 1 p3) (-1) ((sl_costOf p1) + (sl_costOf 0)) with ⟨r_99, rd_99, wr_99, ay_99, ia_99, mo_99, wo_99, ns_99, np_99, sl_99, hs_99⟩ | E_99
                · exfalso
                  have h9 := hno
                  unfold sl_apply at h9
                  rw [hq_1] at h9
                  (try dsimp only at h9)
                  rw [hq_5] at h9
                  (try dsimp only at h9)
                  rw [if_neg c_16, if_pos c_22, if_neg c_38, if_pos c_44, if_pos c_63, hq_99] at h9
                  (try dsimp only at h9)
                  first | (cases h9; done) | ((repeat' split at h9) <;> cases h9)
                · have hFc := va_free (wc := ws_sl a k rd wr ay ia mo wo so oi si mi wi ns nt nf np sl hs) hD hS hA [0, 1, 2, 3, 4, 5, 6, 7, 8, 9, 10, 11] rfl
                  refine vx_calli (vx_runV (As := [.long (sl_readingAndWriting p1 p3), .long (jl 1 p3), .int (-1), .int ((sl_costOf p1) + (sl_costOf 0))]) (rest := []) ⟨hx, hb, hml, hown, hg⟩ (cs_addStep_x l hl9 dC dI a k sx H.size rd wr ay ia mo wo so oi si mi wi ns nt nf np sl hs (sl_readingAndWriting p1 p3) (jl 1 p3) (-1) ((sl_costOf p1) + (sl_costOf 0)) E_99 hq_99) (cwV 4 hg (gi_V w_202 w_204 s_2 w_1 w_205) rfl rfl rfl (by decide +kernel) ⟨Nat.le_of_ble_eq_true rfl, Nat.le_of_ble_eq_true rfl⟩) ⟨prx_bl, va_recv hK hP (ci := 0) (q0 := 0) rfl rfl, prx_ok hK hP hD hX9 hS hFc⟩ rfl rfl hl.1 rfl (lv_room (Nat.le_of_ble_eq_true rfl)) dX0_apply_99 ⟨Nat.le_of_ble_eq_true rfl, Nat.le_of_ble_eq_true rfl⟩) hS (fun q _ h => hFc q h) hFc (fun q _ h => hFc q h) (fun E ce q9 u t H1 locs ht hvm hwx hB hz1 hk1 hS hce hcv hcl => ?_) (fun rr u t H1 locs ht hvm hwx hB hz1 hk1 hS => hwx.elim)
                  obtain ⟨hE, hB⟩ := hB
                  have hE := hE.symm
                  subst hE
                  obtain ⟨hP, hK1, hD1⟩ := hB
                  rw [ht] at hP
                  have hD := hD1.weaken (fun _ q _ h => hFc q.1 h)
                  generalize H1 = H at hP hS hce ⊢
                  have hP : va_P (dC, dI) vwCl (ws_sl a k rd wr ay ia mo wo so oi si mi wi ns nt nf np sl hs) H := hP
                  have hD : va_D A (ws_sl a k rd wr ay ia mo wo so oi si mi wi ns nt nf np sl hs) := hD
                  have hw : sl_apply rd wr ay ia mo wo oi ns nt nf np p1 p2 p3 = .inr E_99 := by unfold sl_apply; rw [hq_1]; (try dsimp only); rw [hq_5]; (try dsimp only); rw [if_neg c_16, if_pos c_22, if_neg c_38, if_pos c_44, if_pos c_63, hq_99]; (try dsimp only); (try rfl)
                  have he := Sum.inr.inj (hno.symm.trans hw)
                  exact vx_out (fun x hx => (hEx x hx).elim) hlocks hce hcv hcl (fun t ht ha => ⟨(), trivial, ⟨he.symm, by rw [ht]; exact hP, va_K.moved ha hK, hD⟩, hS.F ht⟩) hS.2.2 (Nat.le_of_ble_eq_true rfl) (Nat.le_of_ble_eq_true rfl)
              · have hw : sl_apply rd wr ay ia mo wo oi ns nt nf np p1 p2 p3 = .inr xIS := by unfold sl_apply; rw [hq_1]; (try dsimp only); rw [hq_5]; (try dsimp only); rw [if_neg c_16, if_pos c_22, if_neg c_38, if_pos c_44, if_neg c_63]; (try rfl)
                have he := Sum.inr.inj (hno.symm.trans hw)
                exact vx_throwS (own := RX0) (cls := "java/lang/IllegalStateException") (names := ["java/lang/RuntimeException", "java/lang/Exception"]) hx hb hl9 hown (by decide +kernel) (by decide +kernel) (hg _ w_206) (hg _ w_9) (hX9.2.2.1 (120, "there are 8 tables") (by decide +kernel)) (hat_xIS_105 hg hX9) (by decide +kernel) hX9.1 hX9.2.1 hS (hl.1.trans hml.symm) dX0_apply_66 dX0_apply_69 dX0_apply_70 dX0_apply_72 dX0_apply_75 (fun x hx => (hEx x hx).elim) (Nat.le_of_ble_eq_true rfl) (Nat.le_of_ble_eq_true rfl) (Nat.le_of_ble_eq_true rfl) (Nat.le_of_ble_eq_true rfl) hlocks (fun t ha hsz hk => ⟨(), trivial, ⟨he.symm, hP.kept (fun k q hq => hk q.1 (hP k q hq).lt), va_K.moved ha hK, hD⟩, Nat.le_trans hS.1 hsz, fun q h1 h2 => (hk q (Nat.lt_of_lt_of_le h1 hS.1)).trans (hS.2.1 q h1 h2)⟩) hS.2.2 (Nat.le_of_ble_eq_true rfl) (Nat.le_of_ble_eq_true rfl)
            · have hw : sl_apply rd wr ay ia mo wo oi ns nt nf np p1 p2 p3 = .inr xIA := by unfold sl_apply; rw [hq_1]; (try dsimp only); rw [hq_5]; (try dsimp only); rw [if_neg c_16, if_pos c_22, if_neg c_38, if_neg c_44]; (try rfl)
              have he := Sum.inr.inj (hno.symm.trans hw)
              exact vx_throwS (own := RX0) (cls := "java/lang/IllegalArgumentException") (names := ["java/lang/RuntimeException", "java/lang/Exception"]) hx hb hl9 hown (by decide +kernel) (by decide +kernel) (hg _ w_289) (hg _ w_10) (hX9.2.2.1 (118, "not 1 to 4 keys") (by decide +kernel)) (hat_xIA_117 hg hX9) (by decide +kernel) hX9.1 hX9.2.1 hS (hl.1.trans hml.symm) dX0_apply_47 dX0_apply_50 dX0_apply_51 dX0_apply_53 dX0_apply_56 (fun x hx => (hEx x hx).elim) (Nat.le_of_ble_eq_true rfl) (Nat.le_of_ble_eq_true rfl) (Nat.le_of_ble_eq_true rfl) (Nat.le_of_ble_eq_true rfl) hlocks (fun t ha hsz hk => ⟨(), trivial, ⟨he.symm, hP.kept (fun k q hq => hk q.1 (hP k q hq).lt), va_K.moved ha hK, hD⟩, Nat.le_trans hS.1 hsz, fun q h1 h2 => (hk q (Nat.lt_of_lt_of_le h1 hS.1)).trans (hS.2.1 q h1 h2)⟩) hS.2.2 (Nat.le_of_ble_eq_true rfl) (Nat.le_of_ble_eq_true rfl)
        · have hw : sl_apply rd wr ay ia mo wo oi ns nt nf np p1 p2 p3 = .inr xIA := by unfold sl_apply; rw [hq_1]; (try dsimp only); rw [hq_5]; (try dsimp only); rw [if_neg c_16, if_neg c_22]; (try rfl)
          have he := Sum.inr.inj (hno.symm.trans hw)
          exact vx_throwS (own := RX0) (cls := "java/lang/IllegalArgumentException") (names := ["java/lang/RuntimeException", "java/lang/Exception"]) hx hb hl9 hown (by decide +kernel) (by decide +kernel) (hg _ w_289) (hg _ w_10) (hX9.2.2.1 (115, "room is not 1 to 32") (by decide +kernel)) (hat_xIA_117 hg hX9) (by decide +kernel) hX9.1 hX9.2.1 hS (hl.1.trans hml.symm) dX0_apply_25 dX0_apply_28 dX0_apply_29 dX0_apply_31 dX0_apply_34 (fun x hx => (hEx x hx).elim) (Nat.le_of_ble_eq_true rfl) (Nat.le_of_ble_eq_true rfl) (Nat.le_of_ble_eq_true rfl) (Nat.le_of_ble_eq_true rfl) hlocks (fun t ha hsz hk => ⟨(), trivial, ⟨he.symm, hP.kept (fun k q hq => hk q.1 (hP k q hq).lt), va_K.moved ha hK, hD⟩, Nat.le_trans hS.1 hsz, fun q h1 h2 => (hk q (Nat.lt_of_lt_of_le h1 hS.1)).trans (hS.2.1 q h1 h2)⟩) hS.2.2 (Nat.le_of_ble_eq_true rfl) (Nat.le_of_ble_eq_true rfl)
    · have hFc := va_free (wc := ([] : va_W)) hD hS hA [] rfl
      refine vx_callv (vx_runS (As := [.int p1]) (rest := []) ⟨hx, hb, hml, hown, hg⟩ (cs_requireReadable_x l hl9 dC dI sx H.size p1 E_5 hq_5) (va_cwS 1 hg (gi_S w_177 w_178 w_1 w_179) rfl rfl rfl (by decide +kernel) ⟨Nat.le_of_ble_eq_true rfl, Nat.le_of_ble_eq_true rfl⟩) ⟨prx0_bl, prx_ok0 hX9 hS hFc⟩ rfl rfl hl.1 rfl (lv_room (Nat.le_of_ble_eq_true rfl)) dX0_apply_5 ⟨Nat.le_of_ble_eq_true rfl, Nat.le_of_ble_eq_true rfl⟩) hS (fun q _ h => hFc q h) hFc (fun q _ h => hFc q h) (fun E ce q9 u t H1 locs ht hvm hwx hB hz1 hk1 hS hce hcv hcl => ?_) (fun u t H1 locs ht hvm hwx hB hz1 hk1 hS => hwx.elim)
      have hB := hB.symm
      subst hB
      have hP := hP.kept (fun k q hq => hk1 q.1 (hP k q hq).lt (nA (hP k q hq).lt))
      generalize H1 = H at hP hS hce ⊢
      have hP : va_P (dC, dI) vwCl (ws_sl a k rd wr ay ia mo wo so oi si mi wi ns nt nf np sl hs) H := hP
      have hD : va_D A (ws_sl a k rd wr ay ia mo wo so oi si mi wi ns nt nf np sl hs) := hD
      have hw : sl_apply rd wr ay ia mo wo oi ns nt nf np p1 p2 p3 = .inr E_5 := by unfold sl_apply; rw [hq_1]; (try dsimp only); rw [hq_5]; (try dsimp only); (try rfl)
      have he := Sum.inr.inj (hno.symm.trans hw)
      exact vx_out (fun x hx => (hEx x hx).elim) hlocks hce hcv hcl (fun t ht ha => ⟨(), trivial, ⟨he.symm, by rw [ht]; exact hP, va_K.moved ha hK, hD⟩, hS.F ht⟩) hS.2.2 (Nat.le_of_ble_eq_true rfl) (Nat.le_of_ble_eq_true rfl)
  · have hFc := va_free (wc := ([] : va_W)) hD hS hA [] rfl
    refine vx_callv (vx_runS (As := [.int p3]) (rest := []) ⟨hx, hb, hml, hown, hg⟩ (cs_requirePlace_x l hl9 dC dI sx H.size p3 E_1 hq_1) (va_cwS 1 hg (gi_S w_106 w_107 w_1 w_108) rfl rfl rfl (by decide +kernel) ⟨Nat.le_of_ble_eq_true rfl, Nat.le_of_ble_eq_true rfl⟩) ⟨prx0_bl, prx_ok0 hX9 hS hFc⟩ rfl rfl hl.1 rfl (lv_room (Nat.le_of_ble_eq_true rfl)) dX0_apply_1 ⟨Nat.le_of_ble_eq_true rfl, Nat.le_of_ble_eq_true rfl⟩) hS (fun q _ h => hFc q h) hFc (fun q _ h => hFc q h) (fun E ce q9 u t H1 locs ht hvm hwx hB hz1 hk1 hS hce hcv hcl => ?_) (fun u t H1 locs ht hvm hwx hB hz1 hk1 hS => hwx.elim)
    have hB := hB.symm
    subst hB
    have hP := hP.kept (fun k q hq => hk1 q.1 (hP k q hq).lt (nA (hP k q hq).lt))
    generalize H1 = H at hP hS hce ⊢
    have hP : va_P (dC, dI) vwCl (ws_sl a k rd wr ay ia mo wo so oi si mi wi ns nt nf np sl hs) H := hP
    have hD : va_D A (ws_sl a k rd wr ay ia mo wo so oi si mi wi ns nt nf np sl hs) := hD
    have hw : sl_apply rd wr ay ia mo wo oi ns nt nf np p1 p2 p3 = .inr E_1 := by unfold sl_apply; rw [hq_1]; (try dsimp only); (try rfl)
    have he := Sum.inr.inj (hno.symm.trans hw)
    exact vx_out (fun x hx => (hEx x hx).elim) hlocks hce hcv hcl (fun t ht ha => ⟨(), trivial, ⟨he.symm, by rw [ht]; exact hP, va_K.moved ha hK, hD⟩, hS.F ht⟩) hS.2.2 (Nat.le_of_ble_eq_true rfl) (Nat.le_of_ble_eq_true rfl)
