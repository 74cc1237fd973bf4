set_option maxHeartbeats 4000000 in
set_option maxRecDepth 100000 in
theorem cl_assign (l : Launch) (hl9 : l.stackTraces = false) (dC : Nat → ClassId) (dI : Nat → Nat → Nat) (a : Nat → Nat) (k : Nat → ClassId) (o : Nat → Nat) (j : Nat → ClassId) (sx : Nat → Nat) (sz : Nat) (rd wr : Nat → Int64) (ay ia mo wo so oi si mi wi : Nat → Int32) (ns nt nf np sl hs : Int32) (ou : Nat → Int64) (p1 p2 : Int32) : Met l yL_assign wsL_assign ({ frames := 8, cells := 1, slots := 6, locals := 131 } : Room) (va_Pc [.ref (a 0), .int p1, .int p2, .ref (o 0)] (prx (dC, dI) ((ws_sl a k rd wr ay ia mo wo so oi si mi wi ns nt nf np sl hs) ++ (ws_ou o j ou)) ((ty_sl k) ++ (ty_ou j)) sz sx)) (va_Qi (fun (r : Int32) (u : (Nat → Int64) × (Nat → Int64) × (Nat → Int32) × (Nat → Int32) × (Nat → Int32) × (Nat → Int32) × Int32 × Int32 × Int32 × Int32 × (Nat → Int64)) => la_assign rd wr ay ia mo wo oi ns nf np sl hs ou p1 p2 = (r, u)) (fun (u : (Nat → Int64) × (Nat → Int64) × (Nat → Int32) × (Nat → Int32) × (Nat → Int32) × (Nat → Int32) × Int32 × Int32 × Int32 × Int32 × (Nat → Int64)) t => match u with | (rd', wr', ay', ia', mo', wo', ns', np', sl', hs', ou') => po (dC, dI) ((ws_sl a k rd' wr' ay' ia' mo' wo' so oi si mi wi ns' nt nf np' sl' hs') ++ (ws_ou o j ou')) ((ty_sl k) ++ (ty_ou j)) (va_A ((ws_sl a k rd wr ay ia mo wo so oi si mi wi ns nt nf np sl hs) ++ (ws_ou o j ou)) sz) t) (va_A ((ws_sl a k rd wr ay ia mo wo so oi si mi wi ns nt nf np sl hs) ++ (ws_ou o j ou)) sz)) 1 6 (va_A ((ws_sl a k rd wr ay ia mo wo so oi si mi wi ns nt nf np sl hs) ++ (ws_ou o j ou)) sz) := by
  refine va_MetW (cc := cL_assign) (maxL := 5) (ret := (some .int)) (by decide) rfl ?_
  intro p e s m args below meth c s₁ B hml hv
  obtain ⟨rfl, ⟨hsz, hP, hK, hD0⟩, hX9⟩ := hv
  have hx := B.exec
  have hb := B.bytes
  have hr := B.returns
  have hts := atoms_spec (ws := wsL_assign) B.pre
  have hg : ∀ w ∈ gw, w.before _ s = true := fun w h => hts w (List.mem_cons_of_mem _ h)
  have hown : s.vm.findClass RL = some m.cls := findClass_of_methodNamed B.named
  have hlocks := B.notSynchronized
  have hTab := vx_table (x := yL_assign) B (hts _ List.mem_cons_self)
  subst hsz
  have hD := hD0.self (sz := s.heap.size)
  generalize hAe : va_A ((ws_sl a k rd wr ay ia mo wo so oi si mi wi ns nt nf np sl hs) ++ (ws_ou o j ou)) s.heap.size = A at hD hX9 ⊢
  have hA : ∀ q : Nat, s.heap.size ≤ q → A q := fun q h => by rw [← hAe]; exact Or.inr h
  clear hAe
  refine w_in (fun H locs eH eL => ?_)
  have hS : va_S A s.heap H locs := by rw [eH, eL]; exact va_S.rf
  have hP : va_P (dC, dI) vwCl ((ws_sl a k rd wr ay ia mo wo so oi si mi wi ns nt nf np sl hs) ++ (ws_ou o j ou)) H := by rw [eH]; exact hP
  clear eH eL
  have hl := lv_entry ([.ref (a 0), .int p1, .int p2, .ref (o 0)]) (n := 5) (Nat.le_of_ble_eq_true rfl)
  rw [lg_entry_eq]
  generalize (lg_sl ([.ref (a 0), .int p1, .int p2, .ref (o 0)]) ++ List.replicate (5 - (lg_sl ([.ref (a 0), .int p1, .int p2, .ref (o 0)])).length) Slot.unset).toArray = ls at hl ⊢
  have hl : lv_has ls 5 [(0, .ref (a 0)), (1, .int p1), (2, .int p2), (3, .ref (o 0))] := hl
  refine lv_aload_n hx hb dL_assign_0 rfl (lv_at hl 3 rfl) ?_
  refine lv_iconst (v := 0) hx hb dL_assign_1 (by decide) ?_
  refine lv_aload_n hx hb dL_assign_2 rfl (lv_at hl 0 rfl) ?_
  refine lv_iload_n hx hb dL_assign_3 rfl (lv_at hl 1 rfl) ?_
  refine lv_iload_n hx hb dL_assign_4 rfl (lv_at hl 2 rfl) ?_
  rcases hq_5 : sl_assign rd wr ay ia mo wo oi ns nf np p1 p2 with ⟨r_5, rd_5, wr_5, ay_5, ia_5, mo_5, wo_5, ns_5, np_5, sl_5, hs_5⟩ | E_5
  · have hPc := hP.sub (ws' := ws_sl a k rd wr ay ia mo wo so oi si mi wi ns nt nf np sl hs) [0, 1, 2, 3, 4, 5, 6, 7, 8, 9, 10, 11] rfl
    have hDc := hD.sub (ws' := ws_sl a k rd wr ay ia mo wo so oi si mi wi ns nt nf np sl hs) [0, 1, 2, 3, 4, 5, 6, 7, 8, 9, 10, 11] (by decide) rfl
    have hKc := hK.sub (tys' := ty_sl k) [0, 1, 2, 3, 4, 5, 6, 7, 8, 9, 10] rfl
    have hFc := va_free (wc := ws_sl a k rd wr ay ia mo wo so oi si mi wi ns nt nf np sl hs) hD hS hA [0, 1, 2, 3, 4, 5, 6, 7, 8, 9, 10, 11] rfl
    refine va_calli (va_runV (As := [.int p1, .int p2]) (rest := [.int 0, .ref (o 0)]) ⟨hx, hb, hml, hown, hg⟩ (cs_assign l dC dI a k H.size rd wr ay ia mo wo so oi si mi wi ns nt nf np sl hs p1 p2 r_5 rd_5 wr_5 ay_5 ia_5 mo_5 wo_5 ns_5 np_5 sl_5 hs_5 hq_5) (cwV 2 hg (gi_V w_102 w_103 w_104 w_1 w_105) rfl rfl rfl (by decide +kernel) ⟨Nat.le_of_ble_eq_true rfl, Nat.le_of_ble_eq_true rfl⟩) ⟨pr_bl, va_recv hKc hPc (ci := 0) (q0 := 0) rfl rfl, pr_ok hKc hPc hDc⟩ rfl rfl hl.1 rfl (lv_room (Nat.le_of_ble_eq_true rfl)) dL_assign_5 ⟨Nat.le_of_ble_eq_true rfl, Nat.le_of_ble_eq_true rfl⟩) hS (fun q _ h => hFc q h) hFc (fun rr u t H1 locs ht hvm hw hB hz1 hk1 hS => ?_)
    have hw := hw.symm
    subst hw
    obtain ⟨hP1, hK1, hD1⟩ := hB
    rw [ht] at hP1
    obtain ⟨hP, hD⟩ := va_join (wr := ws_ou o j ou) (w1 := ws_sl a k rd_5 wr_5 ay_5 ia_5 mo_5 wo_5 so oi si mi wi ns_5 nt nf np_5 sl_5 hs_5) hP hD [0, 1, 2, 3, 4, 5, 6, 7, 8, 9, 10, 11] [12] rfl rfl (by decide) (by decide) hk1 hFc hP1 hD1
    have hP := hP.sub (ws' := (ws_sl a k rd_5 wr_5 ay_5 ia_5 mo_5 wo_5 so oi si mi wi ns_5 nt nf np_5 sl_5 hs_5) ++ (ws_ou o j ou)) [1, 2, 3, 4, 5, 6, 7, 8, 9, 10, 11, 12, 0] rfl
    have hD := hD.sub (ws' := (ws_sl a k rd_5 wr_5 ay_5 ia_5 mo_5 wo_5 so oi si mi wi ns_5 nt nf np_5 sl_5 hs_5) ++ (ws_ou o j ou)) [1, 2, 3, 4, 5, 6, 7, 8, 9, 10, 11, 12, 0] (by decide) rfl
    generalize H1 = H at hP hS ⊢
    have hP : va_P (dC, dI) vwCl ((ws_sl a k rd_5 wr_5 ay_5 ia_5 mo_5 wo_5 so oi si mi wi ns_5 nt nf np_5 sl_5 hs_5) ++ (ws_ou o j ou)) H := hP
    have hD : va_D A ((ws_sl a k rd_5 wr_5 ay_5 ia_5 mo_5 wo_5 so oi si mi wi ns_5 nt nf np_5 sl_5 hs_5) ++ (ws_ou o j ou)) := hD
    refine lv_i2l hx hb dL_assign_8 rfl ?_
    refine va_last hx hb hK hP hD hS 12 11 rfl rfl (ix_k (by decide)) dL_assign_9 (fun H locs hP hD hS => ?_)
    have hP : va_P (dC, dI) vwCl ((ws_sl a k rd_5 wr_5 ay_5 ia_5 mo_5 wo_5 so oi si mi wi ns_5 nt nf np_5 sl_5 hs_5) ++ (ws_ou o j (vp_updL ou 0 r_5.toInt64))) H := hP
    have hD : va_D A ((ws_sl a k rd_5 wr_5 ay_5 ia_5 mo_5 wo_5 so oi si mi wi ns_5 nt nf np_5 sl_5 hs_5) ++ (ws_ou o j (vp_updL ou 0 r_5.toInt64))) := hD
    refine lv_goto (tgt := 21) hx hb dL_assign_10 (by decide) ?_
    refine lv_iconst (v := 0) hx hb dL_assign_21 (by decide) ?_
    refine W.widen (k := 1) (n := 6) (by decide) (by decide) ?_
    have hw : la_assign rd wr ay ia mo wo oi ns nf np sl hs ou p1 p2 = (0, rd_5, wr_5, ay_5, ia_5, mo_5, wo_5, ns_5, np_5, sl_5, hs_5, vp_updL ou 0 r_5.toInt64) := by unfold la_assign; rw [hq_5]; (try dsimp only); (try rfl)
    exact W.iret (v := 0) hx hb hr (fun t ht hW => ⟨⟨0, (rd_5, wr_5, ay_5, ia_5, mo_5, wo_5, ns_5, np_5, sl_5, hs_5, vp_updL ou 0 r_5.toInt64), rfl, hw, ⟨by rw [ht]; exact hP, va_K.moved hW.alike hK, hD⟩⟩, hS.F ht⟩) hS.2.2 dL_assign_22
  · have hPc := hP.sub (ws' := ws_sl a k rd wr ay ia mo wo so oi si mi wi ns nt nf np sl hs) [0, 1, 2, 3, 4, 5, 6, 7, 8, 9, 10, 11] rfl
    have hDc := hD.sub (ws' := ws_sl a k rd wr ay ia mo wo so oi si mi wi ns nt nf np sl hs) [0, 1, 2, 3, 4, 5, 6, 7, 8, 9, 10, 11] (by decide) rfl
    have hKc := hK.sub (tys' := ty_sl k) [0, 1, 2, 3, 4, 5, 6, 7, 8, 9, 10] rfl
    have hFc := va_free (wc := ws_sl a k rd wr ay ia mo wo so oi si mi wi ns nt nf np sl hs) hD hS hA [0, 1, 2, 3, 4, 5, 6, 7, 8, 9, 10, 11] rfl
    refine vx_calli (vx_runV (As := [.int p1, .int p2]) (rest := [.int 0, .ref (o 0)]) ⟨hx, hb, hml, hown, hg⟩ (cs_assign_x l hl9 dC dI a k sx H.size rd wr ay ia mo wo so oi si mi wi ns nt nf np sl hs p1 p2 E_5 hq_5) (cwV 2 hg (gi_V w_102 w_103 w_104 w_1 w_105) rfl rfl rfl (by decide +kernel) ⟨Nat.le_of_ble_eq_true rfl, Nat.le_of_ble_eq_true rfl⟩) ⟨prx_bl, va_recv hKc hPc (ci := 0) (q0 := 0) rfl rfl, prx_ok hKc hPc hDc hX9 hS hFc⟩ rfl rfl hl.1 rfl (lv_room (Nat.le_of_ble_eq_true rfl)) dL_assign_5 ⟨Nat.le_of_ble_eq_true rfl, Nat.le_of_ble_eq_true rfl⟩) hS (fun q _ h => hFc q h) hFc (fun q _ h => hFc q h) (fun E ce q9 u t H1 locs ht hvm hwx hB hz1 hk1 hS hce hcv hcl => ?_) (fun rr u t H1 locs ht hvm hwx hB hz1 hk1 hS => hwx.elim)
    obtain ⟨hE, hB⟩ := hB
    have hE := hE.symm
    subst hE
    obtain ⟨hP1, hK1, hD1⟩ := hB
    rw [ht] at hP1
    obtain ⟨hP, hD⟩ := va_join (wr := ws_ou o j ou) (w1 := ws_sl a k rd wr ay ia mo wo so oi si mi wi ns nt nf np sl hs) hP hD [0, 1, 2, 3, 4, 5, 6, 7, 8, 9, 10, 11] [12] rfl rfl (by decide) (by decide) hk1 hFc hP1 hD1
    have hP := hP.sub (ws' := (ws_sl a k rd wr ay ia mo wo so oi si mi wi ns nt nf np sl hs) ++ (ws_ou o j ou)) [1, 2, 3, 4, 5, 6, 7, 8, 9, 10, 11, 12, 0] rfl
    have hD := hD.sub (ws' := (ws_sl a k rd wr ay ia mo wo so oi si mi wi ns nt nf np sl hs) ++ (ws_ou o j ou)) [1, 2, 3, 4, 5, 6, 7, 8, 9, 10, 11, 12, 0] (by decide) rfl
    generalize H1 = H at hP hS hce ⊢
    have hP : va_P (dC, dI) vwCl ((ws_sl a k rd wr ay ia mo wo so oi si mi wi ns nt nf np sl hs) ++ (ws_ou o j ou)) H := hP
    have hD : va_D A ((ws_sl a k rd wr ay ia mo wo so oi si mi wi ns nt nf np sl hs) ++ (ws_ou o j ou)) := hD
    rcases sl_assign_exc hq_5 with rfl | rfl
    · refine vx_catch (own := RL) (name := "java/lang/IllegalStateException") (E := "java/lang/IllegalStateException") hown [⟨0, 10, 13, 13⟩] ⟨0, 10, 17, 15⟩ [] (by rw [hTab]; rfl) (fun z hz => by
          rcases List.mem_cons.mp hz with rfl | hz
          · exact Or.inr ⟨by decide, "java/lang/IndexOutOfBoundsException", (hg _ w_100), hX9.2.2.2.2.2 ("java/lang/IllegalStateException", "java/lang/IndexOutOfBoundsException") (by decide +kernel)⟩
          cases hz) (by decide) (by decide) (hg _ w_101) (va_Nw.use rfl (hX9.2.2.2.1 ("java/lang/IllegalStateException", "java/lang/IllegalStateException") (by decide +kernel))) hce hcv hcl ?_
      refine lv_astore (lv' := [(4, .ref q9), (0, .ref (a 0)), (1, .int p1), (2, .int p2), (3, .ref (o 0))]) hx hb dL_assign_17 hl (by decide) rfl (fun ls hl => ?_)
      refine lv_iconst (v := 2) hx hb dL_assign_19 (by decide) ?_
      refine W.widen (k := 1) (n := 6) (by decide) (by decide) ?_
      have hw : la_assign rd wr ay ia mo wo oi ns nf np sl hs ou p1 p2 = (2, rd, wr, ay, ia, mo, wo, ns, np, sl, hs, ou) := by unfold la_assign; rw [hq_5]; (try dsimp only); rw [if_pos rfl]; (try rfl)
      exact W.iret (v := 2) hx hb hr (fun t ht hW => ⟨⟨2, (rd, wr, ay, ia, mo, wo, ns, np, sl, hs, ou), rfl, hw, ⟨by rw [ht]; exact hP, va_K.moved hW.alike hK, hD⟩⟩, hS.F ht⟩) hS.2.2 dL_assign_20
    · refine vx_catch (own := RL) (name := "java/lang/IndexOutOfBoundsException") (E := "java/lang/IndexOutOfBoundsException") hown [] ⟨0, 10, 13, 13⟩ [⟨0, 10, 17, 15⟩] (by rw [hTab]; rfl) (fun z hz => nomatch hz) (by decide) (by decide) (hg _ w_100) (va_Nw.use rfl (hX9.2.2.2.1 ("java/lang/IndexOutOfBoundsException", "java/lang/IndexOutOfBoundsException") (by decide +kernel))) hce hcv hcl ?_
      refine lv_astore (lv' := [(4, .ref q9), (0, .ref (a 0)), (1, .int p1), (2, .int p2), (3, .ref (o 0))]) hx hb dL_assign_13 hl (by decide) rfl (fun ls hl => ?_)
      refine lv_iconst (v := 1) hx hb dL_assign_15 (by decide) ?_
      refine W.widen (k := 1) (n := 6) (by decide) (by decide) ?_
      have hw : la_assign rd wr ay ia mo wo oi ns nf np sl hs ou p1 p2 = (1, rd, wr, ay, ia, mo, wo, ns, np, sl, hs, ou) := by unfold la_assign; rw [hq_5]; (try dsimp only); rw [if_neg (by decide)]; (try rfl)
      exact W.iret (v := 1) hx hb hr (fun t ht hW => ⟨⟨1, (rd, wr, ay, ia, mo, wo, ns, np, sl, hs, ou), rfl, hw, ⟨by rw [ht]; exact hP, va_K.moved hW.alike hK, hD⟩⟩, hS.F ht⟩) hS.2.2 dL_assign_16
set_option maxHeartbeats 4000000 in
set_option maxRecDepth 100000 in
theorem cl_load (l : Launch) (hl9 : l.stackTraces = false) (dC : Nat → ClassId) (dI : Nat → Nat → Nat) (a : Nat → Nat) (k : Nat → ClassId) (o : Nat → Nat) (j : Nat → ClassId) (sx : Nat → Nat) (sz : Nat) (rd wr : Nat → Int64) (ay ia mo wo so oi si mi wi : Nat → Int32) (ns nt nf np sl hs : Int32) (ou : Nat → Int64) (p1 p2 p3 : Int32) : Met l yL_load wsL_load ({ frames := 8, cells := 1, slots := 6, locals := 132 } : Room) (va_Pc [.ref (a 0), .int p1, .int p2, .int p3, .ref (o 0)] (prx (dC, dI) ((ws_sl a k rd wr ay ia mo wo so oi si mi wi ns nt nf np sl hs) ++ (ws_ou o j ou)) ((ty_sl k) ++ (ty_ou j)) sz sx)) (va_Qi (fun (r : Int32) (u : (Nat → Int64) × (Nat → Int64) × (Nat → Int32) × (Nat → Int32) × (Nat → Int32) × (Nat → Int32) × Int32 × Int32 × Int32 × Int32 × (Nat → Int64)) => la_load rd wr ay ia mo wo oi ns nf np sl hs ou p1 p2 p3 = (r, u)) (fun (u : (Nat → Int64) × (Nat → Int64) × (Nat → Int32) × (Nat → Int32) × (Nat → Int32) × (Nat → Int32) × Int32 × Int32 × Int32 × Int32 × (Nat → Int64)) t => match u with | (rd', wr', ay', ia', mo', wo', ns', np', sl', hs', ou') => po (dC, dI) ((ws_sl a k rd' wr' ay' ia' mo' wo' so oi si mi wi ns' nt nf np' sl' hs') ++ (ws_ou o j ou')) ((ty_sl k) ++ (ty_ou j)) (va_A ((ws_sl a k rd wr ay ia mo wo so oi si mi wi ns nt nf np sl hs) ++ (ws_ou o j ou)) sz) t) (va_A ((ws_sl a k rd wr ay ia mo wo so oi si mi wi ns nt nf np sl hs) ++ (ws_ou o j ou)) sz)) 1 6 (va_A ((ws_sl a k rd wr ay ia mo wo so oi si mi wi ns nt nf np sl hs) ++ (ws_ou o j ou)) sz) := by
  refine va_MetW (cc := cL_load) (maxL := 6) (ret := (some .int)) (by decide) rfl ?_
  intro p e s m args below meth c s₁ B hml hv
  obtain ⟨rfl, ⟨hsz, hP, hK, hD0⟩, hX9⟩ := hv
  have hx := B.exec
  have hb := B.bytes
  have hr := B.returns
  have hts := atoms_spec (ws := wsL_load) B.pre
  have hg : ∀ w ∈ gw, w.before _ s = true := fun w h => hts w (List.mem_cons_of_mem _ h)
  have hown : s.vm.findClass RL = some m.cls := findClass_of_methodNamed B.named
  have hlocks := B.notSynchronized
  have hTab := vx_table (x := yL_load) B (hts _ List.mem_cons_self)
  subst hsz
  have hD := hD0.self (sz := s.heap.size)
  generalize hAe : va_A ((ws_sl a k rd wr ay ia mo wo so oi si mi wi ns nt nf np sl hs) ++ (ws_ou o j ou)) s.heap.size = A at hD hX9 ⊢
  have hA : ∀ q : Nat, s.heap.size ≤ q → A q := fun q h => by rw [← hAe]; exact Or.inr h
  clear hAe
  refine w_in (fun H locs eH eL => ?_)
  have hS : va_S A s.heap H locs := by rw [eH, eL]; exact va_S.rf
  have hP : va_P (dC, dI) vwCl ((ws_sl a k rd wr ay ia mo wo so oi si mi wi ns nt nf np sl hs) ++ (ws_ou o j ou)) H := by rw [eH]; exact hP
  clear eH eL
  have hl := lv_entry ([.ref (a 0), .int p1, .int p2, .int p3, .ref (o 0)]) (n := 6) (Nat.le_of_ble_eq_true rfl)
  rw [lg_entry_eq]
  generalize (lg_sl ([.ref (a 0), .int p1, .int p2, .int p3, .ref (o 0)]) ++ List.replicate (6 - (lg_sl ([.ref (a 0), .int p1, .int p2, .int p3, .ref (o 0)])).length) Slot.unset).toArray = ls at hl ⊢
  have hl : lv_has ls 6 [(0, .ref (a 0)), (1, .int p1), (2, .int p2), (3, .int p3), (4, .ref (o 0))] := hl
  refine lv_aload hx hb dL_load_0 (lv_at hl 4 rfl) ?_
  refine lv_iconst (v := 0) hx hb dL_load_2 (by decide) ?_
  refine lv_aload_n hx hb dL_load_3 rfl (lv_at hl 0 rfl) ?_
  refine lv_iload_n hx hb dL_load_4 rfl (lv_at hl 1 rfl) ?_
  refine lv_iload_n hx hb dL_load_5 rfl (lv_at hl 2 rfl) ?_
  refine lv_iload_n hx hb dL_load_6 rfl (lv_at hl 3 rfl) ?_
  rcases hq_7 : sl_load rd wr ay ia mo wo oi ns nf np p1 p2 p3 with ⟨r_7, rd_7, wr_7, ay_7, ia_7, mo_7, wo_7, ns_7, np_7, sl_7, hs_7⟩ | E_7
  · have hPc := hP.sub (ws' := ws_sl a k rd wr ay ia mo wo so oi si mi wi ns nt nf np sl hs) [0, 1, 2, 3, 4, 5, 6, 7, 8, 9, 10, 11] rfl
    have hDc := hD.sub (ws' := ws_sl a k rd wr ay ia mo wo so oi si mi wi ns nt nf np sl hs) [0, 1, 2, 3, 4, 5, 6, 7, 8, 9, 10, 11] (by decide) rfl
    have hKc := hK.sub (tys' := ty_sl k) [0, 1, 2, 3, 4, 5, 6, 7, 8, 9, 10] rfl
    have hFc := va_free (wc := ws_sl a k rd wr ay ia mo wo so oi si mi wi ns nt nf np sl hs) hD hS hA [0, 1, 2, 3, 4, 5, 6, 7, 8, 9, 10, 11] rfl
    refine va_calli (va_runV (As := [.int p1, .int p2, .int p3]) (rest := [.int 0, .ref (o 0)]) ⟨hx, hb, hml, hown, hg⟩ (cs_load l dC dI a k H.size rd wr ay ia mo wo so oi si mi wi ns nt nf np sl hs p1 p2 p3 r_7 rd_7 wr_7 ay_7 ia_7 mo_7 wo_7 ns_7 np_7 sl_7 hs_7 hq_7) (cwV 3 hg (gi_V w_234 w_235 w_236 w_1 w_237) rfl rfl rfl (by decide +kernel) ⟨Nat.le_of_ble_eq_true rfl, Nat.le_of_ble_eq_true rfl⟩) ⟨pr_bl, va_recv hKc hPc (ci := 0) (q0 := 0) rfl rfl, pr_ok hKc hPc hDc⟩ rfl rfl hl.1 rfl (lv_room (Nat.le_of_ble_eq_true rfl)) dL_load_7 ⟨Nat.le_of_ble_eq_true rfl, Nat.le_of_ble_eq_true rfl⟩) hS (fun q _ h => hFc q h) hFc (fun rr u t H1 locs ht hvm hw hB hz1 hk1 hS => ?_)
    have hw := hw.symm
    subst hw
    obtain ⟨hP1, hK1, hD1⟩ := hB
    rw [ht] at hP1
    obtain ⟨hP, hD⟩ := va_join (wr := ws_ou o j ou) (w1 := ws_sl a k rd_7 wr_7 ay_7 ia_7 mo_7 wo_7 so oi si mi wi ns_7 nt nf np_7 sl_7 hs_7) hP hD [0, 1, 2, 3, 4, 5, 6, 7, 8, 9, 10, 11] [12] rfl rfl (by decide) (by decide) hk1 hFc hP1 hD1
    have hP := hP.sub (ws' := (ws_sl a k rd_7 wr_7 ay_7 ia_7 mo_7 wo_7 so oi si mi wi ns_7 nt nf np_7 sl_7 hs_7) ++ (ws_ou o j ou)) [1, 2, 3, 4, 5, 6, 7, 8, 9, 10, 11, 12, 0] rfl
    have hD := hD.sub (ws' := (ws_sl a k rd_7 wr_7 ay_7 ia_7 mo_7 wo_7 so oi si mi wi ns_7 nt nf np_7 sl_7 hs_7) ++ (ws_ou o j ou)) [1, 2, 3, 4, 5, 6, 7, 8, 9, 10, 11, 12, 0] (by decide) rfl
    generalize H1 = H at hP hS ⊢
    have hP : va_P (dC, dI) vwCl ((ws_sl a k rd_7 wr_7 ay_7 ia_7 mo_7 wo_7 so oi si mi wi ns_7 nt nf np_7 sl_7 hs_7) ++ (ws_ou o j ou)) H := hP
    have hD : va_D A ((ws_sl a k rd_7 wr_7 ay_7 ia_7 mo_7 wo_7 so oi si mi wi ns_7 nt nf np_7 sl_7 hs_7) ++ (ws_ou o j ou)) := hD
    refine lv_i2l hx hb dL_load_10 rfl ?_
    refine va_last hx hb hK hP hD hS 12 11 rfl rfl (ix_k (by decide)) dL_load_11 (fun H locs hP hD hS => ?_)
    have hP : va_P (dC, dI) vwCl ((ws_sl a k rd_7 wr_7 ay_7 ia_7 mo_7 wo_7 so oi si mi wi ns_7 nt nf np_7 sl_7 hs_7) ++ (ws_ou o j (vp_updL ou 0 r_7.toInt64))) H := hP
    have hD : va_D A ((ws_sl a k rd_7 wr_7 ay_7 ia_7 mo_7 wo_7 so oi si mi wi ns_7 nt nf np_7 sl_7 hs_7) ++ (ws_ou o j (vp_updL ou 0 r_7.toInt64))) := hD
    refine lv_goto (tgt := 23) hx hb dL_load_12 (by decide) ?_
    refine lv_iconst (v := 0) hx hb dL_load_23 (by decide) ?_
    refine W.widen (k := 1) (n := 6) (by decide) (by decide) ?_
    have hw : la_load rd wr ay ia mo wo oi ns nf np sl hs ou p1 p2 p3 = (0, rd_7, wr_7, ay_7, ia_7, mo_7, wo_7, ns_7, np_7, sl_7, hs_7, vp_updL ou 0 r_7.toInt64) := by unfold la_load; rw [hq_7]; (try dsimp only); (try rfl)
    exact W.iret (v := 0) hx hb hr (fun t ht hW => ⟨⟨0, (rd_7, wr_7, ay_7, ia_7, mo_7, wo_7, ns_7, np_7, sl_7, hs_7, vp_updL ou 0 r_7.toInt64), rfl, hw, ⟨by rw [ht]; exact hP, va_K.moved hW.alike hK, hD⟩⟩, hS.F ht⟩) hS.2.2 dL_load_24
  · have hPc := hP.sub (ws' := ws_sl a k rd wr ay ia mo wo so oi si mi wi ns nt nf np sl hs) [0, 1, 2, 3, 4, 5, 6, 7, 8, 9, 10, 11] rfl
    have hDc := hD.sub (ws' := ws_sl a k rd wr ay ia mo wo so oi si mi wi ns nt nf np sl hs) [0, 1, 2, 3, 4, 5, 6, 7, 8, 9, 10, 11] (by decide) rfl
    have hKc := hK.sub (tys' := ty_sl k) [0, 1, 2, 3, 4, 5, 6, 7, 8, 9, 10] rfl
    have hFc := va_free (wc := ws_sl a k rd wr ay ia mo wo so oi si mi wi ns nt nf np sl hs) hD hS hA [0, 1, 2, 3, 4, 5, 6, 7, 8, 9, 10, 11] rfl
    refine vx_calli (vx_runV (As := [.int p1, .int p2, .int p3]) (rest := [.int 0, .ref (o 0)]) ⟨hx, hb, hml, hown, hg⟩ (cs_load_x l hl9 dC dI a k sx H.size rd wr ay ia mo wo so oi si mi wi ns nt nf np sl hs p1 p2 p3 E_7 hq_7) (cwV 3 hg (gi_V w_234 w_235 w_236 w_1 w_237) rfl rfl rfl (by decide +kernel) ⟨Nat.le_of_ble_eq_true rfl, Nat.le_of_ble_eq_true rfl⟩) ⟨prx_bl, va_recv hKc hPc (ci := 0) (q0 := 0) rfl rfl, prx_ok hKc hPc hDc hX9 hS hFc⟩ rfl rfl hl.1 rfl (lv_room (Nat.le_of_ble_eq_true rfl)) dL_load_7 ⟨Nat.le_of_ble_eq_true rfl, Nat.le_of_ble_eq_true rfl⟩) hS (fun q _ h => hFc q h) hFc (fun q _ h => hFc q h) (fun E ce q9 u t H1 locs ht hvm hwx hB hz1 hk1 hS hce hcv hcl => ?_) (fun rr u t H1 locs ht hvm hwx hB hz1 hk1 hS => hwx.elim)
    obtain ⟨hE, hB⟩ := hB
    have hE := hE.symm
    subst hE
    obtain ⟨hP1, hK1, hD1⟩ := hB
    rw [ht] at hP1
    obtain ⟨hP, hD⟩ := va_join (wr := ws_ou o j ou) (w1 := ws_sl a k rd wr ay ia mo wo so oi si mi wi ns nt nf np sl hs) hP hD [0, 1, 2, 3, 4, 5, 6, 7, 8, 9, 10, 11] [12] rfl rfl (by decide) (by decide) hk1 hFc hP1 hD1
    have hP := hP.sub (ws' := (ws_sl a k rd wr ay ia mo wo so oi si mi wi ns nt nf np sl hs) ++ (ws_ou o j ou)) [1, 2, 3, 4, 5, 6, 7, 8, 9, 10, 11, 12, 0] rfl
    have hD := hD.sub (ws' := (ws_sl a k rd wr ay ia mo wo so oi si mi wi ns nt nf np sl hs) ++ (ws_ou o j ou)) [1, 2, 3, 4, 5, 6, 7, 8, 9, 10, 11, 12, 0] (by decide) rfl
    generalize H1 = H at hP hS hce ⊢
    have hP : va_P (dC, dI) vwCl ((ws_sl a k rd wr ay ia mo wo so oi si mi wi ns nt nf np sl hs) ++ (ws_ou o j ou)) H := hP
    have hD : va_D A ((ws_sl a k rd wr ay ia mo wo so oi si mi wi ns nt nf np sl hs) ++ (ws_ou o j ou)) := hD
    rcases sl_load_exc hq_7 with rfl | rfl
    · refine vx_catch (own := RL) (name := "java/lang/IllegalStateException") (E := "java/lang/IllegalStateException") hown [⟨0, 12, 15, 13⟩] ⟨0, 12, 19, 15⟩ [] (by rw [hTab]; rfl) (fun z hz => by
          rcases List.mem_cons.mp hz with rfl | hz
          · exact Or.inr ⟨by decide, "java/lang/IndexOutOfBoundsException", (hg _ w_100), hX9.2.2.2.2.2 ("java/lang/IllegalStateException", "java/lang/IndexOutOfBoundsException") (by decide +kernel)⟩
          cases hz) (by decide) (by decide) (hg _ w_101) (va_Nw.use rfl (hX9.2.2.2.1 ("java/lang/IllegalStateException", "java/lang/IllegalStateException") (by decide +kernel))) hce hcv hcl ?_
      refine lv_astore (lv' := [(5, .ref q9), (0, .ref (a 0)), (1, .int p1), (2, .int p2), (3, .int p3), (4, .ref (o 0))]) hx hb dL_load_19 hl (by decide) rfl (fun ls hl => ?_)
      refine lv_iconst (v := 2) hx hb dL_load_21 (by decide) ?_
      refine W.widen (k := 1) (n := 6) (by decide) (by decide) ?_
      have hw : la_load rd wr ay ia mo wo oi ns nf np sl hs ou p1 p2 p3 = (2, rd, wr, ay, ia, mo, wo, ns, np, sl, hs, ou) := by unfold la_load; rw [hq_7]; (try dsimp only); rw [if_pos rfl]; (try rfl)
      exact W.iret (v := 2) hx hb hr (fun t ht hW => ⟨⟨2, (rd, wr, ay, ia, mo, wo, ns, np, sl, hs, ou), rfl, hw, ⟨by rw [ht]; exact hP, va_K.moved hW.alike hK, hD⟩⟩, hS.F ht⟩) hS.2.2 dL_load_22
    · refine vx_catch (own := RL) (name := "java/lang/IndexOutOfBoundsException") (E := "java/lang/IndexOutOfBoundsException") hown [] ⟨0, 12, 15, 13⟩ [⟨0, 12, 19, 15⟩] (by rw [hTab]; rfl) (fun z hz => nomatch hz) (by decide) (by decide) (hg _ w_100) (va_Nw.use rfl (hX9.2.2.2.1 ("java/lang/IndexOutOfBoundsException", "java/lang/IndexOutOfBoundsException") (by decide +kernel))) hce hcv hcl ?_
      refine lv_astore (lv' := [(5, .ref q9), (0, .ref (a 0)), (1, .int p1), (2, .int p2), (3, .int p3), (4, .ref (o 0))]) hx hb dL_load_15 hl (by decide) rfl (fun ls hl => ?_)
      refine lv_iconst (v := 1) hx hb dL_load_17 (by decide) ?_
      refine W.widen (k := 1) (n := 6) (by decide) (by decide) ?_
      have hw : la_load rd wr ay ia mo wo oi ns nf np sl hs ou p1 p2 p3 = (1, rd, wr, ay, ia, mo, wo, ns, np, sl, hs, ou) := by unfold la_load; rw [hq_7]; (try dsimp only); rw [if_neg (by decide)]; (try rfl)
      exact W.iret (v := 1) hx hb hr (fun t ht hW => ⟨⟨1, (rd, wr, ay, ia, mo, wo, ns, np, sl, hs, ou), rfl, hw, ⟨by rw [ht]; exact hP, va_K.moved hW.alike hK, hD⟩⟩, hS.F ht⟩) hS.2.2 dL_load_18
set_option maxHeartbeats 4000000 in
set_option maxRecDepth 100000 in
theorem cl_store (l : Launch) (hl9 : l.stackTraces = false) (dC : Nat → ClassId) (dI : Nat → Nat → Nat) (a : Nat → Nat) (k : Nat → ClassId) (o : Nat → Nat) (j : Nat → ClassId) (sx : Nat → Nat) (sz : Nat) (rd wr : Nat → Int64) (ay ia mo wo so oi si mi wi : Nat → Int32) (ns nt nf np sl hs : Int32) (ou : Nat → Int64) (p1 p2 p3 : Int32) : Met l yL_store wsL_store ({ frames := 8, cells := 1, slots := 6, locals := 132 } : Room) (va_Pc [.ref (a 0), .int p1, .int p2, .int p3, .ref (o 0)] (prx (dC, dI) ((ws_sl a k rd wr ay ia mo wo so oi si mi wi ns nt nf np sl hs) ++ (ws_ou o j ou)) ((ty_sl k) ++ (ty_ou j)) sz sx)) (va_Qi (fun (r : Int32) (u : (Nat → Int64) × (Nat → Int64) × (Nat → Int32) × (Nat → Int32) × (Nat → Int32) × (Nat → Int32) × Int32 × Int32 × Int32 × Int32 × (Nat → Int64)) => la_store rd wr ay ia mo wo oi ns nf np sl hs ou p1 p2 p3 = (r, u)) (fun (u : (Nat → Int64) × (Nat → Int64) × (Nat → Int32) × (Nat → Int32) × (Nat → Int32) × (Nat → Int32) × Int32 × Int32 × Int32 × Int32 × (Nat → Int64)) t => match u with | (rd', wr', ay', ia', mo', wo', ns', np', sl', hs', ou') => po (dC, dI) ((ws_sl a k rd' wr' ay' ia' mo' wo' so oi si mi wi ns' nt nf np' sl' hs') ++ (ws_ou o j ou')) ((ty_sl k) ++ (ty_ou j)) (va_A ((ws_sl a k rd wr ay ia mo wo so oi si mi wi ns nt nf np sl hs) ++ (ws_ou o j ou)) sz) t) (va_A ((ws_sl a k rd wr ay ia mo wo so oi si mi wi ns nt nf np sl hs) ++ (ws_ou o j ou)) sz)) 1 6 (va_A ((ws_sl a k rd wr ay ia mo wo so oi si mi wi ns nt nf np sl hs) ++ (ws_ou o j ou)) sz) := by
  refine va_MetW (cc := cL_store) (maxL := 6) (ret := (some .int)) (by decide) rfl ?_
  intro p e s m args below meth c s₁ B hml hv
  obtain ⟨rfl, ⟨hsz, hP, hK, hD0⟩, hX9⟩ := hv
  have hx := B.exec
  have hb := B.bytes
  have hr := B.returns
  have hts := atoms_spec (ws := wsL_store) B.pre
  have hg : ∀ w ∈ gw, w.before _ s = true := fun w h => hts w (List.mem_cons_of_mem _ h)
  have hown : s.vm.findClass RL = some m.cls := findClass_of_methodNamed B.named
  have hlocks := B.notSynchronized
  have hTab := vx_table (x := yL_store) B (hts _ List.mem_cons_self)
  subst hsz
  have hD := hD0.self (sz := s.heap.size)
  generalize hAe : va_A ((ws_sl a k rd wr ay ia mo wo so oi si mi wi ns nt nf np sl hs) ++ (ws_ou o j ou)) s.heap.size = A at hD hX9 ⊢
  have hA : ∀ q : Nat, s.heap.size ≤ q → A q := fun q h => by rw [← hAe]; exact Or.inr h
  clear hAe
  refine w_in (fun H locs eH eL => ?_)
  have hS : va_S A s.heap H locs := by rw [eH, eL]; exact va_S.rf
  have hP : va_P (dC, dI) vwCl ((ws_sl a k rd wr ay ia mo wo so oi si mi wi ns nt nf np sl hs) ++ (ws_ou o j ou)) H := by rw [eH]; exact hP
  clear eH eL
  have hl := lv_entry ([.ref (a 0), .int p1, .int p2, .int p3, .ref (o 0)]) (n := 6) (Nat.le_of_ble_eq_true rfl)
  rw [lg_entry_eq]
  generalize (lg_sl ([.ref (a 0), .int p1, .int p2, .int p3, .ref (o 0)]) ++ List.replicate (6 - (lg_sl ([.ref (a 0), .int p1, .int p2, .int p3, .ref (o 0)])).length) Slot.unset).toArray = ls at hl ⊢
  have hl : lv_has ls 6 [(0, .ref (a 0)), (1, .int p1), (2, .int p2), (3, .int p3), (4, .ref (o 0))] := hl
  refine lv_aload hx hb dL_store_0 (lv_at hl 4 rfl) ?_
  refine lv_iconst (v := 0) hx hb dL_store_2 (by decide) ?_
  refine lv_aload_n hx hb dL_store_3 rfl (lv_at hl 0 rfl) ?_
  refine lv_iload_n hx hb dL_store_4 rfl (lv_at hl 1 rfl) ?_
  refine lv_iload_n hx hb dL_store_5 rfl (lv_at hl 2 rfl) ?_
  refine lv_iload_n hx hb dL_store_6 rfl (lv_at hl 3 rfl) ?_
  rcases hq_7 : sl_store rd wr ay ia mo wo oi ns nf np p1 p2 p3 with ⟨r_7, rd_7, wr_7, ay_7, ia_7, mo_7, wo_7, ns_7, np_7, sl_7, hs_7⟩ | E_7
  · have hPc := hP.sub (ws' := ws_sl a k rd wr ay ia mo wo so oi si mi wi ns nt nf np sl hs) [0, 1, 2, 3, 4, 5, 6, 7, 8, 9, 10, 11] rfl
    have hDc := hD.sub (ws' := ws_sl a k rd wr ay ia mo wo so oi si mi wi ns nt nf np sl hs) [0, 1, 2, 3, 4, 5, 6, 7, 8, 9, 10, 11] (by decide) rfl
    have hKc := hK.sub (tys' := ty_sl k) [0, 1, 2, 3, 4, 5, 6, 7, 8, 9, 10] rfl
    have hFc := va_free (wc := ws_sl a k rd wr ay ia mo wo so oi si mi wi ns nt nf np sl hs) hD hS hA [0, 1, 2, 3, 4, 5, 6, 7, 8, 9, 10, 11] rfl
    refine va_calli (va_runV (As := [.int p1, .int p2, .int p3]) (rest := [.int 0, .ref (o 0)]) ⟨hx, hb, hml, hown, hg⟩ (cs_store l dC dI a k H.size rd wr ay ia mo wo so oi si mi wi ns nt nf np sl hs p1 p2 p3 r_7 rd_7 wr_7 ay_7 ia_7 mo_7 wo_7 ns_7 np_7 sl_7 hs_7 hq_7) (cwV 3 hg (gi_V w_245 w_246 w_247 w_1 w_248) rfl rfl rfl (by decide +kernel) ⟨Nat.le_of_ble_eq_true rfl, Nat.le_of_ble_eq_true rfl⟩) ⟨pr_bl, va_recv hKc hPc (ci := 0) (q0 := 0) rfl rfl, pr_ok hKc hPc hDc⟩ rfl rfl hl.1 rfl (lv_room (Nat.le_of_ble_eq_true rfl)) dL_store_7 ⟨Nat.le_of_ble_eq_true rfl, Nat.le_of_ble_eq_true rfl⟩) hS (fun q _ h => hFc q h) hFc (fun rr u t H1 locs ht hvm hw hB hz1 hk1 hS => ?_)
    have hw := hw.symm
    subst hw
    obtain ⟨hP1, hK1, hD1⟩ := hB
    rw [ht] at hP1
    obtain ⟨hP, hD⟩ := va_join (wr := ws_ou o j ou) (w1 := ws_sl a k rd_7 wr_7 ay_7 ia_7 mo_7 wo_7 so oi si mi wi ns_7 nt nf np_7 sl_7 hs_7) hP hD [0, 1, 2, 3, 4, 5, 6, 7, 8, 9, 10, 11] [12] rfl rfl (by decide) (by decide) hk1 hFc hP1 hD1
    have hP := hP.sub (ws' := (ws_sl a k rd_7 wr_7 ay_7 ia_7 mo_7 wo_7 so oi si mi wi ns_7 nt nf np_7 sl_7 hs_7) ++ (ws_ou o j ou)) [1, 2, 3, 4, 5, 6, 7, 8, 9, 10, 11, 12, 0] rfl
    have hD := hD.sub (ws' := (ws_sl a k rd_7 wr_7 ay_7 ia_7 mo_7 wo_7 so oi si mi wi ns_7 nt nf np_7 sl_7 hs_7) ++ (ws_ou o j ou)) [1, 2, 3, 4, 5, 6, 7, 8, 9, 10, 11, 12, 0] (by decide) rfl
    generalize H1 = H at hP hS ⊢
    have hP : va_P (dC, dI) vwCl ((ws_sl a k rd_7 wr_7 ay_7 ia_7 mo_7 wo_7 so oi si mi wi ns_7 nt nf np_7 sl_7 hs_7) ++ (ws_ou o j ou)) H := hP
    have hD : va_D A ((ws_sl a k rd_7 wr_7 ay_7 ia_7 mo_7 wo_7 so oi si mi wi ns_7 nt nf np_7 sl_7 hs_7) ++ (ws_ou o j ou)) := hD
    refine lv_i2l hx hb dL_store_10 rfl ?_
    refine va_last hx hb hK hP hD hS 12 11 rfl rfl (ix_k (by decide)) dL_store_11 (fun H locs hP hD hS => ?_)
    have hP : va_P (dC, dI) vwCl ((ws_sl a k rd_7 wr_7 ay_7 ia_7 mo_7 wo_7 so oi si mi wi ns_7 nt nf np_7 sl_7 hs_7) ++ (ws_ou o j (vp_updL ou 0 r_7.toInt64))) H := hP
    have hD : va_D A ((ws_sl a k rd_7 wr_7 ay_7 ia_7 mo_7 wo_7 so oi si mi wi ns_7 nt nf np_7 sl_7 hs_7) ++ (ws_ou o j (vp_updL ou 0 r_7.toInt64))) := hD
    refine lv_goto (tgt := 23) hx hb dL_store_12 (by decide) ?_
    refine lv_iconst (v := 0) hx hb dL_store_23 (by decide) ?_
    refine W.widen (k := 1) (n := 6) (by decide) (by decide) ?_
    have hw : la_store rd wr ay ia mo wo oi ns nf np sl hs ou p1 p2 p3 = (0, rd_7, wr_7, ay_7, ia_7, mo_7, wo_7, ns_7, np_7, sl_7, hs_7, vp_updL ou 0 r_7.toInt64) := by unfold la_store; rw [hq_7]; (try dsimp only); (try rfl)
    exact W.iret (v := 0) hx hb hr (fun t ht hW => ⟨⟨0, (rd_7, wr_7, ay_7, ia_7, mo_7, wo_7, ns_7, np_7, sl_7, hs_7, vp_updL ou 0 r_7.toInt64), rfl, hw, ⟨by rw [ht]; exact hP, va_K.moved hW.alike hK, hD⟩⟩, hS.F ht⟩) hS.2.2 dL_store_24
  · have hPc := hP.sub (ws' := ws_sl a k rd wr ay ia mo wo so oi si mi wi ns nt nf np sl hs) [0, 1, 2, 3, 4, 5, 6, 7, 8, 9, 10, 11] rfl
    have hDc := hD.sub (ws' := ws_sl a k rd wr ay ia mo wo so oi si mi wi ns nt nf np sl hs) [0, 1, 2, 3, 4, 5, 6, 7, 8, 9, 10, 11] (by decide) rfl
    have hKc := hK.sub (tys' := ty_sl k) [0, 1, 2, 3, 4, 5, 6, 7, 8, 9, 10] rfl
    have hFc := va_free (wc := ws_sl a k rd wr ay ia mo wo so oi si mi wi ns nt nf np sl hs) hD hS hA [0, 1, 2, 3, 4, 5, 6, 7, 8, 9, 10, 11] rfl
    refine vx_calli (vx_runV (As := [.int p1, .int p2, .int p3]) (rest := [.int 0, .ref (o 0)]) ⟨hx, hb, hml, hown, hg⟩ (cs_store_x l hl9 dC dI a k sx H.size rd wr ay ia mo wo so oi si mi wi ns nt nf np sl hs p1 p2 p3 E_7 hq_7) (cwV 3 hg (gi_V w_245 w_246 w_247 w_1 w_248) rfl rfl rfl (by decide +kernel) ⟨Nat.le_of_ble_eq_true rfl, Nat.le_of_ble_eq_true rfl⟩) ⟨prx_bl, va_recv hKc hPc (ci := 0) (q0 := 0) rfl rfl, prx_ok hKc hPc hDc hX9 hS hFc⟩ rfl rfl hl.1 rfl (lv_room (Nat.le_of_ble_eq_true rfl)) dL_store_7 ⟨Nat.le_of_ble_eq_true rfl, Nat.le_of_ble_eq_true rfl⟩) hS (fun q _ h => hFc q h) hFc (fun q _ h => hFc q h) (fun E ce q9 u t H1 locs ht hvm hwx hB hz1 hk1 hS hce hcv hcl => ?_) (fun rr u t H1 locs ht hvm hwx hB hz1 hk1 hS => hwx.elim)
    obtain ⟨hE, hB⟩ := hB
    have hE := hE.symm
    subst hE
    obtain ⟨hP1, hK1, hD1⟩ := hB
    rw [ht] at hP1
    obtain ⟨hP, hD⟩ := va_join (wr := ws_ou o j ou) (w1 := ws_sl a k rd wr ay ia mo wo so oi si mi wi ns nt nf np sl hs) hP hD [0, 1, 2, 3, 4, 5, 6, 7, 8, 9, 10, 11] [12] rfl rfl (by decide) (by decide) hk1 hFc hP1 hD1
    have hP := hP.sub (ws' := (ws_sl a k rd wr ay ia mo wo so oi si mi wi ns nt nf np sl hs) ++ (ws_ou o j ou)) [1, 2, 3, 4, 5, 6, 7, 8, 9, 10, 11, 12, 0] rfl
    have hD := hD.sub (ws' := (ws_sl a k rd wr ay ia mo wo so oi si mi wi ns nt nf np sl hs) ++ (ws_ou o j ou)) [1, 2, 3, 4, 5, 6, 7, 8, 9, 10, 11, 12, 0] (by decide) rfl
    generalize H1 = H at hP hS hce ⊢
    have hP : va_P (dC, dI) vwCl ((ws_sl a k rd wr ay ia mo wo so oi si mi wi ns nt nf np sl hs) ++ (ws_ou o j ou)) H := hP
    have hD : va_D A ((ws_sl a k rd wr ay ia mo wo so oi si mi wi ns nt nf np sl hs) ++ (ws_ou o j ou)) := hD
    rcases sl_store_exc hq_7 with rfl | rfl
    · refine vx_catch (own := RL) (name := "java/lang/IllegalStateException") (E := "java/lang/IllegalStateException") hown [⟨0, 12, 15, 13⟩] ⟨0, 12, 19, 15⟩ [] (by rw [hTab]; rfl) (fun z hz => by
          rcases List.mem_cons.mp hz with rfl | hz
          · exact Or.inr ⟨by decide, "java/lang/IndexOutOfBoundsException", (hg _ w_100), hX9.2.2.2.2.2 ("java/lang/IllegalStateException", "java/lang/IndexOutOfBoundsException") (by decide +kernel)⟩
          cases hz) (by decide) (by decide) (hg _ w_101) (va_Nw.use rfl (hX9.2.2.2.1 ("java/lang/IllegalStateException", "java/lang/IllegalStateException") (by decide +kernel))) hce hcv hcl ?_
      refine lv_astore (lv' := [(5, .ref q9), (0, .ref (a 0)), (1, .int p1), (2, .int p2), (3, .int p3), (4, .ref (o 0))]) hx hb dL_store_19 hl (by decide) rfl (fun ls hl => ?_)
      refine lv_iconst (v := 2) hx hb dL_store_21 (by decide) ?_
      refine W.widen (k := 1) (n := 6) (by decide) (by decide) ?_
      have hw : la_store rd wr ay ia mo wo oi ns nf np sl hs ou p1 p2 p3 = (2, rd, wr, ay, ia, mo, wo, ns, np, sl, hs, ou) := by unfold la_store; rw [hq_7]; (try dsimp only); rw [if_pos rfl]; (try rfl)
      exact W.iret (v := 2) hx hb hr (fun t ht hW => ⟨⟨2, (rd, wr, ay, ia, mo, wo, ns, np, sl, hs, ou), rfl, hw, ⟨by rw [ht]; exact hP, va_K.moved hW.alike hK, hD⟩⟩, hS.F ht⟩) hS.2.2 dL_store_22
    · refine vx_catch (own := RL) (name := "java/lang/IndexOutOfBoundsException") (E := "java/lang/IndexOutOfBoundsException") hown [] ⟨0, 12, 15, 13⟩ [⟨0, 12, 19, 15⟩] (by rw [hTab]; rfl) (fun z hz => nomatch hz) (by decide) (by decide) (hg _ w_100) (va_Nw.use rfl (hX9.2.2.2.1 ("java/lang/IndexOutOfBoundsException", "java/lang/IndexOutOfBoundsException") (by decide +kernel))) hce hcv hcl ?_
      refine lv_astore (lv' := [(5, .ref q9), (0, .ref (a 0)), (1, .int p1), (2, .int p2), (3, .int p3), (4, .ref (o 0))]) hx hb dL_store_15 hl (by decide) rfl (fun ls hl => ?_)
      refine lv_iconst (v := 1) hx hb dL_store_17 (by decide) ?_
      refine W.widen (k := 1) (n := 6) (by decide) (by decide) ?_
      have hw : la_store rd wr ay ia mo wo oi ns nf np sl hs ou p1 p2 p3 = (1, rd, wr, ay, ia, mo, wo, ns, np, sl, hs, ou) := by unfold la_store; rw [hq_7]; (try dsimp only); rw [if_neg (by decide)]; (try rfl)
      exact W.iret (v := 1) hx hb hr (fun t ht hW => ⟨⟨1, (rd, wr, ay, ia, mo, wo, ns, np, sl, hs, ou), rfl, hw, ⟨by rw [ht]; exact hP, va_K.moved hW.alike hK, hD⟩⟩, hS.F ht⟩) hS.2.2 dL_store_18
set_option maxHeartbeats 4000000 in
set_option maxRecDepth 100000 in
theorem cl_valid (l : Launch) (hl9 : l.stackTraces = false) (dC : Nat → ClassId) (dI : Nat → Nat → Nat) (a : Nat → Nat) (k : Nat → ClassId) (o : Nat → Nat) (j : Nat → ClassId) (sx : Nat → Nat) (sz : Nat) (rd wr : Nat → Int64) (ay ia mo wo so oi si mi wi : Nat → Int32) (ns nt nf np sl hs : Int32) (ou : Nat → Int64) (p1 p2 : Int32) : Met l yL_valid wsL_valid ({ frames := 8, cells := 1, slots := 6, locals := 132 } : Room) (va_Pc [.ref (a 0), .int p1, .int p2, .ref (o 0)] (prx (dC, dI) ((ws_sl a k rd wr ay ia mo wo so oi si mi wi ns nt nf np sl hs) ++ (ws_ou o j ou)) ((ty_sl k) ++ (ty_ou j)) sz sx)) (va_Qi (fun (r : Int32) (u : (Nat → Int64) × (Nat → Int64) × (Nat → Int32) × (Nat → Int32) × (Nat → Int32) × (Nat → Int32) × Int32 × Int32 × Int32 × Int32 × (Nat → Int64)) => la_valid rd wr ay ia mo wo oi ns nf np sl hs ou p1 = (r, u)) (fun (u : (Nat → Int64) × (Nat → Int64) × (Nat → Int32) × (Nat → Int32) × (Nat → Int32) × (Nat → Int32) × Int32 × Int32 × Int32 × Int32 × (Nat → Int64)) t => match u with | (rd', wr', ay', ia', mo', wo', ns', np', sl', hs', ou') => po (dC, dI) ((ws_sl a k rd' wr' ay' ia' mo' wo' so oi si mi wi ns' nt nf np' sl' hs') ++ (ws_ou o j ou')) ((ty_sl k) ++ (ty_ou j)) (va_A ((ws_sl a k rd wr ay ia mo wo so oi si mi wi ns nt nf np sl hs) ++ (ws_ou o j ou)) sz) t) (va_A ((ws_sl a k rd wr ay ia mo wo so oi si mi wi ns nt nf np sl hs) ++ (ws_ou o j ou)) sz)) 1 6 (va_A ((ws_sl a k rd wr ay ia mo wo so oi si mi wi ns nt nf np sl hs) ++ (ws_ou o j ou)) sz) := by
  refine va_MetW (cc := cL_valid) (maxL := 5) (ret := (some .int)) (by decide) rfl ?_
  intro p e s m args below meth c s₁ B hml hv
  obtain ⟨rfl, ⟨hsz, hP, hK, hD0⟩, hX9⟩ := hv
  have hx := B.exec
  have hb := B.bytes
  have hr := B.returns
  have hts := atoms_spec (ws := wsL_valid) B.pre
  have hg : ∀ w ∈ gw, w.before _ s = true := fun w h => hts w (List.mem_cons_of_mem _ h)
  have hown : s.vm.findClass RL = some m.cls := findClass_of_methodNamed B.named
  have hlocks := B.notSynchronized
  have hTab := vx_table (x := yL_valid) B (hts _ List.mem_cons_self)
  subst hsz
  have hD := hD0.self (sz := s.heap.size)
  generalize hAe : va_A ((ws_sl a k rd wr ay ia mo wo so oi si mi wi ns nt nf np sl hs) ++ (ws_ou o j ou)) s.heap.size = A at hD hX9 ⊢
  have hA : ∀ q : Nat, s.heap.size ≤ q → A q := fun q h => by rw [← hAe]; exact Or.inr h
  clear hAe
  refine w_in (fun H locs eH eL => ?_)
  have hS : va_S A s.heap H locs := by rw [eH, eL]; exact va_S.rf
  have hP : va_P (dC, dI) vwCl ((ws_sl a k rd wr ay ia mo wo so oi si mi wi ns nt nf np sl hs) ++ (ws_ou o j ou)) H := by rw [eH]; exact hP
  clear eH eL
  have hl := lv_entry ([.ref (a 0), .int p1, .int p2, .ref (o 0)]) (n := 5) (Nat.le_of_ble_eq_true rfl)
  rw [lg_entry_eq]
  generalize (lg_sl ([.ref (a 0), .int p1, .int p2, .ref (o 0)]) ++ List.replicate (5 - (lg_sl ([.ref (a 0), .int p1, .int p2, .ref (o 0)])).length) Slot.unset).toArray = ls at hl ⊢
  have hl : lv_has ls 5 [(0, .ref (a 0)), (1, .int p1), (2, .int p2), (3, .ref (o 0))] := hl
  refine lv_aload_n hx hb dL_valid_0 rfl (lv_at hl 3 rfl) ?_
  refine lv_iconst (v := 0) hx hb dL_valid_1 (by decide) ?_
  refine lv_aload_n hx hb dL_valid_2 rfl (lv_at hl 0 rfl) ?_
  refine lv_iload_n hx hb dL_valid_3 rfl (lv_at hl 1 rfl) ?_
  refine lv_iload_n hx hb dL_valid_4 rfl (lv_at hl 2 rfl) ?_
  rcases hq_5 : sl_valid rd wr ay ia mo wo oi ns nf np p1 with ⟨r_5, rd_5, wr_5, ay_5, ia_5, mo_5, wo_5, ns_5, np_5, sl_5, hs_5⟩ | E_5
  · have hPc := hP.sub (ws' := ws_sl a k rd wr ay ia mo wo so oi si mi wi ns nt nf np sl hs) [0, 1, 2, 3, 4, 5, 6, 7, 8, 9, 10, 11] rfl
    have hDc := hD.sub (ws' := ws_sl a k rd wr ay ia mo wo so oi si mi wi ns nt nf np sl hs) [0, 1, 2, 3, 4, 5, 6, 7, 8, 9, 10, 11] (by decide) rfl
    have hKc := hK.sub (tys' := ty_sl k) [0, 1, 2, 3, 4, 5, 6, 7, 8, 9, 10] rfl
    have hFc := va_free (wc := ws_sl a k rd wr ay ia mo wo so oi si mi wi ns nt nf np sl hs) hD hS hA [0, 1, 2, 3, 4, 5, 6, 7, 8, 9, 10, 11] rfl
    refine va_calli (va_runV (As := [.int p1, .int p2]) (rest := [.int 0, .ref (o 0)]) ⟨hx, hb, hml, hown, hg⟩ (cs_valid l dC dI a k H.size rd wr ay ia mo wo so oi si mi wi ns nt nf np sl hs p1 p2 r_5 rd_5 wr_5 ay_5 ia_5 mo_5 wo_5 ns_5 np_5 sl_5 hs_5 hq_5) (cwV 2 hg (gi_V w_252 w_253 w_254 w_1 w_255) rfl rfl rfl (by decide +kernel) ⟨Nat.le_of_ble_eq_true rfl, Nat.le_of_ble_eq_true rfl⟩) ⟨pr_bl, va_recv hKc hPc (ci := 0) (q0 := 0) rfl rfl, pr_ok hKc hPc hDc⟩ rfl rfl hl.1 rfl (lv_room (Nat.le_of_ble_eq_true rfl)) dL_valid_5 ⟨Nat.le_of_ble_eq_true rfl, Nat.le_of_ble_eq_true rfl⟩) hS (fun q _ h => hFc q h) hFc (fun rr u t H1 locs ht hvm hw hB hz1 hk1 hS => ?_)
    have hw := hw.symm
    subst hw
    obtain ⟨hP1, hK1, hD1⟩ := hB
    rw [ht] at hP1
    obtain ⟨hP, hD⟩ := va_join (wr := ws_ou o j ou) (w1 := ws_sl a k rd_5 wr_5 ay_5 ia_5 mo_5 wo_5 so oi si mi wi ns_5 nt nf np_5 sl_5 hs_5) hP hD [0, 1, 2, 3, 4, 5, 6, 7, 8, 9, 10, 11] [12] rfl rfl (by decide) (by decide) hk1 hFc hP1 hD1
    have hP := hP.sub (ws' := (ws_sl a k rd_5 wr_5 ay_5 ia_5 mo_5 wo_5 so oi si mi wi ns_5 nt nf np_5 sl_5 hs_5) ++ (ws_ou o j ou)) [1, 2, 3, 4, 5, 6, 7, 8, 9, 10, 11, 12, 0] rfl
    have hD := hD.sub (ws' := (ws_sl a k rd_5 wr_5 ay_5 ia_5 mo_5 wo_5 so oi si mi wi ns_5 nt nf np_5 sl_5 hs_5) ++ (ws_ou o j ou)) [1, 2, 3, 4, 5, 6, 7, 8, 9, 10, 11, 12, 0] (by decide) rfl
    generalize H1 = H at hP hS ⊢
    have hP : va_P (dC, dI) vwCl ((ws_sl a k rd_5 wr_5 ay_5 ia_5 mo_5 wo_5 so oi si mi wi ns_5 nt nf np_5 sl_5 hs_5) ++ (ws_ou o j ou)) H := hP
    have hD : va_D A ((ws_sl a k rd_5 wr_5 ay_5 ia_5 mo_5 wo_5 so oi si mi wi ns_5 nt nf np_5 sl_5 hs_5) ++ (ws_ou o j ou)) := hD
    refine lv_i2l hx hb dL_valid_8 rfl ?_
    refine va_last hx hb hK hP hD hS 12 11 rfl rfl (ix_k (by decide)) dL_valid_9 (fun H locs hP hD hS => ?_)
    have hP : va_P (dC, dI) vwCl ((ws_sl a k rd_5 wr_5 ay_5 ia_5 mo_5 wo_5 so oi si mi wi ns_5 nt nf np_5 sl_5 hs_5) ++ (ws_ou o j (vp_updL ou 0 r_5.toInt64))) H := hP
    have hD : va_D A ((ws_sl a k rd_5 wr_5 ay_5 ia_5 mo_5 wo_5 so oi si mi wi ns_5 nt nf np_5 sl_5 hs_5) ++ (ws_ou o j (vp_updL ou 0 r_5.toInt64))) := hD
    refine lv_goto (tgt := 21) hx hb dL_valid_10 (by decide) ?_
    refine lv_iconst (v := 0) hx hb dL_valid_21 (by decide) ?_
    refine W.widen (k := 1) (n := 6) (by decide) (by decide) ?_
    have hw : la_valid rd wr ay ia mo wo oi ns nf np sl hs ou p1 = (0, rd_5, wr_5, ay_5, ia_5, mo_5, wo_5, ns_5, np_5, sl_5, hs_5, vp_updL ou 0 r_5.toInt64) := by unfold la_valid; rw [hq_5]; (try dsimp only); (try rfl)
    exact W.iret (v := 0) hx hb hr (fun t ht hW => ⟨⟨0, (rd_5, wr_5, ay_5, ia_5, mo_5, wo_5, ns_5, np_5, sl_5, hs_5, vp_updL ou 0 r_5.toInt64), rfl, hw, ⟨by rw [ht]; exact hP, va_K.moved hW.alike hK, hD⟩⟩, hS.F ht⟩) hS.2.2 dL_valid_22
  · have hPc := hP.sub (ws' := ws_sl a k rd wr ay ia mo wo so oi si mi wi ns nt nf np sl hs) [0, 1, 2, 3, 4, 5, 6, 7, 8, 9, 10, 11] rfl
    have hDc := hD.sub (ws' := ws_sl a k rd wr ay ia mo wo so oi si mi wi ns nt nf np sl hs) [0, 1, 2, 3, 4, 5, 6, 7, 8, 9, 10, 11] (by decide) rfl
    have hKc := hK.sub (tys' := ty_sl k) [0, 1, 2, 3, 4, 5, 6, 7, 8, 9, 10] rfl
    have hFc := va_free (wc := ws_sl a k rd wr ay ia mo wo so oi si mi wi ns nt nf np sl hs) hD hS hA [0, 1, 2, 3, 4, 5, 6, 7, 8, 9, 10, 11] rfl
    refine vx_calli (vx_runV (As := [.int p1, .int p2]) (rest := [.int 0, .ref (o 0)]) ⟨hx, hb, hml, hown, hg⟩ (cs_valid_x l hl9 dC dI a k sx H.size rd wr ay ia mo wo so oi si mi wi ns nt nf np sl hs p1 p2 E_5 hq_5) (cwV 2 hg (gi_V w_252 w_253 w_254 w_1 w_255) rfl rfl rfl (by decide +kernel) ⟨Nat.le_of_ble_eq_true rfl, Nat.le_of_ble_eq_true rfl⟩) ⟨prx_bl, va_recv hKc hPc (ci := 0) (q0 := 0) rfl rfl, prx_ok hKc hPc hDc hX9 hS hFc⟩ rfl rfl hl.1 rfl (lv_room (Nat.le_of_ble_eq_true rfl)) dL_valid_5 ⟨Nat.le_of_ble_eq_true rfl, Nat.le_of_ble_eq_true rfl⟩) hS (fun q _ h => hFc q h) hFc (fun q _ h => hFc q h) (fun E ce q9 u t H1 locs ht hvm hwx hB hz1 hk1 hS hce hcv hcl => ?_) (fun rr u t H1 locs ht hvm hwx hB hz1 hk1 hS => hwx.elim)
    obtain ⟨hE, hB⟩ := hB
    have hE := hE.symm
    subst hE
    obtain ⟨hP1, hK1, hD1⟩ := hB
    rw [ht] at hP1
    obtain ⟨hP, hD⟩ := va_join (wr := ws_ou o j ou) (w1 := ws_sl a k rd wr ay ia mo wo so oi si mi wi ns nt nf np sl hs) hP hD [0, 1, 2, 3, 4, 5, 6, 7, 8, 9, 10, 11] [12] rfl rfl (by decide) (by decide) hk1 hFc hP1 hD1
    have hP := hP.sub (ws' := (ws_sl a k rd wr ay ia mo wo so oi si mi wi ns nt nf np sl hs) ++ (ws_ou o j ou)) [1, 2, 3, 4, 5, 6, 7, 8, 9, 10, 11, 12, 0] rfl
    have hD := hD.sub (ws' := (ws_sl a k rd wr ay ia mo wo so oi si mi wi ns nt nf np sl hs) ++ (ws_ou o j ou)) [1, 2, 3, 4, 5, 6, 7, 8, 9, 10, 11, 12, 0] (by decide) rfl
    generalize H1 = H at hP hS hce ⊢
    have hP : va_P (dC, dI) vwCl ((ws_sl a k rd wr ay ia mo wo so oi si mi wi ns nt nf np sl hs) ++ (ws_ou o j ou)) H := hP
    have hD : va_D A ((ws_sl a k rd wr ay ia mo wo so oi si mi wi ns nt nf np sl hs) ++ (ws_ou o j ou)) := hD
    rcases sl_valid_exc hq_5 with rfl | rfl
    · refine vx_catch (own := RL) (name := "java/lang/IllegalStateException") (E := "java/lang/IllegalStateException") hown [⟨0, 10, 13, 13⟩] ⟨0, 10, 17, 15⟩ [] (by rw [hTab]; rfl) (fun z hz => by
          rcases List.mem_cons.mp hz with rfl | hz
          · exact Or.inr ⟨by decide, "java/lang/IndexOutOfBoundsException", (hg _ w_100), hX9.2.2.2.2.2 ("java/lang/IllegalStateException", "java/lang/IndexOutOfBoundsException") (by decide +kernel)⟩
          cases hz) (by decide) (by decide) (hg _ w_101) (va_Nw.use rfl (hX9.2.2.2.1 ("java/lang/IllegalStateException", "java/lang/IllegalStateException") (by decide +kernel))) hce hcv hcl ?_
      refine lv_astore (lv' := [(4, .ref q9), (0, .ref (a 0)), (1, .int p1), (2, .int p2), (3, .ref (o 0))]) hx hb dL_valid_17 hl (by decide) rfl (fun ls hl => ?_)
      refine lv_iconst (v := 2) hx hb dL_valid_19 (by decide) ?_
      refine W.widen (k := 1) (n := 6) (by decide) (by decide) ?_
      have hw : la_valid rd wr ay ia mo wo oi ns nf np sl hs ou p1 = (2, rd, wr, ay, ia, mo, wo, ns, np, sl, hs, ou) := by unfold la_valid; rw [hq_5]; (try dsimp only); rw [if_pos rfl]; (try rfl)
      exact W.iret (v := 2) hx hb hr (fun t ht hW => ⟨⟨2, (rd, wr, ay, ia, mo, wo, ns, np, sl, hs, ou), rfl, hw, ⟨by rw [ht]; exact hP, va_K.moved hW.alike hK, hD⟩⟩, hS.F ht⟩) hS.2.2 dL_valid_20
    · refine vx_catch (own := RL) (name := "java/lang/IndexOutOfBoundsException") (E := "java/lang/IndexOutOfBoundsException") hown [] ⟨0, 10, 13, 13⟩ [⟨0, 10, 17, 15⟩] (by rw [hTab]; rfl) (fun z hz => nomatch hz) (by decide) (by decide) (hg _ w_100) (va_Nw.use rfl (hX9.2.2.2.1 ("java/lang/IndexOutOfBoundsException", "java/lang/IndexOutOfBoundsException") (by decide +kernel))) hce hcv hcl ?_
      refine lv_astore (lv' := [(4, .ref q9), (0, .ref (a 0)), (1, .int p1), (2, .int p2), (3, .ref (o 0))]) hx hb dL_valid_13 hl (by decide) rfl (fun ls hl => ?_)
      refine lv_iconst (v := 1) hx hb dL_valid_15 (by decide) ?_
      refine W.widen (k := 1) (n := 6) (by decide) (by decide) ?_
      have hw : la_valid rd wr ay ia mo wo oi ns nf np sl hs ou p1 = (1, rd, wr, ay, ia, mo, wo, ns, np, sl, hs, ou) := by unfold la_valid; rw [hq_5]; (try dsimp only); rw [if_neg (by decide)]; (try rfl)
      exact W.iret (v := 1) hx hb hr (fun t ht hW => ⟨⟨1, (rd, wr, ay, ia, mo, wo, ns, np, sl, hs, ou), rfl, hw, ⟨by rw [ht]; exact hP, va_K.moved hW.alike hK, hD⟩⟩, hS.F ht⟩) hS.2.2 dL_valid_16
set_option maxHeartbeats 4000000 in
set_option maxRecDepth 100000 in
theorem cl_drop (l : Launch) (hl9 : l.stackTraces = false) (dC : Nat → ClassId) (dI : Nat → Nat → Nat) (a : Nat → Nat) (k : Nat → ClassId) (o : Nat → Nat) (j : Nat → ClassId) (sx : Nat → Nat) (sz : Nat) (rd wr : Nat → Int64) (ay ia mo wo so oi si mi wi : Nat → Int32) (ns nt nf np sl hs : Int32) (ou : Nat → Int64)  : Met l yL_drop wsL_drop ({ frames := 8, cells := 1, slots := 6, locals := 129 } : Room) (va_Pc [.ref (a 0), .ref (o 0)] (prx (dC, dI) ((ws_sl a k rd wr ay ia mo wo so oi si mi wi ns nt nf np sl hs) ++ (ws_ou o j ou)) ((ty_sl k) ++ (ty_ou j)) sz sx)) (va_Qi (fun (r : Int32) (u : (Nat → Int64) × (Nat → Int64) × (Nat → Int32) × (Nat → Int32) × (Nat → Int32) × (Nat → Int32) × Int32 × Int32 × Int32 × Int32 × (Nat → Int64)) => la_drop rd wr ay ia mo wo oi ns nf np sl hs ou = (r, u)) (fun (u : (Nat → Int64) × (Nat → Int64) × (Nat → Int32) × (Nat → Int32) × (Nat → Int32) × (Nat → Int32) × Int32 × Int32 × Int32 × Int32 × (Nat → Int64)) t => match u with | (rd', wr', ay', ia', mo', wo', ns', np', sl', hs', ou') => po (dC, dI) ((ws_sl a k rd' wr' ay' ia' mo' wo' so oi si mi wi ns' nt nf np' sl' hs') ++ (ws_ou o j ou')) ((ty_sl k) ++ (ty_ou j)) (va_A ((ws_sl a k rd wr ay ia mo wo so oi si mi wi ns nt nf np sl hs) ++ (ws_ou o j ou)) sz) t) (va_A ((ws_sl a k rd wr ay ia mo wo so oi si mi wi ns nt nf np sl hs) ++ (ws_ou o j ou)) sz)) 1 6 (va_A ((ws_sl a k rd wr ay ia mo wo so oi si mi wi ns nt nf np sl hs) ++ (ws_ou o j ou)) sz) := by
  refine va_MetW (cc := cL_drop) (maxL := 3) (ret := (some .int)) (by decide) rfl ?_
  intro p e s m args below meth c s₁ B hml hv
  obtain ⟨rfl, ⟨hsz, hP, hK, hD0⟩, hX9⟩ := hv
  have hx := B.exec
  have hb := B.bytes
  have hr := B.returns
  have hts := atoms_spec (ws := wsL_drop) B.pre
  have hg : ∀ w ∈ gw, w.before _ s = true := fun w h => hts w (List.mem_cons_of_mem _ h)
  have hown : s.vm.findClass RL = some m.cls := findClass_of_methodNamed B.named
  have hlocks := B.notSynchronized
  have hTab := vx_table (x := yL_drop) B (hts _ List.mem_cons_self)
  subst hsz
  have hD := hD0.self (sz := s.heap.size)
  generalize hAe : va_A ((ws_sl a k rd wr ay ia mo wo so oi si mi wi ns nt nf np sl hs) ++ (ws_ou o j ou)) s.heap.size = A at hD hX9 ⊢
  have hA : ∀ q : Nat, s.heap.size ≤ q → A q := fun q h => by rw [← hAe]; exact Or.inr h
  clear hAe
  refine w_in (fun H locs eH eL => ?_)
  have hS : va_S A s.heap H locs := by rw [eH, eL]; exact va_S.rf
  have hP : va_P (dC, dI) vwCl ((ws_sl a k rd wr ay ia mo wo so oi si mi wi ns nt nf np sl hs) ++ (ws_ou o j ou)) H := by rw [eH]; exact hP
  clear eH eL
  have hl := lv_entry ([.ref (a 0), .ref (o 0)]) (n := 3) (Nat.le_of_ble_eq_true rfl)
  rw [lg_entry_eq]
  generalize (lg_sl ([.ref (a 0), .ref (o 0)]) ++ List.replicate (3 - (lg_sl ([.ref (a 0), .ref (o 0)])).length) Slot.unset).toArray = ls at hl ⊢
  have hl : lv_has ls 3 [(0, .ref (a 0)), (1, .ref (o 0))] := hl
  refine lv_aload_n hx hb dL_drop_0 rfl (lv_at hl 1 rfl) ?_
  refine lv_iconst (v := 0) hx hb dL_drop_1 (by decide) ?_
  refine lv_aload_n hx hb dL_drop_2 rfl (lv_at hl 0 rfl) ?_
  rcases hq_3 : sl_drop rd wr ay ia mo wo oi ns nf np with ⟨r_3, rd_3, wr_3, ay_3, ia_3, mo_3, wo_3, ns_3, np_3, sl_3, hs_3⟩ | E_3
  · have hPc := hP.sub (ws' := ws_sl a k rd wr ay ia mo wo so oi si mi wi ns nt nf np sl hs) [0, 1, 2, 3, 4, 5, 6, 7, 8, 9, 10, 11] rfl
    have hDc := hD.sub (ws' := ws_sl a k rd wr ay ia mo wo so oi si mi wi ns nt nf np sl hs) [0, 1, 2, 3, 4, 5, 6, 7, 8, 9, 10, 11] (by decide) rfl
    have hKc := hK.sub (tys' := ty_sl k) [0, 1, 2, 3, 4, 5, 6, 7, 8, 9, 10] rfl
    have hFc := va_free (wc := ws_sl a k rd wr ay ia mo wo so oi si mi wi ns nt nf np sl hs) hD hS hA [0, 1, 2, 3, 4, 5, 6, 7, 8, 9, 10, 11] rfl
    refine va_calli (va_runV (As := []) (rest := [.int 0, .ref (o 0)]) ⟨hx, hb, hml, hown, hg⟩ (cs_drop l dC dI a k H.size rd wr ay ia mo wo so oi si mi wi ns nt nf np sl hs r_3 rd_3 wr_3 ay_3 ia_3 mo_3 wo_3 ns_3 np_3 sl_3 hs_3 hq_3) (cwV 0 hg (gi_V w_260 w_261 w_262 w_1 w_263) rfl rfl rfl (by decide +kernel) ⟨Nat.le_of_ble_eq_true rfl, Nat.le_of_ble_eq_true rfl⟩) ⟨pr_bl, va_recv hKc hPc (ci := 0) (q0 := 0) rfl rfl, pr_ok hKc hPc hDc⟩ rfl rfl hl.1 rfl (lv_room (Nat.le_of_ble_eq_true rfl)) dL_drop_3 ⟨Nat.le_of_ble_eq_true rfl, Nat.le_of_ble_eq_true rfl⟩) hS (fun q _ h => hFc q h) hFc (fun rr u t H1 locs ht hvm hw hB hz1 hk1 hS => ?_)
    have hw := hw.symm
    subst hw
    obtain ⟨hP1, hK1, hD1⟩ := hB
    rw [ht] at hP1
    obtain ⟨hP, hD⟩ := va_join (wr := ws_ou o j ou) (w1 := ws_sl a k rd_3 wr_3 ay_3 ia_3 mo_3 wo_3 so oi si mi wi ns_3 nt nf np_3 sl_3 hs_3) hP hD [0, 1, 2, 3, 4, 5, 6, 7, 8, 9, 10, 11] [12] rfl rfl (by decide) (by decide) hk1 hFc hP1 hD1
    have hP := hP.sub (ws' := (ws_sl a k rd_3 wr_3 ay_3 ia_3 mo_3 wo_3 so oi si mi wi ns_3 nt nf np_3 sl_3 hs_3) ++ (ws_ou o j ou)) [1, 2, 3, 4, 5, 6, 7, 8, 9, 10, 11, 12, 0] rfl
    have hD := hD.sub (ws' := (ws_sl a k rd_3 wr_3 ay_3 ia_3 mo_3 wo_3 so oi si mi wi ns_3 nt nf np_3 sl_3 hs_3) ++ (ws_ou o j ou)) [1, 2, 3, 4, 5, 6, 7, 8, 9, 10, 11, 12, 0] (by decide) rfl
    generalize H1 = H at hP hS ⊢
    have hP : va_P (dC, dI) vwCl ((ws_sl a k rd_3 wr_3 ay_3 ia_3 mo_3 wo_3 so oi si mi wi ns_3 nt nf np_3 sl_3 hs_3) ++ (ws_ou o j ou)) H := hP
    have hD : va_D A ((ws_sl a k rd_3 wr_3 ay_3 ia_3 mo_3 wo_3 so oi si mi wi ns_3 nt nf np_3 sl_3 hs_3) ++ (ws_ou o j ou)) := hD
    refine lv_i2l hx hb dL_drop_6 rfl ?_
    refine va_last hx hb hK hP hD hS 12 11 rfl rfl (ix_k (by decide)) dL_drop_7 (fun H locs hP hD hS => ?_)
    have hP : va_P (dC, dI) vwCl ((ws_sl a k rd_3 wr_3 ay_3 ia_3 mo_3 wo_3 so oi si mi wi ns_3 nt nf np_3 sl_3 hs_3) ++ (ws_ou o j (vp_updL ou 0 r_3.toInt64))) H := hP
    have hD : va_D A ((ws_sl a k rd_3 wr_3 ay_3 ia_3 mo_3 wo_3 so oi si mi wi ns_3 nt nf np_3 sl_3 hs_3) ++ (ws_ou o j (vp_updL ou 0 r_3.toInt64))) := hD
    refine lv_goto (tgt := 14) hx hb dL_drop_8 (by decide) ?_
    refine lv_iconst (v := 0) hx hb dL_drop_14 (by decide) ?_
    refine W.widen (k := 1) (n := 6) (by decide) (by decide) ?_
    have hw : la_drop rd wr ay ia mo wo oi ns nf np sl hs ou = (0, rd_3, wr_3, ay_3, ia_3, mo_3, wo_3, ns_3, np_3, sl_3, hs_3, vp_updL ou 0 r_3.toInt64) := by unfold la_drop; rw [hq_3]; (try dsimp only); (try rfl)
    exact W.iret (v := 0) hx hb hr (fun t ht hW => ⟨⟨0, (rd_3, wr_3, ay_3, ia_3, mo_3, wo_3, ns_3, np_3, sl_3, hs_3, vp_updL ou 0 r_3.toInt64), rfl, hw, ⟨by rw [ht]; exact hP, va_K.moved hW.alike hK, hD⟩⟩, hS.F ht⟩) hS.2.2 dL_drop_15
  · have hPc := hP.sub (ws' := ws_sl a k rd wr ay ia mo wo so oi si mi wi ns nt nf np sl hs) [0, 1, 2, 3, 4, 5, 6, 7, 8, 9, 10, 11] rfl
    have hDc := hD.sub (ws' := ws_sl a k rd wr ay ia mo wo so oi si mi wi ns nt nf np sl hs) [0, 1, 2, 3, 4, 5, 6, 7, 8, 9, 10, 11] (by decide) rfl
    have hKc := hK.sub (tys' := ty_sl k) [0, 1, 2, 3, 4, 5, 6, 7, 8, 9, 10] rfl
    have hFc := va_free (wc := ws_sl a k rd wr ay ia mo wo so oi si mi wi ns nt nf np sl hs) hD hS hA [0, 1, 2, 3, 4, 5, 6, 7, 8, 9, 10, 11] rfl
    refine vx_calli (vx_runV (As := []) (rest := [.int 0, .ref (o 0)]) ⟨hx, hb, hml, hown, hg⟩ (cs_drop_x l hl9 dC dI a k sx H.size rd wr ay ia mo wo so oi si mi wi ns nt nf np sl hs E_3 hq_3) (cwV 0 hg (gi_V w_260 w_261 w_262 w_1 w_263) rfl rfl rfl (by decide +kernel) ⟨Nat.le_of_ble_eq_true rfl, Nat.le_of_ble_eq_true rfl⟩) ⟨prx_bl, va_recv hKc hPc (ci := 0) (q0 := 0) rfl rfl, prx_ok hKc hPc hDc hX9 hS hFc⟩ rfl rfl hl.1 rfl (lv_room (Nat.le_of_ble_eq_true rfl)) dL_drop_3 ⟨Nat.le_of_ble_eq_true rfl, Nat.le_of_ble_eq_true rfl⟩) hS (fun q _ h => hFc q h) hFc (fun q _ h => hFc q h) (fun E ce q9 u t H1 locs ht hvm hwx hB hz1 hk1 hS hce hcv hcl => ?_) (fun rr u t H1 locs ht hvm hwx hB hz1 hk1 hS => hwx.elim)
    obtain ⟨hE, hB⟩ := hB
    have hE := hE.symm
    subst hE
    obtain ⟨hP1, hK1, hD1⟩ := hB
    rw [ht] at hP1
    obtain ⟨hP, hD⟩ := va_join (wr := ws_ou o j ou) (w1 := ws_sl a k rd wr ay ia mo wo so oi si mi wi ns nt nf np sl hs) hP hD [0, 1, 2, 3, 4, 5, 6, 7, 8, 9, 10, 11] [12] rfl rfl (by decide) (by decide) hk1 hFc hP1 hD1
    have hP := hP.sub (ws' := (ws_sl a k rd wr ay ia mo wo so oi si mi wi ns nt nf np sl hs) ++ (ws_ou o j ou)) [1, 2, 3, 4, 5, 6, 7, 8, 9, 10, 11, 12, 0] rfl
    have hD := hD.sub (ws' := (ws_sl a k rd wr ay ia mo wo so oi si mi wi ns nt nf np sl hs) ++ (ws_ou o j ou)) [1, 2, 3, 4, 5, 6, 7, 8, 9, 10, 11, 12, 0] (by decide) rfl
    generalize H1 = H at hP hS hce ⊢
    have hP : va_P (dC, dI) vwCl ((ws_sl a k rd wr ay ia mo wo so oi si mi wi ns nt nf np sl hs) ++ (ws_ou o j ou)) H := hP
    have hD : va_D A ((ws_sl a k rd wr ay ia mo wo so oi si mi wi ns nt nf np sl hs) ++ (ws_ou o j ou)) := hD
    obtain rfl := sl_drop_exc hq_3
    refine vx_catch (own := RL) (name := "java/lang/IllegalStateException") (E := "java/lang/IllegalStateException") hown [] ⟨0, 8, 11, 15⟩ [] (by rw [hTab]; rfl) (fun z hz => nomatch hz) (by decide) (by decide) (hg _ w_101) (va_Nw.use rfl (hX9.2.2.2.1 ("java/lang/IllegalStateException", "java/lang/IllegalStateException") (by decide +kernel))) hce hcv hcl ?_
    refine lv_astore_n (lv' := [(2, .ref q9), (0, .ref (a 0)), (1, .ref (o 0))]) hx hb dL_drop_11 rfl hl (by decide) rfl (fun ls hl => ?_)
    refine lv_iconst (v := 1) hx hb dL_drop_12 (by decide) ?_
    refine W.widen (k := 1) (n := 6) (by decide) (by decide) ?_
    have hw : la_drop rd wr ay ia mo wo oi ns nf np sl hs ou = (1, rd, wr, ay, ia, mo, wo, ns, np, sl, hs, ou) := by unfold la_drop; rw [hq_3]; (try dsimp only); (try rfl)
    exact W.iret (v := 1) hx hb hr (fun t ht hW => ⟨⟨1, (rd, wr, ay, ia, mo, wo, ns, np, sl, hs, ou), rfl, hw, ⟨by rw [ht]; exact hP, va_K.moved hW.alike hK, hD⟩⟩, hS.F ht⟩) hS.2.2 dL_drop_13
set_option maxHeartbeats 4000000 in
set_option maxRecDepth 100000 in
theorem cl_open (l : Launch) (hl9 : l.stackTraces = false) (dC : Nat → ClassId) (dI : Nat → Nat → Nat) (a : Nat → Nat) (k : Nat → ClassId) (o : Nat → Nat) (j : Nat → ClassId) (sx : Nat → Nat) (sz : Nat) (rd wr : Nat → Int64) (ay ia mo wo so oi si mi wi : Nat → Int32) (ns nt nf np sl hs : Int32) (ou : Nat → Int64) (p1 : Int32) : Met l yL_open wsL_open ({ frames := 8, cells := 1, slots := 6, locals := 131 } : Room) (va_Pc [.ref (a 0), .int p1, .ref (o 0)] (prx (dC, dI) ((ws_sl a k rd wr ay ia mo wo so oi si mi wi ns nt nf np sl hs) ++ (ws_ou o j ou)) ((ty_sl k) ++ (ty_ou j)) sz sx)) (va_Qi (fun (r : Int32) (u : (Nat → Int64) × (Nat → Int64) × (Nat → Int32) × (Nat → Int32) × (Nat → Int32) × (Nat → Int32) × (Nat → Int32) × Int32 × Int32 × Int32 × Int32 × Int32 × (Nat → Int64)) => la_open rd wr ay ia mo wo oi ns nf np sl hs ou p1 = (r, u)) (fun (u : (Nat → Int64) × (Nat → Int64) × (Nat → Int32) × (Nat → Int32) × (Nat → Int32) × (Nat → Int32) × (Nat → Int32) × Int32 × Int32 × Int32 × Int32 × Int32 × (Nat → Int64)) t => match u with | (rd', wr', ay', ia', mo', wo', oi', ns', nf', np', sl', hs', ou') => po (dC, dI) ((ws_sl a k rd' wr' ay' ia' mo' wo' so oi' si mi wi ns' nt nf' np' sl' hs') ++ (ws_ou o j ou')) ((ty_sl k) ++ (ty_ou j)) (va_A ((ws_sl a k rd wr ay ia mo wo so oi si mi wi ns nt nf np sl hs) ++ (ws_ou o j ou)) sz) t) (va_A ((ws_sl a k rd wr ay ia mo wo so oi si mi wi ns nt nf np sl hs) ++ (ws_ou o j ou)) sz)) 1 6 (va_A ((ws_sl a k rd wr ay ia mo wo so oi si mi wi ns nt nf np sl hs) ++ (ws_ou o j ou)) sz) := by
  refine va_MetW (cc := cL_open) (maxL := 4) (ret := (some .int)) (by decide) rfl ?_
  intro p e s m args below meth c s₁ B hml hv
  obtain ⟨rfl, ⟨hsz, hP, hK, hD0⟩, hX9⟩ := hv
  have hx := B.exec
  have hb := B.bytes
  have hr := B.returns
  have hts := atoms_spec (ws := wsL_open) B.pre
  have hg : ∀ w ∈ gw, w.before _ s = true := fun w h => hts w (List.mem_cons_of_mem _ h)
  have hown : s.vm.findClass RL = some m.cls := findClass_of_methodNamed B.named
  have hlocks := B.notSynchronized
  have hTab := vx_table (x := yL_open) B (hts _ List.mem_cons_self)
  subst hsz
  have hD := hD0.self (sz := s.heap.size)
  generalize hAe : va_A ((ws_sl a k rd wr ay ia mo wo so oi si mi wi ns nt nf np sl hs) ++ (ws_ou o j ou)) s.heap.size = A at hD hX9 ⊢
  have hA : ∀ q : Nat, s.heap.size ≤ q → A q := fun q h => by rw [← hAe]; exact Or.inr h
  clear hAe
  refine w_in (fun H locs eH eL => ?_)
  have hS : va_S A s.heap H locs := by rw [eH, eL]; exact va_S.rf
  have hP : va_P (dC, dI) vwCl ((ws_sl a k rd wr ay ia mo wo so oi si mi wi ns nt nf np sl hs) ++ (ws_ou o j ou)) H := by rw [eH]; exact hP
  clear eH eL
  have hl := lv_entry ([.ref (a 0), .int p1, .ref (o 0)]) (n := 4) (Nat.le_of_ble_eq_true rfl)
  rw [lg_entry_eq]
  generalize (lg_sl ([.ref (a 0), .int p1, .ref (o 0)]) ++ List.replicate (4 - (lg_sl ([.ref (a 0), .int p1, .ref (o 0)])).length) Slot.unset).toArray = ls at hl ⊢
  have hl : lv_has ls 4 [(0, .ref (a 0)), (1, .int p1), (2, .ref (o 0))] := hl
  refine lv_aload_n hx hb dL_open_0 rfl (lv_at hl 2 rfl) ?_
  refine lv_iconst (v := 0) hx hb dL_open_1 (by decide) ?_
  refine lv_aload_n hx hb dL_open_2 rfl (lv_at hl 0 rfl) ?_
  refine lv_iload_n hx hb dL_open_3 rfl (lv_at hl 1 rfl) ?_
  rcases hq_4 : sl_open rd wr ay ia mo wo oi ns nf np p1 with ⟨r_4, rd_4, wr_4, ay_4, ia_4, mo_4, wo_4, oi_4, ns_4, nf_4, np_4, sl_4, hs_4⟩ | E_4
  · have hPc := hP.sub (ws' := ws_sl a k rd wr ay ia mo wo so oi si mi wi ns nt nf np sl hs) [0, 1, 2, 3, 4, 5, 6, 7, 8, 9, 10, 11] rfl
    have hDc := hD.sub (ws' := ws_sl a k rd wr ay ia mo wo so oi si mi wi ns nt nf np sl hs) [0, 1, 2, 3, 4, 5, 6, 7, 8, 9, 10, 11] (by decide) rfl
    have hKc := hK.sub (tys' := ty_sl k) [0, 1, 2, 3, 4, 5, 6, 7, 8, 9, 10] rfl
    have hFc := va_free (wc := ws_sl a k rd wr ay ia mo wo so oi si mi wi ns nt nf np sl hs) hD hS hA [0, 1, 2, 3, 4, 5, 6, 7, 8, 9, 10, 11] rfl
    refine va_calli (va_runV (As := [.int p1]) (rest := [.int 0, .ref (o 0)]) ⟨hx, hb, hml, hown, hg⟩ (cs_open l dC dI a k H.size rd wr ay ia mo wo so oi si mi wi ns nt nf np sl hs p1 r_4 rd_4 wr_4 ay_4 ia_4 mo_4 wo_4 oi_4 ns_4 nf_4 np_4 sl_4 hs_4 hq_4) (cwV 1 hg (gi_V w_268 w_269 w_270 w_1 w_271) rfl rfl rfl (by decide +kernel) ⟨Nat.le_of_ble_eq_true rfl, Nat.le_of_ble_eq_true rfl⟩) ⟨pr_bl, va_recv hKc hPc (ci := 0) (q0 := 0) rfl rfl, pr_ok hKc hPc hDc⟩ rfl rfl hl.1 rfl (lv_room (Nat.le_of_ble_eq_true rfl)) dL_open_4 ⟨Nat.le_of_ble_eq_true rfl, Nat.le_of_ble_eq_true rfl⟩) hS (fun q _ h => hFc q h) hFc (fun rr u t H1 locs ht hvm hw hB hz1 hk1 hS => ?_)
    have hw := hw.symm
    subst hw
    obtain ⟨hP1, hK1, hD1⟩ := hB
    rw [ht] at hP1
    obtain ⟨hP, hD⟩ := va_join (wr := ws_ou o j ou) (w1 := ws_sl a k rd_4 wr_4 ay_4 ia_4 mo_4 wo_4 so oi_4 si mi wi ns_4 nt nf_4 np_4 sl_4 hs_4) hP hD [0, 1, 2, 3, 4, 5, 6, 7, 8, 9, 10, 11] [12] rfl rfl (by decide) (by decide) hk1 hFc hP1 hD1
    have hP := hP.sub (ws' := (ws_sl a k rd_4 wr_4 ay_4 ia_4 mo_4 wo_4 so oi_4 si mi wi ns_4 nt nf_4 np_4 sl_4 hs_4) ++ (ws_ou o j ou)) [1, 2, 3, 4, 5, 6, 7, 8, 9, 10, 11, 12, 0] rfl
    have hD := hD.sub (ws' := (ws_sl a k rd_4 wr_4 ay_4 ia_4 mo_4 wo_4 so oi_4 si mi wi ns_4 nt nf_4 np_4 sl_4 hs_4) ++ (ws_ou o j ou)) [1, 2, 3, 4, 5, 6, 7, 8, 9, 10, 11, 12, 0] (by decide) rfl
    generalize H1 = H at hP hS ⊢
    have hP : va_P (dC, dI) vwCl ((ws_sl a k rd_4 wr_4 ay_4 ia_4 mo_4 wo_4 so oi_4 si mi wi ns_4 nt nf_4 np_4 sl_4 hs_4) ++ (ws_ou o j ou)) H := hP
    have hD : va_D A ((ws_sl a k rd_4 wr_4 ay_4 ia_4 mo_4 wo_4 so oi_4 si mi wi ns_4 nt nf_4 np_4 sl_4 hs_4) ++ (ws_ou o j ou)) := hD
    refine lv_i2l hx hb dL_open_7 rfl ?_
    refine va_last hx hb hK hP hD hS 12 11 rfl rfl (ix_k (by decide)) dL_open_8 (fun H locs hP hD hS => ?_)
    have hP : va_P (dC, dI) vwCl ((ws_sl a k rd_4 wr_4 ay_4 ia_4 mo_4 wo_4 so oi_4 si mi wi ns_4 nt nf_4 np_4 sl_4 hs_4) ++ (ws_ou o j (vp_updL ou 0 r_4.toInt64))) H := hP
    have hD : va_D A ((ws_sl a k rd_4 wr_4 ay_4 ia_4 mo_4 wo_4 so oi_4 si mi wi ns_4 nt nf_4 np_4 sl_4 hs_4) ++ (ws_ou o j (vp_updL ou 0 r_4.toInt64))) := hD
    refine lv_goto (tgt := 18) hx hb dL_open_9 (by decide) ?_
    refine lv_iconst (v := 0) hx hb dL_open_18 (by decide) ?_
    refine W.widen (k := 1) (n := 6) (by decide) (by decide) ?_
    have hw : la_open rd wr ay ia mo wo oi ns nf np sl hs ou p1 = (0, rd_4, wr_4, ay_4, ia_4, mo_4, wo_4, oi_4, ns_4, nf_4, np_4, sl_4, hs_4, vp_updL ou 0 r_4.toInt64) := by unfold la_open; rw [hq_4]; (try dsimp only); (try rfl)
    exact W.iret (v := 0) hx hb hr (fun t ht hW => ⟨⟨0, (rd_4, wr_4, ay_4, ia_4, mo_4, wo_4, oi_4, ns_4, nf_4, np_4, sl_4, hs_4, vp_updL ou 0 r_4.toInt64), rfl, hw, ⟨by rw [ht]; exact hP, va_K.moved hW.alike hK, hD⟩⟩, hS.F ht⟩) hS.2.2 dL_open_19
  · have hPc := hP.sub (ws' := ws_sl a k rd wr ay ia mo wo so oi si mi wi ns nt nf np sl hs) [0, 1, 2, 3, 4, 5, 6, 7, 8, 9, 10, 11] rfl
    have hDc := hD.sub (ws' := ws_sl a k rd wr ay ia mo wo so oi si mi wi ns nt nf np sl hs) [0, 1, 2, 3, 4, 5, 6, 7, 8, 9, 10, 11] (by decide) rfl
    have hKc := hK.sub (tys' := ty_sl k) [0, 1, 2, 3, 4, 5, 6, 7, 8, 9, 10] rfl
    have hFc := va_free (wc := ws_sl a k rd wr ay ia mo wo so oi si mi wi ns nt nf np sl hs) hD hS hA [0, 1, 2, 3, 4, 5, 6, 7, 8, 9, 10, 11] rfl
    refine vx_calli (vx_runV (As := [.int p1]) (rest := [.int 0, .ref (o 0)]) ⟨hx, hb, hml, hown, hg⟩ (cs_open_x l hl9 dC dI a k sx H.size rd wr ay ia mo wo so oi si mi wi ns nt nf np sl hs p1 E_4 hq_4) (cwV 1 hg (gi_V w_268 w_269 w_270 w_1 w_271) rfl rfl rfl (by decide +kernel) ⟨Nat.le_of_ble_eq_true rfl, Nat.le_of_ble_eq_true rfl⟩) ⟨prx_bl, va_recv hKc hPc (ci := 0) (q0 := 0) rfl rfl, prx_ok hKc hPc hDc hX9 hS hFc⟩ rfl rfl hl.1 rfl (lv_room (Nat.le_of_ble_eq_true rfl)) dL_open_4 ⟨Nat.le_of_ble_eq_true rfl, Nat.le_of_ble_eq_true rfl⟩) hS (fun q _ h => hFc q h) hFc (fun q _ h => hFc q h) (fun E ce q9 u t H1 locs ht hvm hwx hB hz1 hk1 hS hce hcv hcl => ?_) (fun rr u t H1 locs ht hvm hwx hB hz1 hk1 hS => hwx.elim)
    obtain ⟨hE, hB⟩ := hB
    have hE := hE.symm
    subst hE
    obtain ⟨hP1, hK1, hD1⟩ := hB
    rw [ht] at hP1
    obtain ⟨hP, hD⟩ := va_join (wr := ws_ou o j ou) (w1 := ws_sl a k rd wr ay ia mo wo so oi si mi wi ns nt nf np sl hs) hP hD [0, 1, 2, 3, 4, 5, 6, 7, 8, 9, 10, 11] [12] rfl rfl (by decide) (by decide) hk1 hFc hP1 hD1
    have hP := hP.sub (ws' := (ws_sl a k rd wr ay ia mo wo so oi si mi wi ns nt nf np sl hs) ++ (ws_ou o j ou)) [1, 2, 3, 4, 5, 6, 7, 8, 9, 10, 11, 12, 0] rfl
    have hD := hD.sub (ws' := (ws_sl a k rd wr ay ia mo wo so oi si mi wi ns nt nf np sl hs) ++ (ws_ou o j ou)) [1, 2, 3, 4, 5, 6, 7, 8, 9, 10, 11, 12, 0] (by decide) rfl
    generalize H1 = H at hP hS hce ⊢
    have hP : va_P (dC, dI) vwCl ((ws_sl a k rd wr ay ia mo wo so oi si mi wi ns nt nf np sl hs) ++ (ws_ou o j ou)) H := hP
    have hD : va_D A ((ws_sl a k rd wr ay ia mo wo so oi si mi wi ns nt nf np sl hs) ++ (ws_ou o j ou)) := hD
    rcases sl_open_exc hq_4 with rfl | rfl
    · refine vx_catch (own := RL) (name := "java/lang/IllegalStateException") (E := "java/lang/IllegalStateException") hown [⟨0, 9, 12, 13⟩] ⟨0, 9, 15, 15⟩ [] (by rw [hTab]; rfl) (fun z hz => by
          rcases List.mem_cons.mp hz with rfl | hz
          · exact Or.inr ⟨by decide, "java/lang/IndexOutOfBoundsException", (hg _ w_100), hX9.2.2.2.2.2 ("java/lang/IllegalStateException", "java/lang/IndexOutOfBoundsException") (by decide +kernel)⟩
          cases hz) (by decide) (by decide) (hg _ w_101) (va_Nw.use rfl (hX9.2.2.2.1 ("java/lang/IllegalStateException", "java/lang/IllegalStateException") (by decide +kernel))) hce hcv hcl ?_
      refine lv_astore_n (lv' := [(3, .ref q9), (0, .ref (a 0)), (1, .int p1), (2, .ref (o 0))]) hx hb dL_open_15 rfl hl (by decide) rfl (fun ls hl => ?_)
      refine lv_iconst (v := 2) hx hb dL_open_16 (by decide) ?_
      refine W.widen (k := 1) (n := 6) (by decide) (by decide) ?_
      have hw : la_open rd wr ay ia mo wo oi ns nf np sl hs ou p1 = (2, rd, wr, ay, ia, mo, wo, oi, ns, nf, np, sl, hs, ou) := by unfold la_open; rw [hq_4]; (try dsimp only); rw [if_pos rfl]; (try rfl)
      exact W.iret (v := 2) hx hb hr (fun t ht hW => ⟨⟨2, (rd, wr, ay, ia, mo, wo, oi, ns, nf, np, sl, hs, ou), rfl, hw, ⟨by rw [ht]; exact hP, va_K.moved hW.alike hK, hD⟩⟩, hS.F ht⟩) hS.2.2 dL_open_17
    · refine vx_catch (own := RL) (name := "java/lang/IndexOutOfBoundsException") (E := "java/lang/IndexOutOfBoundsException") hown [] ⟨0, 9, 12, 13⟩ [⟨0, 9, 15, 15⟩] (by rw [hTab]; rfl) (fun z hz => nomatch hz) (by decide) (by decide) (hg _ w_100) (va_Nw.use rfl (hX9.2.2.2.1 ("java/lang/IndexOutOfBoundsException", "java/lang/IndexOutOfBoundsException") (by decide +kernel))) hce hcv hcl ?_
      refine lv_astore_n (lv' := [(3, .ref q9), (0, .ref (a 0)), (1, .int p1), (2, .ref (o 0))]) hx hb dL_open_12 rfl hl (by decide) rfl (fun ls hl => ?_)
      refine lv_iconst (v := 1) hx hb dL_open_13 (by decide) ?_
      refine W.widen (k := 1) (n := 6) (by decide) (by decide) ?_
      have hw : la_open rd wr ay ia mo wo oi ns nf np sl hs ou p1 = (1, rd, wr, ay, ia, mo, wo, oi, ns, nf, np, sl, hs, ou) := by unfold la_open; rw [hq_4]; (try dsimp only); rw [if_neg (by decide)]; (try rfl)
      exact W.iret (v := 1) hx hb hr (fun t ht hW => ⟨⟨1, (rd, wr, ay, ia, mo, wo, oi, ns, nf, np, sl, hs, ou), rfl, hw, ⟨by rw [ht]; exact hP, va_K.moved hW.alike hK, hD⟩⟩, hS.F ht⟩) hS.2.2 dL_open_14
set_option maxHeartbeats 4000000 in
set_option maxRecDepth 100000 in
theorem cl_close (l : Launch) (hl9 : l.stackTraces = false) (dC : Nat → ClassId) (dI : Nat → Nat → Nat) (a : Nat → Nat) (k : Nat → ClassId) (o : Nat → Nat) (j : Nat → ClassId) (sx : Nat → Nat) (sz : Nat) (rd wr : Nat → Int64) (ay ia mo wo so oi si mi wi : Nat → Int32) (ns nt nf np sl hs : Int32) (ou : Nat → Int64)  : Met l yL_close wsL_close ({ frames := 7, cells := 1, slots := 6, locals := 102 } : Room) (va_Pc [.ref (a 0), .ref (o 0)] (prx (dC, dI) ((ws_sl a k rd wr ay ia mo wo so oi si mi wi ns nt nf np sl hs) ++ (ws_ou o j ou)) ((ty_sl k) ++ (ty_ou j)) sz sx)) (va_Qi (fun (r : Int32) (u : Int32 × (Nat → Int64)) => la_close oi nf ou = (r, u)) (fun (u : Int32 × (Nat → Int64)) t => match u with | (nf', ou') => po (dC, dI) ((ws_sl a k rd wr ay ia mo wo so oi si mi wi ns nt nf' np sl hs) ++ (ws_ou o j ou')) ((ty_sl k) ++ (ty_ou j)) (va_A ((ws_sl a k rd wr ay ia mo wo so oi si mi wi ns nt nf np sl hs) ++ (ws_ou o j ou)) sz) t) (va_A ((ws_sl a k rd wr ay ia mo wo so oi si mi wi ns nt nf np sl hs) ++ (ws_ou o j ou)) sz)) 1 6 (va_A ((ws_sl a k rd wr ay ia mo wo so oi si mi wi ns nt nf np sl hs) ++ (ws_ou o j ou)) sz) := by
  refine va_MetW (cc := cL_close) (maxL := 3) (ret := (some .int)) (by decide) rfl ?_
  intro p e s m args below meth c s₁ B hml hv
  obtain ⟨rfl, ⟨hsz, hP, hK, hD0⟩, hX9⟩ := hv
  have hx := B.exec
  have hb := B.bytes
  have hr := B.returns
  have hts := atoms_spec (ws := wsL_close) B.pre
  have hg : ∀ w ∈ gw, w.before _ s = true := fun w h => hts w (List.mem_cons_of_mem _ h)
  have hown : s.vm.findClass RL = some m.cls := findClass_of_methodNamed B.named
  have hlocks := B.notSynchronized
  have hTab := vx_table (x := yL_close) B (hts _ List.mem_cons_self)
  subst hsz
  have hD := hD0.self (sz := s.heap.size)
  generalize hAe : va_A ((ws_sl a k rd wr ay ia mo wo so oi si mi wi ns nt nf np sl hs) ++ (ws_ou o j ou)) s.heap.size = A at hD hX9 ⊢
  have hA : ∀ q : Nat, s.heap.size ≤ q → A q := fun q h => by rw [← hAe]; exact Or.inr h
  clear hAe
  refine w_in (fun H locs eH eL => ?_)
  have hS : va_S A s.heap H locs := by rw [eH, eL]; exact va_S.rf
  have hP : va_P (dC, dI) vwCl ((ws_sl a k rd wr ay ia mo wo so oi si mi wi ns nt nf np sl hs) ++ (ws_ou o j ou)) H := by rw [eH]; exact hP
  clear eH eL
  have hl := lv_entry ([.ref (a 0), .ref (o 0)]) (n := 3) (Nat.le_of_ble_eq_true rfl)
  rw [lg_entry_eq]
  generalize (lg_sl ([.ref (a 0), .ref (o 0)]) ++ List.replicate (3 - (lg_sl ([.ref (a 0), .ref (o 0)])).length) Slot.unset).toArray = ls at hl ⊢
  have hl : lv_has ls 3 [(0, .ref (a 0)), (1, .ref (o 0))] := hl
  refine lv_aload_n hx hb dL_close_0 rfl (lv_at hl 1 rfl) ?_
  refine lv_iconst (v := 0) hx hb dL_close_1 (by decide) ?_
  refine lv_aload_n hx hb dL_close_2 rfl (lv_at hl 0 rfl) ?_
  rcases hq_3 : sl_close oi nf with ⟨r_3, nf_3⟩ | E_3
  · have hPc := hP.sub (ws' := ws_sl a k rd wr ay ia mo wo so oi si mi wi ns nt nf np sl hs) [0, 1, 2, 3, 4, 5, 6, 7, 8, 9, 10, 11] rfl
    have hDc := hD.sub (ws' := ws_sl a k rd wr ay ia mo wo so oi si mi wi ns nt nf np sl hs) [0, 1, 2, 3, 4, 5, 6, 7, 8, 9, 10, 11] (by decide) rfl
    have hKc := hK.sub (tys' := ty_sl k) [0, 1, 2, 3, 4, 5, 6, 7, 8, 9, 10] rfl
    have hFc := va_free (wc := ws_sl a k rd wr ay ia mo wo so oi si mi wi ns nt nf np sl hs) hD hS hA [0, 1, 2, 3, 4, 5, 6, 7, 8, 9, 10, 11] rfl
    refine va_calli (va_runV (As := []) (rest := [.int 0, .ref (o 0)]) ⟨hx, hb, hml, hown, hg⟩ (cs_close l dC dI a k H.size rd wr ay ia mo wo so oi si mi wi ns nt nf np sl hs r_3 nf_3 hq_3) (cwV 0 hg (gi_V w_276 w_277 w_278 w_1 w_279) rfl rfl rfl (by decide +kernel) ⟨Nat.le_of_ble_eq_true rfl, Nat.le_of_ble_eq_true rfl⟩) ⟨pr_bl, va_recv hKc hPc (ci := 0) (q0 := 0) rfl rfl, pr_ok hKc hPc hDc⟩ rfl rfl hl.1 rfl (lv_room (Nat.le_of_ble_eq_true rfl)) dL_close_3 ⟨Nat.le_of_ble_eq_true rfl, Nat.le_of_ble_eq_true rfl⟩) hS (fun q _ h => hFc q h) hFc (fun rr u t H1 locs ht hvm hw hB hz1 hk1 hS => ?_)
    have hw := hw.symm
    subst hw
    obtain ⟨hP1, hK1, hD1⟩ := hB
    rw [ht] at hP1
    obtain ⟨hP, hD⟩ := va_join (wr := ws_ou o j ou) (w1 := ws_sl a k rd wr ay ia mo wo so oi si mi wi ns nt nf_3 np sl hs) hP hD [0, 1, 2, 3, 4, 5, 6, 7, 8, 9, 10, 11] [12] rfl rfl (by decide) (by decide) hk1 hFc hP1 hD1
    have hP := hP.sub (ws' := (ws_sl a k rd wr ay ia mo wo so oi si mi wi ns nt nf_3 np sl hs) ++ (ws_ou o j ou)) [1, 2, 3, 4, 5, 6, 7, 8, 9, 10, 11, 12, 0] rfl
    have hD := hD.sub (ws' := (ws_sl a k rd wr ay ia mo wo so oi si mi wi ns nt nf_3 np sl hs) ++ (ws_ou o j ou)) [1, 2, 3, 4, 5, 6, 7, 8, 9, 10, 11, 12, 0] (by decide) rfl
    generalize H1 = H at hP hS ⊢
    have hP : va_P (dC, dI) vwCl ((ws_sl a k rd wr ay ia mo wo so oi si mi wi ns nt nf_3 np sl hs) ++ (ws_ou o j ou)) H := hP
    have hD : va_D A ((ws_sl a k rd wr ay ia mo wo so oi si mi wi ns nt nf_3 np sl hs) ++ (ws_ou o j ou)) := hD
    refine lv_i2l hx hb dL_close_6 rfl ?_
    refine va_last hx hb hK hP hD hS 12 11 rfl rfl (ix_k (by decide)) dL_close_7 (fun H locs hP hD hS => ?_)
    have hP : va_P (dC, dI) vwCl ((ws_sl a k rd wr ay ia mo wo so oi si mi wi ns nt nf_3 np sl hs) ++ (ws_ou o j (vp_updL ou 0 r_3.toInt64))) H := hP
    have hD : va_D A ((ws_sl a k rd wr ay ia mo wo so oi si mi wi ns nt nf_3 np sl hs) ++ (ws_ou o j (vp_updL ou 0 r_3.toInt64))) := hD
    refine lv_goto (tgt := 14) hx hb dL_close_8 (by decide) ?_
    refine lv_iconst (v := 0) hx hb dL_close_14 (by decide) ?_
    refine W.widen (k := 1) (n := 6) (by decide) (by decide) ?_
    have hw : la_close oi nf ou = (0, nf_3, vp_updL ou 0 r_3.toInt64) := by unfold la_close; rw [hq_3]; (try dsimp only); (try rfl)
    exact W.iret (v := 0) hx hb hr (fun t ht hW => ⟨⟨0, (nf_3, vp_updL ou 0 r_3.toInt64), rfl, hw, ⟨by rw [ht]; exact hP, va_K.moved hW.alike hK, hD⟩⟩, hS.F ht⟩) hS.2.2 dL_close_15
  · have hPc := hP.sub (ws' := ws_sl a k rd wr ay ia mo wo so oi si mi wi ns nt nf np sl hs) [0, 1, 2, 3, 4, 5, 6, 7, 8, 9, 10, 11] rfl
    have hDc := hD.sub (ws' := ws_sl a k rd wr ay ia mo wo so oi si mi wi ns nt nf np sl hs) [0, 1, 2, 3, 4, 5, 6, 7, 8, 9, 10, 11] (by decide) rfl
    have hKc := hK.sub (tys' := ty_sl k) [0, 1, 2, 3, 4, 5, 6, 7, 8, 9, 10] rfl
    have hFc := va_free (wc := ws_sl a k rd wr ay ia mo wo so oi si mi wi ns nt nf np sl hs) hD hS hA [0, 1, 2, 3, 4, 5, 6, 7, 8, 9, 10, 11] rfl
    refine vx_calli (vx_runV (As := []) (rest := [.int 0, .ref (o 0)]) ⟨hx, hb, hml, hown, hg⟩ (cs_close_x l hl9 dC dI a k sx H.size rd wr ay ia mo wo so oi si mi wi ns nt nf np sl hs E_3 hq_3) (cwV 0 hg (gi_V w_276 w_277 w_278 w_1 w_279) rfl rfl rfl (by decide +kernel) ⟨Nat.le_of_ble_eq_true rfl, Nat.le_of_ble_eq_true rfl⟩) ⟨prx_bl, va_recv hKc hPc (ci := 0) (q0 := 0) rfl rfl, prx_ok hKc hPc hDc hX9 hS hFc⟩ rfl rfl hl.1 rfl (lv_room (Nat.le_of_ble_eq_true rfl)) dL_close_3 ⟨Nat.le_of_ble_eq_true rfl, Nat.le_of_ble_eq_true rfl⟩) hS (fun q _ h => hFc q h) hFc (fun q _ h => hFc q h) (fun E ce q9 u t H1 locs ht hvm hwx hB hz1 hk1 hS hce hcv hcl => ?_) (fun rr u t H1 locs ht hvm hwx hB hz1 hk1 hS => hwx.elim)
    obtain ⟨hE, hB⟩ := hB
    have hE := hE.symm
    subst hE
    obtain ⟨hP1, hK1, hD1⟩ := hB
    rw [ht] at hP1
    obtain ⟨hP, hD⟩ := va_join (wr := ws_ou o j ou) (w1 := ws_sl a k rd wr ay ia mo wo so oi si mi wi ns nt nf np sl hs) hP hD [0, 1, 2, 3, 4, 5, 6, 7, 8, 9, 10, 11] [12] rfl rfl (by decide) (by decide) hk1 hFc hP1 hD1
    have hP := hP.sub (ws' := (ws_sl a k rd wr ay ia mo wo so oi si mi wi ns nt nf np sl hs) ++ (ws_ou o j ou)) [1, 2, 3, 4, 5, 6, 7, 8, 9, 10, 11, 12, 0] rfl
    have hD := hD.sub (ws' := (ws_sl a k rd wr ay ia mo wo so oi si mi wi ns nt nf np sl hs) ++ (ws_ou o j ou)) [1, 2, 3, 4, 5, 6, 7, 8, 9, 10, 11, 12, 0] (by decide) rfl
    generalize H1 = H at hP hS hce ⊢
    have hP : va_P (dC, dI) vwCl ((ws_sl a k rd wr ay ia mo wo so oi si mi wi ns nt nf np sl hs) ++ (ws_ou o j ou)) H := hP
    have hD : va_D A ((ws_sl a k rd wr ay ia mo wo so oi si mi wi ns nt nf np sl hs) ++ (ws_ou o j ou)) := hD
    obtain rfl := sl_close_exc hq_3
    refine vx_catch (own := RL) (name := "java/lang/IllegalStateException") (E := "java/lang/IllegalStateException") hown [] ⟨0, 8, 11, 15⟩ [] (by rw [hTab]; rfl) (fun z hz => nomatch hz) (by decide) (by decide) (hg _ w_101) (va_Nw.use rfl (hX9.2.2.2.1 ("java/lang/IllegalStateException", "java/lang/IllegalStateException") (by decide +kernel))) hce hcv hcl ?_
    refine lv_astore_n (lv' := [(2, .ref q9), (0, .ref (a 0)), (1, .ref (o 0))]) hx hb dL_close_11 rfl hl (by decide) rfl (fun ls hl => ?_)
    refine lv_iconst (v := 1) hx hb dL_close_12 (by decide) ?_
    refine W.widen (k := 1) (n := 6) (by decide) (by decide) ?_
    have hw : la_close oi nf ou = (1, nf, ou) := by unfold la_close; rw [hq_3]; (try dsimp only); (try rfl)
    exact W.iret (v := 1) hx hb hr (fun t ht hW => ⟨⟨1, (nf, ou), rfl, hw, ⟨by rw [ht]; exact hP, va_K.moved hW.alike hK, hD⟩⟩, hS.F ht⟩) hS.2.2 dL_close_13
set_option maxHeartbeats 4000000 in
set_option maxRecDepth 100000 in
theorem cl_apply (l : Launch) (hl9 : l.stackTraces = false) (dC : Nat → ClassId) (dI : Nat → Nat → Nat) (a : Nat → Nat) (k : Nat → ClassId) (o : Nat → Nat) (j : Nat → ClassId) (sx : Nat → Nat) (sz : Nat) (rd wr : Nat → Int64) (ay ia mo wo so oi si mi wi : Nat → Int32) (ns nt nf np sl hs : Int32) (ou : Nat → Int64) (p1 p2 p3 : Int32) : Met l yL_apply wsL_apply ({ frames := 8, cells := 1, slots := 6, locals := 135 } : Room) (va_Pc [.ref (a 0), .int p1, .int p2, .int p3, .ref (o 0)] (prx (dC, dI) ((ws_sl a k rd wr ay ia mo wo so oi si mi wi ns nt nf np sl hs) ++ (ws_ou o j ou)) ((ty_sl k) ++ (ty_ou j)) sz sx)) (va_Qi (fun (r : Int32) (u : (Nat → Int64) × (Nat → Int64) × (Nat → Int32) × (Nat → Int32) × (Nat → Int32) × (Nat → Int32) × Int32 × Int32 × Int32 × Int32 × Int32 × (Nat → Int64)) => la_apply rd wr ay ia mo wo oi ns nt nf np sl hs ou p1 p2 p3 = (r, u)) (fun (u : (Nat → Int64) × (Nat → Int64) × (Nat → Int32) × (Nat → Int32) × (Nat → Int32) × (Nat → Int32) × Int32 × Int32 × Int32 × Int32 × Int32 × (Nat → Int64)) t => match u with | (rd', wr', ay', ia', mo', wo', ns', nt', np', sl', hs', ou') => po (dC, dI) ((ws_sl a k rd' wr' ay' ia' mo' wo' so oi si mi wi ns' nt' nf np' sl' hs') ++ (ws_ou o j ou')) ((ty_sl k) ++ (ty_ou j)) (va_A ((ws_sl a k rd wr ay ia mo wo so oi si mi wi ns nt nf np sl hs) ++ (ws_ou o j ou)) sz) t) (va_A ((ws_sl a k rd wr ay ia mo wo so oi si mi wi ns nt nf np sl hs) ++ (ws_ou o j ou)) sz)) 1 6 (va_A ((ws_sl a k rd wr ay ia mo wo so oi si mi wi ns nt nf np sl hs) ++ (ws_ou o j ou)) sz) := by
  refine va_MetW (cc := cL_apply) (maxL := 6) (ret := (some .int)) (by decide) rfl ?_
  intro p e s m args below meth c s₁ B hml hv
  obtain ⟨rfl, ⟨hsz, hP, hK, hD0⟩, hX9⟩ := hv
  have hx := B.exec
  have hb := B.bytes
  have hr := B.returns
  have hts := atoms_spec (ws := wsL_apply) B.pre
  have hg : ∀ w ∈ gw, w.before _ s = true := fun w h => hts w (List.mem_cons_of_mem _ h)
  have hown : s.vm.findClass RL = some m.cls := findClass_of_methodNamed B.named
  have hlocks := B.notSynchronized
  have hTab := vx_table (x := yL_apply) B (hts _ List.mem_cons_self)
  subst hsz
  have hD := hD0.self (sz := s.heap.size)
  generalize hAe : va_A ((ws_sl a k rd wr ay ia mo wo so oi si mi wi ns nt nf np sl hs) ++ (ws_ou o j ou)) s.heap.size = A at hD hX9 ⊢
  have hA : ∀ q : Nat, s.heap.size ≤ q → A q := fun q h => by rw [← hAe]; exact Or.inr h
  clear hAe
  refine w_in (fun H locs eH eL => ?_)
  have hS : va_S A s.heap H locs := by rw [eH, eL]; exact va_S.rf
  have hP : va_P (dC, dI) vwCl ((ws_sl a k rd wr ay ia mo wo so oi si mi wi ns nt nf np sl hs) ++ (ws_ou o j ou)) H := by rw [eH]; exact hP
  clear eH eL
  have hl := lv_entry ([.ref (a 0), .int p1, .int p2, .int p3, .ref (o 0)]) (n := 6) (Nat.le_of_ble_eq_true rfl)
  rw [lg_entry_eq]
  generalize (lg_sl ([.ref (a 0), .int p1, .int p2, .int p3, .ref (o 0)]) ++ List.replicate (6 - (lg_sl ([.ref (a 0), .int p1, .int p2, .int p3, .ref (o 0)])).length) Slot.unset).toArray = ls at hl ⊢
  have hl : lv_has ls 6 [(0, .ref (a 0)), (1, .int p1), (2, .int p2), (3, .int p3), (4, .ref (o 0))] := hl
  refine lv_aload hx hb dL_apply_0 (lv_at hl 4 rfl) ?_
  refine lv_iconst (v := 0) hx hb dL_apply_2 (by decide) ?_
  refine lv_aload_n hx hb dL_apply_3 rfl (lv_at hl 0 rfl) ?_
  refine lv_iload_n hx hb dL_apply_4 rfl (lv_at hl 1 rfl) ?_
  refine lv_iload_n hx hb dL_apply_5 rfl (lv_at hl 2 rfl) ?_
  refine lv_iload_n hx hb dL_apply_6 rfl (lv_at hl 3 rfl) ?_
  rcases hq_7 : sl_apply rd wr ay ia mo wo oi ns nt nf np p1 p2 p3 with ⟨r_7, rd_7, wr_7, ay_7, ia_7, mo_7, wo_7, ns_7, nt_7, np_7, sl_7, hs_7⟩ | E_7
  · have hPc := hP.sub (ws' := ws_sl a k rd wr ay ia mo wo so oi si mi wi ns nt nf np sl hs) [0, 1, 2, 3, 4, 5, 6, 7, 8, 9, 10, 11] rfl
    have hDc := hD.sub (ws' := ws_sl a k rd wr ay ia mo wo so oi si mi wi ns nt nf np sl hs) [0, 1, 2, 3, 4, 5, 6, 7, 8, 9, 10, 11] (by decide) rfl
    have hKc := hK.sub (tys' := ty_sl k) [0, 1, 2, 3, 4, 5, 6, 7, 8, 9, 10] rfl
    have hFc := va_free (wc := ws_sl a k rd wr ay ia mo wo so oi si mi wi ns nt nf np sl hs) hD hS hA [0, 1, 2, 3, 4, 5, 6, 7, 8, 9, 10, 11] rfl
    refine va_calli (va_runV (As := [.int p1, .int p2, .int p3]) (rest := [.int 0, .ref (o 0)]) ⟨hx, hb, hml, hown, hg⟩ (cs_apply l dC dI a k H.size rd wr ay ia mo wo so oi si mi wi ns nt nf np sl hs p1 p2 p3 r_7 rd_7 wr_7 ay_7 ia_7 mo_7 wo_7 ns_7 nt_7 np_7 sl_7 hs_7 hq_7) (cwV 3 hg (gi_V w_285 w_286 w_287 w_1 w_288) rfl rfl rfl (by decide +kernel) ⟨Nat.le_of_ble_eq_true rfl, Nat.le_of_ble_eq_true rfl⟩) ⟨pr_bl, va_recv hKc hPc (ci := 0) (q0 := 0) rfl rfl, pr_ok hKc hPc hDc⟩ rfl rfl hl.1 rfl (lv_room (Nat.le_of_ble_eq_true rfl)) dL_apply_7 ⟨Nat.le_of_ble_eq_true rfl, Nat.le_of_ble_eq_true rfl⟩) hS (fun q _ h => hFc q h) hFc (fun rr u t H1 locs ht hvm hw hB hz1 hk1 hS => ?_)
    have hw := hw.symm
    subst hw
    obtain ⟨hP1, hK1, hD1⟩ := hB
    rw [ht] at hP1
    obtain ⟨hP, hD⟩ := va_join (wr := ws_ou o j ou) (w1 := ws_sl a k rd_7 wr_7 ay_7 ia_7 mo_7 wo_7 so oi si mi wi ns_7 nt_7 nf np_7 sl_7 hs_7) hP hD [0, 1, 2, 3, 4, 5, 6, 7, 8, 9, 10, 11] [12] rfl rfl (by decide) (by decide) hk1 hFc hP1 hD1
    have hP := hP.sub (ws' := (ws_sl a k rd_7 wr_7 ay_7 ia_7 mo_7 wo_7 so oi si mi wi ns_7 nt_7 nf np_7 sl_7 hs_7) ++ (ws_ou o j ou)) [1, 2, 3, 4, 5, 6, 7, 8, 9, 10, 11, 12, 0] rfl
    have hD := hD.sub (ws' := (ws_sl a k rd_7 wr_7 ay_7 ia_7 mo_7 wo_7 so oi si mi wi ns_7 nt_7 nf np_7 sl_7 hs_7) ++ (ws_ou o j ou)) [1, 2, 3, 4, 5, 6, 7, 8, 9, 10, 11, 12, 0] (by decide) rfl
    generalize H1 = H at hP hS ⊢
    have hP : va_P (dC, dI) vwCl ((ws_sl a k rd_7 wr_7 ay_7 ia_7 mo_7 wo_7 so oi si mi wi ns_7 nt_7 nf np_7 sl_7 hs_7) ++ (ws_ou o j ou)) H := hP
    have hD : va_D A ((ws_sl a k rd_7 wr_7 ay_7 ia_7 mo_7 wo_7 so oi si mi wi ns_7 nt_7 nf np_7 sl_7 hs_7) ++ (ws_ou o j ou)) := hD
    refine lv_i2l hx hb dL_apply_10 rfl ?_
    refine va_last hx hb hK hP hD hS 12 11 rfl rfl (ix_k (by decide)) dL_apply_11 (fun H locs hP hD hS => ?_)
    have hP : va_P (dC, dI) vwCl ((ws_sl a k rd_7 wr_7 ay_7 ia_7 mo_7 wo_7 so oi si mi wi ns_7 nt_7 nf np_7 sl_7 hs_7) ++ (ws_ou o j (vp_updL ou 0 r_7.toInt64))) H := hP
    have hD : va_D A ((ws_sl a k rd_7 wr_7 ay_7 ia_7 mo_7 wo_7 so oi si mi wi ns_7 nt_7 nf np_7 sl_7 hs_7) ++ (ws_ou o j (vp_updL ou 0 r_7.toInt64))) := hD
    refine lv_goto (tgt := 27) hx hb dL_apply_12 (by decide) ?_
    refine lv_iconst (v := 0) hx hb dL_apply_27 (by decide) ?_
    refine W.widen (k := 1) (n := 6) (by decide) (by decide) ?_
    have hw : la_apply rd wr ay ia mo wo oi ns nt nf np sl hs ou p1 p2 p3 = (0, rd_7, wr_7, ay_7, ia_7, mo_7, wo_7, ns_7, nt_7, np_7, sl_7, hs_7, vp_updL ou 0 r_7.toInt64) := by unfold la_apply; rw [hq_7]; (try dsimp only); (try rfl)
    exact W.iret (v := 0) hx hb hr (fun t ht hW => ⟨⟨0, (rd_7, wr_7, ay_7, ia_7, mo_7, wo_7, ns_7, nt_7, np_7, sl_7, hs_7, vp_updL ou 0 r_7.toInt64), rfl, hw, ⟨by rw [ht]; exact hP, va_K.moved hW.alike hK, hD⟩⟩, hS.F ht⟩) hS.2.2 dL_apply_28
  · have hPc := hP.sub (ws' := ws_sl a k rd wr ay ia mo wo so oi si mi wi ns nt nf np sl hs) [0, 1, 2, 3, 4, 5, 6, 7, 8, 9, 10, 11] rfl
    have hDc := hD.sub (ws' := ws_sl a k rd wr ay ia mo wo so oi si mi wi ns nt nf np sl hs) [0, 1, 2, 3, 4, 5, 6, 7, 8, 9, 10, 11] (by decide) rfl
    have hKc := hK.sub (tys' := ty_sl k) [0, 1, 2, 3, 4, 5, 6, 7, 8, 9, 10] rfl
    have hFc := va_free (wc := ws_sl a k rd wr ay ia mo wo so oi si mi wi ns nt nf np sl hs) hD hS hA [0, 1, 2, 3, 4, 5, 6, 7, 8, 9, 10, 11] rfl
    refine vx_calli (vx_runV (As := [.int p1, .int p2, .int p3]) (rest := [.int 0, .ref (o 0)]) ⟨hx, hb, hml, hown, hg⟩ (cs_apply_x l hl9 dC dI a k sx H.size rd wr ay ia mo wo so oi si mi wi ns nt nf np sl hs p1 p2 p3 E_7 hq_7) (cwV 3 hg (gi_V w_285 w_286 w_287 w_1 w_288) rfl rfl rfl (by decide +kernel) ⟨Nat.le_of_ble_eq_true rfl, Nat.le_of_ble_eq_true rfl⟩) ⟨prx_bl, va_recv hKc hPc (ci := 0) (q0 := 0) rfl rfl, prx_ok hKc hPc hDc hX9 hS hFc⟩ rfl rfl hl.1 rfl (lv_room (Nat.le_of_ble_eq_true rfl)) dL_apply_7 ⟨Nat.le_of_ble_eq_true rfl, Nat.le_of_ble_eq_true rfl⟩) hS (fun q _ h => hFc q h) hFc (fun q _ h => hFc q h) (fun E ce q9 u t H1 locs ht hvm hwx hB hz1 hk1 hS hce hcv hcl => ?_) (fun rr u t H1 locs ht hvm hwx hB hz1 hk1 hS => hwx.elim)
    obtain ⟨hE, hB⟩ := hB
    have hE := hE.symm
    subst hE
    obtain ⟨hP1, hK1, hD1⟩ := hB
    rw [ht] at hP1
    obtain ⟨hP, hD⟩ := va_join (wr := ws_ou o j ou) (w1 := ws_sl a k rd wr ay ia mo wo so oi si mi wi ns nt nf np sl hs) hP hD [0, 1, 2, 3, 4, 5, 6, 7, 8, 9, 10, 11] [12] rfl rfl (by decide) (by decide) hk1 hFc hP1 hD1
    have hP := hP.sub (ws' := (ws_sl a k rd wr ay ia mo wo so oi si mi wi ns nt nf np sl hs) ++ (ws_ou o j ou)) [1, 2, 3, 4, 5, 6, 7, 8, 9, 10, 11, 12, 0] rfl
    have hD := hD.sub (ws' := (ws_sl a k rd wr ay ia mo wo so oi si mi wi ns nt nf np sl hs) ++ (ws_ou o j ou)) [1, 2, 3, 4, 5, 6, 7, 8, 9, 10, 11, 12, 0] (by decide) rfl
    generalize H1 = H at hP hS hce ⊢
    have hP : va_P (dC, dI) vwCl ((ws_sl a k rd wr ay ia mo wo so oi si mi wi ns nt nf np sl hs) ++ (ws_ou o j ou)) H := hP
    have hD : va_D A ((ws_sl a k rd wr ay ia mo wo so oi si mi wi ns nt nf np sl hs) ++ (ws_ou o j ou)) := hD
    rcases sl_apply_exc hq_7 with rfl | rfl | rfl
    · refine vx_catch (own := RL) (name := "java/lang/IllegalArgumentException") (E := "java/lang/IllegalArgumentException") hown [⟨0, 12, 15, 13⟩] ⟨0, 12, 19, 42⟩ [⟨0, 12, 23, 15⟩] (by rw [hTab]; rfl) (fun z hz => by
          rcases List.mem_cons.mp hz with rfl | hz
          · exact Or.inr ⟨by decide, "java/lang/IndexOutOfBoundsException", (hg _ w_100), hX9.2.2.2.2.2 ("java/lang/IllegalArgumentException", "java/lang/IndexOutOfBoundsException") (by decide +kernel)⟩
          cases hz) (by decide) (by decide) (hg _ w_284) (va_Nw.use rfl (hX9.2.2.2.1 ("java/lang/IllegalArgumentException", "java/lang/IllegalArgumentException") (by decide +kernel))) hce hcv hcl ?_
      refine lv_astore (lv' := [(5, .ref q9), (0, .ref (a 0)), (1, .int p1), (2, .int p2), (3, .int p3), (4, .ref (o 0))]) hx hb dL_apply_19 hl (by decide) rfl (fun ls hl => ?_)
      refine lv_iconst (v := 2) hx hb dL_apply_21 (by decide) ?_
      refine W.widen (k := 1) (n := 6) (by decide) (by decide) ?_
      have hw : la_apply rd wr ay ia mo wo oi ns nt nf np sl hs ou p1 p2 p3 = (2, rd, wr, ay, ia, mo, wo, ns, nt, np, sl, hs, ou) := by unfold la_apply; rw [hq_7]; (try dsimp only); rw [if_pos rfl]; (try rfl)
      exact W.iret (v := 2) hx hb hr (fun t ht hW => ⟨⟨2, (rd, wr, ay, ia, mo, wo, ns, nt, np, sl, hs, ou), rfl, hw, ⟨by rw [ht]; exact hP, va_K.moved hW.alike hK, hD⟩⟩, hS.F ht⟩) hS.2.2 dL_apply_22
    · refine vx_catch (own := RL) (name := "java/lang/IllegalStateException") (E := "java/lang/IllegalStateException") hown [⟨0, 12, 15, 13⟩, ⟨0, 12, 19, 42⟩] ⟨0, 12, 23, 15⟩ [] (by rw [hTab]; rfl) (fun z hz => by
          rcases List.mem_cons.mp hz with rfl | hz
          · exact Or.inr ⟨by decide, "java/lang/IndexOutOfBoundsException", (hg _ w_100), hX9.2.2.2.2.2 ("java/lang/IllegalStateException", "java/lang/IndexOutOfBoundsException") (by decide +kernel)⟩
          rcases List.mem_cons.mp hz with rfl | hz
          · exact Or.inr ⟨by decide, "java/lang/IllegalArgumentException", (hg _ w_284), hX9.2.2.2.2.2 ("java/lang/IllegalStateException", "java/lang/IllegalArgumentException") (by decide +kernel)⟩
          cases hz) (by decide) (by decide) (hg _ w_101) (va_Nw.use rfl (hX9.2.2.2.1 ("java/lang/IllegalStateException", "java/lang/IllegalStateException") (by decide +kernel))) hce hcv hcl ?_
      refine lv_astore (lv' := [(5, .ref q9), (0, .ref (a 0)), (1, .int p1), (2, .int p2), (3, .int p3), (4, .ref (o 0))]) hx hb dL_apply_23 hl (by decide) rfl (fun ls hl => ?_)
      refine lv_iconst (v := 3) hx hb dL_apply_25 (by decide) ?_
      refine W.widen (k := 1) (n := 6) (by decide) (by decide) ?_
      have hw : la_apply rd wr ay ia mo wo oi ns nt nf np sl hs ou p1 p2 p3 = (3, rd, wr, ay, ia, mo, wo, ns, nt, np, sl, hs, ou) := by unfold la_apply; rw [hq_7]; (try dsimp only); rw [if_neg (by decide)]; rw [if_pos rfl]; (try rfl)
      exact W.iret (v := 3) hx hb hr (fun t ht hW => ⟨⟨3, (rd, wr, ay, ia, mo, wo, ns, nt, np, sl, hs, ou), rfl, hw, ⟨by rw [ht]; exact hP, va_K.moved hW.alike hK, hD⟩⟩, hS.F ht⟩) hS.2.2 dL_apply_26
    · refine vx_catch (own := RL) (name := "java/lang/IndexOutOfBoundsException") (E := "java/lang/IndexOutOfBoundsException") hown [] ⟨0, 12, 15, 13⟩ [⟨0, 12, 19, 42⟩, ⟨0, 12, 23, 15⟩] (by rw [hTab]; rfl) (fun z hz => nomatch hz) (by decide) (by decide) (hg _ w_100) (va_Nw.use rfl (hX9.2.2.2.1 ("java/lang/IndexOutOfBoundsException", "java/lang/IndexOutOfBoundsException") (by decide +kernel))) hce hcv hcl ?_
      refine lv_astore (lv' := [(5, .ref q9), (0, .ref (a 0)), (1, .int p1), (2, .int p2), (3, .int p3), (4, .ref (o 0))]) hx hb dL_apply_15 hl (by decide) rfl (fun ls hl => ?_)
      refine lv_iconst (v := 1) hx hb dL_apply_17 (by decide) ?_
      refine W.widen (k := 1) (n := 6) (by decide) (by decide) ?_
      have hw : la_apply rd wr ay ia mo wo oi ns nt nf np sl hs ou p1 p2 p3 = (1, rd, wr, ay, ia, mo, wo, ns, nt, np, sl, hs, ou) := by unfold la_apply; rw [hq_7]; (try dsimp only); rw [if_neg (by decide)]; rw [if_neg (by decide)]; (try rfl)
      exact W.iret (v := 1) hx hb hr (fun t ht hW => ⟨⟨1, (rd, wr, ay, ia, mo, wo, ns, nt, np, sl, hs, ou), rfl, hw, ⟨by rw [ht]; exact hP, va_K.moved hW.alike hK, hD⟩⟩, hS.F ht⟩) hS.2.2 dL_apply_18
set_option maxHeartbeats 4000000 in
set_option maxRecDepth 100000 in
theorem cl_lay (l : Launch) (hl9 : l.stackTraces = false) (dC : Nat → ClassId) (dI : Nat → Nat → Nat) (a : Nat → Nat) (k : Nat → ClassId) (o : Nat → Nat) (j : Nat → ClassId) (sx : Nat → Nat) (sz : Nat) (rd wr : Nat → Int64) (ay ia mo wo so oi si mi wi : Nat → Int32) (ns nt nf np sl hs : Int32) (ou : Nat → Int64) (p1 p2 p3 : Int32) (hns : 0 ≤ ns.toInt ∧ ns.toInt ≤ 48) : Met l yL_lay wsL_lay ({ frames := 7, cells := 1, slots := 6, locals := 108 } : Room) (va_Pc [.ref (a 0), .int p1, .int p2, .int p3, .ref (o 0)] (prx (dC, dI) ((ws_sl a k rd wr ay ia mo wo so oi si mi wi ns nt nf np sl hs) ++ (ws_ou o j ou)) ((ty_sl k) ++ (ty_ou j)) sz sx)) (va_Qi (fun (r : Int32) (u : (Nat → Int32) × (Nat → Int32) × (Nat → Int32) × (Nat → Int32) × Int32 × Int32 × (Nat → Int64)) => la_lay rd wr ay ia mo wo so si mi wi ns sl hs ou p1 p2 p3 = (r, u)) (fun (u : (Nat → Int32) × (Nat → Int32) × (Nat → Int32) × (Nat → Int32) × Int32 × Int32 × (Nat → Int64)) t => match u with | (so', si', mi', wi', sl', hs', ou') => po (dC, dI) ((ws_sl a k rd wr ay ia mo wo so' oi si' mi' wi' ns nt nf np sl' hs') ++ (ws_ou o j ou')) ((ty_sl k) ++ (ty_ou j)) (va_A ((ws_sl a k rd wr ay ia mo wo so oi si mi wi ns nt nf np sl hs) ++ (ws_ou o j ou)) sz) t) (va_A ((ws_sl a k rd wr ay ia mo wo so oi si mi wi ns nt nf np sl hs) ++ (ws_ou o j ou)) sz)) 1 6 (va_A ((ws_sl a k rd wr ay ia mo wo so oi si mi wi ns nt nf np sl hs) ++ (ws_ou o j ou)) sz) := by
  refine va_MetW (cc := cL_lay) (maxL := 6) (ret := (some .int)) (by decide) rfl ?_
  intro p e s m args below meth c s₁ B hml hv
  obtain ⟨rfl, ⟨hsz, hP, hK, hD0⟩, hX9⟩ := hv
  have hx := B.exec
  have hb := B.bytes
  have hr := B.returns
  have hts := atoms_spec (ws := wsL_lay) B.pre
  have hg : ∀ w ∈ gw, w.before _ s = true := fun w h => hts w (List.mem_cons_of_mem _ h)
  have hown : s.vm.findClass RL = some m.cls := findClass_of_methodNamed B.named
  have hlocks := B.notSynchronized
  have hTab := vx_table (x := yL_lay) B (hts _ List.mem_cons_self)
  subst hsz
  have hD := hD0.self (sz := s.heap.size)
  generalize hAe : va_A ((ws_sl a k rd wr ay ia mo wo so oi si mi wi ns nt nf np sl hs) ++ (ws_ou o j ou)) s.heap.size = A at hD hX9 ⊢
  have hA : ∀ q : Nat, s.heap.size ≤ q → A q := fun q h => by rw [← hAe]; exact Or.inr h
  clear hAe
  refine w_in (fun H locs eH eL => ?_)
  have hS : va_S A s.heap H locs := by rw [eH, eL]; exact va_S.rf
  have hP : va_P (dC, dI) vwCl ((ws_sl a k rd wr ay ia mo wo so oi si mi wi ns nt nf np sl hs) ++ (ws_ou o j ou)) H := by rw [eH]; exact hP
  clear eH eL
  have hl := lv_entry ([.ref (a 0), .int p1, .int p2, .int p3, .ref (o 0)]) (n := 6) (Nat.le_of_ble_eq_true rfl)
  rw [lg_entry_eq]
  generalize (lg_sl ([.ref (a 0), .int p1, .int p2, .int p3, .ref (o 0)]) ++ List.replicate (6 - (lg_sl ([.ref (a 0), .int p1, .int p2, .int p3, .ref (o 0)])).length) Slot.unset).toArray = ls at hl ⊢
  have hl : lv_has ls 6 [(0, .ref (a 0)), (1, .int p1), (2, .int p2), (3, .int p3), (4, .ref (o 0))] := hl
  refine lv_aload hx hb dL_lay_0 (lv_at hl 4 rfl) ?_
  refine lv_iconst (v := 0) hx hb dL_lay_2 (by decide) ?_
  refine lv_aload_n hx hb dL_lay_3 rfl (lv_at hl 0 rfl) ?_
  refine lv_iload_n hx hb dL_lay_4 rfl (lv_at hl 1 rfl) ?_
  refine lv_iload_n hx hb dL_lay_5 rfl (lv_at hl 2 rfl) ?_
  refine lv_iload_n hx hb dL_lay_6 rfl (lv_at hl 3 rfl) ?_
  rcases hq_7 : sl_lay rd wr ay ia mo wo so si mi wi ns p1 p2 p3 with ⟨r_7, so_7, si_7, mi_7, wi_7, sl_7, hs_7⟩ | E_7
  · have hPc := hP.sub (ws' := ws_sl a k rd wr ay ia mo wo so oi si mi wi ns nt nf np sl hs) [0, 1, 2, 3, 4, 5, 6, 7, 8, 9, 10, 11] rfl
    have hDc := hD.sub (ws' := ws_sl a k rd wr ay ia mo wo so oi si mi wi ns nt nf np sl hs) [0, 1, 2, 3, 4, 5, 6, 7, 8, 9, 10, 11] (by decide) rfl
    have hKc := hK.sub (tys' := ty_sl k) [0, 1, 2, 3, 4, 5, 6, 7, 8, 9, 10] rfl
    have hFc := va_free (wc := ws_sl a k rd wr ay ia mo wo so oi si mi wi ns nt nf np sl hs) hD hS hA [0, 1, 2, 3, 4, 5, 6, 7, 8, 9, 10, 11] rfl
    refine va_calli (va_runV (As := [.int p1, .int p2, .int p3]) (rest := [.int 0, .ref (o 0)]) ⟨hx, hb, hml, hown, hg⟩ (cs_lay l dC dI a k H.size rd wr ay ia mo wo so oi si mi wi ns nt nf np sl hs p1 p2 p3 r_7 so_7 si_7 mi_7 wi_7 sl_7 hs_7 hq_7 hns) (cwV 3 hg (gi_V w_310 w_311 w_312 w_1 w_313) rfl rfl rfl (by decide +kernel) ⟨Nat.le_of_ble_eq_true rfl, Nat.le_of_ble_eq_true rfl⟩) ⟨pr_bl, va_recv hKc hPc (ci := 0) (q0 := 0) rfl rfl, pr_ok hKc hPc hDc⟩ rfl rfl hl.1 rfl (lv_room (Nat.le_of_ble_eq_true rfl)) dL_lay_7 ⟨Nat.le_of_ble_eq_true rfl, Nat.le_of_ble_eq_true rfl⟩) hS (fun q _ h => hFc q h) hFc (fun rr u t H1 locs ht hvm hw hB hz1 hk1 hS => ?_)
    have hw := hw.symm
    subst hw
    obtain ⟨hP1, hK1, hD1⟩ := hB
    rw [ht] at hP1
    obtain ⟨hP, hD⟩ := va_join (wr := ws_ou o j ou) (w1 := ws_sl a k rd wr ay ia mo wo so_7 oi si_7 mi_7 wi_7 ns nt nf np sl_7 hs_7) hP hD [0, 1, 2, 3, 4, 5, 6, 7, 8, 9, 10, 11] [12] rfl rfl (by decide) (by decide) hk1 hFc hP1 hD1
    have hP := hP.sub (ws' := (ws_sl a k rd wr ay ia mo wo so_7 oi si_7 mi_7 wi_7 ns nt nf np sl_7 hs_7) ++ (ws_ou o j ou)) [1, 2, 3, 4, 5, 6, 7, 8, 9, 10, 11, 12, 0] rfl
    have hD := hD.sub (ws' := (ws_sl a k rd wr ay ia mo wo so_7 oi si_7 mi_7 wi_7 ns nt nf np sl_7 hs_7) ++ (ws_ou o j ou)) [1, 2, 3, 4, 5, 6, 7, 8, 9, 10, 11, 12, 0] (by decide) rfl
    generalize H1 = H at hP hS ⊢
    have hP : va_P (dC, dI) vwCl ((ws_sl a k rd wr ay ia mo wo so_7 oi si_7 mi_7 wi_7 ns nt nf np sl_7 hs_7) ++ (ws_ou o j ou)) H := hP
    have hD : va_D A ((ws_sl a k rd wr ay ia mo wo so_7 oi si_7 mi_7 wi_7 ns nt nf np sl_7 hs_7) ++ (ws_ou o j ou)) := hD
    refine lv_i2l hx hb dL_lay_10 rfl ?_
    refine va_last hx hb hK hP hD hS 12 11 rfl rfl (ix_k (by decide)) dL_lay_11 (fun H locs hP hD hS => ?_)
    have hP : va_P (dC, dI) vwCl ((ws_sl a k rd wr ay ia mo wo so_7 oi si_7 mi_7 wi_7 ns nt nf np sl_7 hs_7) ++ (ws_ou o j (vp_updL ou 0 r_7.toInt64))) H := hP
    have hD : va_D A ((ws_sl a k rd wr ay ia mo wo so_7 oi si_7 mi_7 wi_7 ns nt nf np sl_7 hs_7) ++ (ws_ou o j (vp_updL ou 0 r_7.toInt64))) := hD
    refine lv_goto (tgt := 19) hx hb dL_lay_12 (by decide) ?_
    refine lv_iconst (v := 0) hx hb dL_lay_19 (by decide) ?_
    refine W.widen (k := 1) (n := 6) (by decide) (by decide) ?_
    have hw : la_lay rd wr ay ia mo wo so si mi wi ns sl hs ou p1 p2 p3 = (0, so_7, si_7, mi_7, wi_7, sl_7, hs_7, vp_updL ou 0 r_7.toInt64) := by unfold la_lay; rw [hq_7]; (try dsimp only); (try rfl)
    exact W.iret (v := 0) hx hb hr (fun t ht hW => ⟨⟨0, (so_7, si_7, mi_7, wi_7, sl_7, hs_7, vp_updL ou 0 r_7.toInt64), rfl, hw, ⟨by rw [ht]; exact hP, va_K.moved hW.alike hK, hD⟩⟩, hS.F ht⟩) hS.2.2 dL_lay_20
  · have hPc := hP.sub (ws' := ws_sl a k rd wr ay ia mo wo so oi si mi wi ns nt nf np sl hs) [0, 1, 2, 3, 4, 5, 6, 7, 8, 9, 10, 11] rfl
    have hDc := hD.sub (ws' := ws_sl a k rd wr ay ia mo wo so oi si mi wi ns nt nf np sl hs) [0, 1, 2, 3, 4, 5, 6, 7, 8, 9, 10, 11] (by decide) rfl
    have hKc := hK.sub (tys' := ty_sl k) [0, 1, 2, 3, 4, 5, 6, 7, 8, 9, 10] rfl
    have hFc := va_free (wc := ws_sl a k rd wr ay ia mo wo so oi si mi wi ns nt nf np sl hs) hD hS hA [0, 1, 2, 3, 4, 5, 6, 7, 8, 9, 10, 11] rfl
    refine vx_calli (vx_runV (As := [.int p1, .int p2, .int p3]) (rest := [.int 0, .ref (o 0)]) ⟨hx, hb, hml, hown, hg⟩ (cs_lay_x l hl9 dC dI a k sx H.size rd wr ay ia mo wo so oi si mi wi ns nt nf np sl hs p1 p2 p3 E_7 hq_7 hns) (cwV 3 hg (gi_V w_310 w_311 w_312 w_1 w_313) rfl rfl rfl (by decide +kernel) ⟨Nat.le_of_ble_eq_true rfl, Nat.le_of_ble_eq_true rfl⟩) ⟨prx_bl, va_recv hKc hPc (ci := 0) (q0 := 0) rfl rfl, prx_ok hKc hPc hDc hX9 hS hFc⟩ rfl rfl hl.1 rfl (lv_room (Nat.le_of_ble_eq_true rfl)) dL_lay_7 ⟨Nat.le_of_ble_eq_true rfl, Nat.le_of_ble_eq_true rfl⟩) hS (fun q _ h => hFc q h) hFc (fun q _ h => hFc q h) (fun E ce q9 u t H1 locs ht hvm hwx hB hz1 hk1 hS hce hcv hcl => ?_) (fun rr u t H1 locs ht hvm hwx hB hz1 hk1 hS => hwx.elim)
    obtain ⟨hE, hB⟩ := hB
    have hE := hE.symm
    subst hE
    obtain ⟨hP1, hK1, hD1⟩ := hB
    rw [ht] at hP1
    obtain ⟨hP, hD⟩ := va_join (wr := ws_ou o j ou) (w1 := ws_sl a k rd wr ay ia mo wo so oi si mi wi ns nt nf np sl hs) hP hD [0, 1, 2, 3, 4, 5, 6, 7, 8, 9, 10, 11] [12] rfl rfl (by decide) (by decide) hk1 hFc hP1 hD1
    have hP := hP.sub (ws' := (ws_sl a k rd wr ay ia mo wo so oi si mi wi ns nt nf np sl hs) ++ (ws_ou o j ou)) [1, 2, 3, 4, 5, 6, 7, 8, 9, 10, 11, 12, 0] rfl
    have hD := hD.sub (ws' := (ws_sl a k rd wr ay ia mo wo so oi si mi wi ns nt nf np sl hs) ++ (ws_ou o j ou)) [1, 2, 3, 4, 5, 6, 7, 8, 9, 10, 11, 12, 0] (by decide) rfl
    generalize H1 = H at hP hS hce ⊢
    have hP : va_P (dC, dI) vwCl ((ws_sl a k rd wr ay ia mo wo so oi si mi wi ns nt nf np sl hs) ++ (ws_ou o j ou)) H := hP
    have hD : va_D A ((ws_sl a k rd wr ay ia mo wo so oi si mi wi ns nt nf np sl hs) ++ (ws_ou o j ou)) := hD
    obtain rfl := sl_lay_exc hq_7
    refine vx_catch (own := RL) (name := "java/lang/IllegalArgumentException") (E := "java/lang/IllegalArgumentException") hown [] ⟨0, 12, 15, 42⟩ [] (by rw [hTab]; rfl) (fun z hz => nomatch hz) (by decide) (by decide) (hg _ w_284) (va_Nw.use rfl (hX9.2.2.2.1 ("java/lang/IllegalArgumentException", "java/lang/IllegalArgumentException") (by decide +kernel))) hce hcv hcl ?_
    refine lv_astore (lv' := [(5, .ref q9), (0, .ref (a 0)), (1, .int p1), (2, .int p2), (3, .int p3), (4, .ref (o 0))]) hx hb dL_lay_15 hl (by decide) rfl (fun ls hl => ?_)
    refine lv_iconst (v := 1) hx hb dL_lay_17 (by decide) ?_
    refine W.widen (k := 1) (n := 6) (by decide) (by decide) ?_
    have hw : la_lay rd wr ay ia mo wo so si mi wi ns sl hs ou p1 p2 p3 = (1, so, si, mi, wi, sl, hs, ou) := by unfold la_lay; rw [hq_7]; (try dsimp only); (try rfl)
    exact W.iret (v := 1) hx hb hr (fun t ht hW => ⟨⟨1, (so, si, mi, wi, sl, hs, ou), rfl, hw, ⟨by rw [ht]; exact hP, va_K.moved hW.alike hK, hD⟩⟩, hS.F ht⟩) hS.2.2 dL_lay_18
