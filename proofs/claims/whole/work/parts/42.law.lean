set_option maxHeartbeats 8000000 in
set_option maxRecDepth 100000 in
theorem law_loop {p : Program} {l : Launch} {e : Env} {s : State} {m : MethodId} {below : List Frame} {meth : Method} {c : Code} {dC : Nat → ClassId} {dI : Nat → Nat → Nat} {a : Nat → Nat} {k : Nat → ClassId} {b : Nat → Nat} {h : Nat → ClassId} {o : Nat → Nat} {j : Nat → ClassId} {sx : Nat → Nat} {b9 L : Nat} {xs : Nat → Int32} (hL : L ≤ 2048) (C0 : lw_At p s m meth c b9 L xs) (hl9 : l.stackTraces = false) (hX9 : xf sx (fun q : Nat => s.heap.size ≤ q) s s.heap) :
    ∀ (n i : Nat) (x4 : Int32) (rd wr : Nat → Int64) (ay ia mo wo so oi si mi wi : Nat → Int32) (ns nt nf np sl hs : Int32) (uR uW uA uM uX uF uI uS : Nat → Int32) (ut us ur ub uo ui ul uk uh : Int32) (ou : Nat → Int64), 4 * i ≤ L → 513 ≤ i + n → x4 = nI (4 * i) → Rel rd wr ay ia mo wo so oi si mi wi ns nt nf np sl hs uR uW uA uM uX uF uI uS ut us ur ub uo ui ul uk uh → ∀ (H : Heap) (locs : List Loc), va_K (dC, dI) vwCl ((ty_sl k) ++ (ty_sm h) ++ (ty_ou j)) s → va_P (dC, dI) vwCl ((ws_sl a k rd wr ay ia mo wo so oi si mi wi ns nt nf np sl hs) ++ (ws_sm b h uR uW uA uM uX uF uI uS ut us ur ub uo ui ul uk uh) ++ (ws_ou o j ou)) H → va_D (fun q : Nat => s.heap.size ≤ q) ((ws_sl a k rd wr ay ia mo wo so oi si mi wi ns nt nf np sl hs) ++ (ws_sm b h uR uW uA uM uX uF uI uS ut us ur ub uo ui ul uk uh) ++ (ws_ou o j ou)) → va_S (fun q : Nat => s.heap.size ≤ q) s.heap H locs → ∀ (ls : Array Slot), lv_has ls 7 [(0, .ref b9), (1, .ref (a 0)), (2, .ref (b 0)), (3, .ref (o 0)), (4, .int x4)] → W p l e room_1 s m #[Value.ref b9] below meth c H locs (22 + i) (4639 + 6 * i) (lw_Z below #[Value.ref b9] s) (F0 m 23 ls []) := by
  obtain ⟨hx, hb, hr, hml, hown, hts, hX, hbl, hlocks, hgv⟩ := C0
  have hown : s.vm.findClass RL = some m.cls := hown
  have hg : ∀ w ∈ gw, w.before #[Value.ref b9] s = true := fun w h => hts w (List.mem_filter.mp h).1
  have hA : ∀ q : Nat, s.heap.size ≤ q → (fun q : Nat => s.heap.size ≤ q) q := fun _ h => h
  have hbA : ¬ (fun q : Nat => s.heap.size ≤ q) b9 := Nat.not_le.mpr hbl
  have hR1 : room_1.cells = 1059 := rfl
  have hR2 : room_1.slots = 12909 := rfl
  intro n
  induction n with
  | zero =>
    intro i x4 rd wr ay ia mo wo so oi si mi wi ns nt nf np sl hs uR uW uA uM uX uF uI uS ut us ur ub uo ui ul uk uh ou h1 h2
    exact absurd h2 (by omega)
  | succ n ih =>
    intro i x4 rd wr ay ia mo wo so oi si mi wi ns nt nf np sl hs uR uW uA uM uX uF uI uS ut us ur ub uo ui ul uk uh ou hi hin ex4 hR H locs hK hP hD hS ls hl
    refine lv_iload hx hb dL_law_23 (lv_at hl 4 rfl) ?_
    refine lv_aload_n hx hb dL_law_25 rfl (lv_at hl 0 rfl) ?_
    refine va_slen hx hb hX hbl hbA hS dL_law_26 ?_
    refine lv_iconst (v := 4) hx hb dL_law_27 (by decide) ?_
    refine lv_isub hx hb dL_law_28 ?_
    refine lv_icmp_gt (tgt := 841) hx hb dL_law_29 (by decide) (fun c_29 => ?_) (fun c_29 => ?_)
    · refine lv_iconst (v := 1) hx hb dL_law_841 (by decide) ?_
      refine va_forget (fun q hq => hS.2.2 q hq) ?_
      refine W.widen (k := 1059) (n := 12909) (by omega) (by omega) ?_
      exact lw_ret hx hb hr hlocks dL_law_842
    · have hlt : 4 * i + 4 ≤ L := lw_lt hL ex4 c_29
      have hi0 : vp_in x4 L := lw_i0 hL hlt ex4
      have hi1 : vp_in (x4 + 1) L := lw_i1 hL hlt ex4
      have hi2 : vp_in (x4 + 2) L := lw_i2 hL hlt ex4
      have hi3 : vp_in (x4 + 3) L := lw_i3 hL hlt ex4
      refine lv_aload_n hx hb dL_law_32 rfl (lv_at hl 0 rfl) ?_
      refine lv_iload hx hb dL_law_33 (lv_at hl 4 rfl) ?_
      refine va_sld hx hb hX hbl hbA hS hi0 dL_law_35 ?_
      refine lv_bipush (v := 15) hx hb dL_law_36 (by decide) ?_
      refine lv_iand hx hb dL_law_38 ?_
      by_cases c_39_0 : ((xs x4.toNatClampNeg) &&& 15) = 0
      · refine lv_tableIn (off := 69) (tgt := 108) hx hb dL_law_39 (by rw [c_39_0]; decide) (by rw [c_39_0]; decide) (by rw [c_39_0]; rfl) (by decide) ?_
        refine lv_aload_n hx hb dL_law_108 rfl (lv_at hl 1 rfl) ?_
        have hPc := hP.sub (ws' := ws_sl a k rd wr ay ia mo wo so oi si mi wi ns nt nf np sl hs) [0, 1, 2, 3, 4, 5, 6, 7, 8, 9, 10, 11] rfl
        have hDc := hD.sub (ws' := ws_sl a k rd wr ay ia mo wo so oi si mi wi ns nt nf np sl hs) [0, 1, 2, 3, 4, 5, 6, 7, 8, 9, 10, 11] (by decide) rfl
        have hKc := hK.sub (tys' := ty_sl k) [0, 1, 2, 3, 4, 5, 6, 7, 8, 9, 10] rfl
        have hFc := va_free (wc := ws_sl a k rd wr ay ia mo wo so oi si mi wi ns nt nf np sl hs) hD hS hA [0, 1, 2, 3, 4, 5, 6, 7, 8, 9, 10, 11] rfl
        refine va_callv (va_runV (As := []) (rest := []) ⟨hx, hb, hml, hown, hg⟩ (cs_clear l dC dI a k H.size rd wr ay ia mo wo so oi si mi wi ns nt nf np sl hs) (cwV 0 hg (gi_V w_73 w_74 w_75 w_1 w_76) rfl rfl rfl (by decide +kernel) ⟨Nat.le_of_ble_eq_true rfl, Nat.le_of_ble_eq_true rfl⟩) ⟨pr_bl, va_recv hKc hPc (ci := 0) (q0 := 0) rfl rfl, pr_ok hKc hPc hDc⟩ rfl rfl hl.1 rfl (lv_room (Nat.le_of_ble_eq_true rfl)) dL_law_109 ⟨by omega, by omega⟩) hS (fun q _ h => hFc q h) hFc (fun u t H1 locs ht hvm hw_109 hB hz1 hk1 hS => ?_)
        obtain ⟨ns_109, nt_109, nf_109, np_109, sl_109, hs_109⟩ := u
        obtain ⟨hP1, hK1, hD1⟩ := hB
        rw [ht] at hP1
        obtain ⟨hP, hD⟩ := va_join (wr := (ws_sm b h uR uW uA uM uX uF uI uS ut us ur ub uo ui ul uk uh) ++ (ws_ou o j ou)) (w1 := ws_sl a k rd wr ay ia mo wo so oi si mi wi ns_109 nt_109 nf_109 np_109 sl_109 hs_109) hP hD [0, 1, 2, 3, 4, 5, 6, 7, 8, 9, 10, 11] [12, 13, 14, 15, 16, 17, 18, 19, 20, 21] rfl rfl (by decide) (by decide) hk1 hFc hP1 hD1
        have hP := hP.sub (ws' := (ws_sl a k rd wr ay ia mo wo so oi si mi wi ns_109 nt_109 nf_109 np_109 sl_109 hs_109) ++ (ws_sm b h uR uW uA uM uX uF uI uS ut us ur ub uo ui ul uk uh) ++ (ws_ou o j ou)) [10, 11, 12, 13, 14, 15, 16, 17, 18, 19, 20, 21, 0, 1, 2, 3, 4, 5, 6, 7, 8, 9] rfl
        have hD := hD.sub (ws' := (ws_sl a k rd wr ay ia mo wo so oi si mi wi ns_109 nt_109 nf_109 np_109 sl_109 hs_109) ++ (ws_sm b h uR uW uA uM uX uF uI uS ut us ur ub uo ui ul uk uh) ++ (ws_ou o j ou)) [10, 11, 12, 13, 14, 15, 16, 17, 18, 19, 20, 21, 0, 1, 2, 3, 4, 5, 6, 7, 8, 9] (by decide) rfl
        generalize H1 = H at hP hS ⊢
        have hP : va_P (dC, dI) vwCl ((ws_sl a k rd wr ay ia mo wo so oi si mi wi ns_109 nt_109 nf_109 np_109 sl_109 hs_109) ++ (ws_sm b h uR uW uA uM uX uF uI uS ut us ur ub uo ui ul uk uh) ++ (ws_ou o j ou)) H := hP
        have hD : va_D (fun q : Nat => s.heap.size ≤ q) ((ws_sl a k rd wr ay ia mo wo so oi si mi wi ns_109 nt_109 nf_109 np_109 sl_109 hs_109) ++ (ws_sm b h uR uW uA uM uX uF uI uS ut us ur ub uo ui ul uk uh) ++ (ws_ou o j ou)) := hD
        refine lv_aload_n hx hb dL_law_112 rfl (lv_at hl 2 rfl) ?_
        have hPc := hP.sub (ws' := ws_sm b h uR uW uA uM uX uF uI uS ut us ur ub uo ui ul uk uh) [12, 13, 14, 15, 16, 17, 18, 19, 20] rfl
        have hDc := hD.sub (ws' := ws_sm b h uR uW uA uM uX uF uI uS ut us ur ub uo ui ul uk uh) [12, 13, 14, 15, 16, 17, 18, 19, 20] (by decide) rfl
        have hKc := hK.sub (tys' := ty_sm h) [11, 12, 13, 14, 15, 16, 17, 18] rfl
        have hFc := va_free (wc := ws_sm b h uR uW uA uM uX uF uI uS ut us ur ub uo ui ul uk uh) hD hS hA [12, 13, 14, 15, 16, 17, 18, 19, 20] rfl
        refine va_callv (va_runV (As := []) (rest := []) ⟨hx, hb, hml, hown, hg⟩ (cm_clear l dC dI b h H.size uR uW uA uM uX uF uI uS ut us ur ub uo ui ul uk uh) (cwV 0 hg (gi_V w_403 w_404 w_405 w_2 w_406) rfl rfl rfl (by decide +kernel) ⟨Nat.le_of_ble_eq_true rfl, Nat.le_of_ble_eq_true rfl⟩) ⟨pr_bl, va_recv hKc hPc (ci := 1) (q0 := 0) rfl rfl, pr_ok hKc hPc hDc⟩ rfl rfl hl.1 rfl (lv_room (Nat.le_of_ble_eq_true rfl)) dL_law_113 ⟨by omega, by omega⟩) hS (fun q _ h => hFc q h) hFc (fun u t H1 locs ht hvm hw_113 hB hz1 hk1 hS => ?_)
        obtain ⟨ut_113, us_113, ur_113, ub_113, uo_113, ui_113, ul_113, uh_113⟩ := u
        obtain ⟨hP1, hK1, hD1⟩ := hB
        rw [ht] at hP1
        obtain ⟨hP, hD⟩ := va_join (wr := (ws_sl a k rd wr ay ia mo wo so oi si mi wi ns_109 nt_109 nf_109 np_109 sl_109 hs_109) ++ (ws_ou o j ou)) (w1 := ws_sm b h uR uW uA uM uX uF uI uS ut_113 us_113 ur_113 ub_113 uo_113 ui_113 ul_113 uk uh_113) hP hD [12, 13, 14, 15, 16, 17, 18, 19, 20] [0, 1, 2, 3, 4, 5, 6, 7, 8, 9, 10, 11, 21] rfl rfl (by decide) (by decide) hk1 hFc hP1 hD1
        have hP := hP.sub (ws' := (ws_sl a k rd wr ay ia mo wo so oi si mi wi ns_109 nt_109 nf_109 np_109 sl_109 hs_109) ++ (ws_sm b h uR uW uA uM uX uF uI uS ut_113 us_113 ur_113 ub_113 uo_113 ui_113 ul_113 uk uh_113) ++ (ws_ou o j ou)) [0, 1, 2, 3, 4, 5, 6, 7, 8, 9, 10, 11, 13, 14, 15, 16, 17, 18, 19, 20, 21, 12] rfl
        have hD := hD.sub (ws' := (ws_sl a k rd wr ay ia mo wo so oi si mi wi ns_109 nt_109 nf_109 np_109 sl_109 hs_109) ++ (ws_sm b h uR uW uA uM uX uF uI uS ut_113 us_113 ur_113 ub_113 uo_113 ui_113 ul_113 uk uh_113) ++ (ws_ou o j ou)) [0, 1, 2, 3, 4, 5, 6, 7, 8, 9, 10, 11, 13, 14, 15, 16, 17, 18, 19, 20, 21, 12] (by decide) rfl
        generalize H1 = H at hP hS ⊢
        have hP : va_P (dC, dI) vwCl ((ws_sl a k rd wr ay ia mo wo so oi si mi wi ns_109 nt_109 nf_109 np_109 sl_109 hs_109) ++ (ws_sm b h uR uW uA uM uX uF uI uS ut_113 us_113 ur_113 ub_113 uo_113 ui_113 ul_113 uk uh_113) ++ (ws_ou o j ou)) H := hP
        have hD : va_D (fun q : Nat => s.heap.size ≤ q) ((ws_sl a k rd wr ay ia mo wo so oi si mi wi ns_109 nt_109 nf_109 np_109 sl_109 hs_109) ++ (ws_sm b h uR uW uA uM uX uF uI uS ut_113 us_113 ur_113 ub_113 uo_113 ui_113 ul_113 uk uh_113) ++ (ws_ou o j ou)) := hD
        have hR := rl_clear hR hw_109 hw_113
        refine lv_goto (tgt := 835) hx hb dL_law_116 (by decide) ?_
        refine lv_iinc (v := x4 + 4) (lv' := [(4, .int (x4 + 4)), (0, .ref b9), (1, .ref (a 0)), (2, .ref (b 0)), (3, .ref (o 0))]) hx hb dL_law_835 hl (k := 4) rfl rfl (by decide) rfl (fun ls hl => ?_)
        refine lv_goto (tgt := 23) hx hb dL_law_838 (by decide) ?_
        refine W.widen (k := 22 + (i + 1)) (n := 4639 + 6 * (i + 1)) (by omega) (by omega) ?_
        exact ih (i + 1) (x4 + 4) rd wr ay ia mo wo so oi si mi wi ns_109 nt_109 nf_109 np_109 sl_109 hs_109 uR uW uA uM uX uF uI uS ut_113 us_113 ur_113 ub_113 uo_113 ui_113 ul_113 uk uh_113 ou (by omega) (by omega) (by rw [ex4]; exact nI_4 i) hR H locs hK hP hD hS ls (lv_sub hl [1, 2, 3, 4, 0] rfl)
      · by_cases c_39_1 : ((xs x4.toNatClampNeg) &&& 15) = 1
        · refine lv_tableIn (off := 80) (tgt := 119) hx hb dL_law_39 (by rw [c_39_1]; decide) (by rw [c_39_1]; decide) (by rw [c_39_1]; rfl) (by decide) ?_
          refine lv_aload_n hx hb dL_law_119 rfl (lv_at hl 1 rfl) ?_
          refine lv_aload_n hx hb dL_law_120 rfl (lv_at hl 0 rfl) ?_
          refine lv_iload hx hb dL_law_121 (lv_at hl 4 rfl) ?_
          refine lv_iconst (v := 1) hx hb dL_law_123 (by decide) ?_
          refine lv_iadd hx hb dL_law_124 ?_
          refine va_sld hx hb hX hbl hbA hS hi1 dL_law_125 ?_
          refine lv_aload_n hx hb dL_law_126 rfl (lv_at hl 0 rfl) ?_
          refine lv_iload hx hb dL_law_127 (lv_at hl 4 rfl) ?_
          refine lv_iconst (v := 2) hx hb dL_law_129 (by decide) ?_
          refine lv_iadd hx hb dL_law_130 ?_
          refine va_sld hx hb hX hbl hbA hS hi2 dL_law_131 ?_
          refine lv_aload_n hx hb dL_law_132 rfl (lv_at hl 3 rfl) ?_
          have hPc := hP.sub (ws' := (ws_sl a k rd wr ay ia mo wo so oi si mi wi ns nt nf np sl hs) ++ (ws_ou o j ou)) [0, 1, 2, 3, 4, 5, 6, 7, 8, 9, 10, 11, 21] rfl
          have hDc := hD.sub (ws' := (ws_sl a k rd wr ay ia mo wo so oi si mi wi ns nt nf np sl hs) ++ (ws_ou o j ou)) [0, 1, 2, 3, 4, 5, 6, 7, 8, 9, 10, 11, 21] (by decide) rfl
          have hKc := hK.sub (tys' := (ty_sl k) ++ (ty_ou j)) [0, 1, 2, 3, 4, 5, 6, 7, 8, 9, 10, 19] rfl
          have hFc := va_free (wc := (ws_sl a k rd wr ay ia mo wo so oi si mi wi ns nt nf np sl hs) ++ (ws_ou o j ou)) hD hS hA [0, 1, 2, 3, 4, 5, 6, 7, 8, 9, 10, 11, 21] rfl
          refine va_calli (vx_runSW (As := [.ref (a 0), .int (xs (x4 + 1).toNatClampNeg), .int (xs (x4 + 2).toNatClampNeg), .ref (o 0)]) (rest := []) ⟨hx, hb, hml, hown, hg⟩ (cl_assign l hl9 dC dI a k o j sx H.size rd wr ay ia mo wo so oi si mi wi ns nt nf np sl hs ou (xs (x4 + 1).toNatClampNeg) (xs (x4 + 2).toNatClampNeg)) (vx_cwSW 4 hg (gi_S w_97 w_98 w_0 w_99) rfl rfl rfl (by decide +kernel) ⟨Nat.le_of_ble_eq_true rfl, Nat.le_of_ble_eq_true rfl⟩) ⟨prx_bl, prx_ok hKc hPc hDc hX9 hS hFc⟩ rfl rfl hl.1 rfl (lv_room (Nat.le_of_ble_eq_true rfl)) dL_law_133 ⟨by omega, by omega⟩) hS (fun q _ h => hFc q h) hFc (fun r_133 u t H1 locs ht hvm hw_133 hB hz1 hk1 hS => ?_)
          obtain ⟨rd_133, wr_133, ay_133, ia_133, mo_133, wo_133, ns_133, np_133, sl_133, hs_133, ou_133⟩ := u
          obtain ⟨hP1, hK1, hD1⟩ := hB
          rw [ht] at hP1
          obtain ⟨hP, hD⟩ := va_join (wr := ws_sm b h uR uW uA uM uX uF uI uS ut us ur ub uo ui ul uk uh) (w1 := (ws_sl a k rd_133 wr_133 ay_133 ia_133 mo_133 wo_133 so oi si mi wi ns_133 nt nf np_133 sl_133 hs_133) ++ (ws_ou o j ou_133)) hP hD [0, 1, 2, 3, 4, 5, 6, 7, 8, 9, 10, 11, 21] [12, 13, 14, 15, 16, 17, 18, 19, 20] rfl rfl (by decide) (by decide) hk1 hFc hP1 hD1
          have hP := hP.sub (ws' := (ws_sl a k rd_133 wr_133 ay_133 ia_133 mo_133 wo_133 so oi si mi wi ns_133 nt nf np_133 sl_133 hs_133) ++ (ws_sm b h uR uW uA uM uX uF uI uS ut us ur ub uo ui ul uk uh) ++ (ws_ou o j ou_133)) [9, 10, 11, 12, 13, 14, 15, 16, 17, 18, 19, 20, 0, 1, 2, 3, 4, 5, 6, 7, 8, 21] rfl
          have hD := hD.sub (ws' := (ws_sl a k rd_133 wr_133 ay_133 ia_133 mo_133 wo_133 so oi si mi wi ns_133 nt nf np_133 sl_133 hs_133) ++ (ws_sm b h uR uW uA uM uX uF uI uS ut us ur ub uo ui ul uk uh) ++ (ws_ou o j ou_133)) [9, 10, 11, 12, 13, 14, 15, 16, 17, 18, 19, 20, 0, 1, 2, 3, 4, 5, 6, 7, 8, 21] (by decide) rfl
          generalize H1 = H at hP hS ⊢
          have hP : va_P (dC, dI) vwCl ((ws_sl a k rd_133 wr_133 ay_133 ia_133 mo_133 wo_133 so oi si mi wi ns_133 nt nf np_133 sl_133 hs_133) ++ (ws_sm b h uR uW uA uM uX uF uI uS ut us ur ub uo ui ul uk uh) ++ (ws_ou o j ou_133)) H := hP
          have hD : va_D (fun q : Nat => s.heap.size ≤ q) ((ws_sl a k rd_133 wr_133 ay_133 ia_133 mo_133 wo_133 so oi si mi wi ns_133 nt nf np_133 sl_133 hs_133) ++ (ws_sm b h uR uW uA uM uX uF uI uS ut us ur ub uo ui ul uk uh) ++ (ws_ou o j ou_133)) := hD
          refine lv_istore (lv' := [(5, .int r_133), (0, .ref b9), (1, .ref (a 0)), (2, .ref (b 0)), (3, .ref (o 0)), (4, .int x4)]) hx hb dL_law_136 hl (by decide) rfl (fun ls hl => ?_)
          refine lv_aload_n hx hb dL_law_138 rfl (lv_at hl 3 rfl) ?_
          refine lv_aload_n hx hb dL_law_139 rfl (lv_at hl 1 rfl) ?_
          refine lv_iload hx hb dL_law_140 (lv_at hl 5 rfl) ?_
          refine lv_iconst (v := 1) hx hb dL_law_142 (by decide) ?_
          refine lv_iadd hx hb dL_law_143 ?_
          refine va_sld hx hb hX hbl hbA hS hi1 dL_law_144 ?_
          refine lv_aload_n hx hb dL_law_145 rfl (lv_at hl 1 rfl) ?_
          refine lv_iload hx hb dL_law_146 (lv_at hl 5 rfl) ?_
          refine lv_iconst (v := 2) hx hb dL_law_148 (by decide) ?_
          refine lv_iadd hx hb dL_law_149 ?_
          refine va_sld hx hb hX hbl hbA hS hi2 dL_law_150 ?_
          have hPc := hP.sub (ws' := ws_sm b h uR uW uA uM uX uF uI uS ut us ur ub uo ui ul uk uh) [12, 13, 14, 15, 16, 17, 18, 19, 20] rfl
          have hDc := hD.sub (ws' := ws_sm b h uR uW uA uM uX uF uI uS ut us ur ub uo ui ul uk uh) [12, 13, 14, 15, 16, 17, 18, 19, 20] (by decide) rfl
          have hKc := hK.sub (tys' := ty_sm h) [11, 12, 13, 14, 15, 16, 17, 18] rfl
          have hFc := va_free (wc := ws_sm b h uR uW uA uM uX uF uI uS ut us ur ub uo ui ul uk uh) hD hS hA [12, 13, 14, 15, 16, 17, 18, 19, 20] rfl
          refine va_calli (va_runV (As := [.int (xs (x4 + 1).toNatClampNeg), .int (xs (x4 + 2).toNatClampNeg)]) (rest := []) ⟨hx, hb, hml, hown, hg⟩ (cm_assign l dC dI b h H.size uR uW uA uM uX uF uI uS ut us ur ub uo ui ul uk uh (xs (x4 + 1).toNatClampNeg) (xs (x4 + 2).toNatClampNeg) (rl_hu hR)) (cwV 2 hg (gi_V w_407 w_408 w_409 w_2 w_410) rfl rfl rfl (by decide +kernel) ⟨Nat.le_of_ble_eq_true rfl, Nat.le_of_ble_eq_true rfl⟩) ⟨pr_bl, va_recv hKc hPc (ci := 1) (q0 := 0) rfl rfl, pr_ok hKc hPc hDc⟩ rfl rfl hl.1 rfl (lv_room (Nat.le_of_ble_eq_true rfl)) dL_law_151 ⟨by omega, by omega⟩) hS (fun q _ h => hFc q h) hFc (fun r_151 u t H1 locs ht hvm hw_151 hB hz1 hk1 hS => ?_)
          obtain ⟨uR_151, uW_151, uA_151, uM_151, uX_151, uF_151, uI_151, ut_151, us_151, ur_151, ul_151, uh_151⟩ := u
          obtain ⟨hP1, hK1, hD1⟩ := hB
          rw [ht] at hP1
          obtain ⟨hP, hD⟩ := va_join (wr := (ws_sl a k rd_133 wr_133 ay_133 ia_133 mo_133 wo_133 so oi si mi wi ns_133 nt nf np_133 sl_133 hs_133) ++ (ws_ou o j ou_133)) (w1 := ws_sm b h uR_151 uW_151 uA_151 uM_151 uX_151 uF_151 uI_151 uS ut_151 us_151 ur_151 ub uo ui ul_151 uk uh_151) hP hD [12, 13, 14, 15, 16, 17, 18, 19, 20] [0, 1, 2, 3, 4, 5, 6, 7, 8, 9, 10, 11, 21] rfl rfl (by decide) (by decide) hk1 hFc hP1 hD1
          have hP := hP.sub (ws' := (ws_sl a k rd_133 wr_133 ay_133 ia_133 mo_133 wo_133 so oi si mi wi ns_133 nt nf np_133 sl_133 hs_133) ++ (ws_sm b h uR_151 uW_151 uA_151 uM_151 uX_151 uF_151 uI_151 uS ut_151 us_151 ur_151 ub uo ui ul_151 uk uh_151) ++ (ws_ou o j ou_133)) [0, 1, 2, 3, 4, 5, 6, 7, 8, 9, 10, 11, 13, 14, 15, 16, 17, 18, 19, 20, 21, 12] rfl
          have hD := hD.sub (ws' := (ws_sl a k rd_133 wr_133 ay_133 ia_133 mo_133 wo_133 so oi si mi wi ns_133 nt nf np_133 sl_133 hs_133) ++ (ws_sm b h uR_151 uW_151 uA_151 uM_151 uX_151 uF_151 uI_151 uS ut_151 us_151 ur_151 ub uo ui ul_151 uk uh_151) ++ (ws_ou o j ou_133)) [0, 1, 2, 3, 4, 5, 6, 7, 8, 9, 10, 11, 13, 14, 15, 16, 17, 18, 19, 20, 21, 12] (by decide) rfl
          generalize H1 = H at hP hS ⊢
          have hP : va_P (dC, dI) vwCl ((ws_sl a k rd_133 wr_133 ay_133 ia_133 mo_133 wo_133 so oi si mi wi ns_133 nt nf np_133 sl_133 hs_133) ++ (ws_sm b h uR_151 uW_151 uA_151 uM_151 uX_151 uF_151 uI_151 uS ut_151 us_151 ur_151 ub uo ui ul_151 uk uh_151) ++ (ws_ou o j ou_133)) H := hP
          have hD : va_D (fun q : Nat => s.heap.size ≤ q) ((ws_sl a k rd_133 wr_133 ay_133 ia_133 mo_133 wo_133 so oi si mi wi ns_133 nt nf np_133 sl_133 hs_133) ++ (ws_sm b h uR_151 uW_151 uA_151 uM_151 uX_151 uF_151 uI_151 uS ut_151 us_151 ur_151 ub uo ui ul_151 uk uh_151) ++ (ws_ou o j ou_133)) := hD
          have hrl := rl_assign hR hw_133 hw_151
          obtain ⟨hr1, hr2, hR⟩ := hrl
          refine lv_istore (lv' := [(6, .int r_151), (5, .int r_133), (0, .ref b9), (1, .ref (a 0)), (2, .ref (b 0)), (3, .ref (o 0)), (4, .int x4)]) hx hb dL_law_154 hl (by decide) rfl (fun ls hl => ?_)
          refine lv_aload_n hx hb dL_law_156 rfl (lv_at hl 4 rfl) ?_
          have hPc := hP.sub (ws' := ws_sm b h uR_151 uW_151 uA_151 uM_151 uX_151 uF_151 uI_151 uS ut_151 us_151 ur_151 ub uo ui ul_151 uk uh_151) [12, 13, 14, 15, 16, 17, 18, 19, 20] rfl
          have hDc := hD.sub (ws' := ws_sm b h uR_151 uW_151 uA_151 uM_151 uX_151 uF_151 uI_151 uS ut_151 us_151 ur_151 ub uo ui ul_151 uk uh_151) [12, 13, 14, 15, 16, 17, 18, 19, 20] (by decide) rfl
          have hKc := hK.sub (tys' := ty_sm h) [11, 12, 13, 14, 15, 16, 17, 18] rfl
          have hFc := va_free (wc := ws_sm b h uR_151 uW_151 uA_151 uM_151 uX_151 uF_151 uI_151 uS ut_151 us_151 ur_151 ub uo ui ul_151 uk uh_151) hD hS hA [12, 13, 14, 15, 16, 17, 18, 19, 20] rfl
          refine va_calli (va_runV (As := []) (rest := []) ⟨hx, hb, hml, hown, hg⟩ (cm_thrown l dC dI b h H.size uR_151 uW_151 uA_151 uM_151 uX_151 uF_151 uI_151 uS ut_151 us_151 ur_151 ub uo ui ul_151 uk uh_151) (cwV 0 hg (gi_V w_399 w_400 w_401 w_2 w_402) rfl rfl rfl (by decide +kernel) ⟨Nat.le_of_ble_eq_true rfl, Nat.le_of_ble_eq_true rfl⟩) ⟨pr_bl, va_recv hKc hPc (ci := 1) (q0 := 0) rfl rfl, pr_ok hKc hPc hDc⟩ rfl rfl hl.1 rfl (lv_room (Nat.le_of_ble_eq_true rfl)) dL_law_157 ⟨by omega, by omega⟩) hS (fun q _ h => hFc q h) hFc (fun r_157 u t H1 locs ht hvm hw_157 hB hz1 hk1 hS => ?_)
          have hw_157 := hw_157.symm
          subst hw_157
          obtain ⟨hP1, hK1, hD1⟩ := hB
          rw [ht] at hP1
          obtain ⟨hP, hD⟩ := va_join (wr := (ws_sl a k rd_133 wr_133 ay_133 ia_133 mo_133 wo_133 so oi si mi wi ns_133 nt nf np_133 sl_133 hs_133) ++ (ws_ou o j ou_133)) (w1 := ws_sm b h uR_151 uW_151 uA_151 uM_151 uX_151 uF_151 uI_151 uS ut_151 us_151 ur_151 ub uo ui ul_151 uk uh_151) hP hD [12, 13, 14, 15, 16, 17, 18, 19, 20] [0, 1, 2, 3, 4, 5, 6, 7, 8, 9, 10, 11, 21] rfl rfl (by decide) (by decide) hk1 hFc hP1 hD1
          have hP := hP.sub (ws' := (ws_sl a k rd_133 wr_133 ay_133 ia_133 mo_133 wo_133 so oi si mi wi ns_133 nt nf np_133 sl_133 hs_133) ++ (ws_sm b h uR_151 uW_151 uA_151 uM_151 uX_151 uF_151 uI_151 uS ut_151 us_151 ur_151 ub uo ui ul_151 uk uh_151) ++ (ws_ou o j ou_133)) [0, 1, 2, 3, 4, 5, 6, 7, 8, 9, 10, 11, 13, 14, 15, 16, 17, 18, 19, 20, 21, 12] rfl
          have hD := hD.sub (ws' := (ws_sl a k rd_133 wr_133 ay_133 ia_133 mo_133 wo_133 so oi si mi wi ns_133 nt nf np_133 sl_133 hs_133) ++ (ws_sm b h uR_151 uW_151 uA_151 uM_151 uX_151 uF_151 uI_151 uS ut_151 us_151 ur_151 ub uo ui ul_151 uk uh_151) ++ (ws_ou o j ou_133)) [0, 1, 2, 3, 4, 5, 6, 7, 8, 9, 10, 11, 13, 14, 15, 16, 17, 18, 19, 20, 21, 12] (by decide) rfl
          generalize H1 = H at hP hS ⊢
          have hP : va_P (dC, dI) vwCl ((ws_sl a k rd_133 wr_133 ay_133 ia_133 mo_133 wo_133 so oi si mi wi ns_133 nt nf np_133 sl_133 hs_133) ++ (ws_sm b h uR_151 uW_151 uA_151 uM_151 uX_151 uF_151 uI_151 uS ut_151 us_151 ur_151 ub uo ui ul_151 uk uh_151) ++ (ws_ou o j ou_133)) H := hP
          have hD : va_D (fun q : Nat => s.heap.size ≤ q) ((ws_sl a k rd_133 wr_133 ay_133 ia_133 mo_133 wo_133 so oi si mi wi ns_133 nt nf np_133 sl_133 hs_133) ++ (ws_sm b h uR_151 uW_151 uA_151 uM_151 uX_151 uF_151 uI_151 uS ut_151 us_151 ur_151 ub uo ui ul_151 uk uh_151) ++ (ws_ou o j ou_133)) := hD
          refine lv_iload hx hb dL_law_160 (lv_at hl 1 rfl) ?_
          refine lv_icmp_eq (tgt := 167) hx hb dL_law_162 (by decide) (fun c_162 => ?_) (fun c_162 => ?_)
          · refine lv_iload hx hb dL_law_167 (lv_at hl 1 rfl) ?_
            refine lv_if_ne (tgt := 184) hx hb dL_law_169 (by decide) (fun c_169 => ?_) (fun c_169 => ?_)
            · refine lv_goto (tgt := 835) hx hb dL_law_184 (by decide) ?_
              refine lv_iinc (v := x4 + 4) (lv' := [(4, .int (x4 + 4)), (6, .int r_151), (5, .int r_133), (0, .ref b9), (1, .ref (a 0)), (2, .ref (b 0)), (3, .ref (o 0))]) hx hb dL_law_835 hl (k := 6) rfl rfl (by decide) rfl (fun ls hl => ?_)
              refine lv_goto (tgt := 23) hx hb dL_law_838 (by decide) ?_
              refine W.widen (k := 22 + (i + 1)) (n := 4639 + 6 * (i + 1)) (by omega) (by omega) ?_
              exact ih (i + 1) (x4 + 4) rd_133 wr_133 ay_133 ia_133 mo_133 wo_133 so oi si mi wi ns_133 nt nf np_133 sl_133 hs_133 uR_151 uW_151 uA_151 uM_151 uX_151 uF_151 uI_151 uS ut_151 us_151 ur_151 ub uo ui ul_151 uk uh_151 ou_133 (by omega) (by omega) (by rw [ex4]; exact nI_4 i) hR H locs hK hP hD hS ls (lv_sub hl [3, 4, 5, 6, 0] rfl)
            · refine lv_aload_n hx hb dL_law_172 rfl (lv_at hl 5 rfl) ?_
              refine lv_iconst (v := 0) hx hb dL_law_173 (by decide) ?_
              refine va_lald hx hb hK hP 21 19 rfl rfl (ix_k (by decide)) dL_law_174 ?_
              refine lv_iload hx hb dL_law_175 (lv_at hl 0 rfl) ?_
              refine lv_i2l hx hb dL_law_177 rfl ?_
              refine W.lcmp hx hb dL_law_178 ?_
              refine lv_if_eq (tgt := 184) hx hb dL_law_179 (by decide) (fun c_179 => ?_) (fun c_179 => ?_)
              · refine lv_goto (tgt := 835) hx hb dL_law_184 (by decide) ?_
                refine lv_iinc (v := x4 + 4) (lv' := [(4, .int (x4 + 4)), (6, .int r_151), (5, .int r_133), (0, .ref b9), (1, .ref (a 0)), (2, .ref (b 0)), (3, .ref (o 0))]) hx hb dL_law_835 hl (k := 6) rfl rfl (by decide) rfl (fun ls hl => ?_)
                refine lv_goto (tgt := 23) hx hb dL_law_838 (by decide) ?_
                refine W.widen (k := 22 + (i + 1)) (n := 4639 + 6 * (i + 1)) (by omega) (by omega) ?_
                exact ih (i + 1) (x4 + 4) rd_133 wr_133 ay_133 ia_133 mo_133 wo_133 so oi si mi wi ns_133 nt nf np_133 sl_133 hs_133 uR_151 uW_151 uA_151 uM_151 uX_151 uF_151 uI_151 uS ut_151 us_151 ur_151 ub uo ui ul_151 uk uh_151 ou_133 (by omega) (by omega) (by rw [ex4]; exact nI_4 i) hR H locs hK hP hD hS ls (lv_sub hl [3, 4, 5, 6, 0] rfl)
              · exact absurd (lc_eq (hr2 c_169)) c_179
          · exact absurd hr1 c_162
        · by_cases c_39_2 : ((xs x4.toNatClampNeg) &&& 15) = 2
          · refine lv_tableIn (off := 148) (tgt := 187) hx hb dL_law_39 (by rw [c_39_2]; decide) (by rw [c_39_2]; decide) (by rw [c_39_2]; rfl) (by decide) ?_
            refine lv_aload_n hx hb dL_law_187 rfl (lv_at hl 1 rfl) ?_
            refine lv_aload_n hx hb dL_law_188 rfl (lv_at hl 0 rfl) ?_
            refine lv_iload hx hb dL_law_189 (lv_at hl 4 rfl) ?_
            refine lv_iconst (v := 1) hx hb dL_law_191 (by decide) ?_
            refine lv_iadd hx hb dL_law_192 ?_
            refine va_sld hx hb hX hbl hbA hS hi1 dL_law_193 ?_
            refine lv_aload_n hx hb dL_law_194 rfl (lv_at hl 0 rfl) ?_
            refine lv_iload hx hb dL_law_195 (lv_at hl 4 rfl) ?_
            refine lv_iconst (v := 2) hx hb dL_law_197 (by decide) ?_
            refine lv_iadd hx hb dL_law_198 ?_
            refine va_sld hx hb hX hbl hbA hS hi2 dL_law_199 ?_
            refine lv_aload_n hx hb dL_law_200 rfl (lv_at hl 0 rfl) ?_
            refine lv_iload hx hb dL_law_201 (lv_at hl 4 rfl) ?_
            refine lv_iconst (v := 3) hx hb dL_law_203 (by decide) ?_
            refine lv_iadd hx hb dL_law_204 ?_
            refine va_sld hx hb hX hbl hbA hS hi3 dL_law_205 ?_
            refine lv_aload_n hx hb dL_law_206 rfl (lv_at hl 3 rfl) ?_
            have hPc := hP.sub (ws' := (ws_sl a k rd wr ay ia mo wo so oi si mi wi ns nt nf np sl hs) ++ (ws_ou o j ou)) [0, 1, 2, 3, 4, 5, 6, 7, 8, 9, 10, 11, 21] rfl
            have hDc := hD.sub (ws' := (ws_sl a k rd wr ay ia mo wo so oi si mi wi ns nt nf np sl hs) ++ (ws_ou o j ou)) [0, 1, 2, 3, 4, 5, 6, 7, 8, 9, 10, 11, 21] (by decide) rfl
            have hKc := hK.sub (tys' := (ty_sl k) ++ (ty_ou j)) [0, 1, 2, 3, 4, 5, 6, 7, 8, 9, 10, 19] rfl
            have hFc := va_free (wc := (ws_sl a k rd wr ay ia mo wo so oi si mi wi ns nt nf np sl hs) ++ (ws_ou o j ou)) hD hS hA [0, 1, 2, 3, 4, 5, 6, 7, 8, 9, 10, 11, 21] rfl
            refine va_calli (vx_runSW (As := [.ref (a 0), .int (xs (x4 + 1).toNatClampNeg), .int (xs (x4 + 2).toNatClampNeg), .int (xs (x4 + 3).toNatClampNeg), .ref (o 0)]) (rest := []) ⟨hx, hb, hml, hown, hg⟩ (cl_load l hl9 dC dI a k o j sx H.size rd wr ay ia mo wo so oi si mi wi ns nt nf np sl hs ou (xs (x4 + 1).toNatClampNeg) (xs (x4 + 2).toNatClampNeg) (xs (x4 + 3).toNatClampNeg)) (vx_cwSW 5 hg (gi_S w_231 w_232 w_0 w_233) rfl rfl rfl (by decide +kernel) ⟨Nat.le_of_ble_eq_true rfl, Nat.le_of_ble_eq_true rfl⟩) ⟨prx_bl, prx_ok hKc hPc hDc hX9 hS hFc⟩ rfl rfl hl.1 rfl (lv_room (Nat.le_of_ble_eq_true rfl)) dL_law_207 ⟨by omega, by omega⟩) hS (fun q _ h => hFc q h) hFc (fun r_207 u t H1 locs ht hvm hw_207 hB hz1 hk1 hS => ?_)
            obtain ⟨rd_207, wr_207, ay_207, ia_207, mo_207, wo_207, ns_207, np_207, sl_207, hs_207, ou_207⟩ := u
            obtain ⟨hP1, hK1, hD1⟩ := hB
            rw [ht] at hP1
            obtain ⟨hP, hD⟩ := va_join (wr := ws_sm b h uR uW uA uM uX uF uI uS ut us ur ub uo ui ul uk uh) (w1 := (ws_sl a k rd_207 wr_207 ay_207 ia_207 mo_207 wo_207 so oi si mi wi ns_207 nt nf np_207 sl_207 hs_207) ++ (ws_ou o j ou_207)) hP hD [0, 1, 2, 3, 4, 5, 6, 7, 8, 9, 10, 11, 21] [12, 13, 14, 15, 16, 17, 18, 19, 20] rfl rfl (by decide) (by decide) hk1 hFc hP1 hD1
            have hP := hP.sub (ws' := (ws_sl a k rd_207 wr_207 ay_207 ia_207 mo_207 wo_207 so oi si mi wi ns_207 nt nf np_207 sl_207 hs_207) ++ (ws_sm b h uR uW uA uM uX uF uI uS ut us ur ub uo ui ul uk uh) ++ (ws_ou o j ou_207)) [9, 10, 11, 12, 13, 14, 15, 16, 17, 18, 19, 20, 0, 1, 2, 3, 4, 5, 6, 7, 8, 21] rfl
            have hD := hD.sub (ws' := (ws_sl a k rd_207 wr_207 ay_207 ia_207 mo_207 wo_207 so oi si mi wi ns_207 nt nf np_207 sl_207 hs_207) ++ (ws_sm b h uR uW uA uM uX uF uI uS ut us ur ub uo ui ul uk uh) ++ (ws_ou o j ou_207)) [9, 10, 11, 12, 13, 14, 15, 16, 17, 18, 19, 20, 0, 1, 2, 3, 4, 5, 6, 7, 8, 21] (by decide) rfl
            generalize H1 = H at hP hS ⊢
            have hP : va_P (dC, dI) vwCl ((ws_sl a k rd_207 wr_207 ay_207 ia_207 mo_207 wo_207 so oi si mi wi ns_207 nt nf np_207 sl_207 hs_207) ++ (ws_sm b h uR uW uA uM uX uF uI uS ut us ur ub uo ui ul uk uh) ++ (ws_ou o j ou_207)) H := hP
            have hD : va_D (fun q : Nat => s.heap.size ≤ q) ((ws_sl a k rd_207 wr_207 ay_207 ia_207 mo_207 wo_207 so oi si mi wi ns_207 nt nf np_207 sl_207 hs_207) ++ (ws_sm b h uR uW uA uM uX uF uI uS ut us ur ub uo ui ul uk uh) ++ (ws_ou o j ou_207)) := hD
            refine lv_istore (lv' := [(5, .int r_207), (0, .ref b9), (1, .ref (a 0)), (2, .ref (b 0)), (3, .ref (o 0)), (4, .int x4)]) hx hb dL_law_210 hl (by decide) rfl (fun ls hl => ?_)
            refine lv_aload_n hx hb dL_law_212 rfl (lv_at hl 3 rfl) ?_
            refine lv_aload_n hx hb dL_law_213 rfl (lv_at hl 1 rfl) ?_
            refine lv_iload hx hb dL_law_214 (lv_at hl 5 rfl) ?_
            refine lv_iconst (v := 1) hx hb dL_law_216 (by decide) ?_
            refine lv_iadd hx hb dL_law_217 ?_
            refine va_sld hx hb hX hbl hbA hS hi1 dL_law_218 ?_
            refine lv_aload_n hx hb dL_law_219 rfl (lv_at hl 1 rfl) ?_
            refine lv_iload hx hb dL_law_220 (lv_at hl 5 rfl) ?_
            refine lv_iconst (v := 2) hx hb dL_law_222 (by decide) ?_
            refine lv_iadd hx hb dL_law_223 ?_
            refine va_sld hx hb hX hbl hbA hS hi2 dL_law_224 ?_
            refine lv_aload_n hx hb dL_law_225 rfl (lv_at hl 1 rfl) ?_
            refine lv_iload hx hb dL_law_226 (lv_at hl 5 rfl) ?_
            refine lv_iconst (v := 3) hx hb dL_law_228 (by decide) ?_
            refine lv_iadd hx hb dL_law_229 ?_
            refine va_sld hx hb hX hbl hbA hS hi3 dL_law_230 ?_
            have hPc := hP.sub (ws' := ws_sm b h uR uW uA uM uX uF uI uS ut us ur ub uo ui ul uk uh) [12, 13, 14, 15, 16, 17, 18, 19, 20] rfl
            have hDc := hD.sub (ws' := ws_sm b h uR uW uA uM uX uF uI uS ut us ur ub uo ui ul uk uh) [12, 13, 14, 15, 16, 17, 18, 19, 20] (by decide) rfl
            have hKc := hK.sub (tys' := ty_sm h) [11, 12, 13, 14, 15, 16, 17, 18] rfl
            have hFc := va_free (wc := ws_sm b h uR uW uA uM uX uF uI uS ut us ur ub uo ui ul uk uh) hD hS hA [12, 13, 14, 15, 16, 17, 18, 19, 20] rfl
            refine va_calli (va_runV (As := [.int (xs (x4 + 1).toNatClampNeg), .int (xs (x4 + 2).toNatClampNeg), .int (xs (x4 + 3).toNatClampNeg)]) (rest := []) ⟨hx, hb, hml, hown, hg⟩ (cm_load l dC dI b h H.size uR uW uA uM uX uF uI uS ut us ur ub uo ui ul uk uh (xs (x4 + 1).toNatClampNeg) (xs (x4 + 2).toNatClampNeg) (xs (x4 + 3).toNatClampNeg) (rl_hu hR)) (cwV 3 hg (gi_V w_440 w_441 w_442 w_2 w_443) rfl rfl rfl (by decide +kernel) ⟨Nat.le_of_ble_eq_true rfl, Nat.le_of_ble_eq_true rfl⟩) ⟨pr_bl, va_recv hKc hPc (ci := 1) (q0 := 0) rfl rfl, pr_ok hKc hPc hDc⟩ rfl rfl hl.1 rfl (lv_room (Nat.le_of_ble_eq_true rfl)) dL_law_231 ⟨by omega, by omega⟩) hS (fun q _ h => hFc q h) hFc (fun r_231 u t H1 locs ht hvm hw_231 hB hz1 hk1 hS => ?_)
            obtain ⟨uR_231, uW_231, uA_231, uM_231, uX_231, uF_231, uI_231, ut_231, us_231, ur_231, ul_231, uh_231⟩ := u
            obtain ⟨hP1, hK1, hD1⟩ := hB
            rw [ht] at hP1
            obtain ⟨hP, hD⟩ := va_join (wr := (ws_sl a k rd_207 wr_207 ay_207 ia_207 mo_207 wo_207 so oi si mi wi ns_207 nt nf np_207 sl_207 hs_207) ++ (ws_ou o j ou_207)) (w1 := ws_sm b h uR_231 uW_231 uA_231 uM_231 uX_231 uF_231 uI_231 uS ut_231 us_231 ur_231 ub uo ui ul_231 uk uh_231) hP hD [12, 13, 14, 15, 16, 17, 18, 19, 20] [0, 1, 2, 3, 4, 5, 6, 7, 8, 9, 10, 11, 21] rfl rfl (by decide) (by decide) hk1 hFc hP1 hD1
            have hP := hP.sub (ws' := (ws_sl a k rd_207 wr_207 ay_207 ia_207 mo_207 wo_207 so oi si mi wi ns_207 nt nf np_207 sl_207 hs_207) ++ (ws_sm b h uR_231 uW_231 uA_231 uM_231 uX_231 uF_231 uI_231 uS ut_231 us_231 ur_231 ub uo ui ul_231 uk uh_231) ++ (ws_ou o j ou_207)) [0, 1, 2, 3, 4, 5, 6, 7, 8, 9, 10, 11, 13, 14, 15, 16, 17, 18, 19, 20, 21, 12] rfl
            have hD := hD.sub (ws' := (ws_sl a k rd_207 wr_207 ay_207 ia_207 mo_207 wo_207 so oi si mi wi ns_207 nt nf np_207 sl_207 hs_207) ++ (ws_sm b h uR_231 uW_231 uA_231 uM_231 uX_231 uF_231 uI_231 uS ut_231 us_231 ur_231 ub uo ui ul_231 uk uh_231) ++ (ws_ou o j ou_207)) [0, 1, 2, 3, 4, 5, 6, 7, 8, 9, 10, 11, 13, 14, 15, 16, 17, 18, 19, 20, 21, 12] (by decide) rfl
            generalize H1 = H at hP hS ⊢
            have hP : va_P (dC, dI) vwCl ((ws_sl a k rd_207 wr_207 ay_207 ia_207 mo_207 wo_207 so oi si mi wi ns_207 nt nf np_207 sl_207 hs_207) ++ (ws_sm b h uR_231 uW_231 uA_231 uM_231 uX_231 uF_231 uI_231 uS ut_231 us_231 ur_231 ub uo ui ul_231 uk uh_231) ++ (ws_ou o j ou_207)) H := hP
            have hD : va_D (fun q : Nat => s.heap.size ≤ q) ((ws_sl a k rd_207 wr_207 ay_207 ia_207 mo_207 wo_207 so oi si mi wi ns_207 nt nf np_207 sl_207 hs_207) ++ (ws_sm b h uR_231 uW_231 uA_231 uM_231 uX_231 uF_231 uI_231 uS ut_231 us_231 ur_231 ub uo ui ul_231 uk uh_231) ++ (ws_ou o j ou_207)) := hD
            have hrl := rl_load hR hw_207 hw_231
            obtain ⟨hr1, hr2, hR⟩ := hrl
            refine lv_istore (lv' := [(6, .int r_231), (5, .int r_207), (0, .ref b9), (1, .ref (a 0)), (2, .ref (b 0)), (3, .ref (o 0)), (4, .int x4)]) hx hb dL_law_234 hl (by decide) rfl (fun ls hl => ?_)
            refine lv_aload_n hx hb dL_law_236 rfl (lv_at hl 4 rfl) ?_
            have hPc := hP.sub (ws' := ws_sm b h uR_231 uW_231 uA_231 uM_231 uX_231 uF_231 uI_231 uS ut_231 us_231 ur_231 ub uo ui ul_231 uk uh_231) [12, 13, 14, 15, 16, 17, 18, 19, 20] rfl
            have hDc := hD.sub (ws' := ws_sm b h uR_231 uW_231 uA_231 uM_231 uX_231 uF_231 uI_231 uS ut_231 us_231 ur_231 ub uo ui ul_231 uk uh_231) [12, 13, 14, 15, 16, 17, 18, 19, 20] (by decide) rfl
            have hKc := hK.sub (tys' := ty_sm h) [11, 12, 13, 14, 15, 16, 17, 18] rfl
            have hFc := va_free (wc := ws_sm b h uR_231 uW_231 uA_231 uM_231 uX_231 uF_231 uI_231 uS ut_231 us_231 ur_231 ub uo ui ul_231 uk uh_231) hD hS hA [12, 13, 14, 15, 16, 17, 18, 19, 20] rfl
            refine va_calli (va_runV (As := []) (rest := []) ⟨hx, hb, hml, hown, hg⟩ (cm_thrown l dC dI b h H.size uR_231 uW_231 uA_231 uM_231 uX_231 uF_231 uI_231 uS ut_231 us_231 ur_231 ub uo ui ul_231 uk uh_231) (cwV 0 hg (gi_V w_399 w_400 w_401 w_2 w_402) rfl rfl rfl (by decide +kernel) ⟨Nat.le_of_ble_eq_true rfl, Nat.le_of_ble_eq_true rfl⟩) ⟨pr_bl, va_recv hKc hPc (ci := 1) (q0 := 0) rfl rfl, pr_ok hKc hPc hDc⟩ rfl rfl hl.1 rfl (lv_room (Nat.le_of_ble_eq_true rfl)) dL_law_237 ⟨by omega, by omega⟩) hS (fun q _ h => hFc q h) hFc (fun r_237 u t H1 locs ht hvm hw_237 hB hz1 hk1 hS => ?_)
            have hw_237 := hw_237.symm
            subst hw_237
            obtain ⟨hP1, hK1, hD1⟩ := hB
            rw [ht] at hP1
            obtain ⟨hP, hD⟩ := va_join (wr := (ws_sl a k rd_207 wr_207 ay_207 ia_207 mo_207 wo_207 so oi si mi wi ns_207 nt nf np_207 sl_207 hs_207) ++ (ws_ou o j ou_207)) (w1 := ws_sm b h uR_231 uW_231 uA_231 uM_231 uX_231 uF_231 uI_231 uS ut_231 us_231 ur_231 ub uo ui ul_231 uk uh_231) hP hD [12, 13, 14, 15, 16, 17, 18, 19, 20] [0, 1, 2, 3, 4, 5, 6, 7, 8, 9, 10, 11, 21] rfl rfl (by decide) (by decide) hk1 hFc hP1 hD1
            have hP := hP.sub (ws' := (ws_sl a k rd_207 wr_207 ay_207 ia_207 mo_207 wo_207 so oi si mi wi ns_207 nt nf np_207 sl_207 hs_207) ++ (ws_sm b h uR_231 uW_231 uA_231 uM_231 uX_231 uF_231 uI_231 uS ut_231 us_231 ur_231 ub uo ui ul_231 uk uh_231) ++ (ws_ou o j ou_207)) [0, 1, 2, 3, 4, 5, 6, 7, 8, 9, 10, 11, 13, 14, 15, 16, 17, 18, 19, 20, 21, 12] rfl
            have hD := hD.sub (ws' := (ws_sl a k rd_207 wr_207 ay_207 ia_207 mo_207 wo_207 so oi si mi wi ns_207 nt nf np_207 sl_207 hs_207) ++ (ws_sm b h uR_231 uW_231 uA_231 uM_231 uX_231 uF_231 uI_231 uS ut_231 us_231 ur_231 ub uo ui ul_231 uk uh_231) ++ (ws_ou o j ou_207)) [0, 1, 2, 3, 4, 5, 6, 7, 8, 9, 10, 11, 13, 14, 15, 16, 17, 18, 19, 20, 21, 12] (by decide) rfl
            generalize H1 = H at hP hS ⊢
            have hP : va_P (dC, dI) vwCl ((ws_sl a k rd_207 wr_207 ay_207 ia_207 mo_207 wo_207 so oi si mi wi ns_207 nt nf np_207 sl_207 hs_207) ++ (ws_sm b h uR_231 uW_231 uA_231 uM_231 uX_231 uF_231 uI_231 uS ut_231 us_231 ur_231 ub uo ui ul_231 uk uh_231) ++ (ws_ou o j ou_207)) H := hP
            have hD : va_D (fun q : Nat => s.heap.size ≤ q) ((ws_sl a k rd_207 wr_207 ay_207 ia_207 mo_207 wo_207 so oi si mi wi ns_207 nt nf np_207 sl_207 hs_207) ++ (ws_sm b h uR_231 uW_231 uA_231 uM_231 uX_231 uF_231 uI_231 uS ut_231 us_231 ur_231 ub uo ui ul_231 uk uh_231) ++ (ws_ou o j ou_207)) := hD
            refine lv_iload hx hb dL_law_240 (lv_at hl 1 rfl) ?_
            refine lv_icmp_eq (tgt := 247) hx hb dL_law_242 (by decide) (fun c_242 => ?_) (fun c_242 => ?_)
            · refine lv_iload hx hb dL_law_247 (lv_at hl 1 rfl) ?_
              refine lv_if_ne (tgt := 264) hx hb dL_law_249 (by decide) (fun c_249 => ?_) (fun c_249 => ?_)
              · refine lv_goto (tgt := 835) hx hb dL_law_264 (by decide) ?_
                refine lv_iinc (v := x4 + 4) (lv' := [(4, .int (x4 + 4)), (6, .int r_231), (5, .int r_207), (0, .ref b9), (1, .ref (a 0)), (2, .ref (b 0)), (3, .ref (o 0))]) hx hb dL_law_835 hl (k := 6) rfl rfl (by decide) rfl (fun ls hl => ?_)
                refine lv_goto (tgt := 23) hx hb dL_law_838 (by decide) ?_
                refine W.widen (k := 22 + (i + 1)) (n := 4639 + 6 * (i + 1)) (by omega) (by omega) ?_
                exact ih (i + 1) (x4 + 4) rd_207 wr_207 ay_207 ia_207 mo_207 wo_207 so oi si mi wi ns_207 nt nf np_207 sl_207 hs_207 uR_231 uW_231 uA_231 uM_231 uX_231 uF_231 uI_231 uS ut_231 us_231 ur_231 ub uo ui ul_231 uk uh_231 ou_207 (by omega) (by omega) (by rw [ex4]; exact nI_4 i) hR H locs hK hP hD hS ls (lv_sub hl [3, 4, 5, 6, 0] rfl)
              · refine lv_aload_n hx hb dL_law_252 rfl (lv_at hl 5 rfl) ?_
                refine lv_iconst (v := 0) hx hb dL_law_253 (by decide) ?_
                refine va_lald hx hb hK hP 21 19 rfl rfl (ix_k (by decide)) dL_law_254 ?_
                refine lv_iload hx hb dL_law_255 (lv_at hl 0 rfl) ?_
                refine lv_i2l hx hb dL_law_257 rfl ?_
                refine W.lcmp hx hb dL_law_258 ?_
                refine lv_if_eq (tgt := 264) hx hb dL_law_259 (by decide) (fun c_259 => ?_) (fun c_259 => ?_)
                · refine lv_goto (tgt := 835) hx hb dL_law_264 (by decide) ?_
                  refine lv_iinc (v := x4 + 4) (lv' := [(4, .int (x4 + 4)), (6, .int r_231), (5, .int r_207), (0, .ref b9), (1, .ref (a 0)), (2, .ref (b 0)), (3, .ref (o 0))]) hx hb dL_law_835 hl (k := 6) rfl rfl (by decide) rfl (fun ls hl => ?_)
                  refine lv_goto (tgt := 23) hx hb dL_law_838 (by decide) ?_
                  refine W.widen (k := 22 + (i + 1)) (n := 4639 + 6 * (i + 1)) (by omega) (by omega) ?_
                  exact ih (i + 1) (x4 + 4) rd_207 wr_207 ay_207 ia_207 mo_207 wo_207 so oi si mi wi ns_207 nt nf np_207 sl_207 hs_207 uR_231 uW_231 uA_231 uM_231 uX_231 uF_231 uI_231 uS ut_231 us_231 ur_231 ub uo ui ul_231 uk uh_231 ou_207 (by omega) (by omega) (by rw [ex4]; exact nI_4 i) hR H locs hK hP hD hS ls (lv_sub hl [3, 4, 5, 6, 0] rfl)
                · exact absurd (lc_eq (hr2 c_249)) c_259
            · exact absurd hr1 c_242
          · by_cases c_39_3 : ((xs x4.toNatClampNeg) &&& 15) = 3
            · refine lv_tableIn (off := 228) (tgt := 267) hx hb dL_law_39 (by rw [c_39_3]; decide) (by rw [c_39_3]; decide) (by rw [c_39_3]; rfl) (by decide) ?_
              refine lv_aload_n hx hb dL_law_267 rfl (lv_at hl 1 rfl) ?_
              refine lv_aload_n hx hb dL_law_268 rfl (lv_at hl 0 rfl) ?_
              refine lv_iload hx hb dL_law_269 (lv_at hl 4 rfl) ?_
              refine lv_iconst (v := 1) hx hb dL_law_271 (by decide) ?_
              refine lv_iadd hx hb dL_law_272 ?_
              refine va_sld hx hb hX hbl hbA hS hi1 dL_law_273 ?_
              refine lv_aload_n hx hb dL_law_274 rfl (lv_at hl 0 rfl) ?_
              refine lv_iload hx hb dL_law_275 (lv_at hl 4 rfl) ?_
              refine lv_iconst (v := 2) hx hb dL_law_277 (by decide) ?_
              refine lv_iadd hx hb dL_law_278 ?_
              refine va_sld hx hb hX hbl hbA hS hi2 dL_law_279 ?_
              refine lv_aload_n hx hb dL_law_280 rfl (lv_at hl 0 rfl) ?_
              refine lv_iload hx hb dL_law_281 (lv_at hl 4 rfl) ?_
              refine lv_iconst (v := 3) hx hb dL_law_283 (by decide) ?_
              refine lv_iadd hx hb dL_law_284 ?_
              refine va_sld hx hb hX hbl hbA hS hi3 dL_law_285 ?_
              refine lv_aload_n hx hb dL_law_286 rfl (lv_at hl 3 rfl) ?_
              have hPc := hP.sub (ws' := (ws_sl a k rd wr ay ia mo wo so oi si mi wi ns nt nf np sl hs) ++ (ws_ou o j ou)) [0, 1, 2, 3, 4, 5, 6, 7, 8, 9, 10, 11, 21] rfl
              have hDc := hD.sub (ws' := (ws_sl a k rd wr ay ia mo wo so oi si mi wi ns nt nf np sl hs) ++ (ws_ou o j ou)) [0, 1, 2, 3, 4, 5, 6, 7, 8, 9, 10, 11, 21] (by decide) rfl
              have hKc := hK.sub (tys' := (ty_sl k) ++ (ty_ou j)) [0, 1, 2, 3, 4, 5, 6, 7, 8, 9, 10, 19] rfl
              have hFc := va_free (wc := (ws_sl a k rd wr ay ia mo wo so oi si mi wi ns nt nf np sl hs) ++ (ws_ou o j ou)) hD hS hA [0, 1, 2, 3, 4, 5, 6, 7, 8, 9, 10, 11, 21] rfl
              refine va_calli (vx_runSW (As := [.ref (a 0), .int (xs (x4 + 1).toNatClampNeg), .int (xs (x4 + 2).toNatClampNeg), .int (xs (x4 + 3).toNatClampNeg), .ref (o 0)]) (rest := []) ⟨hx, hb, hml, hown, hg⟩ (cl_store l hl9 dC dI a k o j sx H.size rd wr ay ia mo wo so oi si mi wi ns nt nf np sl hs ou (xs (x4 + 1).toNatClampNeg) (xs (x4 + 2).toNatClampNeg) (xs (x4 + 3).toNatClampNeg)) (vx_cwSW 5 hg (gi_S w_242 w_243 w_0 w_244) rfl rfl rfl (by decide +kernel) ⟨Nat.le_of_ble_eq_true rfl, Nat.le_of_ble_eq_true rfl⟩) ⟨prx_bl, prx_ok hKc hPc hDc hX9 hS hFc⟩ rfl rfl hl.1 rfl (lv_room (Nat.le_of_ble_eq_true rfl)) dL_law_287 ⟨by omega, by omega⟩) hS (fun q _ h => hFc q h) hFc (fun r_287 u t H1 locs ht hvm hw_287 hB hz1 hk1 hS => ?_)
              obtain ⟨rd_287, wr_287, ay_287, ia_287, mo_287, wo_287, ns_287, np_287, sl_287, hs_287, ou_287⟩ := u
              obtain ⟨hP1, hK1, hD1⟩ := hB
              rw [ht] at hP1
              obtain ⟨hP, hD⟩ := va_join (wr := ws_sm b h uR uW uA uM uX uF uI uS ut us ur ub uo ui ul uk uh) (w1 := (ws_sl a k rd_287 wr_287 ay_287 ia_287 mo_287 wo_287 so oi si mi wi ns_287 nt nf np_287 sl_287 hs_287) ++ (ws_ou o j ou_287)) hP hD [0, 1, 2, 3, 4, 5, 6, 7, 8, 9, 10, 11, 21] [12, 13, 14, 15, 16, 17, 18, 19, 20] rfl rfl (by decide) (by decide) hk1 hFc hP1 hD1
              have hP := hP.sub (ws' := (ws_sl a k rd_287 wr_287 ay_287 ia_287 mo_287 wo_287 so oi si mi wi ns_287 nt nf np_287 sl_287 hs_287) ++ (ws_sm b h uR uW uA uM uX uF uI uS ut us ur ub uo ui ul uk uh) ++ (ws_ou o j ou_287)) [9, 10, 11, 12, 13, 14, 15, 16, 17, 18, 19, 20, 0, 1, 2, 3, 4, 5, 6, 7, 8, 21] rfl
              have hD := hD.sub (ws' := (ws_sl a k rd_287 wr_287 ay_287 ia_287 mo_287 wo_287 so oi si mi wi ns_287 nt nf np_287 sl_287 hs_287) ++ (ws_sm b h uR uW uA uM uX uF uI uS ut us ur ub uo ui ul uk uh) ++ (ws_ou o j ou_287)) [9, 10, 11, 12, 13, 14, 15, 16, 17, 18, 19, 20, 0, 1, 2, 3, 4, 5, 6, 7, 8, 21] (by decide) rfl
              generalize H1 = H at hP hS ⊢
              have hP : va_P (dC, dI) vwCl ((ws_sl a k rd_287 wr_287 ay_287 ia_287 mo_287 wo_287 so oi si mi wi ns_287 nt nf np_287 sl_287 hs_287) ++ (ws_sm b h uR uW uA uM uX uF uI uS ut us ur ub uo ui ul uk uh) ++ (ws_ou o j ou_287)) H := hP
              have hD : va_D (fun q : Nat => s.heap.size ≤ q) ((ws_sl a k rd_287 wr_287 ay_287 ia_287 mo_287 wo_287 so oi si mi wi ns_287 nt nf np_287 sl_287 hs_287) ++ (ws_sm b h uR uW uA uM uX uF uI uS ut us ur ub uo ui ul uk uh) ++ (ws_ou o j ou_287)) := hD
              refine lv_istore (lv' := [(5, .int r_287), (0, .ref b9), (1, .ref (a 0)), (2, .ref (b 0)), (3, .ref (o 0)), (4, .int x4)]) hx hb dL_law_290 hl (by decide) rfl (fun ls hl => ?_)
              refine lv_aload_n hx hb dL_law_292 rfl (lv_at hl 3 rfl) ?_
              refine lv_aload_n hx hb dL_law_293 rfl (lv_at hl 1 rfl) ?_
              refine lv_iload hx hb dL_law_294 (lv_at hl 5 rfl) ?_
              refine lv_iconst (v := 1) hx hb dL_law_296 (by decide) ?_
              refine lv_iadd hx hb dL_law_297 ?_
              refine va_sld hx hb hX hbl hbA hS hi1 dL_law_298 ?_
              refine lv_aload_n hx hb dL_law_299 rfl (lv_at hl 1 rfl) ?_
              refine lv_iload hx hb dL_law_300 (lv_at hl 5 rfl) ?_
              refine lv_iconst (v := 2) hx hb dL_law_302 (by decide) ?_
              refine lv_iadd hx hb dL_law_303 ?_
              refine va_sld hx hb hX hbl hbA hS hi2 dL_law_304 ?_
              refine lv_aload_n hx hb dL_law_305 rfl (lv_at hl 1 rfl) ?_
              refine lv_iload hx hb dL_law_306 (lv_at hl 5 rfl) ?_
              refine lv_iconst (v := 3) hx hb dL_law_308 (by decide) ?_
              refine lv_iadd hx hb dL_law_309 ?_
              refine va_sld hx hb hX hbl hbA hS hi3 dL_law_310 ?_
              have hPc := hP.sub (ws' := ws_sm b h uR uW uA uM uX uF uI uS ut us ur ub uo ui ul uk uh) [12, 13, 14, 15, 16, 17, 18, 19, 20] rfl
              have hDc := hD.sub (ws' := ws_sm b h uR uW uA uM uX uF uI uS ut us ur ub uo ui ul uk uh) [12, 13, 14, 15, 16, 17, 18, 19, 20] (by decide) rfl
              have hKc := hK.sub (tys' := ty_sm h) [11, 12, 13, 14, 15, 16, 17, 18] rfl
              have hFc := va_free (wc := ws_sm b h uR uW uA uM uX uF uI uS ut us ur ub uo ui ul uk uh) hD hS hA [12, 13, 14, 15, 16, 17, 18, 19, 20] rfl
              refine va_calli (va_runV (As := [.int (xs (x4 + 1).toNatClampNeg), .int (xs (x4 + 2).toNatClampNeg), .int (xs (x4 + 3).toNatClampNeg)]) (rest := []) ⟨hx, hb, hml, hown, hg⟩ (cm_store l dC dI b h H.size uR uW uA uM uX uF uI uS ut us ur ub uo ui ul uk uh (xs (x4 + 1).toNatClampNeg) (xs (x4 + 2).toNatClampNeg) (xs (x4 + 3).toNatClampNeg) (rl_hu hR)) (cwV 3 hg (gi_V w_444 w_445 w_446 w_2 w_447) rfl rfl rfl (by decide +kernel) ⟨Nat.le_of_ble_eq_true rfl, Nat.le_of_ble_eq_true rfl⟩) ⟨pr_bl, va_recv hKc hPc (ci := 1) (q0 := 0) rfl rfl, pr_ok hKc hPc hDc⟩ rfl rfl hl.1 rfl (lv_room (Nat.le_of_ble_eq_true rfl)) dL_law_311 ⟨by omega, by omega⟩) hS (fun q _ h => hFc q h) hFc (fun r_311 u t H1 locs ht hvm hw_311 hB hz1 hk1 hS => ?_)
              obtain ⟨uR_311, uW_311, uA_311, uM_311, uX_311, uF_311, uI_311, ut_311, us_311, ur_311, ul_311, uh_311⟩ := u
              obtain ⟨hP1, hK1, hD1⟩ := hB
              rw [ht] at hP1
              obtain ⟨hP, hD⟩ := va_join (wr := (ws_sl a k rd_287 wr_287 ay_287 ia_287 mo_287 wo_287 so oi si mi wi ns_287 nt nf np_287 sl_287 hs_287) ++ (ws_ou o j ou_287)) (w1 := ws_sm b h uR_311 uW_311 uA_311 uM_311 uX_311 uF_311 uI_311 uS ut_311 us_311 ur_311 ub uo ui ul_311 uk uh_311) hP hD [12, 13, 14, 15, 16, 17, 18, 19, 20] [0, 1, 2, 3, 4, 5, 6, 7, 8, 9, 10, 11, 21] rfl rfl (by decide) (by decide) hk1 hFc hP1 hD1
              have hP := hP.sub (ws' := (ws_sl a k rd_287 wr_287 ay_287 ia_287 mo_287 wo_287 so oi si mi wi ns_287 nt nf np_287 sl_287 hs_287) ++ (ws_sm b h uR_311 uW_311 uA_311 uM_311 uX_311 uF_311 uI_311 uS ut_311 us_311 ur_311 ub uo ui ul_311 uk uh_311) ++ (ws_ou o j ou_287)) [0, 1, 2, 3, 4, 5, 6, 7, 8, 9, 10, 11, 13, 14, 15, 16, 17, 18, 19, 20, 21, 12] rfl
              have hD := hD.sub (ws' := (ws_sl a k rd_287 wr_287 ay_287 ia_287 mo_287 wo_287 so oi si mi wi ns_287 nt nf np_287 sl_287 hs_287) ++ (ws_sm b h uR_311 uW_311 uA_311 uM_311 uX_311 uF_311 uI_311 uS ut_311 us_311 ur_311 ub uo ui ul_311 uk uh_311) ++ (ws_ou o j ou_287)) [0, 1, 2, 3, 4, 5, 6, 7, 8, 9, 10, 11, 13, 14, 15, 16, 17, 18, 19, 20, 21, 12] (by decide) rfl
              generalize H1 = H at hP hS ⊢
              have hP : va_P (dC, dI) vwCl ((ws_sl a k rd_287 wr_287 ay_287 ia_287 mo_287 wo_287 so oi si mi wi ns_287 nt nf np_287 sl_287 hs_287) ++ (ws_sm b h uR_311 uW_311 uA_311 uM_311 uX_311 uF_311 uI_311 uS ut_311 us_311 ur_311 ub uo ui ul_311 uk uh_311) ++ (ws_ou o j ou_287)) H := hP
              have hD : va_D (fun q : Nat => s.heap.size ≤ q) ((ws_sl a k rd_287 wr_287 ay_287 ia_287 mo_287 wo_287 so oi si mi wi ns_287 nt nf np_287 sl_287 hs_287) ++ (ws_sm b h uR_311 uW_311 uA_311 uM_311 uX_311 uF_311 uI_311 uS ut_311 us_311 ur_311 ub uo ui ul_311 uk uh_311) ++ (ws_ou o j ou_287)) := hD
              have hrl := rl_store hR hw_287 hw_311
              obtain ⟨hr1, hr2, hR⟩ := hrl
              refine lv_istore (lv' := [(6, .int r_311), (5, .int r_287), (0, .ref b9), (1, .ref (a 0)), (2, .ref (b 0)), (3, .ref (o 0)), (4, .int x4)]) hx hb dL_law_314 hl (by decide) rfl (fun ls hl => ?_)
              refine lv_aload_n hx hb dL_law_316 rfl (lv_at hl 4 rfl) ?_
              have hPc := hP.sub (ws' := ws_sm b h uR_311 uW_311 uA_311 uM_311 uX_311 uF_311 uI_311 uS ut_311 us_311 ur_311 ub uo ui ul_311 uk uh_311) [12, 13, 14, 15, 16, 17, 18, 19, 20] rfl
              have hDc := hD.sub (ws' := ws_sm b h uR_311 uW_311 uA_311 uM_311 uX_311 uF_311 uI_311 uS ut_311 us_311 ur_311 ub uo ui ul_311 uk uh_311) [12, 13, 14, 15, 16, 17, 18, 19, 20] (by decide) rfl
              have hKc := hK.sub (tys' := ty_sm h) [11, 12, 13, 14, 15, 16, 17, 18] rfl
              have hFc := va_free (wc := ws_sm b h uR_311 uW_311 uA_311 uM_311 uX_311 uF_311 uI_311 uS ut_311 us_311 ur_311 ub uo ui ul_311 uk uh_311) hD hS hA [12, 13, 14, 15, 16, 17, 18, 19, 20] rfl
              refine va_calli (va_runV (As := []) (rest := []) ⟨hx, hb, hml, hown, hg⟩ (cm_thrown l dC dI b h H.size uR_311 uW_311 uA_311 uM_311 uX_311 uF_311 uI_311 uS ut_311 us_311 ur_311 ub uo ui ul_311 uk uh_311) (cwV 0 hg (gi_V w_399 w_400 w_401 w_2 w_402) rfl rfl rfl (by decide +kernel) ⟨Nat.le_of_ble_eq_true rfl, Nat.le_of_ble_eq_true rfl⟩) ⟨pr_bl, va_recv hKc hPc (ci := 1) (q0 := 0) rfl rfl, pr_ok hKc hPc hDc⟩ rfl rfl hl.1 rfl (lv_room (Nat.le_of_ble_eq_true rfl)) dL_law_317 ⟨by omega, by omega⟩) hS (fun q _ h => hFc q h) hFc (fun r_317 u t H1 locs ht hvm hw_317 hB hz1 hk1 hS => ?_)
              have hw_317 := hw_317.symm
              subst hw_317
              obtain ⟨hP1, hK1, hD1⟩ := hB
              rw [ht] at hP1
              obtain ⟨hP, hD⟩ := va_join (wr := (ws_sl a k rd_287 wr_287 ay_287 ia_287 mo_287 wo_287 so oi si mi wi ns_287 nt nf np_287 sl_287 hs_287) ++ (ws_ou o j ou_287)) (w1 := ws_sm b h uR_311 uW_311 uA_311 uM_311 uX_311 uF_311 uI_311 uS ut_311 us_311 ur_311 ub uo ui ul_311 uk uh_311) hP hD [12, 13, 14, 15, 16, 17, 18, 19, 20] [0, 1, 2, 3, 4, 5, 6, 7, 8, 9, 10, 11, 21] rfl rfl (by decide) (by decide) hk1 hFc hP1 hD1
              have hP := hP.sub (ws' := (ws_sl a k rd_287 wr_287 ay_287 ia_287 mo_287 wo_287 so oi si mi wi ns_287 nt nf np_287 sl_287 hs_287) ++ (ws_sm b h uR_311 uW_311 uA_311 uM_311 uX_311 uF_311 uI_311 uS ut_311 us_311 ur_311 ub uo ui ul_311 uk uh_311) ++ (ws_ou o j ou_287)) [0, 1, 2, 3, 4, 5, 6, 7, 8, 9, 10, 11, 13, 14, 15, 16, 17, 18, 19, 20, 21, 12] rfl
              have hD := hD.sub (ws' := (ws_sl a k rd_287 wr_287 ay_287 ia_287 mo_287 wo_287 so oi si mi wi ns_287 nt nf np_287 sl_287 hs_287) ++ (ws_sm b h uR_311 uW_311 uA_311 uM_311 uX_311 uF_311 uI_311 uS ut_311 us_311 ur_311 ub uo ui ul_311 uk uh_311) ++ (ws_ou o j ou_287)) [0, 1, 2, 3, 4, 5, 6, 7, 8, 9, 10, 11, 13, 14, 15, 16, 17, 18, 19, 20, 21, 12] (by decide) rfl
              generalize H1 = H at hP hS ⊢
              have hP : va_P (dC, dI) vwCl ((ws_sl a k rd_287 wr_287 ay_287 ia_287 mo_287 wo_287 so oi si mi wi ns_287 nt nf np_287 sl_287 hs_287) ++ (ws_sm b h uR_311 uW_311 uA_311 uM_311 uX_311 uF_311 uI_311 uS ut_311 us_311 ur_311 ub uo ui ul_311 uk uh_311) ++ (ws_ou o j ou_287)) H := hP
              have hD : va_D (fun q : Nat => s.heap.size ≤ q) ((ws_sl a k rd_287 wr_287 ay_287 ia_287 mo_287 wo_287 so oi si mi wi ns_287 nt nf np_287 sl_287 hs_287) ++ (ws_sm b h uR_311 uW_311 uA_311 uM_311 uX_311 uF_311 uI_311 uS ut_311 us_311 ur_311 ub uo ui ul_311 uk uh_311) ++ (ws_ou o j ou_287)) := hD
              refine lv_iload hx hb dL_law_320 (lv_at hl 1 rfl) ?_
              refine lv_icmp_eq (tgt := 327) hx hb dL_law_322 (by decide) (fun c_322 => ?_) (fun c_322 => ?_)
              · refine lv_iload hx hb dL_law_327 (lv_at hl 1 rfl) ?_
                refine lv_if_ne (tgt := 344) hx hb dL_law_329 (by decide) (fun c_329 => ?_) (fun c_329 => ?_)
                · refine lv_goto (tgt := 835) hx hb dL_law_344 (by decide) ?_
                  refine lv_iinc (v := x4 + 4) (lv' := [(4, .int (x4 + 4)), (6, .int r_311), (5, .int r_287), (0, .ref b9), (1, .ref (a 0)), (2, .ref (b 0)), (3, .ref (o 0))]) hx hb dL_law_835 hl (k := 6) rfl rfl (by decide) rfl (fun ls hl => ?_)
                  refine lv_goto (tgt := 23) hx hb dL_law_838 (by decide) ?_
                  refine W.widen (k := 22 + (i + 1)) (n := 4639 + 6 * (i + 1)) (by omega) (by omega) ?_
                  exact ih (i + 1) (x4 + 4) rd_287 wr_287 ay_287 ia_287 mo_287 wo_287 so oi si mi wi ns_287 nt nf np_287 sl_287 hs_287 uR_311 uW_311 uA_311 uM_311 uX_311 uF_311 uI_311 uS ut_311 us_311 ur_311 ub uo ui ul_311 uk uh_311 ou_287 (by omega) (by omega) (by rw [ex4]; exact nI_4 i) hR H locs hK hP hD hS ls (lv_sub hl [3, 4, 5, 6, 0] rfl)
                · refine lv_aload_n hx hb dL_law_332 rfl (lv_at hl 5 rfl) ?_
                  refine lv_iconst (v := 0) hx hb dL_law_333 (by decide) ?_
                  refine va_lald hx hb hK hP 21 19 rfl rfl (ix_k (by decide)) dL_law_334 ?_
                  refine lv_iload hx hb dL_law_335 (lv_at hl 0 rfl) ?_
                  refine lv_i2l hx hb dL_law_337 rfl ?_
                  refine W.lcmp hx hb dL_law_338 ?_
                  refine lv_if_eq (tgt := 344) hx hb dL_law_339 (by decide) (fun c_339 => ?_) (fun c_339 => ?_)
                  · refine lv_goto (tgt := 835) hx hb dL_law_344 (by decide) ?_
                    refine lv_iinc (v := x4 + 4) (lv' := [(4, .int (x4 + 4)), (6, .int r_311), (5, .int r_287), (0, .ref b9), (1, .ref (a 0)), (2, .ref (b 0)), (3, .ref (o 0))]) hx hb dL_law_835 hl (k := 6) rfl rfl (by decide) rfl (fun ls hl => ?_)
                    refine lv_goto (tgt := 23) hx hb dL_law_838 (by decide) ?_
                    refine W.widen (k := 22 + (i + 1)) (n := 4639 + 6 * (i + 1)) (by omega) (by omega) ?_
                    exact ih (i + 1) (x4 + 4) rd_287 wr_287 ay_287 ia_287 mo_287 wo_287 so oi si mi wi ns_287 nt nf np_287 sl_287 hs_287 uR_311 uW_311 uA_311 uM_311 uX_311 uF_311 uI_311 uS ut_311 us_311 ur_311 ub uo ui ul_311 uk uh_311 ou_287 (by omega) (by omega) (by rw [ex4]; exact nI_4 i) hR H locs hK hP hD hS ls (lv_sub hl [3, 4, 5, 6, 0] rfl)
                  · exact absurd (lc_eq (hr2 c_329)) c_339
              · exact absurd hr1 c_322
            · by_cases c_39_4 : ((xs x4.toNatClampNeg) &&& 15) = 4
              · refine lv_tableIn (off := 308) (tgt := 347) hx hb dL_law_39 (by rw [c_39_4]; decide) (by rw [c_39_4]; decide) (by rw [c_39_4]; rfl) (by decide) ?_
                refine lv_aload_n hx hb dL_law_347 rfl (lv_at hl 1 rfl) ?_
                refine lv_aload_n hx hb dL_law_348 rfl (lv_at hl 0 rfl) ?_
                refine lv_iload hx hb dL_law_349 (lv_at hl 4 rfl) ?_
                refine lv_iconst (v := 1) hx hb dL_law_351 (by decide) ?_
                refine lv_iadd hx hb dL_law_352 ?_
                refine va_sld hx hb hX hbl hbA hS hi1 dL_law_353 ?_
                refine lv_aload_n hx hb dL_law_354 rfl (lv_at hl 0 rfl) ?_
                refine lv_iload hx hb dL_law_355 (lv_at hl 4 rfl) ?_
                refine lv_iconst (v := 2) hx hb dL_law_357 (by decide) ?_
                refine lv_iadd hx hb dL_law_358 ?_
                refine va_sld hx hb hX hbl hbA hS hi2 dL_law_359 ?_
                refine lv_if_eq (tgt := 367) hx hb dL_law_360 (by decide) (fun c_360 => ?_) (fun c_360 => ?_)
                · refine lv_iconst (v := 0) hx hb dL_law_367 (by decide) ?_
                  refine lv_aload_n hx hb dL_law_368 rfl (lv_at hl 3 rfl) ?_
                  have hPc := hP.sub (ws' := (ws_sl a k rd wr ay ia mo wo so oi si mi wi ns nt nf np sl hs) ++ (ws_ou o j ou)) [0, 1, 2, 3, 4, 5, 6, 7, 8, 9, 10, 11, 21] rfl
                  have hDc := hD.sub (ws' := (ws_sl a k rd wr ay ia mo wo so oi si mi wi ns nt nf np sl hs) ++ (ws_ou o j ou)) [0, 1, 2, 3, 4, 5, 6, 7, 8, 9, 10, 11, 21] (by decide) rfl
                  have hKc := hK.sub (tys' := (ty_sl k) ++ (ty_ou j)) [0, 1, 2, 3, 4, 5, 6, 7, 8, 9, 10, 19] rfl
                  have hFc := va_free (wc := (ws_sl a k rd wr ay ia mo wo so oi si mi wi ns nt nf np sl hs) ++ (ws_ou o j ou)) hD hS hA [0, 1, 2, 3, 4, 5, 6, 7, 8, 9, 10, 11, 21] rfl
                  refine va_calli (vx_runSW (As := [.ref (a 0), .int (xs (x4 + 1).toNatClampNeg), .int 0, .ref (o 0)]) (rest := []) ⟨hx, hb, hml, hown, hg⟩ (cl_valid l hl9 dC dI a k o j sx H.size rd wr ay ia mo wo so oi si mi wi ns nt nf np sl hs ou (xs (x4 + 1).toNatClampNeg) 0) (vx_cwSW 4 hg (gi_S w_249 w_250 w_0 w_251) rfl rfl rfl (by decide +kernel) ⟨Nat.le_of_ble_eq_true rfl, Nat.le_of_ble_eq_true rfl⟩) ⟨prx_bl, prx_ok hKc hPc hDc hX9 hS hFc⟩ rfl rfl hl.1 rfl (lv_room (Nat.le_of_ble_eq_true rfl)) dL_law_369 ⟨by omega, by omega⟩) hS (fun q _ h => hFc q h) hFc (fun r_369 u t H1 locs ht hvm hw_369 hB hz1 hk1 hS => ?_)
                  obtain ⟨rd_369, wr_369, ay_369, ia_369, mo_369, wo_369, ns_369, np_369, sl_369, hs_369, ou_369⟩ := u
                  obtain ⟨hP1, hK1, hD1⟩ := hB
                  rw [ht] at hP1
                  obtain ⟨hP, hD⟩ := va_join (wr := ws_sm b h uR uW uA uM uX uF uI uS ut us ur ub uo ui ul uk uh) (w1 := (ws_sl a k rd_369 wr_369 ay_369 ia_369 mo_369 wo_369 so oi si mi wi ns_369 nt nf np_369 sl_369 hs_369) ++ (ws_ou o j ou_369)) hP hD [0, 1, 2, 3, 4, 5, 6, 7, 8, 9, 10, 11, 21] [12, 13, 14, 15, 16, 17, 18, 19, 20] rfl rfl (by decide) (by decide) hk1 hFc hP1 hD1
                  have hP := hP.sub (ws' := (ws_sl a k rd_369 wr_369 ay_369 ia_369 mo_369 wo_369 so oi si mi wi ns_369 nt nf np_369 sl_369 hs_369) ++ (ws_sm b h uR uW uA uM uX uF uI uS ut us ur ub uo ui ul uk uh) ++ (ws_ou o j ou_369)) [9, 10, 11, 12, 13, 14, 15, 16, 17, 18, 19, 20, 0, 1, 2, 3, 4, 5, 6, 7, 8, 21] rfl
                  have hD := hD.sub (ws' := (ws_sl a k rd_369 wr_369 ay_369 ia_369 mo_369 wo_369 so oi si mi wi ns_369 nt nf np_369 sl_369 hs_369) ++ (ws_sm b h uR uW uA uM uX uF uI uS ut us ur ub uo ui ul uk uh) ++ (ws_ou o j ou_369)) [9, 10, 11, 12, 13, 14, 15, 16, 17, 18, 19, 20, 0, 1, 2, 3, 4, 5, 6, 7, 8, 21] (by decide) rfl
                  generalize H1 = H at hP hS ⊢
                  have hP : va_P (dC, dI) vwCl ((ws_sl a k rd_369 wr_369 ay_369 ia_369 mo_369 wo_369 so oi si mi wi ns_369 nt nf np_369 sl_369 hs_369) ++ (ws_sm b h uR uW uA uM uX uF uI uS ut us ur ub uo ui ul uk uh) ++ (ws_ou o j ou_369)) H := hP
                  have hD : va_D (fun q : Nat => s.heap.size ≤ q) ((ws_sl a k rd_369 wr_369 ay_369 ia_369 mo_369 wo_369 so oi si mi wi ns_369 nt nf np_369 sl_369 hs_369) ++ (ws_sm b h uR uW uA uM uX uF uI uS ut us ur ub uo ui ul uk uh) ++ (ws_ou o j ou_369)) := hD
                  refine lv_istore (lv' := [(5, .int r_369), (0, .ref b9), (1, .ref (a 0)), (2, .ref (b 0)), (3, .ref (o 0)), (4, .int x4)]) hx hb dL_law_372 hl (by decide) rfl (fun ls hl => ?_)
                  refine lv_aload_n hx hb dL_law_374 rfl (lv_at hl 3 rfl) ?_
                  refine lv_aload_n hx hb dL_law_375 rfl (lv_at hl 1 rfl) ?_
                  refine lv_iload hx hb dL_law_376 (lv_at hl 5 rfl) ?_
                  refine lv_iconst (v := 1) hx hb dL_law_378 (by decide) ?_
                  refine lv_iadd hx hb dL_law_379 ?_
                  refine va_sld hx hb hX hbl hbA hS hi1 dL_law_380 ?_
                  refine lv_aload_n hx hb dL_law_381 rfl (lv_at hl 1 rfl) ?_
                  refine lv_iload hx hb dL_law_382 (lv_at hl 5 rfl) ?_
                  refine lv_iconst (v := 2) hx hb dL_law_384 (by decide) ?_
                  refine lv_iadd hx hb dL_law_385 ?_
                  refine va_sld hx hb hX hbl hbA hS hi2 dL_law_386 ?_
                  refine lv_if_eq (tgt := 394) hx hb dL_law_387 (by decide) (fun c_387 => ?_) (fun c_387 => ?_)
                  · refine lv_iconst (v := 0) hx hb dL_law_394 (by decide) ?_
                    have hPc := hP.sub (ws' := ws_sm b h uR uW uA uM uX uF uI uS ut us ur ub uo ui ul uk uh) [12, 13, 14, 15, 16, 17, 18, 19, 20] rfl
                    have hDc := hD.sub (ws' := ws_sm b h uR uW uA uM uX uF uI uS ut us ur ub uo ui ul uk uh) [12, 13, 14, 15, 16, 17, 18, 19, 20] (by decide) rfl
                    have hKc := hK.sub (tys' := ty_sm h) [11, 12, 13, 14, 15, 16, 17, 18] rfl
                    have hFc := va_free (wc := ws_sm b h uR uW uA uM uX uF uI uS ut us ur ub uo ui ul uk uh) hD hS hA [12, 13, 14, 15, 16, 17, 18, 19, 20] rfl
                    refine va_calli (va_runV (As := [.int (xs (x4 + 1).toNatClampNeg), .int 0]) (rest := []) ⟨hx, hb, hml, hown, hg⟩ (cm_valid l dC dI b h H.size uR uW uA uM uX uF uI uS ut us ur ub uo ui ul uk uh (xs (x4 + 1).toNatClampNeg) 0 (rl_hu hR)) (cwV 2 hg (gi_V w_448 w_449 w_450 w_2 w_451) rfl rfl rfl (by decide +kernel) ⟨Nat.le_of_ble_eq_true rfl, Nat.le_of_ble_eq_true rfl⟩) ⟨pr_bl, va_recv hKc hPc (ci := 1) (q0 := 0) rfl rfl, pr_ok hKc hPc hDc⟩ rfl rfl hl.1 rfl (lv_room (Nat.le_of_ble_eq_true rfl)) dL_law_395 ⟨by omega, by omega⟩) hS (fun q _ h => hFc q h) hFc (fun r_395 u t H1 locs ht hvm hw_395 hB hz1 hk1 hS => ?_)
                    obtain ⟨uR_395, uW_395, uA_395, uM_395, uX_395, uF_395, uI_395, ut_395, us_395, ur_395, ul_395, uh_395⟩ := u
                    obtain ⟨hP1, hK1, hD1⟩ := hB
                    rw [ht] at hP1
                    obtain ⟨hP, hD⟩ := va_join (wr := (ws_sl a k rd_369 wr_369 ay_369 ia_369 mo_369 wo_369 so oi si mi wi ns_369 nt nf np_369 sl_369 hs_369) ++ (ws_ou o j ou_369)) (w1 := ws_sm b h uR_395 uW_395 uA_395 uM_395 uX_395 uF_395 uI_395 uS ut_395 us_395 ur_395 ub uo ui ul_395 uk uh_395) hP hD [12, 13, 14, 15, 16, 17, 18, 19, 20] [0, 1, 2, 3, 4, 5, 6, 7, 8, 9, 10, 11, 21] rfl rfl (by decide) (by decide) hk1 hFc hP1 hD1
                    have hP := hP.sub (ws' := (ws_sl a k rd_369 wr_369 ay_369 ia_369 mo_369 wo_369 so oi si mi wi ns_369 nt nf np_369 sl_369 hs_369) ++ (ws_sm b h uR_395 uW_395 uA_395 uM_395 uX_395 uF_395 uI_395 uS ut_395 us_395 ur_395 ub uo ui ul_395 uk uh_395) ++ (ws_ou o j ou_369)) [0, 1, 2, 3, 4, 5, 6, 7, 8, 9, 10, 11, 13, 14, 15, 16, 17, 18, 19, 20, 21, 12] rfl
                    have hD := hD.sub (ws' := (ws_sl a k rd_369 wr_369 ay_369 ia_369 mo_369 wo_369 so oi si mi wi ns_369 nt nf np_369 sl_369 hs_369) ++ (ws_sm b h uR_395 uW_395 uA_395 uM_395 uX_395 uF_395 uI_395 uS ut_395 us_395 ur_395 ub uo ui ul_395 uk uh_395) ++ (ws_ou o j ou_369)) [0, 1, 2, 3, 4, 5, 6, 7, 8, 9, 10, 11, 13, 14, 15, 16, 17, 18, 19, 20, 21, 12] (by decide) rfl
                    generalize H1 = H at hP hS ⊢
                    have hP : va_P (dC, dI) vwCl ((ws_sl a k rd_369 wr_369 ay_369 ia_369 mo_369 wo_369 so oi si mi wi ns_369 nt nf np_369 sl_369 hs_369) ++ (ws_sm b h uR_395 uW_395 uA_395 uM_395 uX_395 uF_395 uI_395 uS ut_395 us_395 ur_395 ub uo ui ul_395 uk uh_395) ++ (ws_ou o j ou_369)) H := hP
                    have hD : va_D (fun q : Nat => s.heap.size ≤ q) ((ws_sl a k rd_369 wr_369 ay_369 ia_369 mo_369 wo_369 so oi si mi wi ns_369 nt nf np_369 sl_369 hs_369) ++ (ws_sm b h uR_395 uW_395 uA_395 uM_395 uX_395 uF_395 uI_395 uS ut_395 us_395 ur_395 ub uo ui ul_395 uk uh_395) ++ (ws_ou o j ou_369)) := hD
                    have hrl := rl_valid hR hw_369 hw_395
                    obtain ⟨hr1, hr2, hR⟩ := hrl
                    refine lv_istore (lv' := [(6, .int r_395), (5, .int r_369), (0, .ref b9), (1, .ref (a 0)), (2, .ref (b 0)), (3, .ref (o 0)), (4, .int x4)]) hx hb dL_law_398 hl (by decide) rfl (fun ls hl => ?_)
                    refine lv_aload_n hx hb dL_law_400 rfl (lv_at hl 4 rfl) ?_
                    have hPc := hP.sub (ws' := ws_sm b h uR_395 uW_395 uA_395 uM_395 uX_395 uF_395 uI_395 uS ut_395 us_395 ur_395 ub uo ui ul_395 uk uh_395) [12, 13, 14, 15, 16, 17, 18, 19, 20] rfl
                    have hDc := hD.sub (ws' := ws_sm b h uR_395 uW_395 uA_395 uM_395 uX_395 uF_395 uI_395 uS ut_395 us_395 ur_395 ub uo ui ul_395 uk uh_395) [12, 13, 14, 15, 16, 17, 18, 19, 20] (by decide) rfl
                    have hKc := hK.sub (tys' := ty_sm h) [11, 12, 13, 14, 15, 16, 17, 18] rfl
                    have hFc := va_free (wc := ws_sm b h uR_395 uW_395 uA_395 uM_395 uX_395 uF_395 uI_395 uS ut_395 us_395 ur_395 ub uo ui ul_395 uk uh_395) hD hS hA [12, 13, 14, 15, 16, 17, 18, 19, 20] rfl
                    refine va_calli (va_runV (As := []) (rest := []) ⟨hx, hb, hml, hown, hg⟩ (cm_thrown l dC dI b h H.size uR_395 uW_395 uA_395 uM_395 uX_395 uF_395 uI_395 uS ut_395 us_395 ur_395 ub uo ui ul_395 uk uh_395) (cwV 0 hg (gi_V w_399 w_400 w_401 w_2 w_402) rfl rfl rfl (by decide +kernel) ⟨Nat.le_of_ble_eq_true rfl, Nat.le_of_ble_eq_true rfl⟩) ⟨pr_bl, va_recv hKc hPc (ci := 1) (q0 := 0) rfl rfl, pr_ok hKc hPc hDc⟩ rfl rfl hl.1 rfl (lv_room (Nat.le_of_ble_eq_true rfl)) dL_law_401 ⟨by omega, by omega⟩) hS (fun q _ h => hFc q h) hFc (fun r_401 u t H1 locs ht hvm hw_401 hB hz1 hk1 hS => ?_)
                    have hw_401 := hw_401.symm
                    subst hw_401
                    obtain ⟨hP1, hK1, hD1⟩ := hB
                    rw [ht] at hP1
                    obtain ⟨hP, hD⟩ := va_join (wr := (ws_sl a k rd_369 wr_369 ay_369 ia_369 mo_369 wo_369 so oi si mi wi ns_369 nt nf np_369 sl_369 hs_369) ++ (ws_ou o j ou_369)) (w1 := ws_sm b h uR_395 uW_395 uA_395 uM_395 uX_395 uF_395 uI_395 uS ut_395 us_395 ur_395 ub uo ui ul_395 uk uh_395) hP hD [12, 13, 14, 15, 16, 17, 18, 19, 20] [0, 1, 2, 3, 4, 5, 6, 7, 8, 9, 10, 11, 21] rfl rfl (by decide) (by decide) hk1 hFc hP1 hD1
                    have hP := hP.sub (ws' := (ws_sl a k rd_369 wr_369 ay_369 ia_369 mo_369 wo_369 so oi si mi wi ns_369 nt nf np_369 sl_369 hs_369) ++ (ws_sm b h uR_395 uW_395 uA_395 uM_395 uX_395 uF_395 uI_395 uS ut_395 us_395 ur_395 ub uo ui ul_395 uk uh_395) ++ (ws_ou o j ou_369)) [0, 1, 2, 3, 4, 5, 6, 7, 8, 9, 10, 11, 13, 14, 15, 16, 17, 18, 19, 20, 21, 12] rfl
                    have hD := hD.sub (ws' := (ws_sl a k rd_369 wr_369 ay_369 ia_369 mo_369 wo_369 so oi si mi wi ns_369 nt nf np_369 sl_369 hs_369) ++ (ws_sm b h uR_395 uW_395 uA_395 uM_395 uX_395 uF_395 uI_395 uS ut_395 us_395 ur_395 ub uo ui ul_395 uk uh_395) ++ (ws_ou o j ou_369)) [0, 1, 2, 3, 4, 5, 6, 7, 8, 9, 10, 11, 13, 14, 15, 16, 17, 18, 19, 20, 21, 12] (by decide) rfl
                    generalize H1 = H at hP hS ⊢
                    have hP : va_P (dC, dI) vwCl ((ws_sl a k rd_369 wr_369 ay_369 ia_369 mo_369 wo_369 so oi si mi wi ns_369 nt nf np_369 sl_369 hs_369) ++ (ws_sm b h uR_395 uW_395 uA_395 uM_395 uX_395 uF_395 uI_395 uS ut_395 us_395 ur_395 ub uo ui ul_395 uk uh_395) ++ (ws_ou o j ou_369)) H := hP
                    have hD : va_D (fun q : Nat => s.heap.size ≤ q) ((ws_sl a k rd_369 wr_369 ay_369 ia_369 mo_369 wo_369 so oi si mi wi ns_369 nt nf np_369 sl_369 hs_369) ++ (ws_sm b h uR_395 uW_395 uA_395 uM_395 uX_395 uF_395 uI_395 uS ut_395 us_395 ur_395 ub uo ui ul_395 uk uh_395) ++ (ws_ou o j ou_369)) := hD
                    refine lv_iload hx hb dL_law_404 (lv_at hl 1 rfl) ?_
                    refine lv_icmp_eq (tgt := 411) hx hb dL_law_406 (by decide) (fun c_406 => ?_) (fun c_406 => ?_)
                    · refine lv_iload hx hb dL_law_411 (lv_at hl 1 rfl) ?_
                      refine lv_if_ne (tgt := 428) hx hb dL_law_413 (by decide) (fun c_413 => ?_) (fun c_413 => ?_)
                      · refine lv_goto (tgt := 835) hx hb dL_law_428 (by decide) ?_
                        refine lv_iinc (v := x4 + 4) (lv' := [(4, .int (x4 + 4)), (6, .int r_395), (5, .int r_369), (0, .ref b9), (1, .ref (a 0)), (2, .ref (b 0)), (3, .ref (o 0))]) hx hb dL_law_835 hl (k := 6) rfl rfl (by decide) rfl (fun ls hl => ?_)
                        refine lv_goto (tgt := 23) hx hb dL_law_838 (by decide) ?_
                        refine W.widen (k := 22 + (i + 1)) (n := 4639 + 6 * (i + 1)) (by omega) (by omega) ?_
                        exact ih (i + 1) (x4 + 4) rd_369 wr_369 ay_369 ia_369 mo_369 wo_369 so oi si mi wi ns_369 nt nf np_369 sl_369 hs_369 uR_395 uW_395 uA_395 uM_395 uX_395 uF_395 uI_395 uS ut_395 us_395 ur_395 ub uo ui ul_395 uk uh_395 ou_369 (by omega) (by omega) (by rw [ex4]; exact nI_4 i) hR H locs hK hP hD hS ls (lv_sub hl [3, 4, 5, 6, 0] rfl)
                      · refine lv_aload_n hx hb dL_law_416 rfl (lv_at hl 5 rfl) ?_
                        refine lv_iconst (v := 0) hx hb dL_law_417 (by decide) ?_
                        refine va_lald hx hb hK hP 21 19 rfl rfl (ix_k (by decide)) dL_law_418 ?_
                        refine lv_iload hx hb dL_law_419 (lv_at hl 0 rfl) ?_
                        refine lv_i2l hx hb dL_law_421 rfl ?_
                        refine W.lcmp hx hb dL_law_422 ?_
                        refine lv_if_eq (tgt := 428) hx hb dL_law_423 (by decide) (fun c_423 => ?_) (fun c_423 => ?_)
                        · refine lv_goto (tgt := 835) hx hb dL_law_428 (by decide) ?_
                          refine lv_iinc (v := x4 + 4) (lv' := [(4, .int (x4 + 4)), (6, .int r_395), (5, .int r_369), (0, .ref b9), (1, .ref (a 0)), (2, .ref (b 0)), (3, .ref (o 0))]) hx hb dL_law_835 hl (k := 6) rfl rfl (by decide) rfl (fun ls hl => ?_)
                          refine lv_goto (tgt := 23) hx hb dL_law_838 (by decide) ?_
                          refine W.widen (k := 22 + (i + 1)) (n := 4639 + 6 * (i + 1)) (by omega) (by omega) ?_
                          exact ih (i + 1) (x4 + 4) rd_369 wr_369 ay_369 ia_369 mo_369 wo_369 so oi si mi wi ns_369 nt nf np_369 sl_369 hs_369 uR_395 uW_395 uA_395 uM_395 uX_395 uF_395 uI_395 uS ut_395 us_395 ur_395 ub uo ui ul_395 uk uh_395 ou_369 (by omega) (by omega) (by rw [ex4]; exact nI_4 i) hR H locs hK hP hD hS ls (lv_sub hl [3, 4, 5, 6, 0] rfl)
                        · exact absurd (lc_eq (hr2 c_413)) c_423
                    · exact absurd hr1 c_406
                  · exact absurd c_360 c_387
                · refine lv_iconst (v := 1) hx hb dL_law_363 (by decide) ?_
                  refine lv_goto (tgt := 368) hx hb dL_law_364 (by decide) ?_
                  refine lv_aload_n hx hb dL_law_368 rfl (lv_at hl 3 rfl) ?_
                  have hPc := hP.sub (ws' := (ws_sl a k rd wr ay ia mo wo so oi si mi wi ns nt nf np sl hs) ++ (ws_ou o j ou)) [0, 1, 2, 3, 4, 5, 6, 7, 8, 9, 10, 11, 21] rfl
                  have hDc := hD.sub (ws' := (ws_sl a k rd wr ay ia mo wo so oi si mi wi ns nt nf np sl hs) ++ (ws_ou o j ou)) [0, 1, 2, 3, 4, 5, 6, 7, 8, 9, 10, 11, 21] (by decide) rfl
                  have hKc := hK.sub (tys' := (ty_sl k) ++ (ty_ou j)) [0, 1, 2, 3, 4, 5, 6, 7, 8, 9, 10, 19] rfl
                  have hFc := va_free (wc := (ws_sl a k rd wr ay ia mo wo so oi si mi wi ns nt nf np sl hs) ++ (ws_ou o j ou)) hD hS hA [0, 1, 2, 3, 4, 5, 6, 7, 8, 9, 10, 11, 21] rfl
                  refine va_calli (vx_runSW (As := [.ref (a 0), .int (xs (x4 + 1).toNatClampNeg), .int 1, .ref (o 0)]) (rest := []) ⟨hx, hb, hml, hown, hg⟩ (cl_valid l hl9 dC dI a k o j sx H.size rd wr ay ia mo wo so oi si mi wi ns nt nf np sl hs ou (xs (x4 + 1).toNatClampNeg) 1) (vx_cwSW 4 hg (gi_S w_249 w_250 w_0 w_251) rfl rfl rfl (by decide +kernel) ⟨Nat.le_of_ble_eq_true rfl, Nat.le_of_ble_eq_true rfl⟩) ⟨prx_bl, prx_ok hKc hPc hDc hX9 hS hFc⟩ rfl rfl hl.1 rfl (lv_room (Nat.le_of_ble_eq_true rfl)) dL_law_369 ⟨by omega, by omega⟩) hS (fun q _ h => hFc q h) hFc (fun r_369 u t H1 locs ht hvm hw_369 hB hz1 hk1 hS => ?_)
                  obtain ⟨rd_369, wr_369, ay_369, ia_369, mo_369, wo_369, ns_369, np_369, sl_369, hs_369, ou_369⟩ := u
                  obtain ⟨hP1, hK1, hD1⟩ := hB
                  rw [ht] at hP1
                  obtain ⟨hP, hD⟩ := va_join (wr := ws_sm b h uR uW uA uM uX uF uI uS ut us ur ub uo ui ul uk uh) (w1 := (ws_sl a k rd_369 wr_369 ay_369 ia_369 mo_369 wo_369 so oi si mi wi ns_369 nt nf np_369 sl_369 hs_369) ++ (ws_ou o j ou_369)) hP hD [0, 1, 2, 3, 4, 5, 6, 7, 8, 9, 10, 11, 21] [12, 13, 14, 15, 16, 17, 18, 19, 20] rfl rfl (by decide) (by decide) hk1 hFc hP1 hD1
                  have hP := hP.sub (ws' := (ws_sl a k rd_369 wr_369 ay_369 ia_369 mo_369 wo_369 so oi si mi wi ns_369 nt nf np_369 sl_369 hs_369) ++ (ws_sm b h uR uW uA uM uX uF uI uS ut us ur ub uo ui ul uk uh) ++ (ws_ou o j ou_369)) [9, 10, 11, 12, 13, 14, 15, 16, 17, 18, 19, 20, 0, 1, 2, 3, 4, 5, 6, 7, 8, 21] rfl
                  have hD := hD.sub (ws' := (ws_sl a k rd_369 wr_369 ay_369 ia_369 mo_369 wo_369 so oi si mi wi ns_369 nt nf np_369 sl_369 hs_369) ++ (ws_sm b h uR uW uA uM uX uF uI uS ut us ur ub uo ui ul uk uh) ++ (ws_ou o j ou_369)) [9, 10, 11, 12, 13, 14, 15, 16, 17, 18, 19, 20, 0, 1, 2, 3, 4, 5, 6, 7, 8, 21] (by decide) rfl
                  generalize H1 = H at hP hS ⊢
                  have hP : va_P (dC, dI) vwCl ((ws_sl a k rd_369 wr_369 ay_369 ia_369 mo_369 wo_369 so oi si mi wi ns_369 nt nf np_369 sl_369 hs_369) ++ (ws_sm b h uR uW uA uM uX uF uI uS ut us ur ub uo ui ul uk uh) ++ (ws_ou o j ou_369)) H := hP
                  have hD : va_D (fun q : Nat => s.heap.size ≤ q) ((ws_sl a k rd_369 wr_369 ay_369 ia_369 mo_369 wo_369 so oi si mi wi ns_369 nt nf np_369 sl_369 hs_369) ++ (ws_sm b h uR uW uA uM uX uF uI uS ut us ur ub uo ui ul uk uh) ++ (ws_ou o j ou_369)) := hD
                  refine lv_istore (lv' := [(5, .int r_369), (0, .ref b9), (1, .ref (a 0)), (2, .ref (b 0)), (3, .ref (o 0)), (4, .int x4)]) hx hb dL_law_372 hl (by decide) rfl (fun ls hl => ?_)
                  refine lv_aload_n hx hb dL_law_374 rfl (lv_at hl 3 rfl) ?_
                  refine lv_aload_n hx hb dL_law_375 rfl (lv_at hl 1 rfl) ?_
                  refine lv_iload hx hb dL_law_376 (lv_at hl 5 rfl) ?_
                  refine lv_iconst (v := 1) hx hb dL_law_378 (by decide) ?_
                  refine lv_iadd hx hb dL_law_379 ?_
                  refine va_sld hx hb hX hbl hbA hS hi1 dL_law_380 ?_
                  refine lv_aload_n hx hb dL_law_381 rfl (lv_at hl 1 rfl) ?_
                  refine lv_iload hx hb dL_law_382 (lv_at hl 5 rfl) ?_
                  refine lv_iconst (v := 2) hx hb dL_law_384 (by decide) ?_
                  refine lv_iadd hx hb dL_law_385 ?_
                  refine va_sld hx hb hX hbl hbA hS hi2 dL_law_386 ?_
                  refine lv_if_eq (tgt := 394) hx hb dL_law_387 (by decide) (fun c_387 => ?_) (fun c_387 => ?_)
                  · exact absurd c_387 c_360
                  · refine lv_iconst (v := 1) hx hb dL_law_390 (by decide) ?_
                    refine lv_goto (tgt := 395) hx hb dL_law_391 (by decide) ?_
                    have hPc := hP.sub (ws' := ws_sm b h uR uW uA uM uX uF uI uS ut us ur ub uo ui ul uk uh) [12, 13, 14, 15, 16, 17, 18, 19, 20] rfl
                    have hDc := hD.sub (ws' := ws_sm b h uR uW uA uM uX uF uI uS ut us ur ub uo ui ul uk uh) [12, 13, 14, 15, 16, 17, 18, 19, 20] (by decide) rfl
                    have hKc := hK.sub (tys' := ty_sm h) [11, 12, 13, 14, 15, 16, 17, 18] rfl
                    have hFc := va_free (wc := ws_sm b h uR uW uA uM uX uF uI uS ut us ur ub uo ui ul uk uh) hD hS hA [12, 13, 14, 15, 16, 17, 18, 19, 20] rfl
                    refine va_calli (va_runV (As := [.int (xs (x4 + 1).toNatClampNeg), .int 1]) (rest := []) ⟨hx, hb, hml, hown, hg⟩ (cm_valid l dC dI b h H.size uR uW uA uM uX uF uI uS ut us ur ub uo ui ul uk uh (xs (x4 + 1).toNatClampNeg) 1 (rl_hu hR)) (cwV 2 hg (gi_V w_448 w_449 w_450 w_2 w_451) rfl rfl rfl (by decide +kernel) ⟨Nat.le_of_ble_eq_true rfl, Nat.le_of_ble_eq_true rfl⟩) ⟨pr_bl, va_recv hKc hPc (ci := 1) (q0 := 0) rfl rfl, pr_ok hKc hPc hDc⟩ rfl rfl hl.1 rfl (lv_room (Nat.le_of_ble_eq_true rfl)) dL_law_395 ⟨by omega, by omega⟩) hS (fun q _ h => hFc q h) hFc (fun r_395 u t H1 locs ht hvm hw_395 hB hz1 hk1 hS => ?_)
                    obtain ⟨uR_395, uW_395, uA_395, uM_395, uX_395, uF_395, uI_395, ut_395, us_395, ur_395, ul_395, uh_395⟩ := u
                    obtain ⟨hP1, hK1, hD1⟩ := hB
                    rw [ht] at hP1
                    obtain ⟨hP, hD⟩ := va_join (wr := (ws_sl a k rd_369 wr_369 ay_369 ia_369 mo_369 wo_369 so oi si mi wi ns_369 nt nf np_369 sl_369 hs_369) ++ (ws_ou o j ou_369)) (w1 := ws_sm b h uR_395 uW_395 uA_395 uM_395 uX_395 uF_395 uI_395 uS ut_395 us_395 ur_395 ub uo ui ul_395 uk uh_395) hP hD [12, 13, 14, 15, 16, 17, 18, 19, 20] [0, 1, 2, 3, 4, 5, 6, 7, 8, 9, 10, 11, 21] rfl rfl (by decide) (by decide) hk1 hFc hP1 hD1
                    have hP := hP.sub (ws' := (ws_sl a k rd_369 wr_369 ay_369 ia_369 mo_369 wo_369 so oi si mi wi ns_369 nt nf np_369 sl_369 hs_369) ++ (ws_sm b h uR_395 uW_395 uA_395 uM_395 uX_395 uF_395 uI_395 uS ut_395 us_395 ur_395 ub uo ui ul_395 uk uh_395) ++ (ws_ou o j ou_369)) [0, 1, 2, 3, 4, 5, 6, 7, 8, 9, 10, 11, 13, 14, 15, 16, 17, 18, 19, 20, 21, 12] rfl
                    have hD := hD.sub (ws' := (ws_sl a k rd_369 wr_369 ay_369 ia_369 mo_369 wo_369 so oi si mi wi ns_369 nt nf np_369 sl_369 hs_369) ++ (ws_sm b h uR_395 uW_395 uA_395 uM_395 uX_395 uF_395 uI_395 uS ut_395 us_395 ur_395 ub uo ui ul_395 uk uh_395) ++ (ws_ou o j ou_369)) [0, 1, 2, 3, 4, 5, 6, 7, 8, 9, 10, 11, 13, 14, 15, 16, 17, 18, 19, 20, 21, 12] (by decide) rfl
                    generalize H1 = H at hP hS ⊢
                    have hP : va_P (dC, dI) vwCl ((ws_sl a k rd_369 wr_369 ay_369 ia_369 mo_369 wo_369 so oi si mi wi ns_369 nt nf np_369 sl_369 hs_369) ++ (ws_sm b h uR_395 uW_395 uA_395 uM_395 uX_395 uF_395 uI_395 uS ut_395 us_395 ur_395 ub uo ui ul_395 uk uh_395) ++ (ws_ou o j ou_369)) H := hP
                    have hD : va_D (fun q : Nat => s.heap.size ≤ q) ((ws_sl a k rd_369 wr_369 ay_369 ia_369 mo_369 wo_369 so oi si mi wi ns_369 nt nf np_369 sl_369 hs_369) ++ (ws_sm b h uR_395 uW_395 uA_395 uM_395 uX_395 uF_395 uI_395 uS ut_395 us_395 ur_395 ub uo ui ul_395 uk uh_395) ++ (ws_ou o j ou_369)) := hD
                    have hrl := rl_valid hR hw_369 hw_395
                    obtain ⟨hr1, hr2, hR⟩ := hrl
                    refine lv_istore (lv' := [(6, .int r_395), (5, .int r_369), (0, .ref b9), (1, .ref (a 0)), (2, .ref (b 0)), (3, .ref (o 0)), (4, .int x4)]) hx hb dL_law_398 hl (by decide) rfl (fun ls hl => ?_)
                    refine lv_aload_n hx hb dL_law_400 rfl (lv_at hl 4 rfl) ?_
                    have hPc := hP.sub (ws' := ws_sm b h uR_395 uW_395 uA_395 uM_395 uX_395 uF_395 uI_395 uS ut_395 us_395 ur_395 ub uo ui ul_395 uk uh_395) [12, 13, 14, 15, 16, 17, 18, 19, 20] rfl
                    have hDc := hD.sub (ws' := ws_sm b h uR_395 uW_395 uA_395 uM_395 uX_395 uF_395 uI_395 uS ut_395 us_395 ur_395 ub uo ui ul_395 uk uh_395) [12, 13, 14, 15, 16, 17, 18, 19, 20] (by decide) rfl
                    have hKc := hK.sub (tys' := ty_sm h) [11, 12, 13, 14, 15, 16, 17, 18] rfl
                    have hFc := va_free (wc := ws_sm b h uR_395 uW_395 uA_395 uM_395 uX_395 uF_395 uI_395 uS ut_395 us_395 ur_395 ub uo ui ul_395 uk uh_395) hD hS hA [12, 13, 14, 15, 16, 17, 18, 19, 20] rfl
                    refine va_calli (va_runV (As := []) (rest := []) ⟨hx, hb, hml, hown, hg⟩ (cm_thrown l dC dI b h H.size uR_395 uW_395 uA_395 uM_395 uX_395 uF_395 uI_395 uS ut_395 us_395 ur_395 ub uo ui ul_395 uk uh_395) (cwV 0 hg (gi_V w_399 w_400 w_401 w_2 w_402) rfl rfl rfl (by decide +kernel) ⟨Nat.le_of_ble_eq_true rfl, Nat.le_of_ble_eq_true rfl⟩) ⟨pr_bl, va_recv hKc hPc (ci := 1) (q0 := 0) rfl rfl, pr_ok hKc hPc hDc⟩ rfl rfl hl.1 rfl (lv_room (Nat.le_of_ble_eq_true rfl)) dL_law_401 ⟨by omega, by omega⟩) hS (fun q _ h => hFc q h) hFc (fun r_401 u t H1 locs ht hvm hw_401 hB hz1 hk1 hS => ?_)
                    have hw_401 := hw_401.symm
                    subst hw_401
                    obtain ⟨hP1, hK1, hD1⟩ := hB
                    rw [ht] at hP1
                    obtain ⟨hP, hD⟩ := va_join (wr := (ws_sl a k rd_369 wr_369 ay_369 ia_369 mo_369 wo_369 so oi si mi wi ns_369 nt nf np_369 sl_369 hs_369) ++ (ws_ou o j ou_369)) (w1 := ws_sm b h uR_395 uW_395 uA_395 uM_395 uX_395 uF_395 uI_395 uS ut_395 us_395 ur_395 ub uo ui ul_395 uk uh_395) hP hD [12, 13, 14, 15, 16, 17, 18, 19, 20] [0, 1, 2, 3, 4, 5, 6, 7, 8, 9, 10, 11, 21] rfl rfl (by decide) (by decide) hk1 hFc hP1 hD1
                    have hP := hP.sub (ws' := (ws_sl a k rd_369 wr_369 ay_369 ia_369 mo_369 wo_369 so oi si mi wi ns_369 nt nf np_369 sl_369 hs_369) ++ (ws_sm b h uR_395 uW_395 uA_395 uM_395 uX_395 uF_395 uI_395 uS ut_395 us_395 ur_395 ub uo ui ul_395 uk uh_395) ++ (ws_ou o j ou_369)) [0, 1, 2, 3, 4, 5, 6, 7, 8, 9, 10, 11, 13, 14, 15, 16, 17, 18, 19, 20, 21, 12] rfl
                    have hD := hD.sub (ws' := (ws_sl a k rd_369 wr_369 ay_369 ia_369 mo_369 wo_369 so oi si mi wi ns_369 nt nf np_369 sl_369 hs_369) ++ (ws_sm b h uR_395 uW_395 uA_395 uM_395 uX_395 uF_395 uI_395 uS ut_395 us_395 ur_395 ub uo ui ul_395 uk uh_395) ++ (ws_ou o j ou_369)) [0, 1, 2, 3, 4, 5, 6, 7, 8, 9, 10, 11, 13, 14, 15, 16, 17, 18, 19, 20, 21, 12] (by decide) rfl
                    generalize H1 = H at hP hS ⊢
                    have hP : va_P (dC, dI) vwCl ((ws_sl a k rd_369 wr_369 ay_369 ia_369 mo_369 wo_369 so oi si mi wi ns_369 nt nf np_369 sl_369 hs_369) ++ (ws_sm b h uR_395 uW_395 uA_395 uM_395 uX_395 uF_395 uI_395 uS ut_395 us_395 ur_395 ub uo ui ul_395 uk uh_395) ++ (ws_ou o j ou_369)) H := hP
                    have hD : va_D (fun q : Nat => s.heap.size ≤ q) ((ws_sl a k rd_369 wr_369 ay_369 ia_369 mo_369 wo_369 so oi si mi wi ns_369 nt nf np_369 sl_369 hs_369) ++ (ws_sm b h uR_395 uW_395 uA_395 uM_395 uX_395 uF_395 uI_395 uS ut_395 us_395 ur_395 ub uo ui ul_395 uk uh_395) ++ (ws_ou o j ou_369)) := hD
                    refine lv_iload hx hb dL_law_404 (lv_at hl 1 rfl) ?_
                    refine lv_icmp_eq (tgt := 411) hx hb dL_law_406 (by decide) (fun c_406 => ?_) (fun c_406 => ?_)
                    · refine lv_iload hx hb dL_law_411 (lv_at hl 1 rfl) ?_
                      refine lv_if_ne (tgt := 428) hx hb dL_law_413 (by decide) (fun c_413 => ?_) (fun c_413 => ?_)
                      · refine lv_goto (tgt := 835) hx hb dL_law_428 (by decide) ?_
                        refine lv_iinc (v := x4 + 4) (lv' := [(4, .int (x4 + 4)), (6, .int r_395), (5, .int r_369), (0, .ref b9), (1, .ref (a 0)), (2, .ref (b 0)), (3, .ref (o 0))]) hx hb dL_law_835 hl (k := 6) rfl rfl (by decide) rfl (fun ls hl => ?_)
                        refine lv_goto (tgt := 23) hx hb dL_law_838 (by decide) ?_
                        refine W.widen (k := 22 + (i + 1)) (n := 4639 + 6 * (i + 1)) (by omega) (by omega) ?_
                        exact ih (i + 1) (x4 + 4) rd_369 wr_369 ay_369 ia_369 mo_369 wo_369 so oi si mi wi ns_369 nt nf np_369 sl_369 hs_369 uR_395 uW_395 uA_395 uM_395 uX_395 uF_395 uI_395 uS ut_395 us_395 ur_395 ub uo ui ul_395 uk uh_395 ou_369 (by omega) (by omega) (by rw [ex4]; exact nI_4 i) hR H locs hK hP hD hS ls (lv_sub hl [3, 4, 5, 6, 0] rfl)
                      · refine lv_aload_n hx hb dL_law_416 rfl (lv_at hl 5 rfl) ?_
                        refine lv_iconst (v := 0) hx hb dL_law_417 (by decide) ?_
                        refine va_lald hx hb hK hP 21 19 rfl rfl (ix_k (by decide)) dL_law_418 ?_
                        refine lv_iload hx hb dL_law_419 (lv_at hl 0 rfl) ?_
                        refine lv_i2l hx hb dL_law_421 rfl ?_
                        refine W.lcmp hx hb dL_law_422 ?_
                        refine lv_if_eq (tgt := 428) hx hb dL_law_423 (by decide) (fun c_423 => ?_) (fun c_423 => ?_)
                        · refine lv_goto (tgt := 835) hx hb dL_law_428 (by decide) ?_
                          refine lv_iinc (v := x4 + 4) (lv' := [(4, .int (x4 + 4)), (6, .int r_395), (5, .int r_369), (0, .ref b9), (1, .ref (a 0)), (2, .ref (b 0)), (3, .ref (o 0))]) hx hb dL_law_835 hl (k := 6) rfl rfl (by decide) rfl (fun ls hl => ?_)
                          refine lv_goto (tgt := 23) hx hb dL_law_838 (by decide) ?_
                          refine W.widen (k := 22 + (i + 1)) (n := 4639 + 6 * (i + 1)) (by omega) (by omega) ?_
                          exact ih (i + 1) (x4 + 4) rd_369 wr_369 ay_369 ia_369 mo_369 wo_369 so oi si mi wi ns_369 nt nf np_369 sl_369 hs_369 uR_395 uW_395 uA_395 uM_395 uX_395 uF_395 uI_395 uS ut_395 us_395 ur_395 ub uo ui ul_395 uk uh_395 ou_369 (by omega) (by omega) (by rw [ex4]; exact nI_4 i) hR H locs hK hP hD hS ls (lv_sub hl [3, 4, 5, 6, 0] rfl)
                        · exact absurd (lc_eq (hr2 c_413)) c_423
                    · exact absurd hr1 c_406
              · by_cases c_39_5 : ((xs x4.toNatClampNeg) &&& 15) = 5
                · refine lv_tableIn (off := 392) (tgt := 431) hx hb dL_law_39 (by rw [c_39_5]; decide) (by rw [c_39_5]; decide) (by rw [c_39_5]; rfl) (by decide) ?_
                  refine lv_aload_n hx hb dL_law_431 rfl (lv_at hl 1 rfl) ?_
                  refine lv_aload_n hx hb dL_law_432 rfl (lv_at hl 3 rfl) ?_
                  have hPc := hP.sub (ws' := (ws_sl a k rd wr ay ia mo wo so oi si mi wi ns nt nf np sl hs) ++ (ws_ou o j ou)) [0, 1, 2, 3, 4, 5, 6, 7, 8, 9, 10, 11, 21] rfl
                  have hDc := hD.sub (ws' := (ws_sl a k rd wr ay ia mo wo so oi si mi wi ns nt nf np sl hs) ++ (ws_ou o j ou)) [0, 1, 2, 3, 4, 5, 6, 7, 8, 9, 10, 11, 21] (by decide) rfl
                  have hKc := hK.sub (tys' := (ty_sl k) ++ (ty_ou j)) [0, 1, 2, 3, 4, 5, 6, 7, 8, 9, 10, 19] rfl
                  have hFc := va_free (wc := (ws_sl a k rd wr ay ia mo wo so oi si mi wi ns nt nf np sl hs) ++ (ws_ou o j ou)) hD hS hA [0, 1, 2, 3, 4, 5, 6, 7, 8, 9, 10, 11, 21] rfl
                  refine va_calli (vx_runSW (As := [.ref (a 0), .ref (o 0)]) (rest := []) ⟨hx, hb, hml, hown, hg⟩ (cl_drop l hl9 dC dI a k o j sx H.size rd wr ay ia mo wo so oi si mi wi ns nt nf np sl hs ou) (vx_cwSW 2 hg (gi_S w_257 w_258 w_0 w_259) rfl rfl rfl (by decide +kernel) ⟨Nat.le_of_ble_eq_true rfl, Nat.le_of_ble_eq_true rfl⟩) ⟨prx_bl, prx_ok hKc hPc hDc hX9 hS hFc⟩ rfl rfl hl.1 rfl (lv_room (Nat.le_of_ble_eq_true rfl)) dL_law_433 ⟨by omega, by omega⟩) hS (fun q _ h => hFc q h) hFc (fun r_433 u t H1 locs ht hvm hw_433 hB hz1 hk1 hS => ?_)
                  obtain ⟨rd_433, wr_433, ay_433, ia_433, mo_433, wo_433, ns_433, np_433, sl_433, hs_433, ou_433⟩ := u
                  obtain ⟨hP1, hK1, hD1⟩ := hB
                  rw [ht] at hP1
                  obtain ⟨hP, hD⟩ := va_join (wr := ws_sm b h uR uW uA uM uX uF uI uS ut us ur ub uo ui ul uk uh) (w1 := (ws_sl a k rd_433 wr_433 ay_433 ia_433 mo_433 wo_433 so oi si mi wi ns_433 nt nf np_433 sl_433 hs_433) ++ (ws_ou o j ou_433)) hP hD [0, 1, 2, 3, 4, 5, 6, 7, 8, 9, 10, 11, 21] [12, 13, 14, 15, 16, 17, 18, 19, 20] rfl rfl (by decide) (by decide) hk1 hFc hP1 hD1
                  have hP := hP.sub (ws' := (ws_sl a k rd_433 wr_433 ay_433 ia_433 mo_433 wo_433 so oi si mi wi ns_433 nt nf np_433 sl_433 hs_433) ++ (ws_sm b h uR uW uA uM uX uF uI uS ut us ur ub uo ui ul uk uh) ++ (ws_ou o j ou_433)) [9, 10, 11, 12, 13, 14, 15, 16, 17, 18, 19, 20, 0, 1, 2, 3, 4, 5, 6, 7, 8, 21] rfl
                  have hD := hD.sub (ws' := (ws_sl a k rd_433 wr_433 ay_433 ia_433 mo_433 wo_433 so oi si mi wi ns_433 nt nf np_433 sl_433 hs_433) ++ (ws_sm b h uR uW uA uM uX uF uI uS ut us ur ub uo ui ul uk uh) ++ (ws_ou o j ou_433)) [9, 10, 11, 12, 13, 14, 15, 16, 17, 18, 19, 20, 0, 1, 2, 3, 4, 5, 6, 7, 8, 21] (by decide) rfl
                  generalize H1 = H at hP hS ⊢
                  have hP : va_P (dC, dI) vwCl ((ws_sl a k rd_433 wr_433 ay_433 ia_433 mo_433 wo_433 so oi si mi wi ns_433 nt nf np_433 sl_433 hs_433) ++ (ws_sm b h uR uW uA uM uX uF uI uS ut us ur ub uo ui ul uk uh) ++ (ws_ou o j ou_433)) H := hP
                  have hD : va_D (fun q : Nat => s.heap.size ≤ q) ((ws_sl a k rd_433 wr_433 ay_433 ia_433 mo_433 wo_433 so oi si mi wi ns_433 nt nf np_433 sl_433 hs_433) ++ (ws_sm b h uR uW uA uM uX uF uI uS ut us ur ub uo ui ul uk uh) ++ (ws_ou o j ou_433)) := hD
                  refine lv_istore (lv' := [(5, .int r_433), (0, .ref b9), (1, .ref (a 0)), (2, .ref (b 0)), (3, .ref (o 0)), (4, .int x4)]) hx hb dL_law_436 hl (by decide) rfl (fun ls hl => ?_)
                  refine lv_aload_n hx hb dL_law_438 rfl (lv_at hl 3 rfl) ?_
                  have hPc := hP.sub (ws' := ws_sm b h uR uW uA uM uX uF uI uS ut us ur ub uo ui ul uk uh) [12, 13, 14, 15, 16, 17, 18, 19, 20] rfl
                  have hDc := hD.sub (ws' := ws_sm b h uR uW uA uM uX uF uI uS ut us ur ub uo ui ul uk uh) [12, 13, 14, 15, 16, 17, 18, 19, 20] (by decide) rfl
                  have hKc := hK.sub (tys' := ty_sm h) [11, 12, 13, 14, 15, 16, 17, 18] rfl
                  have hFc := va_free (wc := ws_sm b h uR uW uA uM uX uF uI uS ut us ur ub uo ui ul uk uh) hD hS hA [12, 13, 14, 15, 16, 17, 18, 19, 20] rfl
                  refine va_calli (va_runV (As := []) (rest := []) ⟨hx, hb, hml, hown, hg⟩ (cm_drop l dC dI b h H.size uR uW uA uM uX uF uI uS ut us ur ub uo ui ul uk uh (rl_hu hR)) (cwV 0 hg (gi_V w_452 w_453 w_454 w_2 w_455) rfl rfl rfl (by decide +kernel) ⟨Nat.le_of_ble_eq_true rfl, Nat.le_of_ble_eq_true rfl⟩) ⟨pr_bl, va_recv hKc hPc (ci := 1) (q0 := 0) rfl rfl, pr_ok hKc hPc hDc⟩ rfl rfl hl.1 rfl (lv_room (Nat.le_of_ble_eq_true rfl)) dL_law_439 ⟨by omega, by omega⟩) hS (fun q _ h => hFc q h) hFc (fun r_439 u t H1 locs ht hvm hw_439 hB hz1 hk1 hS => ?_)
                  obtain ⟨uR_439, uW_439, uA_439, uM_439, uX_439, uF_439, uI_439, ut_439, us_439, ur_439, ul_439, uh_439⟩ := u
                  obtain ⟨hP1, hK1, hD1⟩ := hB
                  rw [ht] at hP1
                  obtain ⟨hP, hD⟩ := va_join (wr := (ws_sl a k rd_433 wr_433 ay_433 ia_433 mo_433 wo_433 so oi si mi wi ns_433 nt nf np_433 sl_433 hs_433) ++ (ws_ou o j ou_433)) (w1 := ws_sm b h uR_439 uW_439 uA_439 uM_439 uX_439 uF_439 uI_439 uS ut_439 us_439 ur_439 ub uo ui ul_439 uk uh_439) hP hD [12, 13, 14, 15, 16, 17, 18, 19, 20] [0, 1, 2, 3, 4, 5, 6, 7, 8, 9, 10, 11, 21] rfl rfl (by decide) (by decide) hk1 hFc hP1 hD1
                  have hP := hP.sub (ws' := (ws_sl a k rd_433 wr_433 ay_433 ia_433 mo_433 wo_433 so oi si mi wi ns_433 nt nf np_433 sl_433 hs_433) ++ (ws_sm b h uR_439 uW_439 uA_439 uM_439 uX_439 uF_439 uI_439 uS ut_439 us_439 ur_439 ub uo ui ul_439 uk uh_439) ++ (ws_ou o j ou_433)) [0, 1, 2, 3, 4, 5, 6, 7, 8, 9, 10, 11, 13, 14, 15, 16, 17, 18, 19, 20, 21, 12] rfl
                  have hD := hD.sub (ws' := (ws_sl a k rd_433 wr_433 ay_433 ia_433 mo_433 wo_433 so oi si mi wi ns_433 nt nf np_433 sl_433 hs_433) ++ (ws_sm b h uR_439 uW_439 uA_439 uM_439 uX_439 uF_439 uI_439 uS ut_439 us_439 ur_439 ub uo ui ul_439 uk uh_439) ++ (ws_ou o j ou_433)) [0, 1, 2, 3, 4, 5, 6, 7, 8, 9, 10, 11, 13, 14, 15, 16, 17, 18, 19, 20, 21, 12] (by decide) rfl
                  generalize H1 = H at hP hS ⊢
                  have hP : va_P (dC, dI) vwCl ((ws_sl a k rd_433 wr_433 ay_433 ia_433 mo_433 wo_433 so oi si mi wi ns_433 nt nf np_433 sl_433 hs_433) ++ (ws_sm b h uR_439 uW_439 uA_439 uM_439 uX_439 uF_439 uI_439 uS ut_439 us_439 ur_439 ub uo ui ul_439 uk uh_439) ++ (ws_ou o j ou_433)) H := hP
                  have hD : va_D (fun q : Nat => s.heap.size ≤ q) ((ws_sl a k rd_433 wr_433 ay_433 ia_433 mo_433 wo_433 so oi si mi wi ns_433 nt nf np_433 sl_433 hs_433) ++ (ws_sm b h uR_439 uW_439 uA_439 uM_439 uX_439 uF_439 uI_439 uS ut_439 us_439 ur_439 ub uo ui ul_439 uk uh_439) ++ (ws_ou o j ou_433)) := hD
                  have hrl := rl_drop hR hw_433 hw_439
                  obtain ⟨hr1, hr2, hR⟩ := hrl
                  refine lv_istore (lv' := [(6, .int r_439), (5, .int r_433), (0, .ref b9), (1, .ref (a 0)), (2, .ref (b 0)), (3, .ref (o 0)), (4, .int x4)]) hx hb dL_law_442 hl (by decide) rfl (fun ls hl => ?_)
                  refine lv_aload_n hx hb dL_law_444 rfl (lv_at hl 4 rfl) ?_
                  have hPc := hP.sub (ws' := ws_sm b h uR_439 uW_439 uA_439 uM_439 uX_439 uF_439 uI_439 uS ut_439 us_439 ur_439 ub uo ui ul_439 uk uh_439) [12, 13, 14, 15, 16, 17, 18, 19, 20] rfl
                  have hDc := hD.sub (ws' := ws_sm b h uR_439 uW_439 uA_439 uM_439 uX_439 uF_439 uI_439 uS ut_439 us_439 ur_439 ub uo ui ul_439 uk uh_439) [12, 13, 14, 15, 16, 17, 18, 19, 20] (by decide) rfl
                  have hKc := hK.sub (tys' := ty_sm h) [11, 12, 13, 14, 15, 16, 17, 18] rfl
                  have hFc := va_free (wc := ws_sm b h uR_439 uW_439 uA_439 uM_439 uX_439 uF_439 uI_439 uS ut_439 us_439 ur_439 ub uo ui ul_439 uk uh_439) hD hS hA [12, 13, 14, 15, 16, 17, 18, 19, 20] rfl
                  refine va_calli (va_runV (As := []) (rest := []) ⟨hx, hb, hml, hown, hg⟩ (cm_thrown l dC dI b h H.size uR_439 uW_439 uA_439 uM_439 uX_439 uF_439 uI_439 uS ut_439 us_439 ur_439 ub uo ui ul_439 uk uh_439) (cwV 0 hg (gi_V w_399 w_400 w_401 w_2 w_402) rfl rfl rfl (by decide +kernel) ⟨Nat.le_of_ble_eq_true rfl, Nat.le_of_ble_eq_true rfl⟩) ⟨pr_bl, va_recv hKc hPc (ci := 1) (q0 := 0) rfl rfl, pr_ok hKc hPc hDc⟩ rfl rfl hl.1 rfl (lv_room (Nat.le_of_ble_eq_true rfl)) dL_law_445 ⟨by omega, by omega⟩) hS (fun q _ h => hFc q h) hFc (fun r_445 u t H1 locs ht hvm hw_445 hB hz1 hk1 hS => ?_)
                  have hw_445 := hw_445.symm
                  subst hw_445
                  obtain ⟨hP1, hK1, hD1⟩ := hB
                  rw [ht] at hP1
                  obtain ⟨hP, hD⟩ := va_join (wr := (ws_sl a k rd_433 wr_433 ay_433 ia_433 mo_433 wo_433 so oi si mi wi ns_433 nt nf np_433 sl_433 hs_433) ++ (ws_ou o j ou_433)) (w1 := ws_sm b h uR_439 uW_439 uA_439 uM_439 uX_439 uF_439 uI_439 uS ut_439 us_439 ur_439 ub uo ui ul_439 uk uh_439) hP hD [12, 13, 14, 15, 16, 17, 18, 19, 20] [0, 1, 2, 3, 4, 5, 6, 7, 8, 9, 10, 11, 21] rfl rfl (by decide) (by decide) hk1 hFc hP1 hD1
                  have hP := hP.sub (ws' := (ws_sl a k rd_433 wr_433 ay_433 ia_433 mo_433 wo_433 so oi si mi wi ns_433 nt nf np_433 sl_433 hs_433) ++ (ws_sm b h uR_439 uW_439 uA_439 uM_439 uX_439 uF_439 uI_439 uS ut_439 us_439 ur_439 ub uo ui ul_439 uk uh_439) ++ (ws_ou o j ou_433)) [0, 1, 2, 3, 4, 5, 6, 7, 8, 9, 10, 11, 13, 14, 15, 16, 17, 18, 19, 20, 21, 12] rfl
                  have hD := hD.sub (ws' := (ws_sl a k rd_433 wr_433 ay_433 ia_433 mo_433 wo_433 so oi si mi wi ns_433 nt nf np_433 sl_433 hs_433) ++ (ws_sm b h uR_439 uW_439 uA_439 uM_439 uX_439 uF_439 uI_439 uS ut_439 us_439 ur_439 ub uo ui ul_439 uk uh_439) ++ (ws_ou o j ou_433)) [0, 1, 2, 3, 4, 5, 6, 7, 8, 9, 10, 11, 13, 14, 15, 16, 17, 18, 19, 20, 21, 12] (by decide) rfl
                  generalize H1 = H at hP hS ⊢
                  have hP : va_P (dC, dI) vwCl ((ws_sl a k rd_433 wr_433 ay_433 ia_433 mo_433 wo_433 so oi si mi wi ns_433 nt nf np_433 sl_433 hs_433) ++ (ws_sm b h uR_439 uW_439 uA_439 uM_439 uX_439 uF_439 uI_439 uS ut_439 us_439 ur_439 ub uo ui ul_439 uk uh_439) ++ (ws_ou o j ou_433)) H := hP
                  have hD : va_D (fun q : Nat => s.heap.size ≤ q) ((ws_sl a k rd_433 wr_433 ay_433 ia_433 mo_433 wo_433 so oi si mi wi ns_433 nt nf np_433 sl_433 hs_433) ++ (ws_sm b h uR_439 uW_439 uA_439 uM_439 uX_439 uF_439 uI_439 uS ut_439 us_439 ur_439 ub uo ui ul_439 uk uh_439) ++ (ws_ou o j ou_433)) := hD
                  refine lv_iload hx hb dL_law_448 (lv_at hl 1 rfl) ?_
                  refine lv_icmp_eq (tgt := 455) hx hb dL_law_450 (by decide) (fun c_450 => ?_) (fun c_450 => ?_)
                  · refine lv_iload hx hb dL_law_455 (lv_at hl 1 rfl) ?_
                    refine lv_if_ne (tgt := 472) hx hb dL_law_457 (by decide) (fun c_457 => ?_) (fun c_457 => ?_)
                    · refine lv_goto (tgt := 835) hx hb dL_law_472 (by decide) ?_
                      refine lv_iinc (v := x4 + 4) (lv' := [(4, .int (x4 + 4)), (6, .int r_439), (5, .int r_433), (0, .ref b9), (1, .ref (a 0)), (2, .ref (b 0)), (3, .ref (o 0))]) hx hb dL_law_835 hl (k := 6) rfl rfl (by decide) rfl (fun ls hl => ?_)
                      refine lv_goto (tgt := 23) hx hb dL_law_838 (by decide) ?_
                      refine W.widen (k := 22 + (i + 1)) (n := 4639 + 6 * (i + 1)) (by omega) (by omega) ?_
                      exact ih (i + 1) (x4 + 4) rd_433 wr_433 ay_433 ia_433 mo_433 wo_433 so oi si mi wi ns_433 nt nf np_433 sl_433 hs_433 uR_439 uW_439 uA_439 uM_439 uX_439 uF_439 uI_439 uS ut_439 us_439 ur_439 ub uo ui ul_439 uk uh_439 ou_433 (by omega) (by omega) (by rw [ex4]; exact nI_4 i) hR H locs hK hP hD hS ls (lv_sub hl [3, 4, 5, 6, 0] rfl)
                    · refine lv_aload_n hx hb dL_law_460 rfl (lv_at hl 5 rfl) ?_
                      refine lv_iconst (v := 0) hx hb dL_law_461 (by decide) ?_
                      refine va_lald hx hb hK hP 21 19 rfl rfl (ix_k (by decide)) dL_law_462 ?_
                      refine lv_iload hx hb dL_law_463 (lv_at hl 0 rfl) ?_
                      refine lv_i2l hx hb dL_law_465 rfl ?_
                      refine W.lcmp hx hb dL_law_466 ?_
                      refine lv_if_eq (tgt := 472) hx hb dL_law_467 (by decide) (fun c_467 => ?_) (fun c_467 => ?_)
                      · refine lv_goto (tgt := 835) hx hb dL_law_472 (by decide) ?_
                        refine lv_iinc (v := x4 + 4) (lv' := [(4, .int (x4 + 4)), (6, .int r_439), (5, .int r_433), (0, .ref b9), (1, .ref (a 0)), (2, .ref (b 0)), (3, .ref (o 0))]) hx hb dL_law_835 hl (k := 6) rfl rfl (by decide) rfl (fun ls hl => ?_)
                        refine lv_goto (tgt := 23) hx hb dL_law_838 (by decide) ?_
                        refine W.widen (k := 22 + (i + 1)) (n := 4639 + 6 * (i + 1)) (by omega) (by omega) ?_
                        exact ih (i + 1) (x4 + 4) rd_433 wr_433 ay_433 ia_433 mo_433 wo_433 so oi si mi wi ns_433 nt nf np_433 sl_433 hs_433 uR_439 uW_439 uA_439 uM_439 uX_439 uF_439 uI_439 uS ut_439 us_439 ur_439 ub uo ui ul_439 uk uh_439 ou_433 (by omega) (by omega) (by rw [ex4]; exact nI_4 i) hR H locs hK hP hD hS ls (lv_sub hl [3, 4, 5, 6, 0] rfl)
                      · exact absurd (lc_eq (hr2 c_457)) c_467
                  · exact absurd hr1 c_450
                · by_cases c_39_6 : ((xs x4.toNatClampNeg) &&& 15) = 6
                  · refine lv_tableIn (off := 436) (tgt := 475) hx hb dL_law_39 (by rw [c_39_6]; decide) (by rw [c_39_6]; decide) (by rw [c_39_6]; rfl) (by decide) ?_
                    refine lv_aload_n hx hb dL_law_475 rfl (lv_at hl 1 rfl) ?_
                    refine lv_aload_n hx hb dL_law_476 rfl (lv_at hl 0 rfl) ?_
                    refine lv_iload hx hb dL_law_477 (lv_at hl 4 rfl) ?_
                    refine lv_iconst (v := 1) hx hb dL_law_479 (by decide) ?_
                    refine lv_iadd hx hb dL_law_480 ?_
                    refine va_sld hx hb hX hbl hbA hS hi1 dL_law_481 ?_
                    refine lv_aload_n hx hb dL_law_482 rfl (lv_at hl 3 rfl) ?_
                    have hPc := hP.sub (ws' := (ws_sl a k rd wr ay ia mo wo so oi si mi wi ns nt nf np sl hs) ++ (ws_ou o j ou)) [0, 1, 2, 3, 4, 5, 6, 7, 8, 9, 10, 11, 21] rfl
                    have hDc := hD.sub (ws' := (ws_sl a k rd wr ay ia mo wo so oi si mi wi ns nt nf np sl hs) ++ (ws_ou o j ou)) [0, 1, 2, 3, 4, 5, 6, 7, 8, 9, 10, 11, 21] (by decide) rfl
                    have hKc := hK.sub (tys' := (ty_sl k) ++ (ty_ou j)) [0, 1, 2, 3, 4, 5, 6, 7, 8, 9, 10, 19] rfl
                    have hFc := va_free (wc := (ws_sl a k rd wr ay ia mo wo so oi si mi wi ns nt nf np sl hs) ++ (ws_ou o j ou)) hD hS hA [0, 1, 2, 3, 4, 5, 6, 7, 8, 9, 10, 11, 21] rfl
                    refine va_calli (vx_runSW (As := [.ref (a 0), .int (xs (x4 + 1).toNatClampNeg), .ref (o 0)]) (rest := []) ⟨hx, hb, hml, hown, hg⟩ (cl_open l hl9 dC dI a k o j sx H.size rd wr ay ia mo wo so oi si mi wi ns nt nf np sl hs ou (xs (x4 + 1).toNatClampNeg)) (vx_cwSW 3 hg (gi_S w_265 w_266 w_0 w_267) rfl rfl rfl (by decide +kernel) ⟨Nat.le_of_ble_eq_true rfl, Nat.le_of_ble_eq_true rfl⟩) ⟨prx_bl, prx_ok hKc hPc hDc hX9 hS hFc⟩ rfl rfl hl.1 rfl (lv_room (Nat.le_of_ble_eq_true rfl)) dL_law_483 ⟨by omega, by omega⟩) hS (fun q _ h => hFc q h) hFc (fun r_483 u t H1 locs ht hvm hw_483 hB hz1 hk1 hS => ?_)
                    obtain ⟨rd_483, wr_483, ay_483, ia_483, mo_483, wo_483, oi_483, ns_483, nf_483, np_483, sl_483, hs_483, ou_483⟩ := u
                    obtain ⟨hP1, hK1, hD1⟩ := hB
                    rw [ht] at hP1
                    obtain ⟨hP, hD⟩ := va_join (wr := ws_sm b h uR uW uA uM uX uF uI uS ut us ur ub uo ui ul uk uh) (w1 := (ws_sl a k rd_483 wr_483 ay_483 ia_483 mo_483 wo_483 so oi_483 si mi wi ns_483 nt nf_483 np_483 sl_483 hs_483) ++ (ws_ou o j ou_483)) hP hD [0, 1, 2, 3, 4, 5, 6, 7, 8, 9, 10, 11, 21] [12, 13, 14, 15, 16, 17, 18, 19, 20] rfl rfl (by decide) (by decide) hk1 hFc hP1 hD1
                    have hP := hP.sub (ws' := (ws_sl a k rd_483 wr_483 ay_483 ia_483 mo_483 wo_483 so oi_483 si mi wi ns_483 nt nf_483 np_483 sl_483 hs_483) ++ (ws_sm b h uR uW uA uM uX uF uI uS ut us ur ub uo ui ul uk uh) ++ (ws_ou o j ou_483)) [9, 10, 11, 12, 13, 14, 15, 16, 17, 18, 19, 20, 0, 1, 2, 3, 4, 5, 6, 7, 8, 21] rfl
                    have hD := hD.sub (ws' := (ws_sl a k rd_483 wr_483 ay_483 ia_483 mo_483 wo_483 so oi_483 si mi wi ns_483 nt nf_483 np_483 sl_483 hs_483) ++ (ws_sm b h uR uW uA uM uX uF uI uS ut us ur ub uo ui ul uk uh) ++ (ws_ou o j ou_483)) [9, 10, 11, 12, 13, 14, 15, 16, 17, 18, 19, 20, 0, 1, 2, 3, 4, 5, 6, 7, 8, 21] (by decide) rfl
                    generalize H1 = H at hP hS ⊢
                    have hP : va_P (dC, dI) vwCl ((ws_sl a k rd_483 wr_483 ay_483 ia_483 mo_483 wo_483 so oi_483 si mi wi ns_483 nt nf_483 np_483 sl_483 hs_483) ++ (ws_sm b h uR uW uA uM uX uF uI uS ut us ur ub uo ui ul uk uh) ++ (ws_ou o j ou_483)) H := hP
                    have hD : va_D (fun q : Nat => s.heap.size ≤ q) ((ws_sl a k rd_483 wr_483 ay_483 ia_483 mo_483 wo_483 so oi_483 si mi wi ns_483 nt nf_483 np_483 sl_483 hs_483) ++ (ws_sm b h uR uW uA uM uX uF uI uS ut us ur ub uo ui ul uk uh) ++ (ws_ou o j ou_483)) := hD
                    refine lv_istore (lv' := [(5, .int r_483), (0, .ref b9), (1, .ref (a 0)), (2, .ref (b 0)), (3, .ref (o 0)), (4, .int x4)]) hx hb dL_law_486 hl (by decide) rfl (fun ls hl => ?_)
                    refine lv_aload_n hx hb dL_law_488 rfl (lv_at hl 3 rfl) ?_
                    refine lv_aload_n hx hb dL_law_489 rfl (lv_at hl 1 rfl) ?_
                    refine lv_iload hx hb dL_law_490 (lv_at hl 5 rfl) ?_
                    refine lv_iconst (v := 1) hx hb dL_law_492 (by decide) ?_
                    refine lv_iadd hx hb dL_law_493 ?_
                    refine va_sld hx hb hX hbl hbA hS hi1 dL_law_494 ?_
                    have hPc := hP.sub (ws' := ws_sm b h uR uW uA uM uX uF uI uS ut us ur ub uo ui ul uk uh) [12, 13, 14, 15, 16, 17, 18, 19, 20] rfl
                    have hDc := hD.sub (ws' := ws_sm b h uR uW uA uM uX uF uI uS ut us ur ub uo ui ul uk uh) [12, 13, 14, 15, 16, 17, 18, 19, 20] (by decide) rfl
                    have hKc := hK.sub (tys' := ty_sm h) [11, 12, 13, 14, 15, 16, 17, 18] rfl
                    have hFc := va_free (wc := ws_sm b h uR uW uA uM uX uF uI uS ut us ur ub uo ui ul uk uh) hD hS hA [12, 13, 14, 15, 16, 17, 18, 19, 20] rfl
                    refine va_calli (va_runV (As := [.int (xs (x4 + 1).toNatClampNeg)]) (rest := []) ⟨hx, hb, hml, hown, hg⟩ (cm_open l dC dI b h H.size uR uW uA uM uX uF uI uS ut us ur ub uo ui ul uk uh (xs (x4 + 1).toNatClampNeg) (rl_hu hR)) (cwV 1 hg (gi_V w_456 w_457 w_458 w_2 w_459) rfl rfl rfl (by decide +kernel) ⟨Nat.le_of_ble_eq_true rfl, Nat.le_of_ble_eq_true rfl⟩) ⟨pr_bl, va_recv hKc hPc (ci := 1) (q0 := 0) rfl rfl, pr_ok hKc hPc hDc⟩ rfl rfl hl.1 rfl (lv_room (Nat.le_of_ble_eq_true rfl)) dL_law_495 ⟨by omega, by omega⟩) hS (fun q _ h => hFc q h) hFc (fun r_495 u t H1 locs ht hvm hw_495 hB hz1 hk1 hS => ?_)
                    obtain ⟨uR_495, uW_495, uA_495, uM_495, uX_495, uF_495, uI_495, ut_495, us_495, ur_495, uo_495, ui_495, ul_495, uh_495⟩ := u
                    obtain ⟨hP1, hK1, hD1⟩ := hB
                    rw [ht] at hP1
                    obtain ⟨hP, hD⟩ := va_join (wr := (ws_sl a k rd_483 wr_483 ay_483 ia_483 mo_483 wo_483 so oi_483 si mi wi ns_483 nt nf_483 np_483 sl_483 hs_483) ++ (ws_ou o j ou_483)) (w1 := ws_sm b h uR_495 uW_495 uA_495 uM_495 uX_495 uF_495 uI_495 uS ut_495 us_495 ur_495 ub uo_495 ui_495 ul_495 uk uh_495) hP hD [12, 13, 14, 15, 16, 17, 18, 19, 20] [0, 1, 2, 3, 4, 5, 6, 7, 8, 9, 10, 11, 21] rfl rfl (by decide) (by decide) hk1 hFc hP1 hD1
                    have hP := hP.sub (ws' := (ws_sl a k rd_483 wr_483 ay_483 ia_483 mo_483 wo_483 so oi_483 si mi wi ns_483 nt nf_483 np_483 sl_483 hs_483) ++ (ws_sm b h uR_495 uW_495 uA_495 uM_495 uX_495 uF_495 uI_495 uS ut_495 us_495 ur_495 ub uo_495 ui_495 ul_495 uk uh_495) ++ (ws_ou o j ou_483)) [0, 1, 2, 3, 4, 5, 6, 7, 8, 9, 10, 11, 13, 14, 15, 16, 17, 18, 19, 20, 21, 12] rfl
                    have hD := hD.sub (ws' := (ws_sl a k rd_483 wr_483 ay_483 ia_483 mo_483 wo_483 so oi_483 si mi wi ns_483 nt nf_483 np_483 sl_483 hs_483) ++ (ws_sm b h uR_495 uW_495 uA_495 uM_495 uX_495 uF_495 uI_495 uS ut_495 us_495 ur_495 ub uo_495 ui_495 ul_495 uk uh_495) ++ (ws_ou o j ou_483)) [0, 1, 2, 3, 4, 5, 6, 7, 8, 9, 10, 11, 13, 14, 15, 16, 17, 18, 19, 20, 21, 12] (by decide) rfl
                    generalize H1 = H at hP hS ⊢
                    have hP : va_P (dC, dI) vwCl ((ws_sl a k rd_483 wr_483 ay_483 ia_483 mo_483 wo_483 so oi_483 si mi wi ns_483 nt nf_483 np_483 sl_483 hs_483) ++ (ws_sm b h uR_495 uW_495 uA_495 uM_495 uX_495 uF_495 uI_495 uS ut_495 us_495 ur_495 ub uo_495 ui_495 ul_495 uk uh_495) ++ (ws_ou o j ou_483)) H := hP
                    have hD : va_D (fun q : Nat => s.heap.size ≤ q) ((ws_sl a k rd_483 wr_483 ay_483 ia_483 mo_483 wo_483 so oi_483 si mi wi ns_483 nt nf_483 np_483 sl_483 hs_483) ++ (ws_sm b h uR_495 uW_495 uA_495 uM_495 uX_495 uF_495 uI_495 uS ut_495 us_495 ur_495 ub uo_495 ui_495 ul_495 uk uh_495) ++ (ws_ou o j ou_483)) := hD
                    have hrl := rl_open hR hw_483 hw_495
                    obtain ⟨hr1, hr2, hR⟩ := hrl
                    refine lv_istore (lv' := [(6, .int r_495), (5, .int r_483), (0, .ref b9), (1, .ref (a 0)), (2, .ref (b 0)), (3, .ref (o 0)), (4, .int x4)]) hx hb dL_law_498 hl (by decide) rfl (fun ls hl => ?_)
                    refine lv_aload_n hx hb dL_law_500 rfl (lv_at hl 4 rfl) ?_
                    have hPc := hP.sub (ws' := ws_sm b h uR_495 uW_495 uA_495 uM_495 uX_495 uF_495 uI_495 uS ut_495 us_495 ur_495 ub uo_495 ui_495 ul_495 uk uh_495) [12, 13, 14, 15, 16, 17, 18, 19, 20] rfl
                    have hDc := hD.sub (ws' := ws_sm b h uR_495 uW_495 uA_495 uM_495 uX_495 uF_495 uI_495 uS ut_495 us_495 ur_495 ub uo_495 ui_495 ul_495 uk uh_495) [12, 13, 14, 15, 16, 17, 18, 19, 20] (by decide) rfl
                    have hKc := hK.sub (tys' := ty_sm h) [11, 12, 13, 14, 15, 16, 17, 18] rfl
                    have hFc := va_free (wc := ws_sm b h uR_495 uW_495 uA_495 uM_495 uX_495 uF_495 uI_495 uS ut_495 us_495 ur_495 ub uo_495 ui_495 ul_495 uk uh_495) hD hS hA [12, 13, 14, 15, 16, 17, 18, 19, 20] rfl
                    refine va_calli (va_runV (As := []) (rest := []) ⟨hx, hb, hml, hown, hg⟩ (cm_thrown l dC dI b h H.size uR_495 uW_495 uA_495 uM_495 uX_495 uF_495 uI_495 uS ut_495 us_495 ur_495 ub uo_495 ui_495 ul_495 uk uh_495) (cwV 0 hg (gi_V w_399 w_400 w_401 w_2 w_402) rfl rfl rfl (by decide +kernel) ⟨Nat.le_of_ble_eq_true rfl, Nat.le_of_ble_eq_true rfl⟩) ⟨pr_bl, va_recv hKc hPc (ci := 1) (q0 := 0) rfl rfl, pr_ok hKc hPc hDc⟩ rfl rfl hl.1 rfl (lv_room (Nat.le_of_ble_eq_true rfl)) dL_law_501 ⟨by omega, by omega⟩) hS (fun q _ h => hFc q h) hFc (fun r_501 u t H1 locs ht hvm hw_501 hB hz1 hk1 hS => ?_)
                    have hw_501 := hw_501.symm
                    subst hw_501
                    obtain ⟨hP1, hK1, hD1⟩ := hB
                    rw [ht] at hP1
                    obtain ⟨hP, hD⟩ := va_join (wr := (ws_sl a k rd_483 wr_483 ay_483 ia_483 mo_483 wo_483 so oi_483 si mi wi ns_483 nt nf_483 np_483 sl_483 hs_483) ++ (ws_ou o j ou_483)) (w1 := ws_sm b h uR_495 uW_495 uA_495 uM_495 uX_495 uF_495 uI_495 uS ut_495 us_495 ur_495 ub uo_495 ui_495 ul_495 uk uh_495) hP hD [12, 13, 14, 15, 16, 17, 18, 19, 20] [0, 1, 2, 3, 4, 5, 6, 7, 8, 9, 10, 11, 21] rfl rfl (by decide) (by decide) hk1 hFc hP1 hD1
                    have hP := hP.sub (ws' := (ws_sl a k rd_483 wr_483 ay_483 ia_483 mo_483 wo_483 so oi_483 si mi wi ns_483 nt nf_483 np_483 sl_483 hs_483) ++ (ws_sm b h uR_495 uW_495 uA_495 uM_495 uX_495 uF_495 uI_495 uS ut_495 us_495 ur_495 ub uo_495 ui_495 ul_495 uk uh_495) ++ (ws_ou o j ou_483)) [0, 1, 2, 3, 4, 5, 6, 7, 8, 9, 10, 11, 13, 14, 15, 16, 17, 18, 19, 20, 21, 12] rfl
                    have hD := hD.sub (ws' := (ws_sl a k rd_483 wr_483 ay_483 ia_483 mo_483 wo_483 so oi_483 si mi wi ns_483 nt nf_483 np_483 sl_483 hs_483) ++ (ws_sm b h uR_495 uW_495 uA_495 uM_495 uX_495 uF_495 uI_495 uS ut_495 us_495 ur_495 ub uo_495 ui_495 ul_495 uk uh_495) ++ (ws_ou o j ou_483)) [0, 1, 2, 3, 4, 5, 6, 7, 8, 9, 10, 11, 13, 14, 15, 16, 17, 18, 19, 20, 21, 12] (by decide) rfl
                    generalize H1 = H at hP hS ⊢
                    have hP : va_P (dC, dI) vwCl ((ws_sl a k rd_483 wr_483 ay_483 ia_483 mo_483 wo_483 so oi_483 si mi wi ns_483 nt nf_483 np_483 sl_483 hs_483) ++ (ws_sm b h uR_495 uW_495 uA_495 uM_495 uX_495 uF_495 uI_495 uS ut_495 us_495 ur_495 ub uo_495 ui_495 ul_495 uk uh_495) ++ (ws_ou o j ou_483)) H := hP
                    have hD : va_D (fun q : Nat => s.heap.size ≤ q) ((ws_sl a k rd_483 wr_483 ay_483 ia_483 mo_483 wo_483 so oi_483 si mi wi ns_483 nt nf_483 np_483 sl_483 hs_483) ++ (ws_sm b h uR_495 uW_495 uA_495 uM_495 uX_495 uF_495 uI_495 uS ut_495 us_495 ur_495 ub uo_495 ui_495 ul_495 uk uh_495) ++ (ws_ou o j ou_483)) := hD
                    refine lv_iload hx hb dL_law_504 (lv_at hl 1 rfl) ?_
                    refine lv_icmp_eq (tgt := 511) hx hb dL_law_506 (by decide) (fun c_506 => ?_) (fun c_506 => ?_)
                    · refine lv_iload hx hb dL_law_511 (lv_at hl 1 rfl) ?_
                      refine lv_if_ne (tgt := 528) hx hb dL_law_513 (by decide) (fun c_513 => ?_) (fun c_513 => ?_)
                      · refine lv_goto (tgt := 835) hx hb dL_law_528 (by decide) ?_
                        refine lv_iinc (v := x4 + 4) (lv' := [(4, .int (x4 + 4)), (6, .int r_495), (5, .int r_483), (0, .ref b9), (1, .ref (a 0)), (2, .ref (b 0)), (3, .ref (o 0))]) hx hb dL_law_835 hl (k := 6) rfl rfl (by decide) rfl (fun ls hl => ?_)
                        refine lv_goto (tgt := 23) hx hb dL_law_838 (by decide) ?_
                        refine W.widen (k := 22 + (i + 1)) (n := 4639 + 6 * (i + 1)) (by omega) (by omega) ?_
                        exact ih (i + 1) (x4 + 4) rd_483 wr_483 ay_483 ia_483 mo_483 wo_483 so oi_483 si mi wi ns_483 nt nf_483 np_483 sl_483 hs_483 uR_495 uW_495 uA_495 uM_495 uX_495 uF_495 uI_495 uS ut_495 us_495 ur_495 ub uo_495 ui_495 ul_495 uk uh_495 ou_483 (by omega) (by omega) (by rw [ex4]; exact nI_4 i) hR H locs hK hP hD hS ls (lv_sub hl [3, 4, 5, 6, 0] rfl)
                      · refine lv_aload_n hx hb dL_law_516 rfl (lv_at hl 5 rfl) ?_
                        refine lv_iconst (v := 0) hx hb dL_law_517 (by decide) ?_
                        refine va_lald hx hb hK hP 21 19 rfl rfl (ix_k (by decide)) dL_law_518 ?_
                        refine lv_iload hx hb dL_law_519 (lv_at hl 0 rfl) ?_
                        refine lv_i2l hx hb dL_law_521 rfl ?_
                        refine W.lcmp hx hb dL_law_522 ?_
                        refine lv_if_eq (tgt := 528) hx hb dL_law_523 (by decide) (fun c_523 => ?_) (fun c_523 => ?_)
                        · refine lv_goto (tgt := 835) hx hb dL_law_528 (by decide) ?_
                          refine lv_iinc (v := x4 + 4) (lv' := [(4, .int (x4 + 4)), (6, .int r_495), (5, .int r_483), (0, .ref b9), (1, .ref (a 0)), (2, .ref (b 0)), (3, .ref (o 0))]) hx hb dL_law_835 hl (k := 6) rfl rfl (by decide) rfl (fun ls hl => ?_)
                          refine lv_goto (tgt := 23) hx hb dL_law_838 (by decide) ?_
                          refine W.widen (k := 22 + (i + 1)) (n := 4639 + 6 * (i + 1)) (by omega) (by omega) ?_
                          exact ih (i + 1) (x4 + 4) rd_483 wr_483 ay_483 ia_483 mo_483 wo_483 so oi_483 si mi wi ns_483 nt nf_483 np_483 sl_483 hs_483 uR_495 uW_495 uA_495 uM_495 uX_495 uF_495 uI_495 uS ut_495 us_495 ur_495 ub uo_495 ui_495 ul_495 uk uh_495 ou_483 (by omega) (by omega) (by rw [ex4]; exact nI_4 i) hR H locs hK hP hD hS ls (lv_sub hl [3, 4, 5, 6, 0] rfl)
                        · exact absurd (lc_eq (hr2 c_513)) c_523
                    · exact absurd hr1 c_506
                  · by_cases c_39_7 : ((xs x4.toNatClampNeg) &&& 15) = 7
                    · refine lv_tableIn (off := 492) (tgt := 531) hx hb dL_law_39 (by rw [c_39_7]; decide) (by rw [c_39_7]; decide) (by rw [c_39_7]; rfl) (by decide) ?_
                      refine lv_aload_n hx hb dL_law_531 rfl (lv_at hl 1 rfl) ?_
                      refine lv_aload_n hx hb dL_law_532 rfl (lv_at hl 3 rfl) ?_
                      have hPc := hP.sub (ws' := (ws_sl a k rd wr ay ia mo wo so oi si mi wi ns nt nf np sl hs) ++ (ws_ou o j ou)) [0, 1, 2, 3, 4, 5, 6, 7, 8, 9, 10, 11, 21] rfl
                      have hDc := hD.sub (ws' := (ws_sl a k rd wr ay ia mo wo so oi si mi wi ns nt nf np sl hs) ++ (ws_ou o j ou)) [0, 1, 2, 3, 4, 5, 6, 7, 8, 9, 10, 11, 21] (by decide) rfl
                      have hKc := hK.sub (tys' := (ty_sl k) ++ (ty_ou j)) [0, 1, 2, 3, 4, 5, 6, 7, 8, 9, 10, 19] rfl
                      have hFc := va_free (wc := (ws_sl a k rd wr ay ia mo wo so oi si mi wi ns nt nf np sl hs) ++ (ws_ou o j ou)) hD hS hA [0, 1, 2, 3, 4, 5, 6, 7, 8, 9, 10, 11, 21] rfl
                      refine va_calli (vx_runSW (As := [.ref (a 0), .ref (o 0)]) (rest := []) ⟨hx, hb, hml, hown, hg⟩ (cl_close l hl9 dC dI a k o j sx H.size rd wr ay ia mo wo so oi si mi wi ns nt nf np sl hs ou) (vx_cwSW 2 hg (gi_S w_273 w_274 w_0 w_275) rfl rfl rfl (by decide +kernel) ⟨Nat.le_of_ble_eq_true rfl, Nat.le_of_ble_eq_true rfl⟩) ⟨prx_bl, prx_ok hKc hPc hDc hX9 hS hFc⟩ rfl rfl hl.1 rfl (lv_room (Nat.le_of_ble_eq_true rfl)) dL_law_533 ⟨by omega, by omega⟩) hS (fun q _ h => hFc q h) hFc (fun r_533 u t H1 locs ht hvm hw_533 hB hz1 hk1 hS => ?_)
                      obtain ⟨nf_533, ou_533⟩ := u
                      obtain ⟨hP1, hK1, hD1⟩ := hB
                      rw [ht] at hP1
                      obtain ⟨hP, hD⟩ := va_join (wr := ws_sm b h uR uW uA uM uX uF uI uS ut us ur ub uo ui ul uk uh) (w1 := (ws_sl a k rd wr ay ia mo wo so oi si mi wi ns nt nf_533 np sl hs) ++ (ws_ou o j ou_533)) hP hD [0, 1, 2, 3, 4, 5, 6, 7, 8, 9, 10, 11, 21] [12, 13, 14, 15, 16, 17, 18, 19, 20] rfl rfl (by decide) (by decide) hk1 hFc hP1 hD1
                      have hP := hP.sub (ws' := (ws_sl a k rd wr ay ia mo wo so oi si mi wi ns nt nf_533 np sl hs) ++ (ws_sm b h uR uW uA uM uX uF uI uS ut us ur ub uo ui ul uk uh) ++ (ws_ou o j ou_533)) [9, 10, 11, 12, 13, 14, 15, 16, 17, 18, 19, 20, 0, 1, 2, 3, 4, 5, 6, 7, 8, 21] rfl
                      have hD := hD.sub (ws' := (ws_sl a k rd wr ay ia mo wo so oi si mi wi ns nt nf_533 np sl hs) ++ (ws_sm b h uR uW uA uM uX uF uI uS ut us ur ub uo ui ul uk uh) ++ (ws_ou o j ou_533)) [9, 10, 11, 12, 13, 14, 15, 16, 17, 18, 19, 20, 0, 1, 2, 3, 4, 5, 6, 7, 8, 21] (by decide) rfl
                      generalize H1 = H at hP hS ⊢
                      have hP : va_P (dC, dI) vwCl ((ws_sl a k rd wr ay ia mo wo so oi si mi wi ns nt nf_533 np sl hs) ++ (ws_sm b h uR uW uA uM uX uF uI uS ut us ur ub uo ui ul uk uh) ++ (ws_ou o j ou_533)) H := hP
                      have hD : va_D (fun q : Nat => s.heap.size ≤ q) ((ws_sl a k rd wr ay ia mo wo so oi si mi wi ns nt nf_533 np sl hs) ++ (ws_sm b h uR uW uA uM uX uF uI uS ut us ur ub uo ui ul uk uh) ++ (ws_ou o j ou_533)) := hD
                      refine lv_istore (lv' := [(5, .int r_533), (0, .ref b9), (1, .ref (a 0)), (2, .ref (b 0)), (3, .ref (o 0)), (4, .int x4)]) hx hb dL_law_536 hl (by decide) rfl (fun ls hl => ?_)
                      refine lv_aload_n hx hb dL_law_538 rfl (lv_at hl 3 rfl) ?_
                      have hPc := hP.sub (ws' := ws_sm b h uR uW uA uM uX uF uI uS ut us ur ub uo ui ul uk uh) [12, 13, 14, 15, 16, 17, 18, 19, 20] rfl
                      have hDc := hD.sub (ws' := ws_sm b h uR uW uA uM uX uF uI uS ut us ur ub uo ui ul uk uh) [12, 13, 14, 15, 16, 17, 18, 19, 20] (by decide) rfl
                      have hKc := hK.sub (tys' := ty_sm h) [11, 12, 13, 14, 15, 16, 17, 18] rfl
                      have hFc := va_free (wc := ws_sm b h uR uW uA uM uX uF uI uS ut us ur ub uo ui ul uk uh) hD hS hA [12, 13, 14, 15, 16, 17, 18, 19, 20] rfl
                      refine va_calli (va_runV (As := []) (rest := []) ⟨hx, hb, hml, hown, hg⟩ (cm_close l dC dI b h H.size uR uW uA uM uX uF uI uS ut us ur ub uo ui ul uk uh (rl_hi hR)) (cwV 0 hg (gi_V w_460 w_461 w_462 w_2 w_463) rfl rfl rfl (by decide +kernel) ⟨Nat.le_of_ble_eq_true rfl, Nat.le_of_ble_eq_true rfl⟩) ⟨pr_bl, va_recv hKc hPc (ci := 1) (q0 := 0) rfl rfl, pr_ok hKc hPc hDc⟩ rfl rfl hl.1 rfl (lv_room (Nat.le_of_ble_eq_true rfl)) dL_law_539 ⟨by omega, by omega⟩) hS (fun q _ h => hFc q h) hFc (fun r_539 u t H1 locs ht hvm hw_539 hB hz1 hk1 hS => ?_)
                      obtain ⟨ut_539, uo_539, ui_539⟩ := u
                      obtain ⟨hP1, hK1, hD1⟩ := hB
                      rw [ht] at hP1
                      obtain ⟨hP, hD⟩ := va_join (wr := (ws_sl a k rd wr ay ia mo wo so oi si mi wi ns nt nf_533 np sl hs) ++ (ws_ou o j ou_533)) (w1 := ws_sm b h uR uW uA uM uX uF uI uS ut_539 us ur ub uo_539 ui_539 ul uk uh) hP hD [12, 13, 14, 15, 16, 17, 18, 19, 20] [0, 1, 2, 3, 4, 5, 6, 7, 8, 9, 10, 11, 21] rfl rfl (by decide) (by decide) hk1 hFc hP1 hD1
                      have hP := hP.sub (ws' := (ws_sl a k rd wr ay ia mo wo so oi si mi wi ns nt nf_533 np sl hs) ++ (ws_sm b h uR uW uA uM uX uF uI uS ut_539 us ur ub uo_539 ui_539 ul uk uh) ++ (ws_ou o j ou_533)) [0, 1, 2, 3, 4, 5, 6, 7, 8, 9, 10, 11, 13, 14, 15, 16, 17, 18, 19, 20, 21, 12] rfl
                      have hD := hD.sub (ws' := (ws_sl a k rd wr ay ia mo wo so oi si mi wi ns nt nf_533 np sl hs) ++ (ws_sm b h uR uW uA uM uX uF uI uS ut_539 us ur ub uo_539 ui_539 ul uk uh) ++ (ws_ou o j ou_533)) [0, 1, 2, 3, 4, 5, 6, 7, 8, 9, 10, 11, 13, 14, 15, 16, 17, 18, 19, 20, 21, 12] (by decide) rfl
                      generalize H1 = H at hP hS ⊢
                      have hP : va_P (dC, dI) vwCl ((ws_sl a k rd wr ay ia mo wo so oi si mi wi ns nt nf_533 np sl hs) ++ (ws_sm b h uR uW uA uM uX uF uI uS ut_539 us ur ub uo_539 ui_539 ul uk uh) ++ (ws_ou o j ou_533)) H := hP
                      have hD : va_D (fun q : Nat => s.heap.size ≤ q) ((ws_sl a k rd wr ay ia mo wo so oi si mi wi ns nt nf_533 np sl hs) ++ (ws_sm b h uR uW uA uM uX uF uI uS ut_539 us ur ub uo_539 ui_539 ul uk uh) ++ (ws_ou o j ou_533)) := hD
                      have hrl := rl_close hR hw_533 hw_539
                      obtain ⟨hr1, hr2, hR⟩ := hrl
                      refine lv_istore (lv' := [(6, .int r_539), (5, .int r_533), (0, .ref b9), (1, .ref (a 0)), (2, .ref (b 0)), (3, .ref (o 0)), (4, .int x4)]) hx hb dL_law_542 hl (by decide) rfl (fun ls hl => ?_)
                      refine lv_aload_n hx hb dL_law_544 rfl (lv_at hl 4 rfl) ?_
                      have hPc := hP.sub (ws' := ws_sm b h uR uW uA uM uX uF uI uS ut_539 us ur ub uo_539 ui_539 ul uk uh) [12, 13, 14, 15, 16, 17, 18, 19, 20] rfl
                      have hDc := hD.sub (ws' := ws_sm b h uR uW uA uM uX uF uI uS ut_539 us ur ub uo_539 ui_539 ul uk uh) [12, 13, 14, 15, 16, 17, 18, 19, 20] (by decide) rfl
                      have hKc := hK.sub (tys' := ty_sm h) [11, 12, 13, 14, 15, 16, 17, 18] rfl
                      have hFc := va_free (wc := ws_sm b h uR uW uA uM uX uF uI uS ut_539 us ur ub uo_539 ui_539 ul uk uh) hD hS hA [12, 13, 14, 15, 16, 17, 18, 19, 20] rfl
                      refine va_calli (va_runV (As := []) (rest := []) ⟨hx, hb, hml, hown, hg⟩ (cm_thrown l dC dI b h H.size uR uW uA uM uX uF uI uS ut_539 us ur ub uo_539 ui_539 ul uk uh) (cwV 0 hg (gi_V w_399 w_400 w_401 w_2 w_402) rfl rfl rfl (by decide +kernel) ⟨Nat.le_of_ble_eq_true rfl, Nat.le_of_ble_eq_true rfl⟩) ⟨pr_bl, va_recv hKc hPc (ci := 1) (q0 := 0) rfl rfl, pr_ok hKc hPc hDc⟩ rfl rfl hl.1 rfl (lv_room (Nat.le_of_ble_eq_true rfl)) dL_law_545 ⟨by omega, by omega⟩) hS (fun q _ h => hFc q h) hFc (fun r_545 u t H1 locs ht hvm hw_545 hB hz1 hk1 hS => ?_)
                      have hw_545 := hw_545.symm
                      subst hw_545
                      obtain ⟨hP1, hK1, hD1⟩ := hB
                      rw [ht] at hP1
                      obtain ⟨hP, hD⟩ := va_join (wr := (ws_sl a k rd wr ay ia mo wo so oi si mi wi ns nt nf_533 np sl hs) ++ (ws_ou o j ou_533)) (w1 := ws_sm b h uR uW uA uM uX uF uI uS ut_539 us ur ub uo_539 ui_539 ul uk uh) hP hD [12, 13, 14, 15, 16, 17, 18, 19, 20] [0, 1, 2, 3, 4, 5, 6, 7, 8, 9, 10, 11, 21] rfl rfl (by decide) (by decide) hk1 hFc hP1 hD1
                      have hP := hP.sub (ws' := (ws_sl a k rd wr ay ia mo wo so oi si mi wi ns nt nf_533 np sl hs) ++ (ws_sm b h uR uW uA uM uX uF uI uS ut_539 us ur ub uo_539 ui_539 ul uk uh) ++ (ws_ou o j ou_533)) [0, 1, 2, 3, 4, 5, 6, 7, 8, 9, 10, 11, 13, 14, 15, 16, 17, 18, 19, 20, 21, 12] rfl
                      have hD := hD.sub (ws' := (ws_sl a k rd wr ay ia mo wo so oi si mi wi ns nt nf_533 np sl hs) ++ (ws_sm b h uR uW uA uM uX uF uI uS ut_539 us ur ub uo_539 ui_539 ul uk uh) ++ (ws_ou o j ou_533)) [0, 1, 2, 3, 4, 5, 6, 7, 8, 9, 10, 11, 13, 14, 15, 16, 17, 18, 19, 20, 21, 12] (by decide) rfl
                      generalize H1 = H at hP hS ⊢
                      have hP : va_P (dC, dI) vwCl ((ws_sl a k rd wr ay ia mo wo so oi si mi wi ns nt nf_533 np sl hs) ++ (ws_sm b h uR uW uA uM uX uF uI uS ut_539 us ur ub uo_539 ui_539 ul uk uh) ++ (ws_ou o j ou_533)) H := hP
                      have hD : va_D (fun q : Nat => s.heap.size ≤ q) ((ws_sl a k rd wr ay ia mo wo so oi si mi wi ns nt nf_533 np sl hs) ++ (ws_sm b h uR uW uA uM uX uF uI uS ut_539 us ur ub uo_539 ui_539 ul uk uh) ++ (ws_ou o j ou_533)) := hD
                      refine lv_iload hx hb dL_law_548 (lv_at hl 1 rfl) ?_
                      refine lv_icmp_eq (tgt := 555) hx hb dL_law_550 (by decide) (fun c_550 => ?_) (fun c_550 => ?_)
                      · refine lv_iload hx hb dL_law_555 (lv_at hl 1 rfl) ?_
                        refine lv_if_ne (tgt := 572) hx hb dL_law_557 (by decide) (fun c_557 => ?_) (fun c_557 => ?_)
                        · refine lv_goto (tgt := 835) hx hb dL_law_572 (by decide) ?_
                          refine lv_iinc (v := x4 + 4) (lv' := [(4, .int (x4 + 4)), (6, .int r_539), (5, .int r_533), (0, .ref b9), (1, .ref (a 0)), (2, .ref (b 0)), (3, .ref (o 0))]) hx hb dL_law_835 hl (k := 6) rfl rfl (by decide) rfl (fun ls hl => ?_)
                          refine lv_goto (tgt := 23) hx hb dL_law_838 (by decide) ?_
                          refine W.widen (k := 22 + (i + 1)) (n := 4639 + 6 * (i + 1)) (by omega) (by omega) ?_
                          exact ih (i + 1) (x4 + 4) rd wr ay ia mo wo so oi si mi wi ns nt nf_533 np sl hs uR uW uA uM uX uF uI uS ut_539 us ur ub uo_539 ui_539 ul uk uh ou_533 (by omega) (by omega) (by rw [ex4]; exact nI_4 i) hR H locs hK hP hD hS ls (lv_sub hl [3, 4, 5, 6, 0] rfl)
                        · refine lv_aload_n hx hb dL_law_560 rfl (lv_at hl 5 rfl) ?_
                          refine lv_iconst (v := 0) hx hb dL_law_561 (by decide) ?_
                          refine va_lald hx hb hK hP 21 19 rfl rfl (ix_k (by decide)) dL_law_562 ?_
                          refine lv_iload hx hb dL_law_563 (lv_at hl 0 rfl) ?_
                          refine lv_i2l hx hb dL_law_565 rfl ?_
                          refine W.lcmp hx hb dL_law_566 ?_
                          refine lv_if_eq (tgt := 572) hx hb dL_law_567 (by decide) (fun c_567 => ?_) (fun c_567 => ?_)
                          · refine lv_goto (tgt := 835) hx hb dL_law_572 (by decide) ?_
                            refine lv_iinc (v := x4 + 4) (lv' := [(4, .int (x4 + 4)), (6, .int r_539), (5, .int r_533), (0, .ref b9), (1, .ref (a 0)), (2, .ref (b 0)), (3, .ref (o 0))]) hx hb dL_law_835 hl (k := 6) rfl rfl (by decide) rfl (fun ls hl => ?_)
                            refine lv_goto (tgt := 23) hx hb dL_law_838 (by decide) ?_
                            refine W.widen (k := 22 + (i + 1)) (n := 4639 + 6 * (i + 1)) (by omega) (by omega) ?_
                            exact ih (i + 1) (x4 + 4) rd wr ay ia mo wo so oi si mi wi ns nt nf_533 np sl hs uR uW uA uM uX uF uI uS ut_539 us ur ub uo_539 ui_539 ul uk uh ou_533 (by omega) (by omega) (by rw [ex4]; exact nI_4 i) hR H locs hK hP hD hS ls (lv_sub hl [3, 4, 5, 6, 0] rfl)
                          · exact absurd (lc_eq (hr2 c_557)) c_567
                      · exact absurd hr1 c_550
                    · by_cases c_39_8 : ((xs x4.toNatClampNeg) &&& 15) = 8
                      · refine lv_tableIn (off := 536) (tgt := 575) hx hb dL_law_39 (by rw [c_39_8]; decide) (by rw [c_39_8]; decide) (by rw [c_39_8]; rfl) (by decide) ?_
                        refine lv_aload_n hx hb dL_law_575 rfl (lv_at hl 1 rfl) ?_
                        refine lv_aload_n hx hb dL_law_576 rfl (lv_at hl 0 rfl) ?_
                        refine lv_iload hx hb dL_law_577 (lv_at hl 4 rfl) ?_
                        refine lv_iconst (v := 1) hx hb dL_law_579 (by decide) ?_
                        refine lv_iadd hx hb dL_law_580 ?_
                        refine va_sld hx hb hX hbl hbA hS hi1 dL_law_581 ?_
                        refine lv_aload_n hx hb dL_law_582 rfl (lv_at hl 0 rfl) ?_
                        refine lv_iload hx hb dL_law_583 (lv_at hl 4 rfl) ?_
                        refine lv_iconst (v := 2) hx hb dL_law_585 (by decide) ?_
                        refine lv_iadd hx hb dL_law_586 ?_
                        refine va_sld hx hb hX hbl hbA hS hi2 dL_law_587 ?_
                        refine lv_aload_n hx hb dL_law_588 rfl (lv_at hl 0 rfl) ?_
                        refine lv_iload hx hb dL_law_589 (lv_at hl 4 rfl) ?_
                        refine lv_iconst (v := 3) hx hb dL_law_591 (by decide) ?_
                        refine lv_iadd hx hb dL_law_592 ?_
                        refine va_sld hx hb hX hbl hbA hS hi3 dL_law_593 ?_
                        refine lv_aload_n hx hb dL_law_594 rfl (lv_at hl 3 rfl) ?_
                        have hPc := hP.sub (ws' := (ws_sl a k rd wr ay ia mo wo so oi si mi wi ns nt nf np sl hs) ++ (ws_ou o j ou)) [0, 1, 2, 3, 4, 5, 6, 7, 8, 9, 10, 11, 21] rfl
                        have hDc := hD.sub (ws' := (ws_sl a k rd wr ay ia mo wo so oi si mi wi ns nt nf np sl hs) ++ (ws_ou o j ou)) [0, 1, 2, 3, 4, 5, 6, 7, 8, 9, 10, 11, 21] (by decide) rfl
                        have hKc := hK.sub (tys' := (ty_sl k) ++ (ty_ou j)) [0, 1, 2, 3, 4, 5, 6, 7, 8, 9, 10, 19] rfl
                        have hFc := va_free (wc := (ws_sl a k rd wr ay ia mo wo so oi si mi wi ns nt nf np sl hs) ++ (ws_ou o j ou)) hD hS hA [0, 1, 2, 3, 4, 5, 6, 7, 8, 9, 10, 11, 21] rfl
                        refine va_calli (vx_runSW (As := [.ref (a 0), .int (xs (x4 + 1).toNatClampNeg), .int (xs (x4 + 2).toNatClampNeg), .int (xs (x4 + 3).toNatClampNeg), .ref (o 0)]) (rest := []) ⟨hx, hb, hml, hown, hg⟩ (cl_apply l hl9 dC dI a k o j sx H.size rd wr ay ia mo wo so oi si mi wi ns nt nf np sl hs ou (xs (x4 + 1).toNatClampNeg) (xs (x4 + 2).toNatClampNeg) (xs (x4 + 3).toNatClampNeg)) (vx_cwSW 5 hg (gi_S w_281 w_282 w_0 w_283) rfl rfl rfl (by decide +kernel) ⟨Nat.le_of_ble_eq_true rfl, Nat.le_of_ble_eq_true rfl⟩) ⟨prx_bl, prx_ok hKc hPc hDc hX9 hS hFc⟩ rfl rfl hl.1 rfl (lv_room (Nat.le_of_ble_eq_true rfl)) dL_law_595 ⟨by omega, by omega⟩) hS (fun q _ h => hFc q h) hFc (fun r_595 u t H1 locs ht hvm hw_595 hB hz1 hk1 hS => ?_)
                        obtain ⟨rd_595, wr_595, ay_595, ia_595, mo_595, wo_595, ns_595, nt_595, np_595, sl_595, hs_595, ou_595⟩ := u
                        obtain ⟨hP1, hK1, hD1⟩ := hB
                        rw [ht] at hP1
                        obtain ⟨hP, hD⟩ := va_join (wr := ws_sm b h uR uW uA uM uX uF uI uS ut us ur ub uo ui ul uk uh) (w1 := (ws_sl a k rd_595 wr_595 ay_595 ia_595 mo_595 wo_595 so oi si mi wi ns_595 nt_595 nf np_595 sl_595 hs_595) ++ (ws_ou o j ou_595)) hP hD [0, 1, 2, 3, 4, 5, 6, 7, 8, 9, 10, 11, 21] [12, 13, 14, 15, 16, 17, 18, 19, 20] rfl rfl (by decide) (by decide) hk1 hFc hP1 hD1
                        have hP := hP.sub (ws' := (ws_sl a k rd_595 wr_595 ay_595 ia_595 mo_595 wo_595 so oi si mi wi ns_595 nt_595 nf np_595 sl_595 hs_595) ++ (ws_sm b h uR uW uA uM uX uF uI uS ut us ur ub uo ui ul uk uh) ++ (ws_ou o j ou_595)) [9, 10, 11, 12, 13, 14, 15, 16, 17, 18, 19, 20, 0, 1, 2, 3, 4, 5, 6, 7, 8, 21] rfl
                        have hD := hD.sub (ws' := (ws_sl a k rd_595 wr_595 ay_595 ia_595 mo_595 wo_595 so oi si mi wi ns_595 nt_595 nf np_595 sl_595 hs_595) ++ (ws_sm b h uR uW uA uM uX uF uI uS ut us ur ub uo ui ul uk uh) ++ (ws_ou o j ou_595)) [9, 10, 11, 12, 13, 14, 15, 16, 17, 18, 19, 20, 0, 1, 2, 3, 4, 5, 6, 7, 8, 21] (by decide) rfl
                        generalize H1 = H at hP hS ⊢
                        have hP : va_P (dC, dI) vwCl ((ws_sl a k rd_595 wr_595 ay_595 ia_595 mo_595 wo_595 so oi si mi wi ns_595 nt_595 nf np_595 sl_595 hs_595) ++ (ws_sm b h uR uW uA uM uX uF uI uS ut us ur ub uo ui ul uk uh) ++ (ws_ou o j ou_595)) H := hP
                        have hD : va_D (fun q : Nat => s.heap.size ≤ q) ((ws_sl a k rd_595 wr_595 ay_595 ia_595 mo_595 wo_595 so oi si mi wi ns_595 nt_595 nf np_595 sl_595 hs_595) ++ (ws_sm b h uR uW uA uM uX uF uI uS ut us ur ub uo ui ul uk uh) ++ (ws_ou o j ou_595)) := hD
                        refine lv_istore (lv' := [(5, .int r_595), (0, .ref b9), (1, .ref (a 0)), (2, .ref (b 0)), (3, .ref (o 0)), (4, .int x4)]) hx hb dL_law_598 hl (by decide) rfl (fun ls hl => ?_)
                        refine lv_aload_n hx hb dL_law_600 rfl (lv_at hl 3 rfl) ?_
                        refine lv_aload_n hx hb dL_law_601 rfl (lv_at hl 1 rfl) ?_
                        refine lv_iload hx hb dL_law_602 (lv_at hl 5 rfl) ?_
                        refine lv_iconst (v := 1) hx hb dL_law_604 (by decide) ?_
                        refine lv_iadd hx hb dL_law_605 ?_
                        refine va_sld hx hb hX hbl hbA hS hi1 dL_law_606 ?_
                        refine lv_aload_n hx hb dL_law_607 rfl (lv_at hl 1 rfl) ?_
                        refine lv_iload hx hb dL_law_608 (lv_at hl 5 rfl) ?_
                        refine lv_iconst (v := 2) hx hb dL_law_610 (by decide) ?_
                        refine lv_iadd hx hb dL_law_611 ?_
                        refine va_sld hx hb hX hbl hbA hS hi2 dL_law_612 ?_
                        refine lv_aload_n hx hb dL_law_613 rfl (lv_at hl 1 rfl) ?_
                        refine lv_iload hx hb dL_law_614 (lv_at hl 5 rfl) ?_
                        refine lv_iconst (v := 3) hx hb dL_law_616 (by decide) ?_
                        refine lv_iadd hx hb dL_law_617 ?_
                        refine va_sld hx hb hX hbl hbA hS hi3 dL_law_618 ?_
                        have hPc := hP.sub (ws' := ws_sm b h uR uW uA uM uX uF uI uS ut us ur ub uo ui ul uk uh) [12, 13, 14, 15, 16, 17, 18, 19, 20] rfl
                        have hDc := hD.sub (ws' := ws_sm b h uR uW uA uM uX uF uI uS ut us ur ub uo ui ul uk uh) [12, 13, 14, 15, 16, 17, 18, 19, 20] (by decide) rfl
                        have hKc := hK.sub (tys' := ty_sm h) [11, 12, 13, 14, 15, 16, 17, 18] rfl
                        have hFc := va_free (wc := ws_sm b h uR uW uA uM uX uF uI uS ut us ur ub uo ui ul uk uh) hD hS hA [12, 13, 14, 15, 16, 17, 18, 19, 20] rfl
                        refine va_calli (va_runV (As := [.int (xs (x4 + 1).toNatClampNeg), .int (xs (x4 + 2).toNatClampNeg), .int (xs (x4 + 3).toNatClampNeg)]) (rest := []) ⟨hx, hb, hml, hown, hg⟩ (cm_apply l dC dI b h H.size uR uW uA uM uX uF uI uS ut us ur ub uo ui ul uk uh (xs (x4 + 1).toNatClampNeg) (xs (x4 + 2).toNatClampNeg) (xs (x4 + 3).toNatClampNeg) (rl_hu hR)) (cwV 3 hg (gi_V w_464 w_465 w_466 w_2 w_467) rfl rfl rfl (by decide +kernel) ⟨Nat.le_of_ble_eq_true rfl, Nat.le_of_ble_eq_true rfl⟩) ⟨pr_bl, va_recv hKc hPc (ci := 1) (q0 := 0) rfl rfl, pr_ok hKc hPc hDc⟩ rfl rfl hl.1 rfl (lv_room (Nat.le_of_ble_eq_true rfl)) dL_law_619 ⟨by omega, by omega⟩) hS (fun q _ h => hFc q h) hFc (fun r_619 u t H1 locs ht hvm hw_619 hB hz1 hk1 hS => ?_)
                        obtain ⟨uR_619, uW_619, uA_619, uM_619, uX_619, uF_619, uI_619, ut_619, us_619, ur_619, ub_619, ul_619, uh_619⟩ := u
                        obtain ⟨hP1, hK1, hD1⟩ := hB
                        rw [ht] at hP1
                        obtain ⟨hP, hD⟩ := va_join (wr := (ws_sl a k rd_595 wr_595 ay_595 ia_595 mo_595 wo_595 so oi si mi wi ns_595 nt_595 nf np_595 sl_595 hs_595) ++ (ws_ou o j ou_595)) (w1 := ws_sm b h uR_619 uW_619 uA_619 uM_619 uX_619 uF_619 uI_619 uS ut_619 us_619 ur_619 ub_619 uo ui ul_619 uk uh_619) hP hD [12, 13, 14, 15, 16, 17, 18, 19, 20] [0, 1, 2, 3, 4, 5, 6, 7, 8, 9, 10, 11, 21] rfl rfl (by decide) (by decide) hk1 hFc hP1 hD1
                        have hP := hP.sub (ws' := (ws_sl a k rd_595 wr_595 ay_595 ia_595 mo_595 wo_595 so oi si mi wi ns_595 nt_595 nf np_595 sl_595 hs_595) ++ (ws_sm b h uR_619 uW_619 uA_619 uM_619 uX_619 uF_619 uI_619 uS ut_619 us_619 ur_619 ub_619 uo ui ul_619 uk uh_619) ++ (ws_ou o j ou_595)) [0, 1, 2, 3, 4, 5, 6, 7, 8, 9, 10, 11, 13, 14, 15, 16, 17, 18, 19, 20, 21, 12] rfl
                        have hD := hD.sub (ws' := (ws_sl a k rd_595 wr_595 ay_595 ia_595 mo_595 wo_595 so oi si mi wi ns_595 nt_595 nf np_595 sl_595 hs_595) ++ (ws_sm b h uR_619 uW_619 uA_619 uM_619 uX_619 uF_619 uI_619 uS ut_619 us_619 ur_619 ub_619 uo ui ul_619 uk uh_619) ++ (ws_ou o j ou_595)) [0, 1, 2, 3, 4, 5, 6, 7, 8, 9, 10, 11, 13, 14, 15, 16, 17, 18, 19, 20, 21, 12] (by decide) rfl
                        generalize H1 = H at hP hS ⊢
                        have hP : va_P (dC, dI) vwCl ((ws_sl a k rd_595 wr_595 ay_595 ia_595 mo_595 wo_595 so oi si mi wi ns_595 nt_595 nf np_595 sl_595 hs_595) ++ (ws_sm b h uR_619 uW_619 uA_619 uM_619 uX_619 uF_619 uI_619 uS ut_619 us_619 ur_619 ub_619 uo ui ul_619 uk uh_619) ++ (ws_ou o j ou_595)) H := hP
                        have hD : va_D (fun q : Nat => s.heap.size ≤ q) ((ws_sl a k rd_595 wr_595 ay_595 ia_595 mo_595 wo_595 so oi si mi wi ns_595 nt_595 nf np_595 sl_595 hs_595) ++ (ws_sm b h uR_619 uW_619 uA_619 uM_619 uX_619 uF_619 uI_619 uS ut_619 us_619 ur_619 ub_619 uo ui ul_619 uk uh_619) ++ (ws_ou o j ou_595)) := hD
                        have hrl := rl_apply hR hw_595 hw_619
                        obtain ⟨hr1, hr2, hR⟩ := hrl
                        refine lv_istore (lv' := [(6, .int r_619), (5, .int r_595), (0, .ref b9), (1, .ref (a 0)), (2, .ref (b 0)), (3, .ref (o 0)), (4, .int x4)]) hx hb dL_law_622 hl (by decide) rfl (fun ls hl => ?_)
                        refine lv_aload_n hx hb dL_law_624 rfl (lv_at hl 4 rfl) ?_
                        have hPc := hP.sub (ws' := ws_sm b h uR_619 uW_619 uA_619 uM_619 uX_619 uF_619 uI_619 uS ut_619 us_619 ur_619 ub_619 uo ui ul_619 uk uh_619) [12, 13, 14, 15, 16, 17, 18, 19, 20] rfl
                        have hDc := hD.sub (ws' := ws_sm b h uR_619 uW_619 uA_619 uM_619 uX_619 uF_619 uI_619 uS ut_619 us_619 ur_619 ub_619 uo ui ul_619 uk uh_619) [12, 13, 14, 15, 16, 17, 18, 19, 20] (by decide) rfl
                        have hKc := hK.sub (tys' := ty_sm h) [11, 12, 13, 14, 15, 16, 17, 18] rfl
                        have hFc := va_free (wc := ws_sm b h uR_619 uW_619 uA_619 uM_619 uX_619 uF_619 uI_619 uS ut_619 us_619 ur_619 ub_619 uo ui ul_619 uk uh_619) hD hS hA [12, 13, 14, 15, 16, 17, 18, 19, 20] rfl
                        refine va_calli (va_runV (As := []) (rest := []) ⟨hx, hb, hml, hown, hg⟩ (cm_thrown l dC dI b h H.size uR_619 uW_619 uA_619 uM_619 uX_619 uF_619 uI_619 uS ut_619 us_619 ur_619 ub_619 uo ui ul_619 uk uh_619) (cwV 0 hg (gi_V w_399 w_400 w_401 w_2 w_402) rfl rfl rfl (by decide +kernel) ⟨Nat.le_of_ble_eq_true rfl, Nat.le_of_ble_eq_true rfl⟩) ⟨pr_bl, va_recv hKc hPc (ci := 1) (q0 := 0) rfl rfl, pr_ok hKc hPc hDc⟩ rfl rfl hl.1 rfl (lv_room (Nat.le_of_ble_eq_true rfl)) dL_law_625 ⟨by omega, by omega⟩) hS (fun q _ h => hFc q h) hFc (fun r_625 u t H1 locs ht hvm hw_625 hB hz1 hk1 hS => ?_)
                        have hw_625 := hw_625.symm
                        subst hw_625
                        obtain ⟨hP1, hK1, hD1⟩ := hB
                        rw [ht] at hP1
                        obtain ⟨hP, hD⟩ := va_join (wr := (ws_sl a k rd_595 wr_595 ay_595 ia_595 mo_595 wo_595 so oi si mi wi ns_595 nt_595 nf np_595 sl_595 hs_595) ++ (ws_ou o j ou_595)) (w1 := ws_sm b h uR_619 uW_619 uA_619 uM_619 uX_619 uF_619 uI_619 uS ut_619 us_619 ur_619 ub_619 uo ui ul_619 uk uh_619) hP hD [12, 13, 14, 15, 16, 17, 18, 19, 20] [0, 1, 2, 3, 4, 5, 6, 7, 8, 9, 10, 11, 21] rfl rfl (by decide) (by decide) hk1 hFc hP1 hD1
                        have hP := hP.sub (ws' := (ws_sl a k rd_595 wr_595 ay_595 ia_595 mo_595 wo_595 so oi si mi wi ns_595 nt_595 nf np_595 sl_595 hs_595) ++ (ws_sm b h uR_619 uW_619 uA_619 uM_619 uX_619 uF_619 uI_619 uS ut_619 us_619 ur_619 ub_619 uo ui ul_619 uk uh_619) ++ (ws_ou o j ou_595)) [0, 1, 2, 3, 4, 5, 6, 7, 8, 9, 10, 11, 13, 14, 15, 16, 17, 18, 19, 20, 21, 12] rfl
                        have hD := hD.sub (ws' := (ws_sl a k rd_595 wr_595 ay_595 ia_595 mo_595 wo_595 so oi si mi wi ns_595 nt_595 nf np_595 sl_595 hs_595) ++ (ws_sm b h uR_619 uW_619 uA_619 uM_619 uX_619 uF_619 uI_619 uS ut_619 us_619 ur_619 ub_619 uo ui ul_619 uk uh_619) ++ (ws_ou o j ou_595)) [0, 1, 2, 3, 4, 5, 6, 7, 8, 9, 10, 11, 13, 14, 15, 16, 17, 18, 19, 20, 21, 12] (by decide) rfl
                        generalize H1 = H at hP hS ⊢
                        have hP : va_P (dC, dI) vwCl ((ws_sl a k rd_595 wr_595 ay_595 ia_595 mo_595 wo_595 so oi si mi wi ns_595 nt_595 nf np_595 sl_595 hs_595) ++ (ws_sm b h uR_619 uW_619 uA_619 uM_619 uX_619 uF_619 uI_619 uS ut_619 us_619 ur_619 ub_619 uo ui ul_619 uk uh_619) ++ (ws_ou o j ou_595)) H := hP
                        have hD : va_D (fun q : Nat => s.heap.size ≤ q) ((ws_sl a k rd_595 wr_595 ay_595 ia_595 mo_595 wo_595 so oi si mi wi ns_595 nt_595 nf np_595 sl_595 hs_595) ++ (ws_sm b h uR_619 uW_619 uA_619 uM_619 uX_619 uF_619 uI_619 uS ut_619 us_619 ur_619 ub_619 uo ui ul_619 uk uh_619) ++ (ws_ou o j ou_595)) := hD
                        refine lv_iload hx hb dL_law_628 (lv_at hl 1 rfl) ?_
                        refine lv_icmp_eq (tgt := 635) hx hb dL_law_630 (by decide) (fun c_630 => ?_) (fun c_630 => ?_)
                        · refine lv_iload hx hb dL_law_635 (lv_at hl 1 rfl) ?_
                          refine lv_if_ne (tgt := 652) hx hb dL_law_637 (by decide) (fun c_637 => ?_) (fun c_637 => ?_)
                          · refine lv_goto (tgt := 835) hx hb dL_law_652 (by decide) ?_
                            refine lv_iinc (v := x4 + 4) (lv' := [(4, .int (x4 + 4)), (6, .int r_619), (5, .int r_595), (0, .ref b9), (1, .ref (a 0)), (2, .ref (b 0)), (3, .ref (o 0))]) hx hb dL_law_835 hl (k := 6) rfl rfl (by decide) rfl (fun ls hl => ?_)
                            refine lv_goto (tgt := 23) hx hb dL_law_838 (by decide) ?_
                            refine W.widen (k := 22 + (i + 1)) (n := 4639 + 6 * (i + 1)) (by omega) (by omega) ?_
                            exact ih (i + 1) (x4 + 4) rd_595 wr_595 ay_595 ia_595 mo_595 wo_595 so oi si mi wi ns_595 nt_595 nf np_595 sl_595 hs_595 uR_619 uW_619 uA_619 uM_619 uX_619 uF_619 uI_619 uS ut_619 us_619 ur_619 ub_619 uo ui ul_619 uk uh_619 ou_595 (by omega) (by omega) (by rw [ex4]; exact nI_4 i) hR H locs hK hP hD hS ls (lv_sub hl [3, 4, 5, 6, 0] rfl)
                          · refine lv_aload_n hx hb dL_law_640 rfl (lv_at hl 5 rfl) ?_
                            refine lv_iconst (v := 0) hx hb dL_law_641 (by decide) ?_
                            refine va_lald hx hb hK hP 21 19 rfl rfl (ix_k (by decide)) dL_law_642 ?_
                            refine lv_iload hx hb dL_law_643 (lv_at hl 0 rfl) ?_
                            refine lv_i2l hx hb dL_law_645 rfl ?_
                            refine W.lcmp hx hb dL_law_646 ?_
                            refine lv_if_eq (tgt := 652) hx hb dL_law_647 (by decide) (fun c_647 => ?_) (fun c_647 => ?_)
                            · refine lv_goto (tgt := 835) hx hb dL_law_652 (by decide) ?_
                              refine lv_iinc (v := x4 + 4) (lv' := [(4, .int (x4 + 4)), (6, .int r_619), (5, .int r_595), (0, .ref b9), (1, .ref (a 0)), (2, .ref (b 0)), (3, .ref (o 0))]) hx hb dL_law_835 hl (k := 6) rfl rfl (by decide) rfl (fun ls hl => ?_)
                              refine lv_goto (tgt := 23) hx hb dL_law_838 (by decide) ?_
                              refine W.widen (k := 22 + (i + 1)) (n := 4639 + 6 * (i + 1)) (by omega) (by omega) ?_
                              exact ih (i + 1) (x4 + 4) rd_595 wr_595 ay_595 ia_595 mo_595 wo_595 so oi si mi wi ns_595 nt_595 nf np_595 sl_595 hs_595 uR_619 uW_619 uA_619 uM_619 uX_619 uF_619 uI_619 uS ut_619 us_619 ur_619 ub_619 uo ui ul_619 uk uh_619 ou_595 (by omega) (by omega) (by rw [ex4]; exact nI_4 i) hR H locs hK hP hD hS ls (lv_sub hl [3, 4, 5, 6, 0] rfl)
                            · exact absurd (lc_eq (hr2 c_637)) c_647
                        · exact absurd hr1 c_630
                      · by_cases c_39_9 : ((xs x4.toNatClampNeg) &&& 15) = 9
                        · refine lv_tableIn (off := 616) (tgt := 655) hx hb dL_law_39 (by rw [c_39_9]; decide) (by rw [c_39_9]; decide) (by rw [c_39_9]; rfl) (by decide) ?_
                          refine lv_aload_n hx hb dL_law_655 rfl (lv_at hl 1 rfl) ?_
                          refine lv_aload_n hx hb dL_law_656 rfl (lv_at hl 0 rfl) ?_
                          refine lv_iload hx hb dL_law_657 (lv_at hl 4 rfl) ?_
                          refine lv_iconst (v := 1) hx hb dL_law_659 (by decide) ?_
                          refine lv_iadd hx hb dL_law_660 ?_
                          refine va_sld hx hb hX hbl hbA hS hi1 dL_law_661 ?_
                          refine lv_aload_n hx hb dL_law_662 rfl (lv_at hl 0 rfl) ?_
                          refine lv_iload hx hb dL_law_663 (lv_at hl 4 rfl) ?_
                          refine lv_iconst (v := 2) hx hb dL_law_665 (by decide) ?_
                          refine lv_iadd hx hb dL_law_666 ?_
                          refine va_sld hx hb hX hbl hbA hS hi2 dL_law_667 ?_
                          refine lv_aload_n hx hb dL_law_668 rfl (lv_at hl 0 rfl) ?_
                          refine lv_iload hx hb dL_law_669 (lv_at hl 4 rfl) ?_
                          refine lv_iconst (v := 3) hx hb dL_law_671 (by decide) ?_
                          refine lv_iadd hx hb dL_law_672 ?_
                          refine va_sld hx hb hX hbl hbA hS hi3 dL_law_673 ?_
                          refine lv_aload_n hx hb dL_law_674 rfl (lv_at hl 3 rfl) ?_
                          have hPc := hP.sub (ws' := (ws_sl a k rd wr ay ia mo wo so oi si mi wi ns nt nf np sl hs) ++ (ws_ou o j ou)) [0, 1, 2, 3, 4, 5, 6, 7, 8, 9, 10, 11, 21] rfl
                          have hDc := hD.sub (ws' := (ws_sl a k rd wr ay ia mo wo so oi si mi wi ns nt nf np sl hs) ++ (ws_ou o j ou)) [0, 1, 2, 3, 4, 5, 6, 7, 8, 9, 10, 11, 21] (by decide) rfl
                          have hKc := hK.sub (tys' := (ty_sl k) ++ (ty_ou j)) [0, 1, 2, 3, 4, 5, 6, 7, 8, 9, 10, 19] rfl
                          have hFc := va_free (wc := (ws_sl a k rd wr ay ia mo wo so oi si mi wi ns nt nf np sl hs) ++ (ws_ou o j ou)) hD hS hA [0, 1, 2, 3, 4, 5, 6, 7, 8, 9, 10, 11, 21] rfl
                          refine va_calli (vx_runSW (As := [.ref (a 0), .int (xs (x4 + 1).toNatClampNeg), .int (xs (x4 + 2).toNatClampNeg), .int (xs (x4 + 3).toNatClampNeg), .ref (o 0)]) (rest := []) ⟨hx, hb, hml, hown, hg⟩ (cl_lay l hl9 dC dI a k o j sx H.size rd wr ay ia mo wo so oi si mi wi ns nt nf np sl hs ou (xs (x4 + 1).toNatClampNeg) (xs (x4 + 2).toNatClampNeg) (xs (x4 + 3).toNatClampNeg) (rl_ns hR)) (vx_cwSW 5 hg (gi_S w_307 w_308 w_0 w_309) rfl rfl rfl (by decide +kernel) ⟨Nat.le_of_ble_eq_true rfl, Nat.le_of_ble_eq_true rfl⟩) ⟨prx_bl, prx_ok hKc hPc hDc hX9 hS hFc⟩ rfl rfl hl.1 rfl (lv_room (Nat.le_of_ble_eq_true rfl)) dL_law_675 ⟨by omega, by omega⟩) hS (fun q _ h => hFc q h) hFc (fun r_675 u t H1 locs ht hvm hw_675 hB hz1 hk1 hS => ?_)
                          obtain ⟨so_675, si_675, mi_675, wi_675, sl_675, hs_675, ou_675⟩ := u
                          obtain ⟨hP1, hK1, hD1⟩ := hB
                          rw [ht] at hP1
                          obtain ⟨hP, hD⟩ := va_join (wr := ws_sm b h uR uW uA uM uX uF uI uS ut us ur ub uo ui ul uk uh) (w1 := (ws_sl a k rd wr ay ia mo wo so_675 oi si_675 mi_675 wi_675 ns nt nf np sl_675 hs_675) ++ (ws_ou o j ou_675)) hP hD [0, 1, 2, 3, 4, 5, 6, 7, 8, 9, 10, 11, 21] [12, 13, 14, 15, 16, 17, 18, 19, 20] rfl rfl (by decide) (by decide) hk1 hFc hP1 hD1
                          have hP := hP.sub (ws' := (ws_sl a k rd wr ay ia mo wo so_675 oi si_675 mi_675 wi_675 ns nt nf np sl_675 hs_675) ++ (ws_sm b h uR uW uA uM uX uF uI uS ut us ur ub uo ui ul uk uh) ++ (ws_ou o j ou_675)) [9, 10, 11, 12, 13, 14, 15, 16, 17, 18, 19, 20, 0, 1, 2, 3, 4, 5, 6, 7, 8, 21] rfl
                          have hD := hD.sub (ws' := (ws_sl a k rd wr ay ia mo wo so_675 oi si_675 mi_675 wi_675 ns nt nf np sl_675 hs_675) ++ (ws_sm b h uR uW uA uM uX uF uI uS ut us ur ub uo ui ul uk uh) ++ (ws_ou o j ou_675)) [9, 10, 11, 12, 13, 14, 15, 16, 17, 18, 19, 20, 0, 1, 2, 3, 4, 5, 6, 7, 8, 21] (by decide) rfl
                          generalize H1 = H at hP hS ⊢
                          have hP : va_P (dC, dI) vwCl ((ws_sl a k rd wr ay ia mo wo so_675 oi si_675 mi_675 wi_675 ns nt nf np sl_675 hs_675) ++ (ws_sm b h uR uW uA uM uX uF uI uS ut us ur ub uo ui ul uk uh) ++ (ws_ou o j ou_675)) H := hP
                          have hD : va_D (fun q : Nat => s.heap.size ≤ q) ((ws_sl a k rd wr ay ia mo wo so_675 oi si_675 mi_675 wi_675 ns nt nf np sl_675 hs_675) ++ (ws_sm b h uR uW uA uM uX uF uI uS ut us ur ub uo ui ul uk uh) ++ (ws_ou o j ou_675)) := hD
                          refine lv_istore (lv' := [(5, .int r_675), (0, .ref b9), (1, .ref (a 0)), (2, .ref (b 0)), (3, .ref (o 0)), (4, .int x4)]) hx hb dL_law_678 hl (by decide) rfl (fun ls hl => ?_)
                          refine lv_aload_n hx hb dL_law_680 rfl (lv_at hl 3 rfl) ?_
                          refine lv_aload_n hx hb dL_law_681 rfl (lv_at hl 1 rfl) ?_
                          refine lv_iload hx hb dL_law_682 (lv_at hl 5 rfl) ?_
                          refine lv_iconst (v := 1) hx hb dL_law_684 (by decide) ?_
                          refine lv_iadd hx hb dL_law_685 ?_
                          refine va_sld hx hb hX hbl hbA hS hi1 dL_law_686 ?_
                          refine lv_aload_n hx hb dL_law_687 rfl (lv_at hl 1 rfl) ?_
                          refine lv_iload hx hb dL_law_688 (lv_at hl 5 rfl) ?_
                          refine lv_iconst (v := 2) hx hb dL_law_690 (by decide) ?_
                          refine lv_iadd hx hb dL_law_691 ?_
                          refine va_sld hx hb hX hbl hbA hS hi2 dL_law_692 ?_
                          refine lv_aload_n hx hb dL_law_693 rfl (lv_at hl 1 rfl) ?_
                          refine lv_iload hx hb dL_law_694 (lv_at hl 5 rfl) ?_
                          refine lv_iconst (v := 3) hx hb dL_law_696 (by decide) ?_
                          refine lv_iadd hx hb dL_law_697 ?_
                          refine va_sld hx hb hX hbl hbA hS hi3 dL_law_698 ?_
                          have hPc := hP.sub (ws' := ws_sm b h uR uW uA uM uX uF uI uS ut us ur ub uo ui ul uk uh) [12, 13, 14, 15, 16, 17, 18, 19, 20] rfl
                          have hDc := hD.sub (ws' := ws_sm b h uR uW uA uM uX uF uI uS ut us ur ub uo ui ul uk uh) [12, 13, 14, 15, 16, 17, 18, 19, 20] (by decide) rfl
                          have hKc := hK.sub (tys' := ty_sm h) [11, 12, 13, 14, 15, 16, 17, 18] rfl
                          have hFc := va_free (wc := ws_sm b h uR uW uA uM uX uF uI uS ut us ur ub uo ui ul uk uh) hD hS hA [12, 13, 14, 15, 16, 17, 18, 19, 20] rfl
                          refine va_calli (va_runV (As := [.int (xs (x4 + 1).toNatClampNeg), .int (xs (x4 + 2).toNatClampNeg), .int (xs (x4 + 3).toNatClampNeg)]) (rest := []) ⟨hx, hb, hml, hown, hg⟩ (cm_lay l dC dI b h H.size uR uW uA uM uX uF uI uS ut us ur ub uo ui ul uk uh (xs (x4 + 1).toNatClampNeg) (xs (x4 + 2).toNatClampNeg) (xs (x4 + 3).toNatClampNeg) (rl_hu hR) (rl_hc hR)) (cwV 3 hg (gi_V w_468 w_469 w_470 w_2 w_471) rfl rfl rfl (by decide +kernel) ⟨Nat.le_of_ble_eq_true rfl, Nat.le_of_ble_eq_true rfl⟩) ⟨pr_bl, va_recv hKc hPc (ci := 1) (q0 := 0) rfl rfl, pr_ok hKc hPc hDc⟩ rfl rfl hl.1 rfl (lv_room (Nat.le_of_ble_eq_true rfl)) dL_law_699 ⟨by omega, by omega⟩) hS (fun q _ h => hFc q h) hFc (fun r_699 u t H1 locs ht hvm hw_699 hB hz1 hk1 hS => ?_)
                          obtain ⟨uS_699, ut_699, ul_699, uk_699, uh_699⟩ := u
                          obtain ⟨hP1, hK1, hD1⟩ := hB
                          rw [ht] at hP1
                          obtain ⟨hP, hD⟩ := va_join (wr := (ws_sl a k rd wr ay ia mo wo so_675 oi si_675 mi_675 wi_675 ns nt nf np sl_675 hs_675) ++ (ws_ou o j ou_675)) (w1 := ws_sm b h uR uW uA uM uX uF uI uS_699 ut_699 us ur ub uo ui ul_699 uk_699 uh_699) hP hD [12, 13, 14, 15, 16, 17, 18, 19, 20] [0, 1, 2, 3, 4, 5, 6, 7, 8, 9, 10, 11, 21] rfl rfl (by decide) (by decide) hk1 hFc hP1 hD1
                          have hP := hP.sub (ws' := (ws_sl a k rd wr ay ia mo wo so_675 oi si_675 mi_675 wi_675 ns nt nf np sl_675 hs_675) ++ (ws_sm b h uR uW uA uM uX uF uI uS_699 ut_699 us ur ub uo ui ul_699 uk_699 uh_699) ++ (ws_ou o j ou_675)) [0, 1, 2, 3, 4, 5, 6, 7, 8, 9, 10, 11, 13, 14, 15, 16, 17, 18, 19, 20, 21, 12] rfl
                          have hD := hD.sub (ws' := (ws_sl a k rd wr ay ia mo wo so_675 oi si_675 mi_675 wi_675 ns nt nf np sl_675 hs_675) ++ (ws_sm b h uR uW uA uM uX uF uI uS_699 ut_699 us ur ub uo ui ul_699 uk_699 uh_699) ++ (ws_ou o j ou_675)) [0, 1, 2, 3, 4, 5, 6, 7, 8, 9, 10, 11, 13, 14, 15, 16, 17, 18, 19, 20, 21, 12] (by decide) rfl
                          generalize H1 = H at hP hS ⊢
                          have hP : va_P (dC, dI) vwCl ((ws_sl a k rd wr ay ia mo wo so_675 oi si_675 mi_675 wi_675 ns nt nf np sl_675 hs_675) ++ (ws_sm b h uR uW uA uM uX uF uI uS_699 ut_699 us ur ub uo ui ul_699 uk_699 uh_699) ++ (ws_ou o j ou_675)) H := hP
                          have hD : va_D (fun q : Nat => s.heap.size ≤ q) ((ws_sl a k rd wr ay ia mo wo so_675 oi si_675 mi_675 wi_675 ns nt nf np sl_675 hs_675) ++ (ws_sm b h uR uW uA uM uX uF uI uS_699 ut_699 us ur ub uo ui ul_699 uk_699 uh_699) ++ (ws_ou o j ou_675)) := hD
                          have hrl := rl_lay hR hw_675 hw_699
                          obtain ⟨hr1, hr2, hR⟩ := hrl
                          refine lv_istore (lv' := [(6, .int r_699), (5, .int r_675), (0, .ref b9), (1, .ref (a 0)), (2, .ref (b 0)), (3, .ref (o 0)), (4, .int x4)]) hx hb dL_law_702 hl (by decide) rfl (fun ls hl => ?_)
                          refine lv_aload_n hx hb dL_law_704 rfl (lv_at hl 4 rfl) ?_
                          have hPc := hP.sub (ws' := ws_sm b h uR uW uA uM uX uF uI uS_699 ut_699 us ur ub uo ui ul_699 uk_699 uh_699) [12, 13, 14, 15, 16, 17, 18, 19, 20] rfl
                          have hDc := hD.sub (ws' := ws_sm b h uR uW uA uM uX uF uI uS_699 ut_699 us ur ub uo ui ul_699 uk_699 uh_699) [12, 13, 14, 15, 16, 17, 18, 19, 20] (by decide) rfl
                          have hKc := hK.sub (tys' := ty_sm h) [11, 12, 13, 14, 15, 16, 17, 18] rfl
                          have hFc := va_free (wc := ws_sm b h uR uW uA uM uX uF uI uS_699 ut_699 us ur ub uo ui ul_699 uk_699 uh_699) hD hS hA [12, 13, 14, 15, 16, 17, 18, 19, 20] rfl
                          refine va_calli (va_runV (As := []) (rest := []) ⟨hx, hb, hml, hown, hg⟩ (cm_thrown l dC dI b h H.size uR uW uA uM uX uF uI uS_699 ut_699 us ur ub uo ui ul_699 uk_699 uh_699) (cwV 0 hg (gi_V w_399 w_400 w_401 w_2 w_402) rfl rfl rfl (by decide +kernel) ⟨Nat.le_of_ble_eq_true rfl, Nat.le_of_ble_eq_true rfl⟩) ⟨pr_bl, va_recv hKc hPc (ci := 1) (q0 := 0) rfl rfl, pr_ok hKc hPc hDc⟩ rfl rfl hl.1 rfl (lv_room (Nat.le_of_ble_eq_true rfl)) dL_law_705 ⟨by omega, by omega⟩) hS (fun q _ h => hFc q h) hFc (fun r_705 u t H1 locs ht hvm hw_705 hB hz1 hk1 hS => ?_)
                          have hw_705 := hw_705.symm
                          subst hw_705
                          obtain ⟨hP1, hK1, hD1⟩ := hB
                          rw [ht] at hP1
                          obtain ⟨hP, hD⟩ := va_join (wr := (ws_sl a k rd wr ay ia mo wo so_675 oi si_675 mi_675 wi_675 ns nt nf np sl_675 hs_675) ++ (ws_ou o j ou_675)) (w1 := ws_sm b h uR uW uA uM uX uF uI uS_699 ut_699 us ur ub uo ui ul_699 uk_699 uh_699) hP hD [12, 13, 14, 15, 16, 17, 18, 19, 20] [0, 1, 2, 3, 4, 5, 6, 7, 8, 9, 10, 11, 21] rfl rfl (by decide) (by decide) hk1 hFc hP1 hD1
                          have hP := hP.sub (ws' := (ws_sl a k rd wr ay ia mo wo so_675 oi si_675 mi_675 wi_675 ns nt nf np sl_675 hs_675) ++ (ws_sm b h uR uW uA uM uX uF uI uS_699 ut_699 us ur ub uo ui ul_699 uk_699 uh_699) ++ (ws_ou o j ou_675)) [0, 1, 2, 3, 4, 5, 6, 7, 8, 9, 10, 11, 13, 14, 15, 16, 17, 18, 19, 20, 21, 12] rfl
                          have hD := hD.sub (ws' := (ws_sl a k rd wr ay ia mo wo so_675 oi si_675 mi_675 wi_675 ns nt nf np sl_675 hs_675) ++ (ws_sm b h uR uW uA uM uX uF uI uS_699 ut_699 us ur ub uo ui ul_699 uk_699 uh_699) ++ (ws_ou o j ou_675)) [0, 1, 2, 3, 4, 5, 6, 7, 8, 9, 10, 11, 13, 14, 15, 16, 17, 18, 19, 20, 21, 12] (by decide) rfl
                          generalize H1 = H at hP hS ⊢
                          have hP : va_P (dC, dI) vwCl ((ws_sl a k rd wr ay ia mo wo so_675 oi si_675 mi_675 wi_675 ns nt nf np sl_675 hs_675) ++ (ws_sm b h uR uW uA uM uX uF uI uS_699 ut_699 us ur ub uo ui ul_699 uk_699 uh_699) ++ (ws_ou o j ou_675)) H := hP
                          have hD : va_D (fun q : Nat => s.heap.size ≤ q) ((ws_sl a k rd wr ay ia mo wo so_675 oi si_675 mi_675 wi_675 ns nt nf np sl_675 hs_675) ++ (ws_sm b h uR uW uA uM uX uF uI uS_699 ut_699 us ur ub uo ui ul_699 uk_699 uh_699) ++ (ws_ou o j ou_675)) := hD
                          refine lv_iload hx hb dL_law_708 (lv_at hl 1 rfl) ?_
                          refine lv_icmp_eq (tgt := 715) hx hb dL_law_710 (by decide) (fun c_710 => ?_) (fun c_710 => ?_)
                          · refine lv_iload hx hb dL_law_715 (lv_at hl 1 rfl) ?_
                            refine lv_if_ne (tgt := 732) hx hb dL_law_717 (by decide) (fun c_717 => ?_) (fun c_717 => ?_)
                            · refine lv_goto (tgt := 835) hx hb dL_law_732 (by decide) ?_
                              refine lv_iinc (v := x4 + 4) (lv' := [(4, .int (x4 + 4)), (6, .int r_699), (5, .int r_675), (0, .ref b9), (1, .ref (a 0)), (2, .ref (b 0)), (3, .ref (o 0))]) hx hb dL_law_835 hl (k := 6) rfl rfl (by decide) rfl (fun ls hl => ?_)
                              refine lv_goto (tgt := 23) hx hb dL_law_838 (by decide) ?_
                              refine W.widen (k := 22 + (i + 1)) (n := 4639 + 6 * (i + 1)) (by omega) (by omega) ?_
                              exact ih (i + 1) (x4 + 4) rd wr ay ia mo wo so_675 oi si_675 mi_675 wi_675 ns nt nf np sl_675 hs_675 uR uW uA uM uX uF uI uS_699 ut_699 us ur ub uo ui ul_699 uk_699 uh_699 ou_675 (by omega) (by omega) (by rw [ex4]; exact nI_4 i) hR H locs hK hP hD hS ls (lv_sub hl [3, 4, 5, 6, 0] rfl)
                            · refine lv_aload_n hx hb dL_law_720 rfl (lv_at hl 5 rfl) ?_
                              refine lv_iconst (v := 0) hx hb dL_law_721 (by decide) ?_
                              refine va_lald hx hb hK hP 21 19 rfl rfl (ix_k (by decide)) dL_law_722 ?_
                              refine lv_iload hx hb dL_law_723 (lv_at hl 0 rfl) ?_
                              refine lv_i2l hx hb dL_law_725 rfl ?_
                              refine W.lcmp hx hb dL_law_726 ?_
                              refine lv_if_eq (tgt := 732) hx hb dL_law_727 (by decide) (fun c_727 => ?_) (fun c_727 => ?_)
                              · refine lv_goto (tgt := 835) hx hb dL_law_732 (by decide) ?_
                                refine lv_iinc (v := x4 + 4) (lv' := [(4, .int (x4 + 4)), (6, .int r_699), (5, .int r_675), (0, .ref b9), (1, .ref (a 0)), (2, .ref (b 0)), (3, .ref (o 0))]) hx hb dL_law_835 hl (k := 6) rfl rfl (by decide) rfl (fun ls hl => ?_)
                                refine lv_goto (tgt := 23) hx hb dL_law_838 (by decide) ?_
                                refine W.widen (k := 22 + (i + 1)) (n := 4639 + 6 * (i + 1)) (by omega) (by omega) ?_
                                exact ih (i + 1) (x4 + 4) rd wr ay ia mo wo so_675 oi si_675 mi_675 wi_675 ns nt nf np sl_675 hs_675 uR uW uA uM uX uF uI uS_699 ut_699 us ur ub uo ui ul_699 uk_699 uh_699 ou_675 (by omega) (by omega) (by rw [ex4]; exact nI_4 i) hR H locs hK hP hD hS ls (lv_sub hl [3, 4, 5, 6, 0] rfl)
                              · exact absurd (lc_eq (hr2 c_717)) c_727
                          · exact absurd hr1 c_710
                        · by_cases c_39_10 : ((xs x4.toNatClampNeg) &&& 15) = 10
                          · refine lv_tableIn (off := 696) (tgt := 735) hx hb dL_law_39 (by rw [c_39_10]; decide) (by rw [c_39_10]; decide) (by rw [c_39_10]; rfl) (by decide) ?_
                            refine lv_aload_n hx hb dL_law_735 rfl (lv_at hl 1 rfl) ?_
                            have hPc := hP.sub (ws' := ws_sl a k rd wr ay ia mo wo so oi si mi wi ns nt nf np sl hs) [0, 1, 2, 3, 4, 5, 6, 7, 8, 9, 10, 11] rfl
                            have hDc := hD.sub (ws' := ws_sl a k rd wr ay ia mo wo so oi si mi wi ns nt nf np sl hs) [0, 1, 2, 3, 4, 5, 6, 7, 8, 9, 10, 11] (by decide) rfl
                            have hKc := hK.sub (tys' := ty_sl k) [0, 1, 2, 3, 4, 5, 6, 7, 8, 9, 10] rfl
                            have hFc := va_free (wc := ws_sl a k rd wr ay ia mo wo so oi si mi wi ns nt nf np sl hs) hD hS hA [0, 1, 2, 3, 4, 5, 6, 7, 8, 9, 10, 11] rfl
                            refine va_calli (va_runV (As := []) (rest := []) ⟨hx, hb, hml, hown, hg⟩ (cs_homeless l dC dI a k H.size rd wr ay ia mo wo so oi si mi wi ns nt nf np sl hs) (cwV 0 hg (gi_V w_81 w_82 w_83 w_1 w_84) rfl rfl rfl (by decide +kernel) ⟨Nat.le_of_ble_eq_true rfl, Nat.le_of_ble_eq_true rfl⟩) ⟨pr_bl, va_recv hKc hPc (ci := 0) (q0 := 0) rfl rfl, pr_ok hKc hPc hDc⟩ rfl rfl hl.1 rfl (lv_room (Nat.le_of_ble_eq_true rfl)) dL_law_736 ⟨by omega, by omega⟩) hS (fun q _ h => hFc q h) hFc (fun r_736 u t H1 locs ht hvm hw_736 hB hz1 hk1 hS => ?_)
                            have hw_736 := hw_736.symm
                            subst hw_736
                            obtain ⟨hP1, hK1, hD1⟩ := hB
                            rw [ht] at hP1
                            obtain ⟨hP, hD⟩ := va_join (wr := (ws_sm b h uR uW uA uM uX uF uI uS ut us ur ub uo ui ul uk uh) ++ (ws_ou o j ou)) (w1 := ws_sl a k rd wr ay ia mo wo so oi si mi wi ns nt nf np sl hs) hP hD [0, 1, 2, 3, 4, 5, 6, 7, 8, 9, 10, 11] [12, 13, 14, 15, 16, 17, 18, 19, 20, 21] rfl rfl (by decide) (by decide) hk1 hFc hP1 hD1
                            have hP := hP.sub (ws' := (ws_sl a k rd wr ay ia mo wo so oi si mi wi ns nt nf np sl hs) ++ (ws_sm b h uR uW uA uM uX uF uI uS ut us ur ub uo ui ul uk uh) ++ (ws_ou o j ou)) [10, 11, 12, 13, 14, 15, 16, 17, 18, 19, 20, 21, 0, 1, 2, 3, 4, 5, 6, 7, 8, 9] rfl
                            have hD := hD.sub (ws' := (ws_sl a k rd wr ay ia mo wo so oi si mi wi ns nt nf np sl hs) ++ (ws_sm b h uR uW uA uM uX uF uI uS ut us ur ub uo ui ul uk uh) ++ (ws_ou o j ou)) [10, 11, 12, 13, 14, 15, 16, 17, 18, 19, 20, 21, 0, 1, 2, 3, 4, 5, 6, 7, 8, 9] (by decide) rfl
                            generalize H1 = H at hP hS ⊢
                            have hP : va_P (dC, dI) vwCl ((ws_sl a k rd wr ay ia mo wo so oi si mi wi ns nt nf np sl hs) ++ (ws_sm b h uR uW uA uM uX uF uI uS ut us ur ub uo ui ul uk uh) ++ (ws_ou o j ou)) H := hP
                            have hD : va_D (fun q : Nat => s.heap.size ≤ q) ((ws_sl a k rd wr ay ia mo wo so oi si mi wi ns nt nf np sl hs) ++ (ws_sm b h uR uW uA uM uX uF uI uS ut us ur ub uo ui ul uk uh) ++ (ws_ou o j ou)) := hD
                            refine lv_aload_n hx hb dL_law_739 rfl (lv_at hl 2 rfl) ?_
                            have hPc := hP.sub (ws' := ws_sm b h uR uW uA uM uX uF uI uS ut us ur ub uo ui ul uk uh) [12, 13, 14, 15, 16, 17, 18, 19, 20] rfl
                            have hDc := hD.sub (ws' := ws_sm b h uR uW uA uM uX uF uI uS ut us ur ub uo ui ul uk uh) [12, 13, 14, 15, 16, 17, 18, 19, 20] (by decide) rfl
                            have hKc := hK.sub (tys' := ty_sm h) [11, 12, 13, 14, 15, 16, 17, 18] rfl
                            have hFc := va_free (wc := ws_sm b h uR uW uA uM uX uF uI uS ut us ur ub uo ui ul uk uh) hD hS hA [12, 13, 14, 15, 16, 17, 18, 19, 20] rfl
                            refine va_calli (va_runV (As := []) (rest := [.int (sl_homeless hs)]) ⟨hx, hb, hml, hown, hg⟩ (cm_homeless l dC dI b h H.size uR uW uA uM uX uF uI uS ut us ur ub uo ui ul uk uh) (cwV 0 hg (gi_V w_492 w_493 w_494 w_2 w_495) rfl rfl rfl (by decide +kernel) ⟨Nat.le_of_ble_eq_true rfl, Nat.le_of_ble_eq_true rfl⟩) ⟨pr_bl, va_recv hKc hPc (ci := 1) (q0 := 0) rfl rfl, pr_ok hKc hPc hDc⟩ rfl rfl hl.1 rfl (lv_room (Nat.le_of_ble_eq_true rfl)) dL_law_740 ⟨by omega, by omega⟩) hS (fun q _ h => hFc q h) hFc (fun r_740 u t H1 locs ht hvm hw_740 hB hz1 hk1 hS => ?_)
                            obtain ⟨ut_740, rfl⟩ : ∃ z, z = u := ⟨_, rfl⟩
                            obtain ⟨hP1, hK1, hD1⟩ := hB
                            rw [ht] at hP1
                            obtain ⟨hP, hD⟩ := va_join (wr := (ws_sl a k rd wr ay ia mo wo so oi si mi wi ns nt nf np sl hs) ++ (ws_ou o j ou)) (w1 := ws_sm b h uR uW uA uM uX uF uI uS ut_740 us ur ub uo ui ul uk uh) hP hD [12, 13, 14, 15, 16, 17, 18, 19, 20] [0, 1, 2, 3, 4, 5, 6, 7, 8, 9, 10, 11, 21] rfl rfl (by decide) (by decide) hk1 hFc hP1 hD1
                            have hP := hP.sub (ws' := (ws_sl a k rd wr ay ia mo wo so oi si mi wi ns nt nf np sl hs) ++ (ws_sm b h uR uW uA uM uX uF uI uS ut_740 us ur ub uo ui ul uk uh) ++ (ws_ou o j ou)) [0, 1, 2, 3, 4, 5, 6, 7, 8, 9, 10, 11, 13, 14, 15, 16, 17, 18, 19, 20, 21, 12] rfl
                            have hD := hD.sub (ws' := (ws_sl a k rd wr ay ia mo wo so oi si mi wi ns nt nf np sl hs) ++ (ws_sm b h uR uW uA uM uX uF uI uS ut_740 us ur ub uo ui ul uk uh) ++ (ws_ou o j ou)) [0, 1, 2, 3, 4, 5, 6, 7, 8, 9, 10, 11, 13, 14, 15, 16, 17, 18, 19, 20, 21, 12] (by decide) rfl
                            generalize H1 = H at hP hS ⊢
                            have hP : va_P (dC, dI) vwCl ((ws_sl a k rd wr ay ia mo wo so oi si mi wi ns nt nf np sl hs) ++ (ws_sm b h uR uW uA uM uX uF uI uS ut_740 us ur ub uo ui ul uk uh) ++ (ws_ou o j ou)) H := hP
                            have hD : va_D (fun q : Nat => s.heap.size ≤ q) ((ws_sl a k rd wr ay ia mo wo so oi si mi wi ns nt nf np sl hs) ++ (ws_sm b h uR uW uA uM uX uF uI uS ut_740 us ur ub uo ui ul uk uh) ++ (ws_ou o j ou)) := hD
                            have hrl := rl_homeless hR hw_740
                            obtain ⟨hr1, hR⟩ := hrl
                            refine lv_icmp_eq (tgt := 835) hx hb dL_law_743 (by decide) (fun c_743 => ?_) (fun c_743 => ?_)
                            · refine lv_iinc (v := x4 + 4) (lv' := [(4, .int (x4 + 4)), (0, .ref b9), (1, .ref (a 0)), (2, .ref (b 0)), (3, .ref (o 0))]) hx hb dL_law_835 hl (k := 4) rfl rfl (by decide) rfl (fun ls hl => ?_)
                              refine lv_goto (tgt := 23) hx hb dL_law_838 (by decide) ?_
                              refine W.widen (k := 22 + (i + 1)) (n := 4639 + 6 * (i + 1)) (by omega) (by omega) ?_
                              exact ih (i + 1) (x4 + 4) rd wr ay ia mo wo so oi si mi wi ns nt nf np sl hs uR uW uA uM uX uF uI uS ut_740 us ur ub uo ui ul uk uh ou (by omega) (by omega) (by rw [ex4]; exact nI_4 i) hR H locs hK hP hD hS ls (lv_sub hl [1, 2, 3, 4, 0] rfl)
                            · exact absurd hr1 c_743
                          · by_cases c_39_11 : ((xs x4.toNatClampNeg) &&& 15) = 11
                            · refine lv_tableIn (off := 709) (tgt := 748) hx hb dL_law_39 (by rw [c_39_11]; decide) (by rw [c_39_11]; decide) (by rw [c_39_11]; rfl) (by decide) ?_
                              refine lv_aload_n hx hb dL_law_748 rfl (lv_at hl 1 rfl) ?_
                              refine lv_aload_n hx hb dL_law_749 rfl (lv_at hl 0 rfl) ?_
                              refine lv_iload hx hb dL_law_750 (lv_at hl 4 rfl) ?_
                              refine lv_iconst (v := 1) hx hb dL_law_752 (by decide) ?_
                              refine lv_iadd hx hb dL_law_753 ?_
                              refine va_sld hx hb hX hbl hbA hS hi1 dL_law_754 ?_
                              have hPc := hP.sub (ws' := ws_sl a k rd wr ay ia mo wo so oi si mi wi ns nt nf np sl hs) [0, 1, 2, 3, 4, 5, 6, 7, 8, 9, 10, 11] rfl
                              have hDc := hD.sub (ws' := ws_sl a k rd wr ay ia mo wo so oi si mi wi ns nt nf np sl hs) [0, 1, 2, 3, 4, 5, 6, 7, 8, 9, 10, 11] (by decide) rfl
                              have hKc := hK.sub (tys' := ty_sl k) [0, 1, 2, 3, 4, 5, 6, 7, 8, 9, 10] rfl
                              have hFc := va_free (wc := ws_sl a k rd wr ay ia mo wo so oi si mi wi ns nt nf np sl hs) hD hS hA [0, 1, 2, 3, 4, 5, 6, 7, 8, 9, 10, 11] rfl
                              refine va_calli (va_runV (As := [.int (xs (x4 + 1).toNatClampNeg)]) (rest := []) ⟨hx, hb, hml, hown, hg⟩ (cs_stage l dC dI a k H.size rd wr ay ia mo wo so oi si mi wi ns nt nf np sl hs (xs (x4 + 1).toNatClampNeg)) (cwV 1 hg (gi_V w_85 w_86 w_87 w_1 w_88) rfl rfl rfl (by decide +kernel) ⟨Nat.le_of_ble_eq_true rfl, Nat.le_of_ble_eq_true rfl⟩) ⟨pr_bl, va_recv hKc hPc (ci := 0) (q0 := 0) rfl rfl, pr_ok hKc hPc hDc⟩ rfl rfl hl.1 rfl (lv_room (Nat.le_of_ble_eq_true rfl)) dL_law_755 ⟨by omega, by omega⟩) hS (fun q _ h => hFc q h) hFc (fun r_755 u t H1 locs ht hvm hw_755 hB hz1 hk1 hS => ?_)
                              have hw_755 := hw_755.symm
                              subst hw_755
                              obtain ⟨hP1, hK1, hD1⟩ := hB
                              rw [ht] at hP1
                              obtain ⟨hP, hD⟩ := va_join (wr := (ws_sm b h uR uW uA uM uX uF uI uS ut us ur ub uo ui ul uk uh) ++ (ws_ou o j ou)) (w1 := ws_sl a k rd wr ay ia mo wo so oi si mi wi ns nt nf np sl hs) hP hD [0, 1, 2, 3, 4, 5, 6, 7, 8, 9, 10, 11] [12, 13, 14, 15, 16, 17, 18, 19, 20, 21] rfl rfl (by decide) (by decide) hk1 hFc hP1 hD1
                              have hP := hP.sub (ws' := (ws_sl a k rd wr ay ia mo wo so oi si mi wi ns nt nf np sl hs) ++ (ws_sm b h uR uW uA uM uX uF uI uS ut us ur ub uo ui ul uk uh) ++ (ws_ou o j ou)) [10, 11, 12, 13, 14, 15, 16, 17, 18, 19, 20, 21, 0, 1, 2, 3, 4, 5, 6, 7, 8, 9] rfl
                              have hD := hD.sub (ws' := (ws_sl a k rd wr ay ia mo wo so oi si mi wi ns nt nf np sl hs) ++ (ws_sm b h uR uW uA uM uX uF uI uS ut us ur ub uo ui ul uk uh) ++ (ws_ou o j ou)) [10, 11, 12, 13, 14, 15, 16, 17, 18, 19, 20, 21, 0, 1, 2, 3, 4, 5, 6, 7, 8, 9] (by decide) rfl
                              generalize H1 = H at hP hS ⊢
                              have hP : va_P (dC, dI) vwCl ((ws_sl a k rd wr ay ia mo wo so oi si mi wi ns nt nf np sl hs) ++ (ws_sm b h uR uW uA uM uX uF uI uS ut us ur ub uo ui ul uk uh) ++ (ws_ou o j ou)) H := hP
                              have hD : va_D (fun q : Nat => s.heap.size ≤ q) ((ws_sl a k rd wr ay ia mo wo so oi si mi wi ns nt nf np sl hs) ++ (ws_sm b h uR uW uA uM uX uF uI uS ut us ur ub uo ui ul uk uh) ++ (ws_ou o j ou)) := hD
                              refine lv_aload_n hx hb dL_law_758 rfl (lv_at hl 2 rfl) ?_
                              refine lv_aload_n hx hb dL_law_759 rfl (lv_at hl 0 rfl) ?_
                              refine lv_iload hx hb dL_law_760 (lv_at hl 4 rfl) ?_
                              refine lv_iconst (v := 1) hx hb dL_law_762 (by decide) ?_
                              refine lv_iadd hx hb dL_law_763 ?_
                              refine va_sld hx hb hX hbl hbA hS hi1 dL_law_764 ?_
                              have hPc := hP.sub (ws' := ws_sm b h uR uW uA uM uX uF uI uS ut us ur ub uo ui ul uk uh) [12, 13, 14, 15, 16, 17, 18, 19, 20] rfl
                              have hDc := hD.sub (ws' := ws_sm b h uR uW uA uM uX uF uI uS ut us ur ub uo ui ul uk uh) [12, 13, 14, 15, 16, 17, 18, 19, 20] (by decide) rfl
                              have hKc := hK.sub (tys' := ty_sm h) [11, 12, 13, 14, 15, 16, 17, 18] rfl
                              have hFc := va_free (wc := ws_sm b h uR uW uA uM uX uF uI uS ut us ur ub uo ui ul uk uh) hD hS hA [12, 13, 14, 15, 16, 17, 18, 19, 20] rfl
                              refine va_calli (va_runV (As := [.int (xs (x4 + 1).toNatClampNeg)]) (rest := [.int (sl_stage so ns sl (xs (x4 + 1).toNatClampNeg))]) ⟨hx, hb, hml, hown, hg⟩ (cm_stage l dC dI b h H.size uR uW uA uM uX uF uI uS ut us ur ub uo ui ul uk uh (xs (x4 + 1).toNatClampNeg) (rl_hu hR)) (cwV 1 hg (gi_V w_496 w_497 w_498 w_2 w_499) rfl rfl rfl (by decide +kernel) ⟨Nat.le_of_ble_eq_true rfl, Nat.le_of_ble_eq_true rfl⟩) ⟨pr_bl, va_recv hKc hPc (ci := 1) (q0 := 0) rfl rfl, pr_ok hKc hPc hDc⟩ rfl rfl hl.1 rfl (lv_room (Nat.le_of_ble_eq_true rfl)) dL_law_765 ⟨by omega, by omega⟩) hS (fun q _ h => hFc q h) hFc (fun r_765 u t H1 locs ht hvm hw_765 hB hz1 hk1 hS => ?_)
                              obtain ⟨ut_765, rfl⟩ : ∃ z, z = u := ⟨_, rfl⟩
                              obtain ⟨hP1, hK1, hD1⟩ := hB
                              rw [ht] at hP1
                              obtain ⟨hP, hD⟩ := va_join (wr := (ws_sl a k rd wr ay ia mo wo so oi si mi wi ns nt nf np sl hs) ++ (ws_ou o j ou)) (w1 := ws_sm b h uR uW uA uM uX uF uI uS ut_765 us ur ub uo ui ul uk uh) hP hD [12, 13, 14, 15, 16, 17, 18, 19, 20] [0, 1, 2, 3, 4, 5, 6, 7, 8, 9, 10, 11, 21] rfl rfl (by decide) (by decide) hk1 hFc hP1 hD1
                              have hP := hP.sub (ws' := (ws_sl a k rd wr ay ia mo wo so oi si mi wi ns nt nf np sl hs) ++ (ws_sm b h uR uW uA uM uX uF uI uS ut_765 us ur ub uo ui ul uk uh) ++ (ws_ou o j ou)) [0, 1, 2, 3, 4, 5, 6, 7, 8, 9, 10, 11, 13, 14, 15, 16, 17, 18, 19, 20, 21, 12] rfl
                              have hD := hD.sub (ws' := (ws_sl a k rd wr ay ia mo wo so oi si mi wi ns nt nf np sl hs) ++ (ws_sm b h uR uW uA uM uX uF uI uS ut_765 us ur ub uo ui ul uk uh) ++ (ws_ou o j ou)) [0, 1, 2, 3, 4, 5, 6, 7, 8, 9, 10, 11, 13, 14, 15, 16, 17, 18, 19, 20, 21, 12] (by decide) rfl
                              generalize H1 = H at hP hS ⊢
                              have hP : va_P (dC, dI) vwCl ((ws_sl a k rd wr ay ia mo wo so oi si mi wi ns nt nf np sl hs) ++ (ws_sm b h uR uW uA uM uX uF uI uS ut_765 us ur ub uo ui ul uk uh) ++ (ws_ou o j ou)) H := hP
                              have hD : va_D (fun q : Nat => s.heap.size ≤ q) ((ws_sl a k rd wr ay ia mo wo so oi si mi wi ns nt nf np sl hs) ++ (ws_sm b h uR uW uA uM uX uF uI uS ut_765 us ur ub uo ui ul uk uh) ++ (ws_ou o j ou)) := hD
                              have hrl := rl_stage hR hw_765
                              obtain ⟨hr1, hR⟩ := hrl
                              refine lv_icmp_eq (tgt := 835) hx hb dL_law_768 (by decide) (fun c_768 => ?_) (fun c_768 => ?_)
                              · refine lv_iinc (v := x4 + 4) (lv' := [(4, .int (x4 + 4)), (0, .ref b9), (1, .ref (a 0)), (2, .ref (b 0)), (3, .ref (o 0))]) hx hb dL_law_835 hl (k := 4) rfl rfl (by decide) rfl (fun ls hl => ?_)
                                refine lv_goto (tgt := 23) hx hb dL_law_838 (by decide) ?_
                                refine W.widen (k := 22 + (i + 1)) (n := 4639 + 6 * (i + 1)) (by omega) (by omega) ?_
                                exact ih (i + 1) (x4 + 4) rd wr ay ia mo wo so oi si mi wi ns nt nf np sl hs uR uW uA uM uX uF uI uS ut_765 us ur ub uo ui ul uk uh ou (by omega) (by omega) (by rw [ex4]; exact nI_4 i) hR H locs hK hP hD hS ls (lv_sub hl [1, 2, 3, 4, 0] rfl)
                              · exact absurd hr1 c_768
                            · by_cases c_39_12 : ((xs x4.toNatClampNeg) &&& 15) = 12
                              · refine lv_tableIn (off := 734) (tgt := 773) hx hb dL_law_39 (by rw [c_39_12]; decide) (by rw [c_39_12]; decide) (by rw [c_39_12]; rfl) (by decide) ?_
                                refine lv_aload_n hx hb dL_law_773 rfl (lv_at hl 1 rfl) ?_
                                refine lv_aload_n hx hb dL_law_774 rfl (lv_at hl 0 rfl) ?_
                                refine lv_iload hx hb dL_law_775 (lv_at hl 4 rfl) ?_
                                refine lv_iconst (v := 1) hx hb dL_law_777 (by decide) ?_
                                refine lv_iadd hx hb dL_law_778 ?_
                                refine va_sld hx hb hX hbl hbA hS hi1 dL_law_779 ?_
                                refine lv_aload_n hx hb dL_law_780 rfl (lv_at hl 0 rfl) ?_
                                refine lv_iload hx hb dL_law_781 (lv_at hl 4 rfl) ?_
                                refine lv_iconst (v := 2) hx hb dL_law_783 (by decide) ?_
                                refine lv_iadd hx hb dL_law_784 ?_
                                refine va_sld hx hb hX hbl hbA hS hi2 dL_law_785 ?_
                                have hPc := hP.sub (ws' := ws_sl a k rd wr ay ia mo wo so oi si mi wi ns nt nf np sl hs) [0, 1, 2, 3, 4, 5, 6, 7, 8, 9, 10, 11] rfl
                                have hDc := hD.sub (ws' := ws_sl a k rd wr ay ia mo wo so oi si mi wi ns nt nf np sl hs) [0, 1, 2, 3, 4, 5, 6, 7, 8, 9, 10, 11] (by decide) rfl
                                have hKc := hK.sub (tys' := ty_sl k) [0, 1, 2, 3, 4, 5, 6, 7, 8, 9, 10] rfl
                                have hFc := va_free (wc := ws_sl a k rd wr ay ia mo wo so oi si mi wi ns nt nf np sl hs) hD hS hA [0, 1, 2, 3, 4, 5, 6, 7, 8, 9, 10, 11] rfl
                                refine va_calli (va_runV (As := [.int (xs (x4 + 1).toNatClampNeg), .int (xs (x4 + 2).toNatClampNeg)]) (rest := []) ⟨hx, hb, hml, hown, hg⟩ (cs_used l dC dI a k H.size rd wr ay ia mo wo so oi si mi wi ns nt nf np sl hs (xs (x4 + 1).toNatClampNeg) (xs (x4 + 2).toNatClampNeg)) (cwV 2 hg (gi_V w_89 w_90 w_91 w_1 w_92) rfl rfl rfl (by decide +kernel) ⟨Nat.le_of_ble_eq_true rfl, Nat.le_of_ble_eq_true rfl⟩) ⟨pr_bl, va_recv hKc hPc (ci := 0) (q0 := 0) rfl rfl, pr_ok hKc hPc hDc⟩ rfl rfl hl.1 rfl (lv_room (Nat.le_of_ble_eq_true rfl)) dL_law_786 ⟨by omega, by omega⟩) hS (fun q _ h => hFc q h) hFc (fun r_786 u t H1 locs ht hvm hw_786 hB hz1 hk1 hS => ?_)
                                have hw_786 := hw_786.symm
                                subst hw_786
                                obtain ⟨hP1, hK1, hD1⟩ := hB
                                rw [ht] at hP1
                                obtain ⟨hP, hD⟩ := va_join (wr := (ws_sm b h uR uW uA uM uX uF uI uS ut us ur ub uo ui ul uk uh) ++ (ws_ou o j ou)) (w1 := ws_sl a k rd wr ay ia mo wo so oi si mi wi ns nt nf np sl hs) hP hD [0, 1, 2, 3, 4, 5, 6, 7, 8, 9, 10, 11] [12, 13, 14, 15, 16, 17, 18, 19, 20, 21] rfl rfl (by decide) (by decide) hk1 hFc hP1 hD1
                                have hP := hP.sub (ws' := (ws_sl a k rd wr ay ia mo wo so oi si mi wi ns nt nf np sl hs) ++ (ws_sm b h uR uW uA uM uX uF uI uS ut us ur ub uo ui ul uk uh) ++ (ws_ou o j ou)) [10, 11, 12, 13, 14, 15, 16, 17, 18, 19, 20, 21, 0, 1, 2, 3, 4, 5, 6, 7, 8, 9] rfl
                                have hD := hD.sub (ws' := (ws_sl a k rd wr ay ia mo wo so oi si mi wi ns nt nf np sl hs) ++ (ws_sm b h uR uW uA uM uX uF uI uS ut us ur ub uo ui ul uk uh) ++ (ws_ou o j ou)) [10, 11, 12, 13, 14, 15, 16, 17, 18, 19, 20, 21, 0, 1, 2, 3, 4, 5, 6, 7, 8, 9] (by decide) rfl
                                generalize H1 = H at hP hS ⊢
                                have hP : va_P (dC, dI) vwCl ((ws_sl a k rd wr ay ia mo wo so oi si mi wi ns nt nf np sl hs) ++ (ws_sm b h uR uW uA uM uX uF uI uS ut us ur ub uo ui ul uk uh) ++ (ws_ou o j ou)) H := hP
                                have hD : va_D (fun q : Nat => s.heap.size ≤ q) ((ws_sl a k rd wr ay ia mo wo so oi si mi wi ns nt nf np sl hs) ++ (ws_sm b h uR uW uA uM uX uF uI uS ut us ur ub uo ui ul uk uh) ++ (ws_ou o j ou)) := hD
                                refine lv_aload_n hx hb dL_law_789 rfl (lv_at hl 2 rfl) ?_
                                refine lv_aload_n hx hb dL_law_790 rfl (lv_at hl 0 rfl) ?_
                                refine lv_iload hx hb dL_law_791 (lv_at hl 4 rfl) ?_
                                refine lv_iconst (v := 1) hx hb dL_law_793 (by decide) ?_
                                refine lv_iadd hx hb dL_law_794 ?_
                                refine va_sld hx hb hX hbl hbA hS hi1 dL_law_795 ?_
                                refine lv_aload_n hx hb dL_law_796 rfl (lv_at hl 0 rfl) ?_
                                refine lv_iload hx hb dL_law_797 (lv_at hl 4 rfl) ?_
                                refine lv_iconst (v := 2) hx hb dL_law_799 (by decide) ?_
                                refine lv_iadd hx hb dL_law_800 ?_
                                refine va_sld hx hb hX hbl hbA hS hi2 dL_law_801 ?_
                                have hPc := hP.sub (ws' := ws_sm b h uR uW uA uM uX uF uI uS ut us ur ub uo ui ul uk uh) [12, 13, 14, 15, 16, 17, 18, 19, 20] rfl
                                have hDc := hD.sub (ws' := ws_sm b h uR uW uA uM uX uF uI uS ut us ur ub uo ui ul uk uh) [12, 13, 14, 15, 16, 17, 18, 19, 20] (by decide) rfl
                                have hKc := hK.sub (tys' := ty_sm h) [11, 12, 13, 14, 15, 16, 17, 18] rfl
                                have hFc := va_free (wc := ws_sm b h uR uW uA uM uX uF uI uS ut us ur ub uo ui ul uk uh) hD hS hA [12, 13, 14, 15, 16, 17, 18, 19, 20] rfl
                                refine va_calli (va_runV (As := [.int (xs (x4 + 1).toNatClampNeg), .int (xs (x4 + 2).toNatClampNeg)]) (rest := [.int (sl_used si mi wi sl (xs (x4 + 1).toNatClampNeg) (xs (x4 + 2).toNatClampNeg))]) ⟨hx, hb, hml, hown, hg⟩ (cm_used l dC dI b h H.size uR uW uA uM uX uF uI uS ut us ur ub uo ui ul uk uh (xs (x4 + 1).toNatClampNeg) (xs (x4 + 2).toNatClampNeg) (rl_hu hR)) (cwV 2 hg (gi_V w_500 w_501 w_502 w_2 w_503) rfl rfl rfl (by decide +kernel) ⟨Nat.le_of_ble_eq_true rfl, Nat.le_of_ble_eq_true rfl⟩) ⟨pr_bl, va_recv hKc hPc (ci := 1) (q0 := 0) rfl rfl, pr_ok hKc hPc hDc⟩ rfl rfl hl.1 rfl (lv_room (Nat.le_of_ble_eq_true rfl)) dL_law_802 ⟨by omega, by omega⟩) hS (fun q _ h => hFc q h) hFc (fun r_802 u t H1 locs ht hvm hw_802 hB hz1 hk1 hS => ?_)
                                obtain ⟨ut_802, rfl⟩ : ∃ z, z = u := ⟨_, rfl⟩
                                obtain ⟨hP1, hK1, hD1⟩ := hB
                                rw [ht] at hP1
                                obtain ⟨hP, hD⟩ := va_join (wr := (ws_sl a k rd wr ay ia mo wo so oi si mi wi ns nt nf np sl hs) ++ (ws_ou o j ou)) (w1 := ws_sm b h uR uW uA uM uX uF uI uS ut_802 us ur ub uo ui ul uk uh) hP hD [12, 13, 14, 15, 16, 17, 18, 19, 20] [0, 1, 2, 3, 4, 5, 6, 7, 8, 9, 10, 11, 21] rfl rfl (by decide) (by decide) hk1 hFc hP1 hD1
                                have hP := hP.sub (ws' := (ws_sl a k rd wr ay ia mo wo so oi si mi wi ns nt nf np sl hs) ++ (ws_sm b h uR uW uA uM uX uF uI uS ut_802 us ur ub uo ui ul uk uh) ++ (ws_ou o j ou)) [0, 1, 2, 3, 4, 5, 6, 7, 8, 9, 10, 11, 13, 14, 15, 16, 17, 18, 19, 20, 21, 12] rfl
                                have hD := hD.sub (ws' := (ws_sl a k rd wr ay ia mo wo so oi si mi wi ns nt nf np sl hs) ++ (ws_sm b h uR uW uA uM uX uF uI uS ut_802 us ur ub uo ui ul uk uh) ++ (ws_ou o j ou)) [0, 1, 2, 3, 4, 5, 6, 7, 8, 9, 10, 11, 13, 14, 15, 16, 17, 18, 19, 20, 21, 12] (by decide) rfl
                                generalize H1 = H at hP hS ⊢
                                have hP : va_P (dC, dI) vwCl ((ws_sl a k rd wr ay ia mo wo so oi si mi wi ns nt nf np sl hs) ++ (ws_sm b h uR uW uA uM uX uF uI uS ut_802 us ur ub uo ui ul uk uh) ++ (ws_ou o j ou)) H := hP
                                have hD : va_D (fun q : Nat => s.heap.size ≤ q) ((ws_sl a k rd wr ay ia mo wo so oi si mi wi ns nt nf np sl hs) ++ (ws_sm b h uR uW uA uM uX uF uI uS ut_802 us ur ub uo ui ul uk uh) ++ (ws_ou o j ou)) := hD
                                have hrl := rl_used hR hw_802
                                obtain ⟨hr1, hR⟩ := hrl
                                refine lv_icmp_eq (tgt := 835) hx hb dL_law_805 (by decide) (fun c_805 => ?_) (fun c_805 => ?_)
                                · refine lv_iinc (v := x4 + 4) (lv' := [(4, .int (x4 + 4)), (0, .ref b9), (1, .ref (a 0)), (2, .ref (b 0)), (3, .ref (o 0))]) hx hb dL_law_835 hl (k := 4) rfl rfl (by decide) rfl (fun ls hl => ?_)
                                  refine lv_goto (tgt := 23) hx hb dL_law_838 (by decide) ?_
                                  refine W.widen (k := 22 + (i + 1)) (n := 4639 + 6 * (i + 1)) (by omega) (by omega) ?_
                                  exact ih (i + 1) (x4 + 4) rd wr ay ia mo wo so oi si mi wi ns nt nf np sl hs uR uW uA uM uX uF uI uS ut_802 us ur ub uo ui ul uk uh ou (by omega) (by omega) (by rw [ex4]; exact nI_4 i) hR H locs hK hP hD hS ls (lv_sub hl [1, 2, 3, 4, 0] rfl)
                                · exact absurd hr1 c_805
                              · by_cases c_39_13 : ((xs x4.toNatClampNeg) &&& 15) = 13
                                · refine lv_tableIn (off := 771) (tgt := 810) hx hb dL_law_39 (by rw [c_39_13]; decide) (by rw [c_39_13]; decide) (by rw [c_39_13]; rfl) (by decide) ?_
                                  refine lv_aload_n hx hb dL_law_810 rfl (lv_at hl 1 rfl) ?_
                                  refine lv_aload_n hx hb dL_law_811 rfl (lv_at hl 0 rfl) ?_
                                  refine lv_iload hx hb dL_law_812 (lv_at hl 4 rfl) ?_
                                  refine lv_iconst (v := 1) hx hb dL_law_814 (by decide) ?_
                                  refine lv_iadd hx hb dL_law_815 ?_
                                  refine va_sld hx hb hX hbl hbA hS hi1 dL_law_816 ?_
                                  have hPc := hP.sub (ws' := ws_sl a k rd wr ay ia mo wo so oi si mi wi ns nt nf np sl hs) [0, 1, 2, 3, 4, 5, 6, 7, 8, 9, 10, 11] rfl
                                  have hDc := hD.sub (ws' := ws_sl a k rd wr ay ia mo wo so oi si mi wi ns nt nf np sl hs) [0, 1, 2, 3, 4, 5, 6, 7, 8, 9, 10, 11] (by decide) rfl
                                  have hKc := hK.sub (tys' := ty_sl k) [0, 1, 2, 3, 4, 5, 6, 7, 8, 9, 10] rfl
                                  have hFc := va_free (wc := ws_sl a k rd wr ay ia mo wo so oi si mi wi ns nt nf np sl hs) hD hS hA [0, 1, 2, 3, 4, 5, 6, 7, 8, 9, 10, 11] rfl
                                  refine va_calli (va_runV (As := [.int (xs (x4 + 1).toNatClampNeg)]) (rest := []) ⟨hx, hb, hml, hown, hg⟩ (cs_count l dC dI a k H.size rd wr ay ia mo wo so oi si mi wi ns nt nf np sl hs (xs (x4 + 1).toNatClampNeg)) (cwV 1 hg (gi_V w_93 w_94 w_95 w_1 w_96) rfl rfl rfl (by decide +kernel) ⟨Nat.le_of_ble_eq_true rfl, Nat.le_of_ble_eq_true rfl⟩) ⟨pr_bl, va_recv hKc hPc (ci := 0) (q0 := 0) rfl rfl, pr_ok hKc hPc hDc⟩ rfl rfl hl.1 rfl (lv_room (Nat.le_of_ble_eq_true rfl)) dL_law_817 ⟨by omega, by omega⟩) hS (fun q _ h => hFc q h) hFc (fun r_817 u t H1 locs ht hvm hw_817 hB hz1 hk1 hS => ?_)
                                  have hw_817 := hw_817.symm
                                  subst hw_817
                                  obtain ⟨hP1, hK1, hD1⟩ := hB
                                  rw [ht] at hP1
                                  obtain ⟨hP, hD⟩ := va_join (wr := (ws_sm b h uR uW uA uM uX uF uI uS ut us ur ub uo ui ul uk uh) ++ (ws_ou o j ou)) (w1 := ws_sl a k rd wr ay ia mo wo so oi si mi wi ns nt nf np sl hs) hP hD [0, 1, 2, 3, 4, 5, 6, 7, 8, 9, 10, 11] [12, 13, 14, 15, 16, 17, 18, 19, 20, 21] rfl rfl (by decide) (by decide) hk1 hFc hP1 hD1
                                  have hP := hP.sub (ws' := (ws_sl a k rd wr ay ia mo wo so oi si mi wi ns nt nf np sl hs) ++ (ws_sm b h uR uW uA uM uX uF uI uS ut us ur ub uo ui ul uk uh) ++ (ws_ou o j ou)) [10, 11, 12, 13, 14, 15, 16, 17, 18, 19, 20, 21, 0, 1, 2, 3, 4, 5, 6, 7, 8, 9] rfl
                                  have hD := hD.sub (ws' := (ws_sl a k rd wr ay ia mo wo so oi si mi wi ns nt nf np sl hs) ++ (ws_sm b h uR uW uA uM uX uF uI uS ut us ur ub uo ui ul uk uh) ++ (ws_ou o j ou)) [10, 11, 12, 13, 14, 15, 16, 17, 18, 19, 20, 21, 0, 1, 2, 3, 4, 5, 6, 7, 8, 9] (by decide) rfl
                                  generalize H1 = H at hP hS ⊢
                                  have hP : va_P (dC, dI) vwCl ((ws_sl a k rd wr ay ia mo wo so oi si mi wi ns nt nf np sl hs) ++ (ws_sm b h uR uW uA uM uX uF uI uS ut us ur ub uo ui ul uk uh) ++ (ws_ou o j ou)) H := hP
                                  have hD : va_D (fun q : Nat => s.heap.size ≤ q) ((ws_sl a k rd wr ay ia mo wo so oi si mi wi ns nt nf np sl hs) ++ (ws_sm b h uR uW uA uM uX uF uI uS ut us ur ub uo ui ul uk uh) ++ (ws_ou o j ou)) := hD
                                  refine lv_aload_n hx hb dL_law_820 rfl (lv_at hl 2 rfl) ?_
                                  refine lv_aload_n hx hb dL_law_821 rfl (lv_at hl 0 rfl) ?_
                                  refine lv_iload hx hb dL_law_822 (lv_at hl 4 rfl) ?_
                                  refine lv_iconst (v := 1) hx hb dL_law_824 (by decide) ?_
                                  refine lv_iadd hx hb dL_law_825 ?_
                                  refine va_sld hx hb hX hbl hbA hS hi1 dL_law_826 ?_
                                  have hPc := hP.sub (ws' := ws_sm b h uR uW uA uM uX uF uI uS ut us ur ub uo ui ul uk uh) [12, 13, 14, 15, 16, 17, 18, 19, 20] rfl
                                  have hDc := hD.sub (ws' := ws_sm b h uR uW uA uM uX uF uI uS ut us ur ub uo ui ul uk uh) [12, 13, 14, 15, 16, 17, 18, 19, 20] (by decide) rfl
                                  have hKc := hK.sub (tys' := ty_sm h) [11, 12, 13, 14, 15, 16, 17, 18] rfl
                                  have hFc := va_free (wc := ws_sm b h uR uW uA uM uX uF uI uS ut us ur ub uo ui ul uk uh) hD hS hA [12, 13, 14, 15, 16, 17, 18, 19, 20] rfl
                                  refine va_calli (va_runV (As := [.int (xs (x4 + 1).toNatClampNeg)]) (rest := [.int (sl_count ns nt nf (xs (x4 + 1).toNatClampNeg))]) ⟨hx, hb, hml, hown, hg⟩ (cm_count l dC dI b h H.size uR uW uA uM uX uF uI uS ut us ur ub uo ui ul uk uh (xs (x4 + 1).toNatClampNeg)) (cwV 1 hg (gi_V w_504 w_505 w_506 w_2 w_507) rfl rfl rfl (by decide +kernel) ⟨Nat.le_of_ble_eq_true rfl, Nat.le_of_ble_eq_true rfl⟩) ⟨pr_bl, va_recv hKc hPc (ci := 1) (q0 := 0) rfl rfl, pr_ok hKc hPc hDc⟩ rfl rfl hl.1 rfl (lv_room (Nat.le_of_ble_eq_true rfl)) dL_law_827 ⟨by omega, by omega⟩) hS (fun q _ h => hFc q h) hFc (fun r_827 u t H1 locs ht hvm hw_827 hB hz1 hk1 hS => ?_)
                                  obtain ⟨ut_827, rfl⟩ : ∃ z, z = u := ⟨_, rfl⟩
                                  obtain ⟨hP1, hK1, hD1⟩ := hB
                                  rw [ht] at hP1
                                  obtain ⟨hP, hD⟩ := va_join (wr := (ws_sl a k rd wr ay ia mo wo so oi si mi wi ns nt nf np sl hs) ++ (ws_ou o j ou)) (w1 := ws_sm b h uR uW uA uM uX uF uI uS ut_827 us ur ub uo ui ul uk uh) hP hD [12, 13, 14, 15, 16, 17, 18, 19, 20] [0, 1, 2, 3, 4, 5, 6, 7, 8, 9, 10, 11, 21] rfl rfl (by decide) (by decide) hk1 hFc hP1 hD1
                                  have hP := hP.sub (ws' := (ws_sl a k rd wr ay ia mo wo so oi si mi wi ns nt nf np sl hs) ++ (ws_sm b h uR uW uA uM uX uF uI uS ut_827 us ur ub uo ui ul uk uh) ++ (ws_ou o j ou)) [0, 1, 2, 3, 4, 5, 6, 7, 8, 9, 10, 11, 13, 14, 15, 16, 17, 18, 19, 20, 21, 12] rfl
                                  have hD := hD.sub (ws' := (ws_sl a k rd wr ay ia mo wo so oi si mi wi ns nt nf np sl hs) ++ (ws_sm b h uR uW uA uM uX uF uI uS ut_827 us ur ub uo ui ul uk uh) ++ (ws_ou o j ou)) [0, 1, 2, 3, 4, 5, 6, 7, 8, 9, 10, 11, 13, 14, 15, 16, 17, 18, 19, 20, 21, 12] (by decide) rfl
                                  generalize H1 = H at hP hS ⊢
                                  have hP : va_P (dC, dI) vwCl ((ws_sl a k rd wr ay ia mo wo so oi si mi wi ns nt nf np sl hs) ++ (ws_sm b h uR uW uA uM uX uF uI uS ut_827 us ur ub uo ui ul uk uh) ++ (ws_ou o j ou)) H := hP
                                  have hD : va_D (fun q : Nat => s.heap.size ≤ q) ((ws_sl a k rd wr ay ia mo wo so oi si mi wi ns nt nf np sl hs) ++ (ws_sm b h uR uW uA uM uX uF uI uS ut_827 us ur ub uo ui ul uk uh) ++ (ws_ou o j ou)) := hD
                                  have hrl := rl_count hR hw_827
                                  obtain ⟨hr1, hR⟩ := hrl
                                  refine lv_icmp_eq (tgt := 835) hx hb dL_law_830 (by decide) (fun c_830 => ?_) (fun c_830 => ?_)
                                  · refine lv_iinc (v := x4 + 4) (lv' := [(4, .int (x4 + 4)), (0, .ref b9), (1, .ref (a 0)), (2, .ref (b 0)), (3, .ref (o 0))]) hx hb dL_law_835 hl (k := 4) rfl rfl (by decide) rfl (fun ls hl => ?_)
                                    refine lv_goto (tgt := 23) hx hb dL_law_838 (by decide) ?_
                                    refine W.widen (k := 22 + (i + 1)) (n := 4639 + 6 * (i + 1)) (by omega) (by omega) ?_
                                    exact ih (i + 1) (x4 + 4) rd wr ay ia mo wo so oi si mi wi ns nt nf np sl hs uR uW uA uM uX uF uI uS ut_827 us ur ub uo ui ul uk uh ou (by omega) (by omega) (by rw [ex4]; exact nI_4 i) hR H locs hK hP hD hS ls (lv_sub hl [1, 2, 3, 4, 0] rfl)
                                  · exact absurd hr1 c_830
                                · have nc_39_0 := lv_neT c_39_0 (a := 0) rfl
                                  have nc_39_1 := lv_neT c_39_1 (a := 1) rfl
                                  have nc_39_2 := lv_neT c_39_2 (a := 2) rfl
                                  have nc_39_3 := lv_neT c_39_3 (a := 3) rfl
                                  have nc_39_4 := lv_neT c_39_4 (a := 4) rfl
                                  have nc_39_5 := lv_neT c_39_5 (a := 5) rfl
                                  have nc_39_6 := lv_neT c_39_6 (a := 6) rfl
                                  have nc_39_7 := lv_neT c_39_7 (a := 7) rfl
                                  have nc_39_8 := lv_neT c_39_8 (a := 8) rfl
                                  have nc_39_9 := lv_neT c_39_9 (a := 9) rfl
                                  have nc_39_10 := lv_neT c_39_10 (a := 10) rfl
                                  have nc_39_11 := lv_neT c_39_11 (a := 11) rfl
                                  have nc_39_12 := lv_neT c_39_12 (a := 12) rfl
                                  have nc_39_13 := lv_neT c_39_13 (a := 13) rfl
                                  refine lv_tableOut (tgt := 835) hx hb dL_law_39 (by omega) (by decide) ?_
                                  refine lv_iinc (v := x4 + 4) (lv' := [(4, .int (x4 + 4)), (0, .ref b9), (1, .ref (a 0)), (2, .ref (b 0)), (3, .ref (o 0))]) hx hb dL_law_835 hl (k := 4) rfl rfl (by decide) rfl (fun ls hl => ?_)
                                  refine lv_goto (tgt := 23) hx hb dL_law_838 (by decide) ?_
                                  refine W.widen (k := 22 + (i + 1)) (n := 4639 + 6 * (i + 1)) (by omega) (by omega) ?_
                                  exact ih (i + 1) (x4 + 4) rd wr ay ia mo wo so oi si mi wi ns nt nf np sl hs uR uW uA uM uX uF uI uS ut us ur ub uo ui ul uk uh ou (by omega) (by omega) (by rw [ex4]; exact nI_4 i) hR H locs hK hP hD hS ls (lv_sub hl [1, 2, 3, 4, 0] rfl)
