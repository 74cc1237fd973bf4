set_option maxHeartbeats 4000000 in
set_option maxRecDepth 100000 in
theorem cs_lay_L53 {p : Program} {l : Launch} {e : Env} {s : State} {m : MethodId} {args : Array Value} {below : List Frame} {meth : Method} {c : Code} {Q : State → Prop} {dC : Nat → ClassId} {dI : Nat → Nat → Nat} {a : Nat → Nat} {k : Nat → ClassId} {A : Nat → Prop} (rd wr : Nat → Int64) (ay ia mo wo so oi si mi wi : Nat → Int32) (ns nt nf np sl hs : Int32) (p1 p2 p3 : Int32) (hx : p.tables.exec = Jvm.exec) (hb : c.code = cX0_lay) (hml : c.maxLocals = 7) (hown : s.vm.findClass RX0 = some m.cls) (hg : ∀ w ∈ gw, w.before args s = true) (hA : ∀ q : Nat, s.heap.size ≤ q → A q) (hK : va_K (dC, dI) vwCl (ty_sl k) s) (h12 : 1 ≤ p1.toInt ∧ p1.toInt ≤ 12) :
    ∀ (n : Nat) (x4 x5 : Int32) (so si mi wi : Nat → Int32) (hs : Int32) (H : Heap) (locs : List Loc) (ls : Array Slot), (cnt ns x5 n ∧ ∀ j : Nat, j < x5.toNatClampNeg → 0 ≤ (so j).toInt ∧ (so j).toInt < 12) → va_P (dC, dI) vwCl (ws_sl a k rd wr ay ia mo wo so oi si mi wi ns nt nf np sl hs) H → va_D A (ws_sl a k rd wr ay ia mo wo so oi si mi wi ns nt nf np sl hs) → va_S A s.heap H locs → lv_has ls 7 [(0, .ref (a 0)), (1, .int p1), (2, .int p2), (3, .int p3), (4, .int x4), (5, .int x5)] →
      (∀ (x4_o53 : Int32) (so_o53 si_o53 mi_o53 wi_o53 : Nat → Int32) (hs_o53 : Int32), sl_lay_L53 rd wr ay ia mo wo ns p1 p2 p3 n x4 x5 so si mi wi hs = .inl (x4_o53, so_o53, si_o53, mi_o53, wi_o53, hs_o53) → ∀ (H : Heap) (locs : List Loc) (ls : Array Slot), va_P (dC, dI) vwCl (ws_sl a k rd wr ay ia mo wo so_o53 oi si_o53 mi_o53 wi_o53 ns nt nf np sl hs_o53) H → va_D A (ws_sl a k rd wr ay ia mo wo so_o53 oi si_o53 mi_o53 wi_o53 ns nt nf np sl hs_o53) → va_S A s.heap H locs → lv_has ls 7 [(0, .ref (a 0)), (1, .int p1), (2, .int p2), (3, .int p3), (4, .int x4_o53)] → W p l e (headSpec wsX0_lay ({ frames := 6, cells := 0, slots := 0, locals := 82 } : Room)).room s m args below meth c H locs 0 0 Q (F0 m 112 ls [])) →
      (∀ (r0_o53 : Int32) (so_o53 si_o53 mi_o53 wi_o53 : Nat → Int32) (hs_o53 : Int32), sl_lay_L53 rd wr ay ia mo wo ns p1 p2 p3 n x4 x5 so si mi wi hs = .inr (r0_o53, so_o53, si_o53, mi_o53, wi_o53, hs_o53) → ∀ (H : Heap) (locs : List Loc) (ls : Array Slot), va_P (dC, dI) vwCl (ws_sl a k rd wr ay ia mo wo so_o53 oi si_o53 mi_o53 wi_o53 ns nt nf np sl hs_o53) H → va_D A (ws_sl a k rd wr ay ia mo wo so_o53 oi si_o53 mi_o53 wi_o53 ns nt nf np sl hs_o53) → va_S A s.heap H locs → lv_has ls 7 [(0, .ref (a 0)), (1, .int p1), (2, .int p2), (3, .int p3)] → W p l e (headSpec wsX0_lay ({ frames := 6, cells := 0, slots := 0, locals := 82 } : Room)).room s m args below meth c H locs 0 0 Q (F0 m 86 ls [.int r0_o53])) →
      W p l e (headSpec wsX0_lay ({ frames := 6, cells := 0, slots := 0, locals := 82 } : Room)).room s m args below meth c H locs 0 0 Q (F0 m 53 ls []) := by
  intro n
  induction n with
  | zero =>
    intro x4 x5 so si mi wi hs H locs ls hinv
    exact absurd hinv (fun h => cnt_z h.1)
  | succ n ih =>
    intro x4 x5 so si mi wi hs H locs ls hinv hP hD hS hl k0 k1
    refine lv_iload hx hb dX0_lay_53 (lv_at hl 5 rfl) ?_
    refine lv_aload_n hx hb dX0_lay_55 rfl (lv_at hl 0 rfl) ?_
    refine va_get (D := (dC, dI)) (ci := 0) (v := .int ns) (C := RX0) (T := TX0) (N := 17) hx hb hg inX0 hown hK hP 0 rfl rfl 11 (by decide) (hg _ w_30) (fun _ h9 => h9) rfl dX0_lay_56 ?_
    refine lv_icmp_ge (tgt := 112) hx hb dX0_lay_59 (by decide) (fun c_59 => ?_) (fun c_59 => ?_)
    · exact k0 x4 so si mi wi hs (by rw [sl_lay_L53_s]; rw [if_pos c_59]; (try rfl)) H locs ls hP hD hS (lv_sub hl [0, 1, 2, 3, 4] rfl)
    · refine lv_aload_n hx hb dX0_lay_62 rfl (lv_at hl 0 rfl) ?_
      refine lv_iload hx hb dX0_lay_63 (lv_at hl 5 rfl) ?_
      refine lv_iload_n hx hb dX0_lay_65 rfl (lv_at hl 1 rfl) ?_
      refine lv_iload_n hx hb dX0_lay_66 rfl (lv_at hl 2 rfl) ?_
      refine lv_iload_n hx hb dX0_lay_67 rfl (lv_at hl 3 rfl) ?_
      have hFc := va_free (wc := ws_sl a k rd wr ay ia mo wo so oi si mi wi ns nt nf np sl hs) hD hS hA [0, 1, 2, 3, 4, 5, 6, 7, 8, 9, 10, 11] rfl
      refine va_calli (va_runV (As := [.int x5, .int p1, .int p2, .int p3]) (rest := []) ⟨hx, hb, hml, hown, hg⟩ (cs_findStage l dC dI a k H.size rd wr ay ia mo wo so oi si mi wi ns nt nf np sl hs x5 p1 p2 p3 hinv.2 h12) (cwV 4 hg (gi_V w_320 w_322 s_6 w_1 w_323) rfl rfl rfl (by decide +kernel) ⟨Nat.le_of_ble_eq_true rfl, Nat.le_of_ble_eq_true rfl⟩) ⟨pr_bl, va_recv hK hP (ci := 0) (q0 := 0) rfl rfl, pr_ok hK hP hD⟩ rfl rfl hl.1 rfl (lv_room (Nat.le_of_ble_eq_true rfl)) dX0_lay_68 ⟨Nat.le_of_ble_eq_true rfl, Nat.le_of_ble_eq_true rfl⟩) hS (fun q _ h => hFc q h) hFc (fun r_68 u t H1 locs ht hvm hw_68 hB hz1 hk1 hS => ?_)
      subst hw_68
      obtain ⟨hP, hK1, hD1⟩ := hB
      rw [ht] at hP
      have hD := hD1.weaken (fun _ q _ h => hFc q.1 h)
      generalize H1 = H at hP hS ⊢
      have hP : va_P (dC, dI) vwCl (ws_sl a k rd wr ay ia mo wo so oi si mi wi ns nt nf np sl hs) H := hP
      have hD : va_D A (ws_sl a k rd wr ay ia mo wo so oi si mi wi ns nt nf np sl hs) := hD
      refine lv_istore (lv' := [(6, .int (sl_findStage rd wr ay ia mo wo so si mi wi x5 p1 p2 p3)), (0, .ref (a 0)), (1, .int p1), (2, .int p2), (3, .int p3), (4, .int x4), (5, .int x5)]) hx hb dX0_lay_71 hl (by decide) rfl (fun ls hl => ?_)
      refine lv_iload hx hb dX0_lay_73 (lv_at hl 0 rfl) ?_
      refine lv_iconst (v := (-1)) hx hb dX0_lay_75 (by decide) ?_
      refine lv_icmp_ne (tgt := 87) hx hb dX0_lay_76 (by decide) (fun c_76 => ?_) (fun c_76 => ?_)
      · refine lv_aload_n hx hb dX0_lay_87 rfl (lv_at hl 1 rfl) ?_
        refine lv_iload hx hb dX0_lay_88 (lv_at hl 6 rfl) ?_
        refine lv_iload hx hb dX0_lay_90 (lv_at hl 0 rfl) ?_
        have hFc := va_free (wc := ws_sl a k rd wr ay ia mo wo so oi si mi wi ns nt nf np sl hs) hD hS hA [0, 1, 2, 3, 4, 5, 6, 7, 8, 9, 10, 11] rfl
        refine va_callv (va_runV (As := [.int x5, .int (sl_findStage rd wr ay ia mo wo so si mi wi x5 p1 p2 p3)]) (rest := []) ⟨hx, hb, hml, hown, hg⟩ (cs_settle l dC dI a k H.size rd wr ay ia mo wo so oi si mi wi ns nt nf np sl hs x5 (sl_findStage rd wr ay ia mo wo so si mi wi x5 p1 p2 p3)) (cwV 2 hg (gi_V w_336 w_338 s_10 w_1 w_339) rfl rfl rfl (by decide +kernel) ⟨Nat.le_of_ble_eq_true rfl, Nat.le_of_ble_eq_true rfl⟩) ⟨pr_bl, va_recv hK hP (ci := 0) (q0 := 0) rfl rfl, pr_ok hK hP hD⟩ rfl rfl hl.1 rfl (lv_room (Nat.le_of_ble_eq_true rfl)) dX0_lay_92 ⟨Nat.le_of_ble_eq_true rfl, Nat.le_of_ble_eq_true rfl⟩) hS (fun q _ h => hFc q h) hFc (fun u t H1 locs ht hvm hw_92 hB hz1 hk1 hS => ?_)
        obtain ⟨so_92, si_92, mi_92, wi_92⟩ := u
        obtain ⟨hP, hK1, hD1⟩ := hB
        rw [ht] at hP
        have hD := hD1.weaken (fun _ q _ h => hFc q.1 h)
        generalize H1 = H at hP hS ⊢
        have hP : va_P (dC, dI) vwCl (ws_sl a k rd wr ay ia mo wo so_92 oi si_92 mi_92 wi_92 ns nt nf np sl hs) H := hP
        have hD : va_D A (ws_sl a k rd wr ay ia mo wo so_92 oi si_92 mi_92 wi_92 ns nt nf np sl hs) := hD
        refine lv_iload hx hb dX0_lay_95 (lv_at hl 5 rfl) ?_
        refine lv_iload hx hb dX0_lay_97 (lv_at hl 0 rfl) ?_
        refine lv_iconst (v := 1) hx hb dX0_lay_99 (by decide) ?_
        refine lv_iadd hx hb dX0_lay_100 ?_
        refine va_mmax hx hb (hml.trans hl.1.symm) hown (hg _ w_199) (hg _ w_200) (hg _ w_8) (hg _ w_201) (Nat.le_of_ble_eq_true rfl) (Nat.le_of_ble_eq_true rfl) (Nat.le_of_ble_eq_true rfl) (Nat.le_of_ble_eq_true rfl) dX0_lay_101 ?_
        refine lv_istore (lv' := [(4, .int (if x4 < ((sl_findStage rd wr ay ia mo wo so si mi wi x5 p1 p2 p3) + 1) then ((sl_findStage rd wr ay ia mo wo so si mi wi x5 p1 p2 p3) + 1) else x4)), (6, .int (sl_findStage rd wr ay ia mo wo so si mi wi x5 p1 p2 p3)), (0, .ref (a 0)), (1, .int p1), (2, .int p2), (3, .int p3), (5, .int x5)]) hx hb dX0_lay_104 hl (by decide) rfl (fun ls hl => ?_)
        refine lv_iinc (v := x5 + 1) (lv' := [(5, .int (x5 + 1)), (4, .int (if x4 < ((sl_findStage rd wr ay ia mo wo so si mi wi x5 p1 p2 p3) + 1) then ((sl_findStage rd wr ay ia mo wo so si mi wi x5 p1 p2 p3) + 1) else x4)), (6, .int (sl_findStage rd wr ay ia mo wo so si mi wi x5 p1 p2 p3)), (0, .ref (a 0)), (1, .int p1), (2, .int p2), (3, .int p3)]) hx hb dX0_lay_106 hl (k := 6) rfl rfl (by decide) rfl (fun ls hl => ?_)
        refine lv_goto (tgt := 53) hx hb dX0_lay_109 (by decide) ?_
        exact ih (if x4 < ((sl_findStage rd wr ay ia mo wo so si mi wi x5 p1 p2 p3) + 1) then ((sl_findStage rd wr ay ia mo wo so si mi wi x5 p1 p2 p3) + 1) else x4) (x5 + 1) so_92 si_92 mi_92 wi_92 hs H locs ls (lay_step hinv c_59 c_76 hw_92) hP hD hS (lv_sub hl [3, 4, 5, 6, 1, 0] rfl) (fun x4_o53 so_o53 si_o53 mi_o53 wi_o53 hs_o53 hw H locs ls hP hD hS hl => k0 x4_o53 so_o53 si_o53 mi_o53 wi_o53 hs_o53 (by rw [sl_lay_L53_s]; rw [if_neg c_59, if_neg c_76, hw_92]; (try dsimp only); exact hw) H locs ls hP hD hS hl) (fun r0_o53 so_o53 si_o53 mi_o53 wi_o53 hs_o53 hw H locs ls hP hD hS hl => k1 r0_o53 so_o53 si_o53 mi_o53 wi_o53 hs_o53 (by rw [sl_lay_L53_s]; rw [if_neg c_59, if_neg c_76, hw_92]; (try dsimp only); exact hw) H locs ls hP hD hS hl)
      · refine lv_aload_n hx hb dX0_lay_79 rfl (lv_at hl 1 rfl) ?_
        refine lv_iload hx hb dX0_lay_80 (lv_at hl 6 rfl) ?_
        refine va_put (D := (dC, dI)) (ci := 0) (v := .int x5) (ty := .int) (C := RX0) (T := TX0) (N := 17) hx hb hg inX0 tyX0 tyX0_ok nmX0 hown hK hP hD hS 0 rfl rfl 16 (by decide) (hg _ w_35) (fun _ h9 => h9) rfl (by decide +kernel) rfl rfl (Nat.le_of_ble_eq_true rfl) dX0_lay_82 (fun H locs hP hD hS => ?_)
        have hP : va_P (dC, dI) vwCl (ws_sl a k rd wr ay ia mo wo so oi si mi wi ns nt nf np sl x5) H := hP
        have hD : va_D A (ws_sl a k rd wr ay ia mo wo so oi si mi wi ns nt nf np sl x5) := hD
        refine lv_iconst (v := (-1)) hx hb dX0_lay_85 (by decide) ?_
        exact k1 (-1) so si mi wi x5 (by rw [sl_lay_L53_s]; rw [if_neg c_59, if_pos c_76]; (try rfl)) H locs ls hP hD hS (lv_sub hl [1, 2, 3, 4] rfl)
set_option maxHeartbeats 4000000 in
set_option maxRecDepth 100000 in
theorem cs_lay (l : Launch) (dC : Nat → ClassId) (dI : Nat → Nat → Nat) (a : Nat → Nat) (k : Nat → ClassId) (sz : Nat) (rd wr : Nat → Int64) (ay ia mo wo so oi si mi wi : Nat → Int32) (ns nt nf np sl hs : Int32) (p1 p2 p3 : Int32) (r' : Int32) (so' si' mi' wi' : Nat → Int32) (sl' hs' : Int32) (hok : sl_lay rd wr ay ia mo wo so si mi wi ns p1 p2 p3 = .inl (r', so', si', mi', wi', sl', hs')) (hns : 0 ≤ ns.toInt ∧ ns.toInt ≤ 48) : Met l yX0_lay wsX0_lay ({ frames := 6, cells := 0, slots := 0, locals := 82 } : Room) (va_Pc [.ref (a 0), .int p1, .int p2, .int p3] (pr (dC, dI) (ws_sl a k rd wr ay ia mo wo so oi si mi wi ns nt nf np sl hs) (ty_sl k) sz)) (va_Qi (fun (r : Int32) (_ : Unit) => r = r') (fun (_ : Unit) t => po (dC, dI) (ws_sl a k rd wr ay ia mo wo so' oi si' mi' wi' ns nt nf np sl' hs') (ty_sl k) (va_A (ws_sl a k rd wr ay ia mo wo so oi si mi wi ns nt nf np sl hs) sz) t) (va_A (ws_sl a k rd wr ay ia mo wo so oi si mi wi ns nt nf np sl hs) sz)) 0 0 (va_A (ws_sl a k rd wr ay ia mo wo so oi si mi wi ns nt nf np sl hs) sz) := by
  refine Met.ofW (cc := cX0_lay) (maxL := 7) (ret := (some .int)) (by decide) rfl ?_
  intro p e s m args below meth c s₁ B hml hv
  obtain ⟨rfl, hsz, hP, hK, hD0⟩ := hv
  have hx := B.exec
  have hb := B.bytes
  have hr := B.returns
  have hts := atoms_spec (ws := wsX0_lay) B.pre
  have hg : ∀ w ∈ gw, w.before _ s = true := fun w h => hts w (List.mem_cons_of_mem _ h)
  have hown : s.vm.findClass RX0 = some m.cls := findClass_of_methodNamed B.named
  have hlocks := B.notSynchronized
  subst hsz
  have hD := hD0.self (sz := s.heap.size)
  generalize hAe : va_A (ws_sl a k rd wr ay ia mo wo so oi si mi wi ns nt nf np sl hs) s.heap.size = A at hD ⊢
  have hA : ∀ q : Nat, s.heap.size ≤ q → A q := fun q h => by rw [← hAe]; exact Or.inr h
  clear hAe
  refine w_in (fun H locs eH eL => ?_)
  have hS : va_S A s.heap H locs := by rw [eH, eL]; exact va_S.rf
  have hP : va_P (dC, dI) vwCl (ws_sl a k rd wr ay ia mo wo so oi si mi wi ns nt nf np sl hs) H := by rw [eH]; exact hP
  clear eH eL
  have hl := lv_entry ([.ref (a 0), .int p1, .int p2, .int p3]) (n := 7) (Nat.le_of_ble_eq_true rfl)
  rw [lg_entry_eq]
  generalize (lg_sl ([.ref (a 0), .int p1, .int p2, .int p3]) ++ List.replicate (7 - (lg_sl ([.ref (a 0), .int p1, .int p2, .int p3])).length) Slot.unset).toArray = ls at hl ⊢
  have hl : lv_has ls 7 [(0, .ref (a 0)), (1, .int p1), (2, .int p2), (3, .int p3)] := hl
  refine lv_iload_n hx hb dX0_lay_0 rfl (lv_at hl 1 rfl) ?_
  refine lv_iconst (v := 1) hx hb dX0_lay_1 (by decide) ?_
  refine lv_icmp_lt (tgt := 11) hx hb dX0_lay_2 (by decide) (fun c_2 => ?_) (fun c_2 => ?_)
  · have hw : sl_lay rd wr ay ia mo wo so si mi wi ns p1 p2 p3 = .inr xIA := by unfold sl_lay; rw [if_pos c_2]; (try rfl)
    exact absurd (hw.symm.trans hok) (by intro h9; cases h9)
  · refine lv_iload_n hx hb dX0_lay_5 rfl (lv_at hl 1 rfl) ?_
    refine lv_bipush (v := 12) hx hb dX0_lay_6 (by decide) ?_
    refine lv_icmp_le (tgt := 21) hx hb dX0_lay_8 (by decide) (fun c_8 => ?_) (fun c_8 => ?_)
    · refine lv_iload_n hx hb dX0_lay_21 rfl (lv_at hl 2 rfl) ?_
      refine lv_if_lt (tgt := 29) hx hb dX0_lay_22 (by decide) (fun c_22 => ?_) (fun c_22 => ?_)
      · have hw : sl_lay rd wr ay ia mo wo so si mi wi ns p1 p2 p3 = .inr xIA := by unfold sl_lay; rw [if_neg c_2, if_pos c_8, if_pos c_22]; (try rfl)
        exact absurd (hw.symm.trans hok) (by intro h9; cases h9)
      · refine lv_iload_n hx hb dX0_lay_25 rfl (lv_at hl 3 rfl) ?_
        refine lv_if_ge (tgt := 39) hx hb dX0_lay_26 (by decide) (fun c_26 => ?_) (fun c_26 => ?_)
        · refine lv_aload_n hx hb dX0_lay_39 rfl (lv_at hl 0 rfl) ?_
          have hFc := va_free (wc := ws_sl a k rd wr ay ia mo wo so oi si mi wi ns nt nf np sl hs) hD hS hA [0, 1, 2, 3, 4, 5, 6, 7, 8, 9, 10, 11] rfl
          refine va_callv (va_runV (As := []) (rest := []) ⟨hx, hb, hml, hown, hg⟩ (cs_forgetStages l dC dI a k H.size rd wr ay ia mo wo so oi si mi wi ns nt nf np sl hs) (cwV 0 hg (gi_V w_77 w_79 s_0 w_1 w_80) rfl rfl rfl (by decide +kernel) ⟨Nat.le_of_ble_eq_true rfl, Nat.le_of_ble_eq_true rfl⟩) ⟨pr_bl, va_recv hK hP (ci := 0) (q0 := 0) rfl rfl, pr_ok hK hP hD⟩ rfl rfl hl.1 rfl (lv_room (Nat.le_of_ble_eq_true rfl)) dX0_lay_40 ⟨Nat.le_of_ble_eq_true rfl, Nat.le_of_ble_eq_true rfl⟩) hS (fun q _ h => hFc q h) hFc (fun u t H1 locs ht hvm hw_40 hB hz1 hk1 hS => ?_)
          obtain ⟨sl_40, hs_40⟩ := u
          obtain ⟨hP, hK1, hD1⟩ := hB
          rw [ht] at hP
          have hD := hD1.weaken (fun _ q _ h => hFc q.1 h)
          generalize H1 = H at hP hS ⊢
          have hP : va_P (dC, dI) vwCl (ws_sl a k rd wr ay ia mo wo so oi si mi wi ns nt nf np sl_40 hs_40) H := hP
          have hD : va_D A (ws_sl a k rd wr ay ia mo wo so oi si mi wi ns nt nf np sl_40 hs_40) := hD
          refine lv_aload_n hx hb dX0_lay_43 rfl (lv_at hl 0 rfl) ?_
          have hFc := va_free (wc := ws_sl a k rd wr ay ia mo wo so oi si mi wi ns nt nf np sl_40 hs_40) hD hS hA [0, 1, 2, 3, 4, 5, 6, 7, 8, 9, 10, 11] rfl
          refine va_callv (va_runV (As := []) (rest := []) ⟨hx, hb, hml, hown, hg⟩ (cs_emptyStages l dC dI a k H.size rd wr ay ia mo wo so oi si mi wi ns nt nf np sl_40 hs_40) (cwV 0 hg (gi_V w_316 w_318 s_5 w_1 w_319) rfl rfl rfl (by decide +kernel) ⟨Nat.le_of_ble_eq_true rfl, Nat.le_of_ble_eq_true rfl⟩) ⟨pr_bl, va_recv hK hP (ci := 0) (q0 := 0) rfl rfl, pr_ok hK hP hD⟩ rfl rfl hl.1 rfl (lv_room (Nat.le_of_ble_eq_true rfl)) dX0_lay_44 ⟨Nat.le_of_ble_eq_true rfl, Nat.le_of_ble_eq_true rfl⟩) hS (fun q _ h => hFc q h) hFc (fun u t H1 locs ht hvm hw_44 hB hz1 hk1 hS => ?_)
          obtain ⟨si_44, mi_44, wi_44⟩ := u
          obtain ⟨hP, hK1, hD1⟩ := hB
          rw [ht] at hP
          have hD := hD1.weaken (fun _ q _ h => hFc q.1 h)
          generalize H1 = H at hP hS ⊢
          have hP : va_P (dC, dI) vwCl (ws_sl a k rd wr ay ia mo wo so oi si_44 mi_44 wi_44 ns nt nf np sl_40 hs_40) H := hP
          have hD : va_D A (ws_sl a k rd wr ay ia mo wo so oi si_44 mi_44 wi_44 ns nt nf np sl_40 hs_40) := hD
          refine lv_iconst (v := 1) hx hb dX0_lay_47 (by decide) ?_
          refine lv_istore (lv' := [(4, .int 1), (0, .ref (a 0)), (1, .int p1), (2, .int p2), (3, .int p3)]) hx hb dX0_lay_48 hl (by decide) rfl (fun ls hl => ?_)
          refine lv_iconst (v := 0) hx hb dX0_lay_50 (by decide) ?_
          refine lv_istore (lv' := [(5, .int 0), (4, .int 1), (0, .ref (a 0)), (1, .int p1), (2, .int p2), (3, .int p3)]) hx hb dX0_lay_51 hl (by decide) rfl (fun ls hl => ?_)
          refine cs_lay_L53 rd wr ay ia mo wo so oi si_44 mi_44 wi_44 ns nt nf np sl_40 hs_40 p1 p2 p3 hx hb hml hown hg hA hK (⟨ge1 c_2, le_ofle c_8 (by decide)⟩) 49 1 0 so si_44 mi_44 wi_44 hs_40 H locs ls (⟨cnt_0 hns.1 (by have := hns.2; omega), fun j h => absurd h (Nat.not_lt_zero j)⟩) hP hD hS (lv_sub hl [2, 3, 4, 5, 1, 0] rfl) (fun x4_o53 so_o53 si_o53 mi_o53 wi_o53 hs_o53 hw_53 H locs ls hP hD hS hl => ?_) (fun r0_o53 so_o53 si_o53 mi_o53 wi_o53 hs_o53 hw_53 H locs ls hP hD hS hl => ?_)
          · refine lv_aload_n hx hb dX0_lay_112 rfl (lv_at hl 0 rfl) ?_
            refine lv_iload hx hb dX0_lay_113 (lv_at hl 4 rfl) ?_
            refine va_put (D := (dC, dI)) (ci := 0) (v := .int x4_o53) (ty := .int) (C := RX0) (T := TX0) (N := 17) hx hb hg inX0 tyX0 tyX0_ok nmX0 hown hK hP hD hS 0 rfl rfl 15 (by decide) (hg _ w_34) (fun _ h9 => h9) rfl (by decide +kernel) rfl rfl (Nat.le_of_ble_eq_true rfl) dX0_lay_115 (fun H locs hP hD hS => ?_)
            have hP : va_P (dC, dI) vwCl (ws_sl a k rd wr ay ia mo wo so_o53 oi si_o53 mi_o53 wi_o53 ns nt nf np x4_o53 hs_o53) H := hP
            have hD : va_D A (ws_sl a k rd wr ay ia mo wo so_o53 oi si_o53 mi_o53 wi_o53 ns nt nf np x4_o53 hs_o53) := hD
            refine lv_iload hx hb dX0_lay_118 (lv_at hl 4 rfl) ?_
            have hw : sl_lay rd wr ay ia mo wo so si mi wi ns p1 p2 p3 = .inl (x4_o53, so_o53, si_o53, mi_o53, wi_o53, x4_o53, hs_o53) := by unfold sl_lay; rw [if_neg c_2, if_pos c_8, if_neg c_22, if_pos c_26, hw_40]; (try dsimp only); rw [hw_44]; (try dsimp only); rw [hw_53]; (try dsimp only); (try rfl)
            have he := Sum.inl.inj (hok.symm.trans hw)
            simp only [Prod.mk.injEq] at he
            obtain ⟨e0, e1, e2, e3, e4, e5, e6⟩ := he
            exact W.iret (v := x4_o53) hx hb hr (fun t ht hW => ⟨⟨x4_o53, (), rfl, e0.symm, ⟨by rw [ht, e1, e2, e3, e4, e5, e6]; exact hP, va_K.moved hW.alike hK, by rw [e1, e2, e3, e4, e5, e6]; exact hD⟩⟩, hS.F ht⟩) hS.2.2 dX0_lay_120
          · have hw : sl_lay rd wr ay ia mo wo so si mi wi ns p1 p2 p3 = .inl (r0_o53, so_o53, si_o53, mi_o53, wi_o53, sl_40, hs_o53) := by unfold sl_lay; rw [if_neg c_2, if_pos c_8, if_neg c_22, if_pos c_26, hw_40]; (try dsimp only); rw [hw_44]; (try dsimp only); rw [hw_53]; (try dsimp only); (try rfl)
            have he := Sum.inl.inj (hok.symm.trans hw)
            simp only [Prod.mk.injEq] at he
            obtain ⟨e0, e1, e2, e3, e4, e5, e6⟩ := he
            exact W.iret (v := r0_o53) hx hb hr (fun t ht hW => ⟨⟨r0_o53, (), rfl, e0.symm, ⟨by rw [ht, e1, e2, e3, e4, e5, e6]; exact hP, va_K.moved hW.alike hK, by rw [e1, e2, e3, e4, e5, e6]; exact hD⟩⟩, hS.F ht⟩) hS.2.2 dX0_lay_86
        · have hw : sl_lay rd wr ay ia mo wo so si mi wi ns p1 p2 p3 = .inr xIA := by unfold sl_lay; rw [if_neg c_2, if_pos c_8, if_neg c_22, if_neg c_26]; (try rfl)
          exact absurd (hw.symm.trans hok) (by intro h9; cases h9)
    · have hw : sl_lay rd wr ay ia mo wo so si mi wi ns p1 p2 p3 = .inr xIA := by unfold sl_lay; rw [if_neg c_2, if_neg c_8]; (try rfl)
      exact absurd (hw.symm.trans hok) (by intro h9; cases h9)
set_option maxHeartbeats 4000000 in
set_option maxRecDepth 100000 in
theorem cs_lay_x (l : Launch) (hl9 : l.stackTraces = false) (dC : Nat → ClassId) (dI : Nat → Nat → Nat) (a : Nat → Nat) (k : Nat → ClassId) (sx : Nat → Nat) (sz : Nat) (rd wr : Nat → Int64) (ay ia mo wo so oi si mi wi : Nat → Int32) (ns nt nf np sl hs : Int32) (p1 p2 p3 : Int32) (E9 : String) (hno : sl_lay rd wr ay ia mo wo so si mi wi ns p1 p2 p3 = .inr E9) (hns : 0 ≤ ns.toInt ∧ ns.toInt ≤ 48) : vx_Met l yX0_lay wsX0_lay ({ frames := 6, cells := 1, slots := 6, locals := 82 } : Room) (va_Pc [.ref (a 0), .int p1, .int p2, .int p3] (prx (dC, dI) (ws_sl a k rd wr ay ia mo wo so oi si mi wi ns nt nf np sl hs) (ty_sl k) sz sx)) (va_Qi (fun (_ : Int32) (_ : Unit) => False) (fun (_ : Unit) _ => True) (va_A (ws_sl a k rd wr ay ia mo wo so oi si mi wi ns nt nf np sl hs) sz)) (vx_X (fun _ : Unit => True) (fun E _ t => E = E9 ∧ po (dC, dI) (ws_sl a k rd wr ay ia mo wo so oi si mi wi ns nt nf np sl hs) (ty_sl k) (va_A (ws_sl a k rd wr ay ia mo wo so oi si mi wi ns nt nf np sl hs) sz) t) (va_A (ws_sl a k rd wr ay ia mo wo so oi si mi wi ns nt nf np sl hs) sz)) 1 6 (va_A (ws_sl a k rd wr ay ia mo wo so oi si mi wi ns nt nf np sl hs) sz) := by
  refine vx_ofW (cc := cX0_lay) (maxL := 7) (ret := (some .int)) (by decide) rfl ?_
  intro p e s m args below meth c s₁ B hml hEx hv
  obtain ⟨rfl, ⟨hsz, hP, hK, hD0⟩, hX9⟩ := hv
  have hx := B.exec
  have hb := B.bytes
  have hr := B.returns
  have hts := atoms_spec (ws := wsX0_lay) B.pre
  have hg : ∀ w ∈ gw, w.before _ s = true := fun w h => hts w (List.mem_cons_of_mem _ h)
  have hown : s.vm.findClass RX0 = some m.cls := findClass_of_methodNamed B.named
  have hlocks := B.notSynchronized
  subst hsz
  have hD := hD0.self (sz := s.heap.size)
  generalize hAe : va_A (ws_sl a k rd wr ay ia mo wo so oi si mi wi ns nt nf np sl hs) s.heap.size = A at hD hX9 ⊢
  have hA : ∀ q : Nat, s.heap.size ≤ q → A q := fun q h => by rw [← hAe]; exact Or.inr h
  clear hAe
  refine w_in (fun H locs eH eL => ?_)
  have hS : va_S A s.heap H locs := by rw [eH, eL]; exact va_S.rf
  have hP : va_P (dC, dI) vwCl (ws_sl a k rd wr ay ia mo wo so oi si mi wi ns nt nf np sl hs) H := by rw [eH]; exact hP
  clear eH eL
  have hl := lv_entry ([.ref (a 0), .int p1, .int p2, .int p3]) (n := 7) (Nat.le_of_ble_eq_true rfl)
  rw [lg_entry_eq]
  generalize (lg_sl ([.ref (a 0), .int p1, .int p2, .int p3]) ++ List.replicate (7 - (lg_sl ([.ref (a 0), .int p1, .int p2, .int p3])).length) Slot.unset).toArray = ls at hl ⊢
  have hl : lv_has ls 7 [(0, .ref (a 0)), (1, .int p1), (2, .int p2), (3, .int p3)] := hl
  refine lv_iload_n hx hb dX0_lay_0 rfl (lv_at hl 1 rfl) ?_
  refine lv_iconst (v := 1) hx hb dX0_lay_1 (by decide) ?_
  refine lv_icmp_lt (tgt := 11) hx hb dX0_lay_2 (by decide) (fun c_2 => ?_) (fun c_2 => ?_)
  · have hw : sl_lay rd wr ay ia mo wo so si mi wi ns p1 p2 p3 = .inr xIA := by unfold sl_lay; rw [if_pos c_2]; (try rfl)
    have he := Sum.inr.inj (hno.symm.trans hw)
    exact vx_throwS (own := RX0) (cls := "java/lang/IllegalArgumentException") (names := ["java/lang/RuntimeException", "java/lang/Exception"]) hx hb hl9 hown (by decide +kernel) (by decide +kernel) (hg _ w_289) (hg _ w_10) (hX9.2.2.1 (126, "stages are not 1 to 12") (by decide +kernel)) (hat_xIA_117 hg hX9) (by decide +kernel) hX9.1 hX9.2.1 hS (hl.1.trans hml.symm) dX0_lay_11 dX0_lay_14 dX0_lay_15 dX0_lay_17 dX0_lay_20 (fun x hx => (hEx x hx).elim) (Nat.le_of_ble_eq_true rfl) (Nat.le_of_ble_eq_true rfl) (Nat.le_of_ble_eq_true rfl) (Nat.le_of_ble_eq_true rfl) hlocks (fun t ha hsz hk => ⟨(), trivial, ⟨he.symm, hP.kept (fun k q hq => hk q.1 (hP k q hq).lt), va_K.moved ha hK, hD⟩, Nat.le_trans hS.1 hsz, fun q h1 h2 => (hk q (Nat.lt_of_lt_of_le h1 hS.1)).trans (hS.2.1 q h1 h2)⟩) hS.2.2 (Nat.le_of_ble_eq_true rfl) (Nat.le_of_ble_eq_true rfl)
  · refine lv_iload_n hx hb dX0_lay_5 rfl (lv_at hl 1 rfl) ?_
    refine lv_bipush (v := 12) hx hb dX0_lay_6 (by decide) ?_
    refine lv_icmp_le (tgt := 21) hx hb dX0_lay_8 (by decide) (fun c_8 => ?_) (fun c_8 => ?_)
    · refine lv_iload_n hx hb dX0_lay_21 rfl (lv_at hl 2 rfl) ?_
      refine lv_if_lt (tgt := 29) hx hb dX0_lay_22 (by decide) (fun c_22 => ?_) (fun c_22 => ?_)
      · have hw : sl_lay rd wr ay ia mo wo so si mi wi ns p1 p2 p3 = .inr xIA := by unfold sl_lay; rw [if_neg c_2, if_pos c_8, if_pos c_22]; (try rfl)
        have he := Sum.inr.inj (hno.symm.trans hw)
        exact vx_throwS (own := RX0) (cls := "java/lang/IllegalArgumentException") (names := ["java/lang/RuntimeException", "java/lang/Exception"]) hx hb hl9 hown (by decide +kernel) (by decide +kernel) (hg _ w_289) (hg _ w_10) (hX9.2.2.1 (128, "memory or wires below 0") (by decide +kernel)) (hat_xIA_117 hg hX9) (by decide +kernel) hX9.1 hX9.2.1 hS (hl.1.trans hml.symm) dX0_lay_29 dX0_lay_32 dX0_lay_33 dX0_lay_35 dX0_lay_38 (fun x hx => (hEx x hx).elim) (Nat.le_of_ble_eq_true rfl) (Nat.le_of_ble_eq_true rfl) (Nat.le_of_ble_eq_true rfl) (Nat.le_of_ble_eq_true rfl) hlocks (fun t ha hsz hk => ⟨(), trivial, ⟨he.symm, hP.kept (fun k q hq => hk q.1 (hP k q hq).lt), va_K.moved ha hK, hD⟩, Nat.le_trans hS.1 hsz, fun q h1 h2 => (hk q (Nat.lt_of_lt_of_le h1 hS.1)).trans (hS.2.1 q h1 h2)⟩) hS.2.2 (Nat.le_of_ble_eq_true rfl) (Nat.le_of_ble_eq_true rfl)
      · refine lv_iload_n hx hb dX0_lay_25 rfl (lv_at hl 3 rfl) ?_
        refine lv_if_ge (tgt := 39) hx hb dX0_lay_26 (by decide) (fun c_26 => ?_) (fun c_26 => ?_)
        · exfalso
          have h9 := hno
          unfold sl_lay at h9
          rw [if_neg c_2, if_pos c_8, if_neg c_22, if_pos c_26] at h9
          first | (cases h9; done) | ((repeat' split at h9) <;> cases h9)
        · have hw : sl_lay rd wr ay ia mo wo so si mi wi ns p1 p2 p3 = .inr xIA := by unfold sl_lay; rw [if_neg c_2, if_pos c_8, if_neg c_22, if_neg c_26]; (try rfl)
          have he := Sum.inr.inj (hno.symm.trans hw)
          exact vx_throwS (own := RX0) (cls := "java/lang/IllegalArgumentException") (names := ["java/lang/RuntimeException", "java/lang/Exception"]) hx hb hl9 hown (by decide +kernel) (by decide +kernel) (hg _ w_289) (hg _ w_10) (hX9.2.2.1 (128, "memory or wires below 0") (by decide +kernel)) (hat_xIA_117 hg hX9) (by decide +kernel) hX9.1 hX9.2.1 hS (hl.1.trans hml.symm) dX0_lay_29 dX0_lay_32 dX0_lay_33 dX0_lay_35 dX0_lay_38 (fun x hx => (hEx x hx).elim) (Nat.le_of_ble_eq_true rfl) (Nat.le_of_ble_eq_true rfl) (Nat.le_of_ble_eq_true rfl) (Nat.le_of_ble_eq_true rfl) hlocks (fun t ha hsz hk => ⟨(), trivial, ⟨he.symm, hP.kept (fun k q hq => hk q.1 (hP k q hq).lt), va_K.moved ha hK, hD⟩, Nat.le_trans hS.1 hsz, fun q h1 h2 => (hk q (Nat.lt_of_lt_of_le h1 hS.1)).trans (hS.2.1 q h1 h2)⟩) hS.2.2 (Nat.le_of_ble_eq_true rfl) (Nat.le_of_ble_eq_true rfl)
    · have hw : sl_lay rd wr ay ia mo wo so si mi wi ns p1 p2 p3 = .inr xIA := by unfold sl_lay; rw [if_neg c_2, if_neg c_8]; (try rfl)
      have he := Sum.inr.inj (hno.symm.trans hw)
      exact vx_throwS (own := RX0) (cls := "java/lang/IllegalArgumentException") (names := ["java/lang/RuntimeException", "java/lang/Exception"]) hx hb hl9 hown (by decide +kernel) (by decide +kernel) (hg _ w_289) (hg _ w_10) (hX9.2.2.1 (126, "stages are not 1 to 12") (by decide +kernel)) (hat_xIA_117 hg hX9) (by decide +kernel) hX9.1 hX9.2.1 hS (hl.1.trans hml.symm) dX0_lay_11 dX0_lay_14 dX0_lay_15 dX0_lay_17 dX0_lay_20 (fun x hx => (hEx x hx).elim) (Nat.le_of_ble_eq_true rfl) (Nat.le_of_ble_eq_true rfl) (Nat.le_of_ble_eq_true rfl) (Nat.le_of_ble_eq_true rfl) hlocks (fun t ha hsz hk => ⟨(), trivial, ⟨he.symm, hP.kept (fun k q hq => hk q.1 (hP k q hq).lt), va_K.moved ha hK, hD⟩, Nat.le_trans hS.1 hsz, fun q h1 h2 => (hk q (Nat.lt_of_lt_of_le h1 hS.1)).trans (hS.2.1 q h1 h2)⟩) hS.2.2 (Nat.le_of_ble_eq_true rfl) (Nat.le_of_ble_eq_true rfl)
set_option maxHeartbeats 4000000 in
set_option maxRecDepth 100000 in
theorem cs_homeless (l : Launch) (dC : Nat → ClassId) (dI : Nat → Nat → Nat) (a : Nat → Nat) (k : Nat → ClassId) (sz : Nat) (rd wr : Nat → Int64) (ay ia mo wo so oi si mi wi : Nat → Int32) (ns nt nf np sl hs : Int32)  : Met l yX0_homeless wsX0_homeless ({ frames := 0, cells := 0, slots := 0, locals := 0 } : Room) (va_Pc [.ref (a 0)] (pr (dC, dI) (ws_sl a k rd wr ay ia mo wo so oi si mi wi ns nt nf np sl hs) (ty_sl k) sz)) (va_Qi (fun (r : Int32) (_ : Unit) => r = sl_homeless hs) (fun (_ : Unit) t => po (dC, dI) (ws_sl a k rd wr ay ia mo wo so oi si mi wi ns nt nf np sl hs) (ty_sl k) (va_A (ws_sl a k rd wr ay ia mo wo so oi si mi wi ns nt nf np sl hs) sz) t) (va_A (ws_sl a k rd wr ay ia mo wo so oi si mi wi ns nt nf np sl hs) sz)) 0 0 (va_A (ws_sl a k rd wr ay ia mo wo so oi si mi wi ns nt nf np sl hs) sz) := by
  refine Met.ofW (cc := cX0_homeless) (maxL := 1) (ret := (some .int)) (by decide) rfl ?_
  intro p e s m args below meth c s₁ B hml hv
  obtain ⟨rfl, hsz, hP, hK, hD0⟩ := hv
  have hx := B.exec
  have hb := B.bytes
  have hr := B.returns
  have hts := atoms_spec (ws := wsX0_homeless) B.pre
  have hg : ∀ w ∈ gw, w.before _ s = true := fun w h => hts w (List.mem_cons_of_mem _ h)
  have hown : s.vm.findClass RX0 = some m.cls := findClass_of_methodNamed B.named
  have hlocks := B.notSynchronized
  subst hsz
  have hD := hD0.self (sz := s.heap.size)
  generalize hAe : va_A (ws_sl a k rd wr ay ia mo wo so oi si mi wi ns nt nf np sl hs) s.heap.size = A at hD ⊢
  have hA : ∀ q : Nat, s.heap.size ≤ q → A q := fun q h => by rw [← hAe]; exact Or.inr h
  clear hAe
  refine w_in (fun H locs eH eL => ?_)
  have hS : va_S A s.heap H locs := by rw [eH, eL]; exact va_S.rf
  have hP : va_P (dC, dI) vwCl (ws_sl a k rd wr ay ia mo wo so oi si mi wi ns nt nf np sl hs) H := by rw [eH]; exact hP
  clear eH eL
  have hl := lv_entry ([.ref (a 0)]) (n := 1) (Nat.le_of_ble_eq_true rfl)
  rw [lg_entry_eq]
  generalize (lg_sl ([.ref (a 0)]) ++ List.replicate (1 - (lg_sl ([.ref (a 0)])).length) Slot.unset).toArray = ls at hl ⊢
  have hl : lv_has ls 1 [(0, .ref (a 0))] := hl
  refine lv_aload_n hx hb dX0_homeless_0 rfl (lv_at hl 0 rfl) ?_
  refine va_get (D := (dC, dI)) (ci := 0) (v := .int hs) (C := RX0) (T := TX0) (N := 17) hx hb hg inX0 hown hK hP 0 rfl rfl 16 (by decide) (hg _ w_35) (fun _ h9 => h9) rfl dX0_homeless_1 ?_
  have hw : hs = sl_homeless hs := rfl
  exact W.iret (v := hs) hx hb hr (fun t ht hW => ⟨⟨hs, (), rfl, hw, ⟨by rw [ht]; exact hP, va_K.moved hW.alike hK, hD⟩⟩, hS.F ht⟩) hS.2.2 dX0_homeless_4
set_option maxHeartbeats 4000000 in
set_option maxRecDepth 100000 in
theorem cs_stage (l : Launch) (dC : Nat → ClassId) (dI : Nat → Nat → Nat) (a : Nat → Nat) (k : Nat → ClassId) (sz : Nat) (rd wr : Nat → Int64) (ay ia mo wo so oi si mi wi : Nat → Int32) (ns nt nf np sl hs : Int32) (p1 : Int32) : Met l yX0_stage wsX0_stage ({ frames := 0, cells := 0, slots := 0, locals := 0 } : Room) (va_Pc [.ref (a 0), .int p1] (pr (dC, dI) (ws_sl a k rd wr ay ia mo wo so oi si mi wi ns nt nf np sl hs) (ty_sl k) sz)) (va_Qi (fun (r : Int32) (_ : Unit) => r = sl_stage so ns sl p1) (fun (_ : Unit) t => po (dC, dI) (ws_sl a k rd wr ay ia mo wo so oi si mi wi ns nt nf np sl hs) (ty_sl k) (va_A (ws_sl a k rd wr ay ia mo wo so oi si mi wi ns nt nf np sl hs) sz) t) (va_A (ws_sl a k rd wr ay ia mo wo so oi si mi wi ns nt nf np sl hs) sz)) 0 0 (va_A (ws_sl a k rd wr ay ia mo wo so oi si mi wi ns nt nf np sl hs) sz) := by
  refine Met.ofW (cc := cX0_stage) (maxL := 2) (ret := (some .int)) (by decide) rfl ?_
  intro p e s m args below meth c s₁ B hml hv
  obtain ⟨rfl, hsz, hP, hK, hD0⟩ := hv
  have hx := B.exec
  have hb := B.bytes
  have hr := B.returns
  have hts := atoms_spec (ws := wsX0_stage) B.pre
  have hg : ∀ w ∈ gw, w.before _ s = true := fun w h => hts w (List.mem_cons_of_mem _ h)
  have hown : s.vm.findClass RX0 = some m.cls := findClass_of_methodNamed B.named
  have hlocks := B.notSynchronized
  subst hsz
  have hD := hD0.self (sz := s.heap.size)
  generalize hAe : va_A (ws_sl a k rd wr ay ia mo wo so oi si mi wi ns nt nf np sl hs) s.heap.size = A at hD ⊢
  have hA : ∀ q : Nat, s.heap.size ≤ q → A q := fun q h => by rw [← hAe]; exact Or.inr h
  clear hAe
  refine w_in (fun H locs eH eL => ?_)
  have hS : va_S A s.heap H locs := by rw [eH, eL]; exact va_S.rf
  have hP : va_P (dC, dI) vwCl (ws_sl a k rd wr ay ia mo wo so oi si mi wi ns nt nf np sl hs) H := by rw [eH]; exact hP
  clear eH eL
  have hl := lv_entry ([.ref (a 0), .int p1]) (n := 2) (Nat.le_of_ble_eq_true rfl)
  rw [lg_entry_eq]
  generalize (lg_sl ([.ref (a 0), .int p1]) ++ List.replicate (2 - (lg_sl ([.ref (a 0), .int p1])).length) Slot.unset).toArray = ls at hl ⊢
  have hl : lv_has ls 2 [(0, .ref (a 0)), (1, .int p1)] := hl
  refine lv_aload_n hx hb dX0_stage_0 rfl (lv_at hl 0 rfl) ?_
  refine va_get (D := (dC, dI)) (ci := 0) (v := .int sl) (C := RX0) (T := TX0) (N := 17) hx hb hg inX0 hown hK hP 0 rfl rfl 15 (by decide) (hg _ w_34) (fun _ h9 => h9) rfl dX0_stage_1 ?_
  refine lv_if_eq (tgt := 25) hx hb dX0_stage_4 (by decide) (fun c_4 => ?_) (fun c_4 => ?_)
  · refine lv_iconst (v := (-1)) hx hb dX0_stage_25 (by decide) ?_
    have hw : (-1) = sl_stage so ns sl p1 := by unfold sl_stage; rw [if_pos c_4]; (try rfl)
    exact W.iret (v := (-1)) hx hb hr (fun t ht hW => ⟨⟨(-1), (), rfl, hw, ⟨by rw [ht]; exact hP, va_K.moved hW.alike hK, hD⟩⟩, hS.F ht⟩) hS.2.2 dX0_stage_26
  · refine lv_iload_n hx hb dX0_stage_7 rfl (lv_at hl 1 rfl) ?_
    refine lv_if_lt (tgt := 25) hx hb dX0_stage_8 (by decide) (fun c_8 => ?_) (fun c_8 => ?_)
    · refine lv_iconst (v := (-1)) hx hb dX0_stage_25 (by decide) ?_
      have hw : (-1) = sl_stage so ns sl p1 := by unfold sl_stage; rw [if_neg c_4, if_pos c_8]; (try rfl)
      exact W.iret (v := (-1)) hx hb hr (fun t ht hW => ⟨⟨(-1), (), rfl, hw, ⟨by rw [ht]; exact hP, va_K.moved hW.alike hK, hD⟩⟩, hS.F ht⟩) hS.2.2 dX0_stage_26
    · refine lv_iload_n hx hb dX0_stage_11 rfl (lv_at hl 1 rfl) ?_
      refine lv_aload_n hx hb dX0_stage_12 rfl (lv_at hl 0 rfl) ?_
      refine va_get (D := (dC, dI)) (ci := 0) (v := .int ns) (C := RX0) (T := TX0) (N := 17) hx hb hg inX0 hown hK hP 0 rfl rfl 11 (by decide) (hg _ w_30) (fun _ h9 => h9) rfl dX0_stage_13 ?_
      refine lv_icmp_ge (tgt := 25) hx hb dX0_stage_16 (by decide) (fun c_16 => ?_) (fun c_16 => ?_)
      · refine lv_iconst (v := (-1)) hx hb dX0_stage_25 (by decide) ?_
        have hw : (-1) = sl_stage so ns sl p1 := by unfold sl_stage; rw [if_neg c_4, if_neg c_8, if_pos c_16]; (try rfl)
        exact W.iret (v := (-1)) hx hb hr (fun t ht hW => ⟨⟨(-1), (), rfl, hw, ⟨by rw [ht]; exact hP, va_K.moved hW.alike hK, hD⟩⟩, hS.F ht⟩) hS.2.2 dX0_stage_26
      · refine lv_iload_n hx hb dX0_stage_19 rfl (lv_at hl 1 rfl) ?_
        refine lv_bipush (v := 48) hx hb dX0_stage_20 (by decide) ?_
        refine lv_icmp_lt (tgt := 27) hx hb dX0_stage_22 (by decide) (fun c_22 => ?_) (fun c_22 => ?_)
        · refine lv_aload_n hx hb dX0_stage_27 rfl (lv_at hl 0 rfl) ?_
          refine va_get (D := (dC, dI)) (ci := 0) (v := .ref (a 7)) (C := RX0) (T := TX0) (N := 17) hx hb hg inX0 hown hK hP 0 rfl rfl 6 (by decide) (hg _ w_25) (fun _ h9 => h9) rfl dX0_stage_28 ?_
          refine lv_iload_n hx hb dX0_stage_31 rfl (lv_at hl 1 rfl) ?_
          refine va_iald hx hb hK hP 7 6 rfl rfl (ix_lt c_8 c_22 (by decide)) dX0_stage_32 ?_
          have hw : (so p1.toNatClampNeg) = sl_stage so ns sl p1 := by unfold sl_stage; rw [if_neg c_4, if_neg c_8, if_neg c_16, if_pos c_22]; (try rfl)
          exact W.iret (v := so p1.toNatClampNeg) hx hb hr (fun t ht hW => ⟨⟨(so p1.toNatClampNeg), (), rfl, hw, ⟨by rw [ht]; exact hP, va_K.moved hW.alike hK, hD⟩⟩, hS.F ht⟩) hS.2.2 dX0_stage_33
        · refine lv_iconst (v := (-1)) hx hb dX0_stage_25 (by decide) ?_
          have hw : (-1) = sl_stage so ns sl p1 := by unfold sl_stage; rw [if_neg c_4, if_neg c_8, if_neg c_16, if_neg c_22]; (try rfl)
          exact W.iret (v := (-1)) hx hb hr (fun t ht hW => ⟨⟨(-1), (), rfl, hw, ⟨by rw [ht]; exact hP, va_K.moved hW.alike hK, hD⟩⟩, hS.F ht⟩) hS.2.2 dX0_stage_26
set_option maxHeartbeats 4000000 in
set_option maxRecDepth 100000 in
theorem cs_used (l : Launch) (dC : Nat → ClassId) (dI : Nat → Nat → Nat) (a : Nat → Nat) (k : Nat → ClassId) (sz : Nat) (rd wr : Nat → Int64) (ay ia mo wo so oi si mi wi : Nat → Int32) (ns nt nf np sl hs : Int32) (p1 p2 : Int32) : Met l yX0_used wsX0_used ({ frames := 0, cells := 0, slots := 0, locals := 0 } : Room) (va_Pc [.ref (a 0), .int p1, .int p2] (pr (dC, dI) (ws_sl a k rd wr ay ia mo wo so oi si mi wi ns nt nf np sl hs) (ty_sl k) sz)) (va_Qi (fun (r : Int32) (_ : Unit) => r = sl_used si mi wi sl p1 p2) (fun (_ : Unit) t => po (dC, dI) (ws_sl a k rd wr ay ia mo wo so oi si mi wi ns nt nf np sl hs) (ty_sl k) (va_A (ws_sl a k rd wr ay ia mo wo so oi si mi wi ns nt nf np sl hs) sz) t) (va_A (ws_sl a k rd wr ay ia mo wo so oi si mi wi ns nt nf np sl hs) sz)) 0 0 (va_A (ws_sl a k rd wr ay ia mo wo so oi si mi wi ns nt nf np sl hs) sz) := by
  refine Met.ofW (cc := cX0_used) (maxL := 3) (ret := (some .int)) (by decide) rfl ?_
  intro p e s m args below meth c s₁ B hml hv
  obtain ⟨rfl, hsz, hP, hK, hD0⟩ := hv
  have hx := B.exec
  have hb := B.bytes
  have hr := B.returns
  have hts := atoms_spec (ws := wsX0_used) B.pre
  have hg : ∀ w ∈ gw, w.before _ s = true := fun w h => hts w (List.mem_cons_of_mem _ h)
  have hown : s.vm.findClass RX0 = some m.cls := findClass_of_methodNamed B.named
  have hlocks := B.notSynchronized
  subst hsz
  have hD := hD0.self (sz := s.heap.size)
  generalize hAe : va_A (ws_sl a k rd wr ay ia mo wo so oi si mi wi ns nt nf np sl hs) s.heap.size = A at hD ⊢
  have hA : ∀ q : Nat, s.heap.size ≤ q → A q := fun q h => by rw [← hAe]; exact Or.inr h
  clear hAe
  refine w_in (fun H locs eH eL => ?_)
  have hS : va_S A s.heap H locs := by rw [eH, eL]; exact va_S.rf
  have hP : va_P (dC, dI) vwCl (ws_sl a k rd wr ay ia mo wo so oi si mi wi ns nt nf np sl hs) H := by rw [eH]; exact hP
  clear eH eL
  have hl := lv_entry ([.ref (a 0), .int p1, .int p2]) (n := 3) (Nat.le_of_ble_eq_true rfl)
  rw [lg_entry_eq]
  generalize (lg_sl ([.ref (a 0), .int p1, .int p2]) ++ List.replicate (3 - (lg_sl ([.ref (a 0), .int p1, .int p2])).length) Slot.unset).toArray = ls at hl ⊢
  have hl : lv_has ls 3 [(0, .ref (a 0)), (1, .int p1), (2, .int p2)] := hl
  refine lv_iload_n hx hb dX0_used_0 rfl (lv_at hl 1 rfl) ?_
  refine lv_if_lt (tgt := 18) hx hb dX0_used_1 (by decide) (fun c_1 => ?_) (fun c_1 => ?_)
  · refine lv_iconst (v := (-1)) hx hb dX0_used_18 (by decide) ?_
    have hw : (-1) = sl_used si mi wi sl p1 p2 := by unfold sl_used; rw [if_pos c_1]; (try rfl)
    exact W.iret (v := (-1)) hx hb hr (fun t ht hW => ⟨⟨(-1), (), rfl, hw, ⟨by rw [ht]; exact hP, va_K.moved hW.alike hK, hD⟩⟩, hS.F ht⟩) hS.2.2 dX0_used_19
  · refine lv_iload_n hx hb dX0_used_4 rfl (lv_at hl 1 rfl) ?_
    refine lv_aload_n hx hb dX0_used_5 rfl (lv_at hl 0 rfl) ?_
    refine va_get (D := (dC, dI)) (ci := 0) (v := .int sl) (C := RX0) (T := TX0) (N := 17) hx hb hg inX0 hown hK hP 0 rfl rfl 15 (by decide) (hg _ w_34) (fun _ h9 => h9) rfl dX0_used_6 ?_
    refine lv_icmp_ge (tgt := 18) hx hb dX0_used_9 (by decide) (fun c_9 => ?_) (fun c_9 => ?_)
    · refine lv_iconst (v := (-1)) hx hb dX0_used_18 (by decide) ?_
      have hw : (-1) = sl_used si mi wi sl p1 p2 := by unfold sl_used; rw [if_neg c_1, if_pos c_9]; (try rfl)
      exact W.iret (v := (-1)) hx hb hr (fun t ht hW => ⟨⟨(-1), (), rfl, hw, ⟨by rw [ht]; exact hP, va_K.moved hW.alike hK, hD⟩⟩, hS.F ht⟩) hS.2.2 dX0_used_19
    · refine lv_iload_n hx hb dX0_used_12 rfl (lv_at hl 1 rfl) ?_
      refine lv_bipush (v := 12) hx hb dX0_used_13 (by decide) ?_
      refine lv_icmp_lt (tgt := 20) hx hb dX0_used_15 (by decide) (fun c_15 => ?_) (fun c_15 => ?_)
      · refine lv_iload_n hx hb dX0_used_20 rfl (lv_at hl 2 rfl) ?_
        by_cases c_21_0 : p2 = 0
        · refine lv_tableIn (off := 27) (tgt := 48) hx hb dX0_used_21 (by rw [c_21_0]; decide) (by rw [c_21_0]; decide) (by rw [c_21_0]; rfl) (by decide) ?_
          refine lv_aload_n hx hb dX0_used_48 rfl (lv_at hl 0 rfl) ?_
          refine va_get (D := (dC, dI)) (ci := 0) (v := .ref (a 9)) (C := RX0) (T := TX0) (N := 17) hx hb hg inX0 hown hK hP 0 rfl rfl 8 (by decide) (hg _ w_27) (fun _ h9 => h9) rfl dX0_used_49 ?_
          refine lv_iload_n hx hb dX0_used_52 rfl (lv_at hl 1 rfl) ?_
          refine va_iald hx hb hK hP 9 8 rfl rfl (ix_lt c_1 c_15 (by decide)) dX0_used_53 ?_
          have hw : (si p1.toNatClampNeg) = sl_used si mi wi sl p1 p2 := by unfold sl_used; rw [if_neg c_1, if_neg c_9, if_pos c_15, if_pos c_21_0]; (try rfl)
          exact W.iret (v := si p1.toNatClampNeg) hx hb hr (fun t ht hW => ⟨⟨(si p1.toNatClampNeg), (), rfl, hw, ⟨by rw [ht]; exact hP, va_K.moved hW.alike hK, hD⟩⟩, hS.F ht⟩) hS.2.2 dX0_used_54
        · by_cases c_21_1 : p2 = 1
          · refine lv_tableIn (off := 34) (tgt := 55) hx hb dX0_used_21 (by rw [c_21_1]; decide) (by rw [c_21_1]; decide) (by rw [c_21_1]; rfl) (by decide) ?_
            refine lv_aload_n hx hb dX0_used_55 rfl (lv_at hl 0 rfl) ?_
            refine va_get (D := (dC, dI)) (ci := 0) (v := .ref (a 10)) (C := RX0) (T := TX0) (N := 17) hx hb hg inX0 hown hK hP 0 rfl rfl 9 (by decide) (hg _ w_28) (fun _ h9 => h9) rfl dX0_used_56 ?_
            refine lv_iload_n hx hb dX0_used_59 rfl (lv_at hl 1 rfl) ?_
            refine va_iald hx hb hK hP 10 9 rfl rfl (ix_lt c_1 c_15 (by decide)) dX0_used_60 ?_
            have hw : (mi p1.toNatClampNeg) = sl_used si mi wi sl p1 p2 := by unfold sl_used; rw [if_neg c_1, if_neg c_9, if_pos c_15, if_neg c_21_0, if_pos c_21_1]; (try rfl)
            exact W.iret (v := mi p1.toNatClampNeg) hx hb hr (fun t ht hW => ⟨⟨(mi p1.toNatClampNeg), (), rfl, hw, ⟨by rw [ht]; exact hP, va_K.moved hW.alike hK, hD⟩⟩, hS.F ht⟩) hS.2.2 dX0_used_61
          · by_cases c_21_2 : p2 = 2
            · refine lv_tableIn (off := 41) (tgt := 62) hx hb dX0_used_21 (by rw [c_21_2]; decide) (by rw [c_21_2]; decide) (by rw [c_21_2]; rfl) (by decide) ?_
              refine lv_aload_n hx hb dX0_used_62 rfl (lv_at hl 0 rfl) ?_
              refine va_get (D := (dC, dI)) (ci := 0) (v := .ref (a 11)) (C := RX0) (T := TX0) (N := 17) hx hb hg inX0 hown hK hP 0 rfl rfl 10 (by decide) (hg _ w_29) (fun _ h9 => h9) rfl dX0_used_63 ?_
              refine lv_iload_n hx hb dX0_used_66 rfl (lv_at hl 1 rfl) ?_
              refine va_iald hx hb hK hP 11 10 rfl rfl (ix_lt c_1 c_15 (by decide)) dX0_used_67 ?_
              have hw : (wi p1.toNatClampNeg) = sl_used si mi wi sl p1 p2 := by unfold sl_used; rw [if_neg c_1, if_neg c_9, if_pos c_15, if_neg c_21_0, if_neg c_21_1, if_pos c_21_2]; (try rfl)
              exact W.iret (v := wi p1.toNatClampNeg) hx hb hr (fun t ht hW => ⟨⟨(wi p1.toNatClampNeg), (), rfl, hw, ⟨by rw [ht]; exact hP, va_K.moved hW.alike hK, hD⟩⟩, hS.F ht⟩) hS.2.2 dX0_used_68
            · have nc_21_0 := lv_neT c_21_0 (a := 0) rfl
              have nc_21_1 := lv_neT c_21_1 (a := 1) rfl
              have nc_21_2 := lv_neT c_21_2 (a := 2) rfl
              refine lv_tableOut (tgt := 69) hx hb dX0_used_21 (by omega) (by decide) ?_
              refine lv_iconst (v := (-1)) hx hb dX0_used_69 (by decide) ?_
              have hw : (-1) = sl_used si mi wi sl p1 p2 := by unfold sl_used; rw [if_neg c_1, if_neg c_9, if_pos c_15, if_neg c_21_0, if_neg c_21_1, if_neg c_21_2]; (try rfl)
              exact W.iret (v := (-1)) hx hb hr (fun t ht hW => ⟨⟨(-1), (), rfl, hw, ⟨by rw [ht]; exact hP, va_K.moved hW.alike hK, hD⟩⟩, hS.F ht⟩) hS.2.2 dX0_used_70
      · refine lv_iconst (v := (-1)) hx hb dX0_used_18 (by decide) ?_
        have hw : (-1) = sl_used si mi wi sl p1 p2 := by unfold sl_used; rw [if_neg c_1, if_neg c_9, if_neg c_15]; (try rfl)
        exact W.iret (v := (-1)) hx hb hr (fun t ht hW => ⟨⟨(-1), (), rfl, hw, ⟨by rw [ht]; exact hP, va_K.moved hW.alike hK, hD⟩⟩, hS.F ht⟩) hS.2.2 dX0_used_19
set_option maxHeartbeats 4000000 in
set_option maxRecDepth 100000 in
theorem cs_count (l : Launch) (dC : Nat → ClassId) (dI : Nat → Nat → Nat) (a : Nat → Nat) (k : Nat → ClassId) (sz : Nat) (rd wr : Nat → Int64) (ay ia mo wo so oi si mi wi : Nat → Int32) (ns nt nf np sl hs : Int32) (p1 : Int32) : Met l yX0_count wsX0_count ({ frames := 0, cells := 0, slots := 0, locals := 0 } : Room) (va_Pc [.ref (a 0), .int p1] (pr (dC, dI) (ws_sl a k rd wr ay ia mo wo so oi si mi wi ns nt nf np sl hs) (ty_sl k) sz)) (va_Qi (fun (r : Int32) (_ : Unit) => r = sl_count ns nt nf p1) (fun (_ : Unit) t => po (dC, dI) (ws_sl a k rd wr ay ia mo wo so oi si mi wi ns nt nf np sl hs) (ty_sl k) (va_A (ws_sl a k rd wr ay ia mo wo so oi si mi wi ns nt nf np sl hs) sz) t) (va_A (ws_sl a k rd wr ay ia mo wo so oi si mi wi ns nt nf np sl hs) sz)) 0 0 (va_A (ws_sl a k rd wr ay ia mo wo so oi si mi wi ns nt nf np sl hs) sz) := by
  refine Met.ofW (cc := cX0_count) (maxL := 2) (ret := (some .int)) (by decide) rfl ?_
  intro p e s m args below meth c s₁ B hml hv
  obtain ⟨rfl, hsz, hP, hK, hD0⟩ := hv
  have hx := B.exec
  have hb := B.bytes
  have hr := B.returns
  have hts := atoms_spec (ws := wsX0_count) B.pre
  have hg : ∀ w ∈ gw, w.before _ s = true := fun w h => hts w (List.mem_cons_of_mem _ h)
  have hown : s.vm.findClass RX0 = some m.cls := findClass_of_methodNamed B.named
  have hlocks := B.notSynchronized
  subst hsz
  have hD := hD0.self (sz := s.heap.size)
  generalize hAe : va_A (ws_sl a k rd wr ay ia mo wo so oi si mi wi ns nt nf np sl hs) s.heap.size = A at hD ⊢
  have hA : ∀ q : Nat, s.heap.size ≤ q → A q := fun q h => by rw [← hAe]; exact Or.inr h
  clear hAe
  refine w_in (fun H locs eH eL => ?_)
  have hS : va_S A s.heap H locs := by rw [eH, eL]; exact va_S.rf
  have hP : va_P (dC, dI) vwCl (ws_sl a k rd wr ay ia mo wo so oi si mi wi ns nt nf np sl hs) H := by rw [eH]; exact hP
  clear eH eL
  have hl := lv_entry ([.ref (a 0), .int p1]) (n := 2) (Nat.le_of_ble_eq_true rfl)
  rw [lg_entry_eq]
  generalize (lg_sl ([.ref (a 0), .int p1]) ++ List.replicate (2 - (lg_sl ([.ref (a 0), .int p1])).length) Slot.unset).toArray = ls at hl ⊢
  have hl : lv_has ls 2 [(0, .ref (a 0)), (1, .int p1)] := hl
  refine lv_iload_n hx hb dX0_count_0 rfl (lv_at hl 1 rfl) ?_
  by_cases c_1_0 : p1 = 0
  · refine lv_tableIn (off := 27) (tgt := 28) hx hb dX0_count_1 (by rw [c_1_0]; decide) (by rw [c_1_0]; decide) (by rw [c_1_0]; rfl) (by decide) ?_
    refine lv_aload_n hx hb dX0_count_28 rfl (lv_at hl 0 rfl) ?_
    refine va_get (D := (dC, dI)) (ci := 0) (v := .int ns) (C := RX0) (T := TX0) (N := 17) hx hb hg inX0 hown hK hP 0 rfl rfl 11 (by decide) (hg _ w_30) (fun _ h9 => h9) rfl dX0_count_29 ?_
    have hw : ns = sl_count ns nt nf p1 := by unfold sl_count; rw [if_pos c_1_0]; (try rfl)
    exact W.iret (v := ns) hx hb hr (fun t ht hW => ⟨⟨ns, (), rfl, hw, ⟨by rw [ht]; exact hP, va_K.moved hW.alike hK, hD⟩⟩, hS.F ht⟩) hS.2.2 dX0_count_32
  · by_cases c_1_1 : p1 = 1
    · refine lv_tableIn (off := 32) (tgt := 33) hx hb dX0_count_1 (by rw [c_1_1]; decide) (by rw [c_1_1]; decide) (by rw [c_1_1]; rfl) (by decide) ?_
      refine lv_aload_n hx hb dX0_count_33 rfl (lv_at hl 0 rfl) ?_
      refine va_get (D := (dC, dI)) (ci := 0) (v := .int nt) (C := RX0) (T := TX0) (N := 17) hx hb hg inX0 hown hK hP 0 rfl rfl 12 (by decide) (hg _ w_31) (fun _ h9 => h9) rfl dX0_count_34 ?_
      have hw : nt = sl_count ns nt nf p1 := by unfold sl_count; rw [if_neg c_1_0, if_pos c_1_1]; (try rfl)
      exact W.iret (v := nt) hx hb hr (fun t ht hW => ⟨⟨nt, (), rfl, hw, ⟨by rw [ht]; exact hP, va_K.moved hW.alike hK, hD⟩⟩, hS.F ht⟩) hS.2.2 dX0_count_37
    · by_cases c_1_2 : p1 = 2
      · refine lv_tableIn (off := 37) (tgt := 38) hx hb dX0_count_1 (by rw [c_1_2]; decide) (by rw [c_1_2]; decide) (by rw [c_1_2]; rfl) (by decide) ?_
        refine lv_aload_n hx hb dX0_count_38 rfl (lv_at hl 0 rfl) ?_
        refine va_get (D := (dC, dI)) (ci := 0) (v := .int nf) (C := RX0) (T := TX0) (N := 17) hx hb hg inX0 hown hK hP 0 rfl rfl 13 (by decide) (hg _ w_32) (fun _ h9 => h9) rfl dX0_count_39 ?_
        have hw : nf = sl_count ns nt nf p1 := by unfold sl_count; rw [if_neg c_1_0, if_neg c_1_1, if_pos c_1_2]; (try rfl)
        exact W.iret (v := nf) hx hb hr (fun t ht hW => ⟨⟨nf, (), rfl, hw, ⟨by rw [ht]; exact hP, va_K.moved hW.alike hK, hD⟩⟩, hS.F ht⟩) hS.2.2 dX0_count_42
      · have nc_1_0 := lv_neT c_1_0 (a := 0) rfl
        have nc_1_1 := lv_neT c_1_1 (a := 1) rfl
        have nc_1_2 := lv_neT c_1_2 (a := 2) rfl
        refine lv_tableOut (tgt := 43) hx hb dX0_count_1 (by omega) (by decide) ?_
        refine lv_iconst (v := (-1)) hx hb dX0_count_43 (by decide) ?_
        have hw : (-1) = sl_count ns nt nf p1 := by unfold sl_count; rw [if_neg c_1_0, if_neg c_1_1, if_neg c_1_2]; (try rfl)
        exact W.iret (v := (-1)) hx hb hr (fun t ht hW => ⟨⟨(-1), (), rfl, hw, ⟨by rw [ht]; exact hP, va_K.moved hW.alike hK, hD⟩⟩, hS.F ht⟩) hS.2.2 dX0_count_44
