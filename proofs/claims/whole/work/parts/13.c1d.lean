set_option maxHeartbeats 4000000 in
set_option maxRecDepth 100000 in
theorem cm_isIn_L7 {p : Program} {l : Launch} {e : Env} {s : State} {m : MethodId} {args : Array Value} {below : List Frame} {meth : Method} {c : Code} {Q : State → Prop} {dC : Nat → ClassId} {dI : Nat → Nat → Nat} {b : Nat → Nat} {h : Nat → ClassId} {A : Nat → Prop} (uR uW uA uM uX uF uI uS : Nat → Int32) (ut us ur ub uo ui ul uk uh : Int32) (p1 p2 : Int32) (hx : p.tables.exec = Jvm.exec) (hb : c.code = cX1_isIn) (hml : c.maxLocals = 4) (hown : s.vm.findClass RX1 = some m.cls) (hg : ∀ w ∈ gw, w.before args s = true) (hA : ∀ q : Nat, s.heap.size ≤ q → A q) (hK : va_K (dC, dI) vwCl (ty_sm h) s) (hs : 0 ≤ p1.toInt ∧ p1.toInt < 48) (hc : ∀ j : Nat, j ≤ p1.toNatClampNeg → -1 ≤ (uI j).toInt ∧ (uI j).toInt < j) :
    ∀ (n : Nat) (x3 : Int32) (H : Heap) (locs : List Loc) (ls : Array Slot), (-1 ≤ x3.toInt ∧ x3.toInt + 2 ≤ (n : Nat) ∧ x3.toInt < p1.toInt) → va_P (dC, dI) vwCl (ws_sm b h uR uW uA uM uX uF uI uS ut us ur ub uo ui ul uk uh) H → va_D A (ws_sm b h uR uW uA uM uX uF uI uS ut us ur ub uo ui ul uk uh) → va_S A s.heap H locs → lv_has ls 4 [(0, .ref (b 0)), (1, .int p1), (2, .int p2), (3, .int x3)] →
      (∀ (x3_o7 : Int32), sm_isIn_L7 uI p2 n x3 = x3_o7 → ∀ (H : Heap) (locs : List Loc) (ls : Array Slot), va_P (dC, dI) vwCl (ws_sm b h uR uW uA uM uX uF uI uS ut us ur ub uo ui ul uk uh) H → va_D A (ws_sm b h uR uW uA uM uX uF uI uS ut us ur ub uo ui ul uk uh) → va_S A s.heap H locs → lv_has ls 4 [(0, .ref (b 0)), (1, .int p1), (2, .int p2), (3, .int x3_o7)] → W p l e (headSpec wsX1_isIn ({ frames := 0, cells := 0, slots := 0, locals := 0 } : Room)).room s m args below meth c H locs 0 0 Q (F0 m 27 ls [])) →
      W p l e (headSpec wsX1_isIn ({ frames := 0, cells := 0, slots := 0, locals := 0 } : Room)).room s m args below meth c H locs 0 0 Q (F0 m 7 ls []) := by
  intro n
  induction n with
  | zero =>
    intro x3 H locs ls hinv
    exact absurd hinv (ii_z)
  | succ n ih =>
    intro x3 H locs ls hinv hP hD hS hl k0
    refine lv_iload_n hx hb dX1_isIn_7 rfl (lv_at hl 3 rfl) ?_
    refine lv_iconst (v := (-1)) hx hb dX1_isIn_8 (by decide) ?_
    refine lv_icmp_eq (tgt := 27) hx hb dX1_isIn_9 (by decide) (fun c_9 => ?_) (fun c_9 => ?_)
    · exact k0 x3 (by rw [sm_isIn_L7_s]; rw [if_pos c_9]; (try rfl)) H locs ls hP hD hS (lv_sub hl [0, 1, 2, 3] rfl)
    · refine lv_iload_n hx hb dX1_isIn_12 rfl (lv_at hl 3 rfl) ?_
      refine lv_iload_n hx hb dX1_isIn_13 rfl (lv_at hl 2 rfl) ?_
      refine lv_icmp_eq (tgt := 27) hx hb dX1_isIn_14 (by decide) (fun c_14 => ?_) (fun c_14 => ?_)
      · exact k0 x3 (by rw [sm_isIn_L7_s]; rw [if_neg c_9, if_pos c_14]; (try rfl)) H locs ls hP hD hS (lv_sub hl [0, 1, 2, 3] rfl)
      · refine lv_aload_n hx hb dX1_isIn_17 rfl (lv_at hl 0 rfl) ?_
        refine va_get (D := (dC, dI)) (ci := 1) (v := .ref (b 7)) (C := RX1) (T := TX1) (N := 17) hx hb hg inX1 hown hK hP 0 rfl rfl 11 (by decide) (hg _ w_357) (fun _ h9 => h9) rfl dX1_isIn_18 ?_
        refine lv_iload_n hx hb dX1_isIn_21 rfl (lv_at hl 3 rfl) ?_
        refine va_iald hx hb hK hP 7 6 rfl rfl (ii_in hs hinv c_9) dX1_isIn_22 ?_
        refine lv_istore_n (lv' := [(3, .int (uI x3.toNatClampNeg)), (0, .ref (b 0)), (1, .int p1), (2, .int p2)]) hx hb dX1_isIn_23 rfl hl (by decide) rfl (fun ls hl => ?_)
        refine lv_goto (tgt := 7) hx hb dX1_isIn_24 (by decide) ?_
        exact ih (uI x3.toNatClampNeg) H locs ls (ii_s hs hc hinv c_9) hP hD hS (lv_sub hl [1, 2, 3, 0] rfl) (fun x3_o7 hw H locs ls hP hD hS hl => k0 x3_o7 (by rw [sm_isIn_L7_s]; rw [if_neg c_9, if_neg c_14]; exact hw) H locs ls hP hD hS hl)
set_option maxHeartbeats 4000000 in
set_option maxRecDepth 100000 in
theorem cm_isIn (l : Launch) (dC : Nat → ClassId) (dI : Nat → Nat → Nat) (b : Nat → Nat) (h : Nat → ClassId) (sz : Nat) (uR uW uA uM uX uF uI uS : Nat → Int32) (ut us ur ub uo ui ul uk uh : Int32) (p1 p2 : Int32) (hs : 0 ≤ p1.toInt ∧ p1.toInt < 48) (hc : ∀ j : Nat, j ≤ p1.toNatClampNeg → -1 ≤ (uI j).toInt ∧ (uI j).toInt < j) : Met l yX1_isIn wsX1_isIn ({ frames := 0, cells := 0, slots := 0, locals := 0 } : Room) (va_Pc [.ref (b 0), .int p1, .int p2] (pr (dC, dI) (ws_sm b h uR uW uA uM uX uF uI uS ut us ur ub uo ui ul uk uh) (ty_sm h) sz)) (va_Qi (fun (r : Int32) (_ : Unit) => r = sm_isIn uI p1 p2) (fun (_ : Unit) t => po (dC, dI) (ws_sm b h uR uW uA uM uX uF uI uS ut us ur ub uo ui ul uk uh) (ty_sm h) (va_A (ws_sm b h uR uW uA uM uX uF uI uS ut us ur ub uo ui ul uk uh) sz) t) (va_A (ws_sm b h uR uW uA uM uX uF uI uS ut us ur ub uo ui ul uk uh) sz)) 0 0 (va_A (ws_sm b h uR uW uA uM uX uF uI uS ut us ur ub uo ui ul uk uh) sz) := by
  refine Met.ofW (cc := cX1_isIn) (maxL := 4) (ret := (some .boolean)) (by decide) rfl ?_
  intro p e s m args below meth c s₁ B hml hv
  obtain ⟨rfl, hsz, hP, hK, hD0⟩ := hv
  have hx := B.exec
  have hb := B.bytes
  have hr := B.returns
  have hts := atoms_spec (ws := wsX1_isIn) B.pre
  have hg : ∀ w ∈ gw, w.before _ s = true := fun w h => hts w (List.mem_cons_of_mem _ h)
  have hown : s.vm.findClass RX1 = some m.cls := findClass_of_methodNamed B.named
  have hlocks := B.notSynchronized
  subst hsz
  have hD := hD0.self (sz := s.heap.size)
  generalize hAe : va_A (ws_sm b h uR uW uA uM uX uF uI uS ut us ur ub uo ui ul uk uh) s.heap.size = A at hD ⊢
  have hA : ∀ q : Nat, s.heap.size ≤ q → A q := fun q h => by rw [← hAe]; exact Or.inr h
  clear hAe
  refine w_in (fun H locs eH eL => ?_)
  have hS : va_S A s.heap H locs := by rw [eH, eL]; exact va_S.rf
  have hP : va_P (dC, dI) vwCl (ws_sm b h uR uW uA uM uX uF uI uS ut us ur ub uo ui ul uk uh) H := by rw [eH]; exact hP
  clear eH eL
  have hl := lv_entry ([.ref (b 0), .int p1, .int p2]) (n := 4) (Nat.le_of_ble_eq_true rfl)
  rw [lg_entry_eq]
  generalize (lg_sl ([.ref (b 0), .int p1, .int p2]) ++ List.replicate (4 - (lg_sl ([.ref (b 0), .int p1, .int p2])).length) Slot.unset).toArray = ls at hl ⊢
  have hl : lv_has ls 4 [(0, .ref (b 0)), (1, .int p1), (2, .int p2)] := hl
  refine lv_aload_n hx hb dX1_isIn_0 rfl (lv_at hl 0 rfl) ?_
  refine va_get (D := (dC, dI)) (ci := 1) (v := .ref (b 7)) (C := RX1) (T := TX1) (N := 17) hx hb hg inX1 hown hK hP 0 rfl rfl 11 (by decide) (hg _ w_357) (fun _ h9 => h9) rfl dX1_isIn_1 ?_
  refine lv_iload_n hx hb dX1_isIn_4 rfl (lv_at hl 1 rfl) ?_
  refine va_iald hx hb hK hP 7 6 rfl rfl (ix_k hs) dX1_isIn_5 ?_
  refine lv_istore_n (lv' := [(3, .int (uI p1.toNatClampNeg)), (0, .ref (b 0)), (1, .int p1), (2, .int p2)]) hx hb dX1_isIn_6 rfl hl (by decide) rfl (fun ls hl => ?_)
  refine cm_isIn_L7 uR uW uA uM uX uF uI uS ut us ur ub uo ui ul uk uh p1 p2 hx hb hml hown hg hA hK hs hc 49 (uI p1.toNatClampNeg) H locs ls (ii_0 hs hc) hP hD hS (lv_sub hl [1, 2, 3, 0] rfl) (fun x3_o7 hw_7 H locs ls hP hD hS hl => ?_)
  refine lv_iload_n hx hb dX1_isIn_27 rfl (lv_at hl 3 rfl) ?_
  refine lv_iload_n hx hb dX1_isIn_28 rfl (lv_at hl 2 rfl) ?_
  refine lv_icmp_ne (tgt := 36) hx hb dX1_isIn_29 (by decide) (fun c_29 => ?_) (fun c_29 => ?_)
  · refine lv_iconst (v := 0) hx hb dX1_isIn_36 (by decide) ?_
    have hw : 0 = sm_isIn uI p1 p2 := by unfold sm_isIn; rw [hw_7]; (try dsimp only); rw [if_neg c_29]; (try rfl)
    exact W.zret (v := 0) hx hb hr rfl (fun t ht hW => ⟨⟨0, (), rfl, hw, ⟨by rw [ht]; exact hP, va_K.moved hW.alike hK, hD⟩⟩, hS.F ht⟩) hS.2.2 dX1_isIn_37
  · refine lv_iconst (v := 1) hx hb dX1_isIn_32 (by decide) ?_
    refine lv_goto (tgt := 37) hx hb dX1_isIn_33 (by decide) ?_
    have hw : 1 = sm_isIn uI p1 p2 := by unfold sm_isIn; rw [hw_7]; (try dsimp only); rw [if_pos c_29]; (try rfl)
    exact W.zret (v := 1) hx hb hr rfl (fun t ht hW => ⟨⟨1, (), rfl, hw, ⟨by rw [ht]; exact hP, va_K.moved hW.alike hK, hD⟩⟩, hS.F ht⟩) hS.2.2 dX1_isIn_37
set_option maxHeartbeats 4000000 in
set_option maxRecDepth 100000 in
theorem cm_mayBe_L31 {p : Program} {l : Launch} {e : Env} {s : State} {m : MethodId} {args : Array Value} {below : List Frame} {meth : Method} {c : Code} {Q : State → Prop} {dC : Nat → ClassId} {dI : Nat → Nat → Nat} {b : Nat → Nat} {h : Nat → ClassId} {A : Nat → Prop} (uR uW uA uM uX uF uI uS : Nat → Int32) (ut us ur ub uo ui ul uk uh : Int32) (p1 p2 p3 : Int32) (hx : p.tables.exec = Jvm.exec) (hb : c.code = cX1_mayBe) (hml : c.maxLocals = 7) (hown : s.vm.findClass RX1 = some m.cls) (hg : ∀ w ∈ gw, w.before args s = true) (hA : ∀ q : Nat, s.heap.size ≤ q → A q) (hK : va_K (dC, dI) vwCl (ty_sm h) s) (hs : 0 ≤ p1.toInt ∧ p1.toInt < 48) (hs2 : 0 ≤ p2.toInt ∧ p2.toInt < 48) :
    ∀ (n : Nat) (x4 x5 x6 : Int32) (H : Heap) (locs : List Loc) (ls : Array Slot), (cnt 41 x6 n) → va_P (dC, dI) vwCl (ws_sm b h uR uW uA uM uX uF uI uS ut us ur ub uo ui ul uk uh) H → va_D A (ws_sm b h uR uW uA uM uX uF uI uS ut us ur ub uo ui ul uk uh) → va_S A s.heap H locs → lv_has ls 7 [(0, .ref (b 0)), (1, .int p1), (2, .int p2), (3, .int p3), (4, .int x4), (5, .int x5), (6, .int x6)] →
      (∀ (x4_o31 x5_o31 : Int32), sm_mayBe_L31 uR uW p1 p2 n x4 x5 x6 = (x4_o31, x5_o31) → ∀ (H : Heap) (locs : List Loc) (ls : Array Slot), va_P (dC, dI) vwCl (ws_sm b h uR uW uA uM uX uF uI uS ut us ur ub uo ui ul uk uh) H → va_D A (ws_sm b h uR uW uA uM uX uF uI uS ut us ur ub uo ui ul uk uh) → va_S A s.heap H locs → lv_has ls 7 [(0, .ref (b 0)), (1, .int p1), (2, .int p2), (3, .int p3), (4, .int x4_o31), (5, .int x5_o31)] → W p l e (headSpec wsX1_mayBe ({ frames := 1, cells := 0, slots := 0, locals := 23 } : Room)).room s m args below meth c H locs 0 0 Q (F0 m 143 ls [])) →
      W p l e (headSpec wsX1_mayBe ({ frames := 1, cells := 0, slots := 0, locals := 23 } : Room)).room s m args below meth c H locs 0 0 Q (F0 m 31 ls []) := by
  intro n
  induction n with
  | zero =>
    intro x4 x5 x6 H locs ls hinv
    exact absurd hinv (cnt_z)
  | succ n ih =>
    intro x4 x5 x6 H locs ls hinv hP hD hS hl k0
    refine lv_iload hx hb dX1_mayBe_31 (lv_at hl 6 rfl) ?_
    refine lv_bipush (v := 41) hx hb dX1_mayBe_33 (by decide) ?_
    refine lv_icmp_ge (tgt := 143) hx hb dX1_mayBe_35 (by decide) (fun c_35 => ?_) (fun c_35 => ?_)
    · exact k0 x4 x5 (by rw [sm_mayBe_L31_s]; rw [if_pos c_35]; (try rfl)) H locs ls hP hD hS (lv_sub hl [0, 1, 2, 3, 4, 5] rfl)
    · refine lv_iload hx hb dX1_mayBe_38 (lv_at hl 4 rfl) ?_
      refine lv_if_ne (tgt := 88) hx hb dX1_mayBe_40 (by decide) (fun c_40 => ?_) (fun c_40 => ?_)
      · refine lv_iconst (v := 1) hx hb dX1_mayBe_88 (by decide) ?_
        refine lv_goto (tgt := 93) hx hb dX1_mayBe_89 (by decide) ?_
        refine lv_istore (lv' := [(4, .int 1), (0, .ref (b 0)), (1, .int p1), (2, .int p2), (3, .int p3), (5, .int x5), (6, .int x6)]) hx hb dX1_mayBe_93 hl (by decide) rfl (fun ls hl => ?_)
        refine lv_iload hx hb dX1_mayBe_95 (lv_at hl 5 rfl) ?_
        refine lv_if_ne (tgt := 130) hx hb dX1_mayBe_97 (by decide) (fun c_97 => ?_) (fun c_97 => ?_)
        · refine lv_iconst (v := 1) hx hb dX1_mayBe_130 (by decide) ?_
          refine lv_goto (tgt := 135) hx hb dX1_mayBe_131 (by decide) ?_
          refine lv_istore (lv' := [(5, .int 1), (4, .int 1), (0, .ref (b 0)), (1, .int p1), (2, .int p2), (3, .int p3), (6, .int x6)]) hx hb dX1_mayBe_135 hl (by decide) rfl (fun ls hl => ?_)
          refine lv_iinc (v := x6 + 1) (lv' := [(6, .int (x6 + 1)), (5, .int 1), (4, .int 1), (0, .ref (b 0)), (1, .int p1), (2, .int p2), (3, .int p3)]) hx hb dX1_mayBe_137 hl (k := 6) rfl rfl (by decide) rfl (fun ls hl => ?_)
          refine lv_goto (tgt := 31) hx hb dX1_mayBe_140 (by decide) ?_
          exact ih 1 1 (x6 + 1) H locs ls (cnt_s hinv c_35) hP hD hS (lv_sub hl [3, 4, 5, 6, 2, 1, 0] rfl) (fun x4_o31 x5_o31 hw H locs ls hP hD hS hl => k0 x4_o31 x5_o31 (by rw [sm_mayBe_L31_s]; rw [if_neg c_35, if_neg c_40, if_neg c_97]; exact hw) H locs ls hP hD hS hl)
        · refine lv_aload_n hx hb dX1_mayBe_100 rfl (lv_at hl 1 rfl) ?_
          refine va_get (D := (dC, dI)) (ci := 1) (v := .ref (b 1)) (C := RX1) (T := TX1) (N := 17) hx hb hg inX1 hown hK hP 0 rfl rfl 5 (by decide) (hg _ w_351) (fun _ h9 => h9) rfl dX1_mayBe_101 ?_
          refine lv_bipush (v := 41) hx hb dX1_mayBe_104 (by decide) ?_
          refine lv_iload_n hx hb dX1_mayBe_106 rfl (lv_at hl 3 rfl) ?_
          refine lv_imul hx hb dX1_mayBe_107 ?_
          refine lv_iload hx hb dX1_mayBe_108 (lv_at hl 6 rfl) ?_
          refine lv_iadd hx hb dX1_mayBe_110 ?_
          refine va_zald hx hb hK hP 1 0 rfl rfl (th_in hs2 (cnt_rg hinv c_35)) dX1_mayBe_111 ?_
          refine lv_if_eq (tgt := 134) hx hb dX1_mayBe_112 (by decide) (fun c_112 => ?_) (fun c_112 => ?_)
          · refine lv_iconst (v := 0) hx hb dX1_mayBe_134 (by decide) ?_
            refine lv_istore (lv' := [(5, .int 0), (4, .int 1), (0, .ref (b 0)), (1, .int p1), (2, .int p2), (3, .int p3), (6, .int x6)]) hx hb dX1_mayBe_135 hl (by decide) rfl (fun ls hl => ?_)
            refine lv_iinc (v := x6 + 1) (lv' := [(6, .int (x6 + 1)), (5, .int 0), (4, .int 1), (0, .ref (b 0)), (1, .int p1), (2, .int p2), (3, .int p3)]) hx hb dX1_mayBe_137 hl (k := 6) rfl rfl (by decide) rfl (fun ls hl => ?_)
            refine lv_goto (tgt := 31) hx hb dX1_mayBe_140 (by decide) ?_
            exact ih 1 0 (x6 + 1) H locs ls (cnt_s hinv c_35) hP hD hS (lv_sub hl [3, 4, 5, 6, 2, 1, 0] rfl) (fun x4_o31 x5_o31 hw H locs ls hP hD hS hl => k0 x4_o31 x5_o31 (by rw [sm_mayBe_L31_s]; rw [if_neg c_35, if_neg c_40, if_pos c_97, if_pos c_112]; exact hw) H locs ls hP hD hS hl)
          · refine lv_aload_n hx hb dX1_mayBe_115 rfl (lv_at hl 1 rfl) ?_
            refine va_get (D := (dC, dI)) (ci := 1) (v := .ref (b 2)) (C := RX1) (T := TX1) (N := 17) hx hb hg inX1 hown hK hP 0 rfl rfl 6 (by decide) (hg _ w_352) (fun _ h9 => h9) rfl dX1_mayBe_116 ?_
            refine lv_bipush (v := 41) hx hb dX1_mayBe_119 (by decide) ?_
            refine lv_iload_n hx hb dX1_mayBe_121 rfl (lv_at hl 2 rfl) ?_
            refine lv_imul hx hb dX1_mayBe_122 ?_
            refine lv_iload hx hb dX1_mayBe_123 (lv_at hl 6 rfl) ?_
            refine lv_iadd hx hb dX1_mayBe_125 ?_
            refine va_zald hx hb hK hP 2 1 rfl rfl (th_in hs (cnt_rg hinv c_35)) dX1_mayBe_126 ?_
            refine lv_if_eq (tgt := 134) hx hb dX1_mayBe_127 (by decide) (fun c_127 => ?_) (fun c_127 => ?_)
            · refine lv_iconst (v := 0) hx hb dX1_mayBe_134 (by decide) ?_
              refine lv_istore (lv' := [(5, .int 0), (4, .int 1), (0, .ref (b 0)), (1, .int p1), (2, .int p2), (3, .int p3), (6, .int x6)]) hx hb dX1_mayBe_135 hl (by decide) rfl (fun ls hl => ?_)
              refine lv_iinc (v := x6 + 1) (lv' := [(6, .int (x6 + 1)), (5, .int 0), (4, .int 1), (0, .ref (b 0)), (1, .int p1), (2, .int p2), (3, .int p3)]) hx hb dX1_mayBe_137 hl (k := 6) rfl rfl (by decide) rfl (fun ls hl => ?_)
              refine lv_goto (tgt := 31) hx hb dX1_mayBe_140 (by decide) ?_
              exact ih 1 0 (x6 + 1) H locs ls (cnt_s hinv c_35) hP hD hS (lv_sub hl [3, 4, 5, 6, 2, 1, 0] rfl) (fun x4_o31 x5_o31 hw H locs ls hP hD hS hl => k0 x4_o31 x5_o31 (by rw [sm_mayBe_L31_s]; rw [if_neg c_35, if_neg c_40, if_pos c_97, if_neg c_112, if_pos c_127]; exact hw) H locs ls hP hD hS hl)
            · refine lv_iconst (v := 1) hx hb dX1_mayBe_130 (by decide) ?_
              refine lv_goto (tgt := 135) hx hb dX1_mayBe_131 (by decide) ?_
              refine lv_istore (lv' := [(5, .int 1), (4, .int 1), (0, .ref (b 0)), (1, .int p1), (2, .int p2), (3, .int p3), (6, .int x6)]) hx hb dX1_mayBe_135 hl (by decide) rfl (fun ls hl => ?_)
              refine lv_iinc (v := x6 + 1) (lv' := [(6, .int (x6 + 1)), (5, .int 1), (4, .int 1), (0, .ref (b 0)), (1, .int p1), (2, .int p2), (3, .int p3)]) hx hb dX1_mayBe_137 hl (k := 6) rfl rfl (by decide) rfl (fun ls hl => ?_)
              refine lv_goto (tgt := 31) hx hb dX1_mayBe_140 (by decide) ?_
              exact ih 1 1 (x6 + 1) H locs ls (cnt_s hinv c_35) hP hD hS (lv_sub hl [3, 4, 5, 6, 2, 1, 0] rfl) (fun x4_o31 x5_o31 hw H locs ls hP hD hS hl => k0 x4_o31 x5_o31 (by rw [sm_mayBe_L31_s]; rw [if_neg c_35, if_neg c_40, if_pos c_97, if_neg c_112, if_neg c_127]; exact hw) H locs ls hP hD hS hl)
      · refine lv_aload_n hx hb dX1_mayBe_43 rfl (lv_at hl 0 rfl) ?_
        refine va_get (D := (dC, dI)) (ci := 1) (v := .ref (b 2)) (C := RX1) (T := TX1) (N := 17) hx hb hg inX1 hown hK hP 0 rfl rfl 6 (by decide) (hg _ w_352) (fun _ h9 => h9) rfl dX1_mayBe_44 ?_
        refine lv_bipush (v := 41) hx hb dX1_mayBe_47 (by decide) ?_
        refine lv_iload_n hx hb dX1_mayBe_49 rfl (lv_at hl 2 rfl) ?_
        refine lv_imul hx hb dX1_mayBe_50 ?_
        refine lv_iload hx hb dX1_mayBe_51 (lv_at hl 6 rfl) ?_
        refine lv_iadd hx hb dX1_mayBe_53 ?_
        refine va_zald hx hb hK hP 2 1 rfl rfl (th_in hs2 (cnt_rg hinv c_35)) dX1_mayBe_54 ?_
        refine lv_if_eq (tgt := 92) hx hb dX1_mayBe_55 (by decide) (fun c_55 => ?_) (fun c_55 => ?_)
        · refine lv_iconst (v := 0) hx hb dX1_mayBe_92 (by decide) ?_
          refine lv_istore (lv' := [(4, .int 0), (0, .ref (b 0)), (1, .int p1), (2, .int p2), (3, .int p3), (5, .int x5), (6, .int x6)]) hx hb dX1_mayBe_93 hl (by decide) rfl (fun ls hl => ?_)
          refine lv_iload hx hb dX1_mayBe_95 (lv_at hl 5 rfl) ?_
          refine lv_if_ne (tgt := 130) hx hb dX1_mayBe_97 (by decide) (fun c_97 => ?_) (fun c_97 => ?_)
          · refine lv_iconst (v := 1) hx hb dX1_mayBe_130 (by decide) ?_
            refine lv_goto (tgt := 135) hx hb dX1_mayBe_131 (by decide) ?_
            refine lv_istore (lv' := [(5, .int 1), (4, .int 0), (0, .ref (b 0)), (1, .int p1), (2, .int p2), (3, .int p3), (6, .int x6)]) hx hb dX1_mayBe_135 hl (by decide) rfl (fun ls hl => ?_)
            refine lv_iinc (v := x6 + 1) (lv' := [(6, .int (x6 + 1)), (5, .int 1), (4, .int 0), (0, .ref (b 0)), (1, .int p1), (2, .int p2), (3, .int p3)]) hx hb dX1_mayBe_137 hl (k := 6) rfl rfl (by decide) rfl (fun ls hl => ?_)
            refine lv_goto (tgt := 31) hx hb dX1_mayBe_140 (by decide) ?_
            exact ih 0 1 (x6 + 1) H locs ls (cnt_s hinv c_35) hP hD hS (lv_sub hl [3, 4, 5, 6, 2, 1, 0] rfl) (fun x4_o31 x5_o31 hw H locs ls hP hD hS hl => k0 x4_o31 x5_o31 (by rw [sm_mayBe_L31_s]; rw [if_neg c_35, if_pos c_40, if_pos c_55, if_neg c_97]; exact hw) H locs ls hP hD hS hl)
          · refine lv_aload_n hx hb dX1_mayBe_100 rfl (lv_at hl 1 rfl) ?_
            refine va_get (D := (dC, dI)) (ci := 1) (v := .ref (b 1)) (C := RX1) (T := TX1) (N := 17) hx hb hg inX1 hown hK hP 0 rfl rfl 5 (by decide) (hg _ w_351) (fun _ h9 => h9) rfl dX1_mayBe_101 ?_
            refine lv_bipush (v := 41) hx hb dX1_mayBe_104 (by decide) ?_
            refine lv_iload_n hx hb dX1_mayBe_106 rfl (lv_at hl 3 rfl) ?_
            refine lv_imul hx hb dX1_mayBe_107 ?_
            refine lv_iload hx hb dX1_mayBe_108 (lv_at hl 6 rfl) ?_
            refine lv_iadd hx hb dX1_mayBe_110 ?_
            refine va_zald hx hb hK hP 1 0 rfl rfl (th_in hs2 (cnt_rg hinv c_35)) dX1_mayBe_111 ?_
            refine lv_if_eq (tgt := 134) hx hb dX1_mayBe_112 (by decide) (fun c_112 => ?_) (fun c_112 => ?_)
            · refine lv_iconst (v := 0) hx hb dX1_mayBe_134 (by decide) ?_
              refine lv_istore (lv' := [(5, .int 0), (4, .int 0), (0, .ref (b 0)), (1, .int p1), (2, .int p2), (3, .int p3), (6, .int x6)]) hx hb dX1_mayBe_135 hl (by decide) rfl (fun ls hl => ?_)
              refine lv_iinc (v := x6 + 1) (lv' := [(6, .int (x6 + 1)), (5, .int 0), (4, .int 0), (0, .ref (b 0)), (1, .int p1), (2, .int p2), (3, .int p3)]) hx hb dX1_mayBe_137 hl (k := 6) rfl rfl (by decide) rfl (fun ls hl => ?_)
              refine lv_goto (tgt := 31) hx hb dX1_mayBe_140 (by decide) ?_
              exact ih 0 0 (x6 + 1) H locs ls (cnt_s hinv c_35) hP hD hS (lv_sub hl [3, 4, 5, 6, 2, 1, 0] rfl) (fun x4_o31 x5_o31 hw H locs ls hP hD hS hl => k0 x4_o31 x5_o31 (by rw [sm_mayBe_L31_s]; rw [if_neg c_35, if_pos c_40, if_pos c_55, if_pos c_97, if_pos c_112]; exact hw) H locs ls hP hD hS hl)
            · refine lv_aload_n hx hb dX1_mayBe_115 rfl (lv_at hl 1 rfl) ?_
              refine va_get (D := (dC, dI)) (ci := 1) (v := .ref (b 2)) (C := RX1) (T := TX1) (N := 17) hx hb hg inX1 hown hK hP 0 rfl rfl 6 (by decide) (hg _ w_352) (fun _ h9 => h9) rfl dX1_mayBe_116 ?_
              refine lv_bipush (v := 41) hx hb dX1_mayBe_119 (by decide) ?_
              refine lv_iload_n hx hb dX1_mayBe_121 rfl (lv_at hl 2 rfl) ?_
              refine lv_imul hx hb dX1_mayBe_122 ?_
              refine lv_iload hx hb dX1_mayBe_123 (lv_at hl 6 rfl) ?_
              refine lv_iadd hx hb dX1_mayBe_125 ?_
              refine va_zald hx hb hK hP 2 1 rfl rfl (th_in hs (cnt_rg hinv c_35)) dX1_mayBe_126 ?_
              refine lv_if_eq (tgt := 134) hx hb dX1_mayBe_127 (by decide) (fun c_127 => ?_) (fun c_127 => ?_)
              · refine lv_iconst (v := 0) hx hb dX1_mayBe_134 (by decide) ?_
                refine lv_istore (lv' := [(5, .int 0), (4, .int 0), (0, .ref (b 0)), (1, .int p1), (2, .int p2), (3, .int p3), (6, .int x6)]) hx hb dX1_mayBe_135 hl (by decide) rfl (fun ls hl => ?_)
                refine lv_iinc (v := x6 + 1) (lv' := [(6, .int (x6 + 1)), (5, .int 0), (4, .int 0), (0, .ref (b 0)), (1, .int p1), (2, .int p2), (3, .int p3)]) hx hb dX1_mayBe_137 hl (k := 6) rfl rfl (by decide) rfl (fun ls hl => ?_)
                refine lv_goto (tgt := 31) hx hb dX1_mayBe_140 (by decide) ?_
                exact ih 0 0 (x6 + 1) H locs ls (cnt_s hinv c_35) hP hD hS (lv_sub hl [3, 4, 5, 6, 2, 1, 0] rfl) (fun x4_o31 x5_o31 hw H locs ls hP hD hS hl => k0 x4_o31 x5_o31 (by rw [sm_mayBe_L31_s]; rw [if_neg c_35, if_pos c_40, if_pos c_55, if_pos c_97, if_neg c_112, if_pos c_127]; exact hw) H locs ls hP hD hS hl)
              · refine lv_iconst (v := 1) hx hb dX1_mayBe_130 (by decide) ?_
                refine lv_goto (tgt := 135) hx hb dX1_mayBe_131 (by decide) ?_
                refine lv_istore (lv' := [(5, .int 1), (4, .int 0), (0, .ref (b 0)), (1, .int p1), (2, .int p2), (3, .int p3), (6, .int x6)]) hx hb dX1_mayBe_135 hl (by decide) rfl (fun ls hl => ?_)
                refine lv_iinc (v := x6 + 1) (lv' := [(6, .int (x6 + 1)), (5, .int 1), (4, .int 0), (0, .ref (b 0)), (1, .int p1), (2, .int p2), (3, .int p3)]) hx hb dX1_mayBe_137 hl (k := 6) rfl rfl (by decide) rfl (fun ls hl => ?_)
                refine lv_goto (tgt := 31) hx hb dX1_mayBe_140 (by decide) ?_
                exact ih 0 1 (x6 + 1) H locs ls (cnt_s hinv c_35) hP hD hS (lv_sub hl [3, 4, 5, 6, 2, 1, 0] rfl) (fun x4_o31 x5_o31 hw H locs ls hP hD hS hl => k0 x4_o31 x5_o31 (by rw [sm_mayBe_L31_s]; rw [if_neg c_35, if_pos c_40, if_pos c_55, if_pos c_97, if_neg c_112, if_neg c_127]; exact hw) H locs ls hP hD hS hl)
        · refine lv_aload_n hx hb dX1_mayBe_58 rfl (lv_at hl 0 rfl) ?_
          refine va_get (D := (dC, dI)) (ci := 1) (v := .ref (b 1)) (C := RX1) (T := TX1) (N := 17) hx hb hg inX1 hown hK hP 0 rfl rfl 5 (by decide) (hg _ w_351) (fun _ h9 => h9) rfl dX1_mayBe_59 ?_
          refine lv_bipush (v := 41) hx hb dX1_mayBe_62 (by decide) ?_
          refine lv_iload_n hx hb dX1_mayBe_64 rfl (lv_at hl 1 rfl) ?_
          refine lv_imul hx hb dX1_mayBe_65 ?_
          refine lv_iload hx hb dX1_mayBe_66 (lv_at hl 6 rfl) ?_
          refine lv_iadd hx hb dX1_mayBe_68 ?_
          refine va_zald hx hb hK hP 1 0 rfl rfl (th_in hs (cnt_rg hinv c_35)) dX1_mayBe_69 ?_
          refine lv_if_ne (tgt := 88) hx hb dX1_mayBe_70 (by decide) (fun c_70 => ?_) (fun c_70 => ?_)
          · refine lv_iconst (v := 1) hx hb dX1_mayBe_88 (by decide) ?_
            refine lv_goto (tgt := 93) hx hb dX1_mayBe_89 (by decide) ?_
            refine lv_istore (lv' := [(4, .int 1), (0, .ref (b 0)), (1, .int p1), (2, .int p2), (3, .int p3), (5, .int x5), (6, .int x6)]) hx hb dX1_mayBe_93 hl (by decide) rfl (fun ls hl => ?_)
            refine lv_iload hx hb dX1_mayBe_95 (lv_at hl 5 rfl) ?_
            refine lv_if_ne (tgt := 130) hx hb dX1_mayBe_97 (by decide) (fun c_97 => ?_) (fun c_97 => ?_)
            · refine lv_iconst (v := 1) hx hb dX1_mayBe_130 (by decide) ?_
              refine lv_goto (tgt := 135) hx hb dX1_mayBe_131 (by decide) ?_
              refine lv_istore (lv' := [(5, .int 1), (4, .int 1), (0, .ref (b 0)), (1, .int p1), (2, .int p2), (3, .int p3), (6, .int x6)]) hx hb dX1_mayBe_135 hl (by decide) rfl (fun ls hl => ?_)
              refine lv_iinc (v := x6 + 1) (lv' := [(6, .int (x6 + 1)), (5, .int 1), (4, .int 1), (0, .ref (b 0)), (1, .int p1), (2, .int p2), (3, .int p3)]) hx hb dX1_mayBe_137 hl (k := 6) rfl rfl (by decide) rfl (fun ls hl => ?_)
              refine lv_goto (tgt := 31) hx hb dX1_mayBe_140 (by decide) ?_
              exact ih 1 1 (x6 + 1) H locs ls (cnt_s hinv c_35) hP hD hS (lv_sub hl [3, 4, 5, 6, 2, 1, 0] rfl) (fun x4_o31 x5_o31 hw H locs ls hP hD hS hl => k0 x4_o31 x5_o31 (by rw [sm_mayBe_L31_s]; rw [if_neg c_35, if_pos c_40, if_neg c_55, if_neg c_70, if_neg c_97]; exact hw) H locs ls hP hD hS hl)
            · refine lv_aload_n hx hb dX1_mayBe_100 rfl (lv_at hl 1 rfl) ?_
              refine va_get (D := (dC, dI)) (ci := 1) (v := .ref (b 1)) (C := RX1) (T := TX1) (N := 17) hx hb hg inX1 hown hK hP 0 rfl rfl 5 (by decide) (hg _ w_351) (fun _ h9 => h9) rfl dX1_mayBe_101 ?_
              refine lv_bipush (v := 41) hx hb dX1_mayBe_104 (by decide) ?_
              refine lv_iload_n hx hb dX1_mayBe_106 rfl (lv_at hl 3 rfl) ?_
              refine lv_imul hx hb dX1_mayBe_107 ?_
              refine lv_iload hx hb dX1_mayBe_108 (lv_at hl 6 rfl) ?_
              refine lv_iadd hx hb dX1_mayBe_110 ?_
              refine va_zald hx hb hK hP 1 0 rfl rfl (th_in hs2 (cnt_rg hinv c_35)) dX1_mayBe_111 ?_
              refine lv_if_eq (tgt := 134) hx hb dX1_mayBe_112 (by decide) (fun c_112 => ?_) (fun c_112 => ?_)
              · refine lv_iconst (v := 0) hx hb dX1_mayBe_134 (by decide) ?_
                refine lv_istore (lv' := [(5, .int 0), (4, .int 1), (0, .ref (b 0)), (1, .int p1), (2, .int p2), (3, .int p3), (6, .int x6)]) hx hb dX1_mayBe_135 hl (by decide) rfl (fun ls hl => ?_)
                refine lv_iinc (v := x6 + 1) (lv' := [(6, .int (x6 + 1)), (5, .int 0), (4, .int 1), (0, .ref (b 0)), (1, .int p1), (2, .int p2), (3, .int p3)]) hx hb dX1_mayBe_137 hl (k := 6) rfl rfl (by decide) rfl (fun ls hl => ?_)
                refine lv_goto (tgt := 31) hx hb dX1_mayBe_140 (by decide) ?_
                exact ih 1 0 (x6 + 1) H locs ls (cnt_s hinv c_35) hP hD hS (lv_sub hl [3, 4, 5, 6, 2, 1, 0] rfl) (fun x4_o31 x5_o31 hw H locs ls hP hD hS hl => k0 x4_o31 x5_o31 (by rw [sm_mayBe_L31_s]; rw [if_neg c_35, if_pos c_40, if_neg c_55, if_neg c_70, if_pos c_97, if_pos c_112]; exact hw) H locs ls hP hD hS hl)
              · refine lv_aload_n hx hb dX1_mayBe_115 rfl (lv_at hl 1 rfl) ?_
                refine va_get (D := (dC, dI)) (ci := 1) (v := .ref (b 2)) (C := RX1) (T := TX1) (N := 17) hx hb hg inX1 hown hK hP 0 rfl rfl 6 (by decide) (hg _ w_352) (fun _ h9 => h9) rfl dX1_mayBe_116 ?_
                refine lv_bipush (v := 41) hx hb dX1_mayBe_119 (by decide) ?_
                refine lv_iload_n hx hb dX1_mayBe_121 rfl (lv_at hl 2 rfl) ?_
                refine lv_imul hx hb dX1_mayBe_122 ?_
                refine lv_iload hx hb dX1_mayBe_123 (lv_at hl 6 rfl) ?_
                refine lv_iadd hx hb dX1_mayBe_125 ?_
                refine va_zald hx hb hK hP 2 1 rfl rfl (th_in hs (cnt_rg hinv c_35)) dX1_mayBe_126 ?_
                refine lv_if_eq (tgt := 134) hx hb dX1_mayBe_127 (by decide) (fun c_127 => ?_) (fun c_127 => ?_)
                · refine lv_iconst (v := 0) hx hb dX1_mayBe_134 (by decide) ?_
                  refine lv_istore (lv' := [(5, .int 0), (4, .int 1), (0, .ref (b 0)), (1, .int p1), (2, .int p2), (3, .int p3), (6, .int x6)]) hx hb dX1_mayBe_135 hl (by decide) rfl (fun ls hl => ?_)
                  refine lv_iinc (v := x6 + 1) (lv' := [(6, .int (x6 + 1)), (5, .int 0), (4, .int 1), (0, .ref (b 0)), (1, .int p1), (2, .int p2), (3, .int p3)]) hx hb dX1_mayBe_137 hl (k := 6) rfl rfl (by decide) rfl (fun ls hl => ?_)
                  refine lv_goto (tgt := 31) hx hb dX1_mayBe_140 (by decide) ?_
                  exact ih 1 0 (x6 + 1) H locs ls (cnt_s hinv c_35) hP hD hS (lv_sub hl [3, 4, 5, 6, 2, 1, 0] rfl) (fun x4_o31 x5_o31 hw H locs ls hP hD hS hl => k0 x4_o31 x5_o31 (by rw [sm_mayBe_L31_s]; rw [if_neg c_35, if_pos c_40, if_neg c_55, if_neg c_70, if_pos c_97, if_neg c_112, if_pos c_127]; exact hw) H locs ls hP hD hS hl)
                · refine lv_iconst (v := 1) hx hb dX1_mayBe_130 (by decide) ?_
                  refine lv_goto (tgt := 135) hx hb dX1_mayBe_131 (by decide) ?_
                  refine lv_istore (lv' := [(5, .int 1), (4, .int 1), (0, .ref (b 0)), (1, .int p1), (2, .int p2), (3, .int p3), (6, .int x6)]) hx hb dX1_mayBe_135 hl (by decide) rfl (fun ls hl => ?_)
                  refine lv_iinc (v := x6 + 1) (lv' := [(6, .int (x6 + 1)), (5, .int 1), (4, .int 1), (0, .ref (b 0)), (1, .int p1), (2, .int p2), (3, .int p3)]) hx hb dX1_mayBe_137 hl (k := 6) rfl rfl (by decide) rfl (fun ls hl => ?_)
                  refine lv_goto (tgt := 31) hx hb dX1_mayBe_140 (by decide) ?_
                  exact ih 1 1 (x6 + 1) H locs ls (cnt_s hinv c_35) hP hD hS (lv_sub hl [3, 4, 5, 6, 2, 1, 0] rfl) (fun x4_o31 x5_o31 hw H locs ls hP hD hS hl => k0 x4_o31 x5_o31 (by rw [sm_mayBe_L31_s]; rw [if_neg c_35, if_pos c_40, if_neg c_55, if_neg c_70, if_pos c_97, if_neg c_112, if_neg c_127]; exact hw) H locs ls hP hD hS hl)
          · refine lv_aload_n hx hb dX1_mayBe_73 rfl (lv_at hl 0 rfl) ?_
            refine va_get (D := (dC, dI)) (ci := 1) (v := .ref (b 2)) (C := RX1) (T := TX1) (N := 17) hx hb hg inX1 hown hK hP 0 rfl rfl 6 (by decide) (hg _ w_352) (fun _ h9 => h9) rfl dX1_mayBe_74 ?_
            refine lv_bipush (v := 41) hx hb dX1_mayBe_77 (by decide) ?_
            refine lv_iload_n hx hb dX1_mayBe_79 rfl (lv_at hl 1 rfl) ?_
            refine lv_imul hx hb dX1_mayBe_80 ?_
            refine lv_iload hx hb dX1_mayBe_81 (lv_at hl 6 rfl) ?_
            refine lv_iadd hx hb dX1_mayBe_83 ?_
            refine va_zald hx hb hK hP 2 1 rfl rfl (th_in hs (cnt_rg hinv c_35)) dX1_mayBe_84 ?_
            refine lv_if_eq (tgt := 92) hx hb dX1_mayBe_85 (by decide) (fun c_85 => ?_) (fun c_85 => ?_)
            · refine lv_iconst (v := 0) hx hb dX1_mayBe_92 (by decide) ?_
              refine lv_istore (lv' := [(4, .int 0), (0, .ref (b 0)), (1, .int p1), (2, .int p2), (3, .int p3), (5, .int x5), (6, .int x6)]) hx hb dX1_mayBe_93 hl (by decide) rfl (fun ls hl => ?_)
              refine lv_iload hx hb dX1_mayBe_95 (lv_at hl 5 rfl) ?_
              refine lv_if_ne (tgt := 130) hx hb dX1_mayBe_97 (by decide) (fun c_97 => ?_) (fun c_97 => ?_)
              · refine lv_iconst (v := 1) hx hb dX1_mayBe_130 (by decide) ?_
                refine lv_goto (tgt := 135) hx hb dX1_mayBe_131 (by decide) ?_
                refine lv_istore (lv' := [(5, .int 1), (4, .int 0), (0, .ref (b 0)), (1, .int p1), (2, .int p2), (3, .int p3), (6, .int x6)]) hx hb dX1_mayBe_135 hl (by decide) rfl (fun ls hl => ?_)
                refine lv_iinc (v := x6 + 1) (lv' := [(6, .int (x6 + 1)), (5, .int 1), (4, .int 0), (0, .ref (b 0)), (1, .int p1), (2, .int p2), (3, .int p3)]) hx hb dX1_mayBe_137 hl (k := 6) rfl rfl (by decide) rfl (fun ls hl => ?_)
                refine lv_goto (tgt := 31) hx hb dX1_mayBe_140 (by decide) ?_
                exact ih 0 1 (x6 + 1) H locs ls (cnt_s hinv c_35) hP hD hS (lv_sub hl [3, 4, 5, 6, 2, 1, 0] rfl) (fun x4_o31 x5_o31 hw H locs ls hP hD hS hl => k0 x4_o31 x5_o31 (by rw [sm_mayBe_L31_s]; rw [if_neg c_35, if_pos c_40, if_neg c_55, if_pos c_70, if_pos c_85, if_neg c_97]; exact hw) H locs ls hP hD hS hl)
              · refine lv_aload_n hx hb dX1_mayBe_100 rfl (lv_at hl 1 rfl) ?_
                refine va_get (D := (dC, dI)) (ci := 1) (v := .ref (b 1)) (C := RX1) (T := TX1) (N := 17) hx hb hg inX1 hown hK hP 0 rfl rfl 5 (by decide) (hg _ w_351) (fun _ h9 => h9) rfl dX1_mayBe_101 ?_
                refine lv_bipush (v := 41) hx hb dX1_mayBe_104 (by decide) ?_
                refine lv_iload_n hx hb dX1_mayBe_106 rfl (lv_at hl 3 rfl) ?_
                refine lv_imul hx hb dX1_mayBe_107 ?_
                refine lv_iload hx hb dX1_mayBe_108 (lv_at hl 6 rfl) ?_
                refine lv_iadd hx hb dX1_mayBe_110 ?_
                refine va_zald hx hb hK hP 1 0 rfl rfl (th_in hs2 (cnt_rg hinv c_35)) dX1_mayBe_111 ?_
                refine lv_if_eq (tgt := 134) hx hb dX1_mayBe_112 (by decide) (fun c_112 => ?_) (fun c_112 => ?_)
                · refine lv_iconst (v := 0) hx hb dX1_mayBe_134 (by decide) ?_
                  refine lv_istore (lv' := [(5, .int 0), (4, .int 0), (0, .ref (b 0)), (1, .int p1), (2, .int p2), (3, .int p3), (6, .int x6)]) hx hb dX1_mayBe_135 hl (by decide) rfl (fun ls hl => ?_)
                  refine lv_iinc (v := x6 + 1) (lv' := [(6, .int (x6 + 1)), (5, .int 0), (4, .int 0), (0, .ref (b 0)), (1, .int p1), (2, .int p2), (3, .int p3)]) hx hb dX1_mayBe_137 hl (k := 6) rfl rfl (by decide) rfl (fun ls hl => ?_)
                  refine lv_goto (tgt := 31) hx hb dX1_mayBe_140 (by decide) ?_
                  exact ih 0 0 (x6 + 1) H locs ls (cnt_s hinv c_35) hP hD hS (lv_sub hl [3, 4, 5, 6, 2, 1, 0] rfl) (fun x4_o31 x5_o31 hw H locs ls hP hD hS hl => k0 x4_o31 x5_o31 (by rw [sm_mayBe_L31_s]; rw [if_neg c_35, if_pos c_40, if_neg c_55, if_pos c_70, if_pos c_85, if_pos c_97, if_pos c_112]; exact hw) H locs ls hP hD hS hl)
                · refine lv_aload_n hx hb dX1_mayBe_115 rfl (lv_at hl 1 rfl) ?_
                  refine va_get (D := (dC, dI)) (ci := 1) (v := .ref (b 2)) (C := RX1) (T := TX1) (N := 17) hx hb hg inX1 hown hK hP 0 rfl rfl 6 (by decide) (hg _ w_352) (fun _ h9 => h9) rfl dX1_mayBe_116 ?_
                  refine lv_bipush (v := 41) hx hb dX1_mayBe_119 (by decide) ?_
                  refine lv_iload_n hx hb dX1_mayBe_121 rfl (lv_at hl 2 rfl) ?_
                  refine lv_imul hx hb dX1_mayBe_122 ?_
                  refine lv_iload hx hb dX1_mayBe_123 (lv_at hl 6 rfl) ?_
                  refine lv_iadd hx hb dX1_mayBe_125 ?_
                  refine va_zald hx hb hK hP 2 1 rfl rfl (th_in hs (cnt_rg hinv c_35)) dX1_mayBe_126 ?_
                  refine lv_if_eq (tgt := 134) hx hb dX1_mayBe_127 (by decide) (fun c_127 => ?_) (fun c_127 => ?_)
                  · refine lv_iconst (v := 0) hx hb dX1_mayBe_134 (by decide) ?_
                    refine lv_istore (lv' := [(5, .int 0), (4, .int 0), (0, .ref (b 0)), (1, .int p1), (2, .int p2), (3, .int p3), (6, .int x6)]) hx hb dX1_mayBe_135 hl (by decide) rfl (fun ls hl => ?_)
                    refine lv_iinc (v := x6 + 1) (lv' := [(6, .int (x6 + 1)), (5, .int 0), (4, .int 0), (0, .ref (b 0)), (1, .int p1), (2, .int p2), (3, .int p3)]) hx hb dX1_mayBe_137 hl (k := 6) rfl rfl (by decide) rfl (fun ls hl => ?_)
                    refine lv_goto (tgt := 31) hx hb dX1_mayBe_140 (by decide) ?_
                    exact ih 0 0 (x6 + 1) H locs ls (cnt_s hinv c_35) hP hD hS (lv_sub hl [3, 4, 5, 6, 2, 1, 0] rfl) (fun x4_o31 x5_o31 hw H locs ls hP hD hS hl => k0 x4_o31 x5_o31 (by rw [sm_mayBe_L31_s]; rw [if_neg c_35, if_pos c_40, if_neg c_55, if_pos c_70, if_pos c_85, if_pos c_97, if_neg c_112, if_pos c_127]; exact hw) H locs ls hP hD hS hl)
                  · refine lv_iconst (v := 1) hx hb dX1_mayBe_130 (by decide) ?_
                    refine lv_goto (tgt := 135) hx hb dX1_mayBe_131 (by decide) ?_
                    refine lv_istore (lv' := [(5, .int 1), (4, .int 0), (0, .ref (b 0)), (1, .int p1), (2, .int p2), (3, .int p3), (6, .int x6)]) hx hb dX1_mayBe_135 hl (by decide) rfl (fun ls hl => ?_)
                    refine lv_iinc (v := x6 + 1) (lv' := [(6, .int (x6 + 1)), (5, .int 1), (4, .int 0), (0, .ref (b 0)), (1, .int p1), (2, .int p2), (3, .int p3)]) hx hb dX1_mayBe_137 hl (k := 6) rfl rfl (by decide) rfl (fun ls hl => ?_)
                    refine lv_goto (tgt := 31) hx hb dX1_mayBe_140 (by decide) ?_
                    exact ih 0 1 (x6 + 1) H locs ls (cnt_s hinv c_35) hP hD hS (lv_sub hl [3, 4, 5, 6, 2, 1, 0] rfl) (fun x4_o31 x5_o31 hw H locs ls hP hD hS hl => k0 x4_o31 x5_o31 (by rw [sm_mayBe_L31_s]; rw [if_neg c_35, if_pos c_40, if_neg c_55, if_pos c_70, if_pos c_85, if_pos c_97, if_neg c_112, if_neg c_127]; exact hw) H locs ls hP hD hS hl)
            · refine lv_iconst (v := 1) hx hb dX1_mayBe_88 (by decide) ?_
              refine lv_goto (tgt := 93) hx hb dX1_mayBe_89 (by decide) ?_
              refine lv_istore (lv' := [(4, .int 1), (0, .ref (b 0)), (1, .int p1), (2, .int p2), (3, .int p3), (5, .int x5), (6, .int x6)]) hx hb dX1_mayBe_93 hl (by decide) rfl (fun ls hl => ?_)
              refine lv_iload hx hb dX1_mayBe_95 (lv_at hl 5 rfl) ?_
              refine lv_if_ne (tgt := 130) hx hb dX1_mayBe_97 (by decide) (fun c_97 => ?_) (fun c_97 => ?_)
              · refine lv_iconst (v := 1) hx hb dX1_mayBe_130 (by decide) ?_
                refine lv_goto (tgt := 135) hx hb dX1_mayBe_131 (by decide) ?_
                refine lv_istore (lv' := [(5, .int 1), (4, .int 1), (0, .ref (b 0)), (1, .int p1), (2, .int p2), (3, .int p3), (6, .int x6)]) hx hb dX1_mayBe_135 hl (by decide) rfl (fun ls hl => ?_)
                refine lv_iinc (v := x6 + 1) (lv' := [(6, .int (x6 + 1)), (5, .int 1), (4, .int 1), (0, .ref (b 0)), (1, .int p1), (2, .int p2), (3, .int p3)]) hx hb dX1_mayBe_137 hl (k := 6) rfl rfl (by decide) rfl (fun ls hl => ?_)
                refine lv_goto (tgt := 31) hx hb dX1_mayBe_140 (by decide) ?_
                exact ih 1 1 (x6 + 1) H locs ls (cnt_s hinv c_35) hP hD hS (lv_sub hl [3, 4, 5, 6, 2, 1, 0] rfl) (fun x4_o31 x5_o31 hw H locs ls hP hD hS hl => k0 x4_o31 x5_o31 (by rw [sm_mayBe_L31_s]; rw [if_neg c_35, if_pos c_40, if_neg c_55, if_pos c_70, if_neg c_85, if_neg c_97]; exact hw) H locs ls hP hD hS hl)
              · refine lv_aload_n hx hb dX1_mayBe_100 rfl (lv_at hl 1 rfl) ?_
                refine va_get (D := (dC, dI)) (ci := 1) (v := .ref (b 1)) (C := RX1) (T := TX1) (N := 17) hx hb hg inX1 hown hK hP 0 rfl rfl 5 (by decide) (hg _ w_351) (fun _ h9 => h9) rfl dX1_mayBe_101 ?_
                refine lv_bipush (v := 41) hx hb dX1_mayBe_104 (by decide) ?_
                refine lv_iload_n hx hb dX1_mayBe_106 rfl (lv_at hl 3 rfl) ?_
                refine lv_imul hx hb dX1_mayBe_107 ?_
                refine lv_iload hx hb dX1_mayBe_108 (lv_at hl 6 rfl) ?_
                refine lv_iadd hx hb dX1_mayBe_110 ?_
                refine va_zald hx hb hK hP 1 0 rfl rfl (th_in hs2 (cnt_rg hinv c_35)) dX1_mayBe_111 ?_
                refine lv_if_eq (tgt := 134) hx hb dX1_mayBe_112 (by decide) (fun c_112 => ?_) (fun c_112 => ?_)
                · refine lv_iconst (v := 0) hx hb dX1_mayBe_134 (by decide) ?_
                  refine lv_istore (lv' := [(5, .int 0), (4, .int 1), (0, .ref (b 0)), (1, .int p1), (2, .int p2), (3, .int p3), (6, .int x6)]) hx hb dX1_mayBe_135 hl (by decide) rfl (fun ls hl => ?_)
                  refine lv_iinc (v := x6 + 1) (lv' := [(6, .int (x6 + 1)), (5, .int 0), (4, .int 1), (0, .ref (b 0)), (1, .int p1), (2, .int p2), (3, .int p3)]) hx hb dX1_mayBe_137 hl (k := 6) rfl rfl (by decide) rfl (fun ls hl => ?_)
                  refine lv_goto (tgt := 31) hx hb dX1_mayBe_140 (by decide) ?_
                  exact ih 1 0 (x6 + 1) H locs ls (cnt_s hinv c_35) hP hD hS (lv_sub hl [3, 4, 5, 6, 2, 1, 0] rfl) (fun x4_o31 x5_o31 hw H locs ls hP hD hS hl => k0 x4_o31 x5_o31 (by rw [sm_mayBe_L31_s]; rw [if_neg c_35, if_pos c_40, if_neg c_55, if_pos c_70, if_neg c_85, if_pos c_97, if_pos c_112]; exact hw) H locs ls hP hD hS hl)
                · refine lv_aload_n hx hb dX1_mayBe_115 rfl (lv_at hl 1 rfl) ?_
                  refine va_get (D := (dC, dI)) (ci := 1) (v := .ref (b 2)) (C := RX1) (T := TX1) (N := 17) hx hb hg inX1 hown hK hP 0 rfl rfl 6 (by decide) (hg _ w_352) (fun _ h9 => h9) rfl dX1_mayBe_116 ?_
                  refine lv_bipush (v := 41) hx hb dX1_mayBe_119 (by decide) ?_
                  refine lv_iload_n hx hb dX1_mayBe_121 rfl (lv_at hl 2 rfl) ?_
                  refine lv_imul hx hb dX1_mayBe_122 ?_
                  refine lv_iload hx hb dX1_mayBe_123 (lv_at hl 6 rfl) ?_
                  refine lv_iadd hx hb dX1_mayBe_125 ?_
                  refine va_zald hx hb hK hP 2 1 rfl rfl (th_in hs (cnt_rg hinv c_35)) dX1_mayBe_126 ?_
                  refine lv_if_eq (tgt := 134) hx hb dX1_mayBe_127 (by decide) (fun c_127 => ?_) (fun c_127 => ?_)
                  · refine lv_iconst (v := 0) hx hb dX1_mayBe_134 (by decide) ?_
                    refine lv_istore (lv' := [(5, .int 0), (4, .int 1), (0, .ref (b 0)), (1, .int p1), (2, .int p2), (3, .int p3), (6, .int x6)]) hx hb dX1_mayBe_135 hl (by decide) rfl (fun ls hl => ?_)
                    refine lv_iinc (v := x6 + 1) (lv' := [(6, .int (x6 + 1)), (5, .int 0), (4, .int 1), (0, .ref (b 0)), (1, .int p1), (2, .int p2), (3, .int p3)]) hx hb dX1_mayBe_137 hl (k := 6) rfl rfl (by decide) rfl (fun ls hl => ?_)
                    refine lv_goto (tgt := 31) hx hb dX1_mayBe_140 (by decide) ?_
                    exact ih 1 0 (x6 + 1) H locs ls (cnt_s hinv c_35) hP hD hS (lv_sub hl [3, 4, 5, 6, 2, 1, 0] rfl) (fun x4_o31 x5_o31 hw H locs ls hP hD hS hl => k0 x4_o31 x5_o31 (by rw [sm_mayBe_L31_s]; rw [if_neg c_35, if_pos c_40, if_neg c_55, if_pos c_70, if_neg c_85, if_pos c_97, if_neg c_112, if_pos c_127]; exact hw) H locs ls hP hD hS hl)
                  · refine lv_iconst (v := 1) hx hb dX1_mayBe_130 (by decide) ?_
                    refine lv_goto (tgt := 135) hx hb dX1_mayBe_131 (by decide) ?_
                    refine lv_istore (lv' := [(5, .int 1), (4, .int 1), (0, .ref (b 0)), (1, .int p1), (2, .int p2), (3, .int p3), (6, .int x6)]) hx hb dX1_mayBe_135 hl (by decide) rfl (fun ls hl => ?_)
                    refine lv_iinc (v := x6 + 1) (lv' := [(6, .int (x6 + 1)), (5, .int 1), (4, .int 1), (0, .ref (b 0)), (1, .int p1), (2, .int p2), (3, .int p3)]) hx hb dX1_mayBe_137 hl (k := 6) rfl rfl (by decide) rfl (fun ls hl => ?_)
                    refine lv_goto (tgt := 31) hx hb dX1_mayBe_140 (by decide) ?_
                    exact ih 1 1 (x6 + 1) H locs ls (cnt_s hinv c_35) hP hD hS (lv_sub hl [3, 4, 5, 6, 2, 1, 0] rfl) (fun x4_o31 x5_o31 hw H locs ls hP hD hS hl => k0 x4_o31 x5_o31 (by rw [sm_mayBe_L31_s]; rw [if_neg c_35, if_pos c_40, if_neg c_55, if_pos c_70, if_neg c_85, if_pos c_97, if_neg c_112, if_neg c_127]; exact hw) H locs ls hP hD hS hl)
set_option maxHeartbeats 4000000 in
set_option maxRecDepth 100000 in
theorem cm_mayBe (l : Launch) (dC : Nat → ClassId) (dI : Nat → Nat → Nat) (b : Nat → Nat) (h : Nat → ClassId) (sz : Nat) (uR uW uA uM uX uF uI uS : Nat → Int32) (ut us ur ub uo ui ul uk uh : Int32) (p1 p2 p3 : Int32) (hs : 0 ≤ p1.toInt ∧ p1.toInt < 48) (hs2 : 0 ≤ p2.toInt ∧ p2.toInt < 48) (hc : ∀ j : Nat, j ≤ p1.toNatClampNeg → -1 ≤ (uI j).toInt ∧ (uI j).toInt < j) : Met l yX1_mayBe wsX1_mayBe ({ frames := 1, cells := 0, slots := 0, locals := 23 } : Room) (va_Pc [.ref (b 0), .int p1, .int p2, .int p3] (pr (dC, dI) (ws_sm b h uR uW uA uM uX uF uI uS ut us ur ub uo ui ul uk uh) (ty_sm h) sz)) (va_Qi (fun (r : Int32) (_ : Unit) => r = sm_mayBe uR uW uA uF uI uS p1 p2 p3) (fun (_ : Unit) t => po (dC, dI) (ws_sm b h uR uW uA uM uX uF uI uS ut us ur ub uo ui ul uk uh) (ty_sm h) (va_A (ws_sm b h uR uW uA uM uX uF uI uS ut us ur ub uo ui ul uk uh) sz) t) (va_A (ws_sm b h uR uW uA uM uX uF uI uS ut us ur ub uo ui ul uk uh) sz)) 0 0 (va_A (ws_sm b h uR uW uA uM uX uF uI uS ut us ur ub uo ui ul uk uh) sz) := by
  refine Met.ofW (cc := cX1_mayBe) (maxL := 7) (ret := (some .boolean)) (by decide) rfl ?_
  intro p e s m args below meth c s₁ B hml hv
  obtain ⟨rfl, hsz, hP, hK, hD0⟩ := hv
  have hx := B.exec
  have hb := B.bytes
  have hr := B.returns
  have hts := atoms_spec (ws := wsX1_mayBe) B.pre
  have hg : ∀ w ∈ gw, w.before _ s = true := fun w h => hts w (List.mem_cons_of_mem _ h)
  have hown : s.vm.findClass RX1 = some m.cls := findClass_of_methodNamed B.named
  have hlocks := B.notSynchronized
  subst hsz
  have hD := hD0.self (sz := s.heap.size)
  generalize hAe : va_A (ws_sm b h uR uW uA uM uX uF uI uS ut us ur ub uo ui ul uk uh) s.heap.size = A at hD ⊢
  have hA : ∀ q : Nat, s.heap.size ≤ q → A q := fun q h => by rw [← hAe]; exact Or.inr h
  clear hAe
  refine w_in (fun H locs eH eL => ?_)
  have hS : va_S A s.heap H locs := by rw [eH, eL]; exact va_S.rf
  have hP : va_P (dC, dI) vwCl (ws_sm b h uR uW uA uM uX uF uI uS ut us ur ub uo ui ul uk uh) H := by rw [eH]; exact hP
  clear eH eL
  have hl := lv_entry ([.ref (b 0), .int p1, .int p2, .int p3]) (n := 7) (Nat.le_of_ble_eq_true rfl)
  rw [lg_entry_eq]
  generalize (lg_sl ([.ref (b 0), .int p1, .int p2, .int p3]) ++ List.replicate (7 - (lg_sl ([.ref (b 0), .int p1, .int p2, .int p3])).length) Slot.unset).toArray = ls at hl ⊢
  have hl : lv_has ls 7 [(0, .ref (b 0)), (1, .int p1), (2, .int p2), (3, .int p3)] := hl
  refine lv_aload_n hx hb dX1_mayBe_0 rfl (lv_at hl 0 rfl) ?_
  refine va_get (D := (dC, dI)) (ci := 1) (v := .ref (b 6)) (C := RX1) (T := TX1) (N := 17) hx hb hg inX1 hown hK hP 0 rfl rfl 10 (by decide) (hg _ w_356) (fun _ h9 => h9) rfl dX1_mayBe_1 ?_
  refine lv_iload_n hx hb dX1_mayBe_4 rfl (lv_at hl 2 rfl) ?_
  refine va_zald hx hb hK hP 6 5 rfl rfl (ix_k hs2) dX1_mayBe_5 ?_
  refine lv_if_eq (tgt := 22) hx hb dX1_mayBe_6 (by decide) (fun c_6 => ?_) (fun c_6 => ?_)
  · refine lv_iconst (v := 0) hx hb dX1_mayBe_22 (by decide) ?_
    refine lv_istore (lv' := [(4, .int 0), (0, .ref (b 0)), (1, .int p1), (2, .int p2), (3, .int p3)]) hx hb dX1_mayBe_23 hl (by decide) rfl (fun ls hl => ?_)
    refine lv_iconst (v := 0) hx hb dX1_mayBe_25 (by decide) ?_
    refine lv_istore (lv' := [(5, .int 0), (4, .int 0), (0, .ref (b 0)), (1, .int p1), (2, .int p2), (3, .int p3)]) hx hb dX1_mayBe_26 hl (by decide) rfl (fun ls hl => ?_)
    refine lv_iconst (v := 0) hx hb dX1_mayBe_28 (by decide) ?_
    refine lv_istore (lv' := [(6, .int 0), (5, .int 0), (4, .int 0), (0, .ref (b 0)), (1, .int p1), (2, .int p2), (3, .int p3)]) hx hb dX1_mayBe_29 hl (by decide) rfl (fun ls hl => ?_)
    refine cm_mayBe_L31 uR uW uA uM uX uF uI uS ut us ur ub uo ui ul uk uh p1 p2 p3 hx hb hml hown hg hA hK hs hs2 42 0 0 0 H locs ls (cnt_0 (by decide) (by decide)) hP hD hS (lv_sub hl [3, 4, 5, 6, 2, 1, 0] rfl) (fun x4_o31 x5_o31 hw_31 H locs ls hP hD hS hl => ?_)
    refine lv_iload hx hb dX1_mayBe_143 (lv_at hl 4 rfl) ?_
    refine lv_if_eq (tgt := 166) hx hb dX1_mayBe_145 (by decide) (fun c_145 => ?_) (fun c_145 => ?_)
    · refine lv_iload hx hb dX1_mayBe_166 (lv_at hl 5 rfl) ?_
      refine lv_if_eq (tgt := 181) hx hb dX1_mayBe_168 (by decide) (fun c_168 => ?_) (fun c_168 => ?_)
      · refine lv_iconst (v := 1) hx hb dX1_mayBe_181 (by decide) ?_
        refine lv_goto (tgt := 186) hx hb dX1_mayBe_182 (by decide) ?_
        refine lv_istore (lv' := [(6, .int 1), (0, .ref (b 0)), (1, .int p1), (2, .int p2), (3, .int p3), (4, .int x4_o31), (5, .int x5_o31)]) hx hb dX1_mayBe_186 hl (by decide) rfl (fun ls hl => ?_)
        refine lv_iload hx hb dX1_mayBe_188 (lv_at hl 0 rfl) ?_
        refine lv_if_eq (tgt := 232) hx hb dX1_mayBe_190 (by decide) (fun c_190 => ?_) (fun c_190 => ?_)
        · exact absurd c_190 (by decide)
        · refine lv_aload_n hx hb dX1_mayBe_193 rfl (lv_at hl 1 rfl) ?_
          refine va_get (D := (dC, dI)) (ci := 1) (v := .ref (b 3)) (C := RX1) (T := TX1) (N := 17) hx hb hg inX1 hown hK hP 0 rfl rfl 7 (by decide) (hg _ w_353) (fun _ h9 => h9) rfl dX1_mayBe_194 ?_
          refine lv_iload_n hx hb dX1_mayBe_197 rfl (lv_at hl 3 rfl) ?_
          refine va_iald hx hb hK hP 3 2 rfl rfl (ix_k hs2) dX1_mayBe_198 ?_
          refine lv_iconst (v := (-1)) hx hb dX1_mayBe_199 (by decide) ?_
          refine lv_icmp_eq (tgt := 228) hx hb dX1_mayBe_200 (by decide) (fun c_200 => ?_) (fun c_200 => ?_)
          · refine lv_iconst (v := 1) hx hb dX1_mayBe_228 (by decide) ?_
            refine lv_goto (tgt := 233) hx hb dX1_mayBe_229 (by decide) ?_
            have hw : 1 = sm_mayBe uR uW uA uF uI uS p1 p2 p3 := by unfold sm_mayBe; rw [if_pos c_6, hw_31]; (try dsimp only); rw [if_pos c_145, if_pos c_168, if_pos c_200]; (try rfl)
            exact W.zret (v := 1) hx hb hr rfl (fun t ht hW => ⟨⟨1, (), rfl, hw, ⟨by rw [ht]; exact hP, va_K.moved hW.alike hK, hD⟩⟩, hS.F ht⟩) hS.2.2 dX1_mayBe_233
          · refine lv_aload_n hx hb dX1_mayBe_203 rfl (lv_at hl 1 rfl) ?_
            refine va_get (D := (dC, dI)) (ci := 1) (v := .ref (b 3)) (C := RX1) (T := TX1) (N := 17) hx hb hg inX1 hown hK hP 0 rfl rfl 7 (by decide) (hg _ w_353) (fun _ h9 => h9) rfl dX1_mayBe_204 ?_
            refine lv_iload_n hx hb dX1_mayBe_207 rfl (lv_at hl 3 rfl) ?_
            refine va_iald hx hb hK hP 3 2 rfl rfl (ix_k hs2) dX1_mayBe_208 ?_
            refine lv_aload_n hx hb dX1_mayBe_209 rfl (lv_at hl 1 rfl) ?_
            refine va_get (D := (dC, dI)) (ci := 1) (v := .ref (b 3)) (C := RX1) (T := TX1) (N := 17) hx hb hg inX1 hown hK hP 0 rfl rfl 7 (by decide) (hg _ w_353) (fun _ h9 => h9) rfl dX1_mayBe_210 ?_
            refine lv_iload_n hx hb dX1_mayBe_213 rfl (lv_at hl 2 rfl) ?_
            refine va_iald hx hb hK hP 3 2 rfl rfl (ix_k hs) dX1_mayBe_214 ?_
            refine lv_icmp_ne (tgt := 228) hx hb dX1_mayBe_215 (by decide) (fun c_215 => ?_) (fun c_215 => ?_)
            · refine lv_iconst (v := 1) hx hb dX1_mayBe_228 (by decide) ?_
              refine lv_goto (tgt := 233) hx hb dX1_mayBe_229 (by decide) ?_
              have hw : 1 = sm_mayBe uR uW uA uF uI uS p1 p2 p3 := by unfold sm_mayBe; rw [if_pos c_6, hw_31]; (try dsimp only); rw [if_pos c_145, if_pos c_168, if_neg c_200, if_neg c_215]; (try rfl)
              exact W.zret (v := 1) hx hb hr rfl (fun t ht hW => ⟨⟨1, (), rfl, hw, ⟨by rw [ht]; exact hP, va_K.moved hW.alike hK, hD⟩⟩, hS.F ht⟩) hS.2.2 dX1_mayBe_233
            · refine lv_iload_n hx hb dX1_mayBe_218 rfl (lv_at hl 4 rfl) ?_
              refine lv_aload_n hx hb dX1_mayBe_219 rfl (lv_at hl 1 rfl) ?_
              refine va_get (D := (dC, dI)) (ci := 1) (v := .ref (b 8)) (C := RX1) (T := TX1) (N := 17) hx hb hg inX1 hown hK hP 0 rfl rfl 13 (by decide) (hg _ w_359) (fun _ h9 => h9) rfl dX1_mayBe_220 ?_
              refine lv_iload_n hx hb dX1_mayBe_223 rfl (lv_at hl 3 rfl) ?_
              refine va_iald hx hb hK hP 8 7 rfl rfl (ix_k hs2) dX1_mayBe_224 ?_
              refine lv_icmp_ne (tgt := 232) hx hb dX1_mayBe_225 (by decide) (fun c_225 => ?_) (fun c_225 => ?_)
              · refine lv_iconst (v := 0) hx hb dX1_mayBe_232 (by decide) ?_
                have hw : 0 = sm_mayBe uR uW uA uF uI uS p1 p2 p3 := by unfold sm_mayBe; rw [if_pos c_6, hw_31]; (try dsimp only); rw [if_pos c_145, if_pos c_168, if_neg c_200, if_pos c_215, if_neg c_225]; (try rfl)
                exact W.zret (v := 0) hx hb hr rfl (fun t ht hW => ⟨⟨0, (), rfl, hw, ⟨by rw [ht]; exact hP, va_K.moved hW.alike hK, hD⟩⟩, hS.F ht⟩) hS.2.2 dX1_mayBe_233
              · refine lv_iconst (v := 1) hx hb dX1_mayBe_228 (by decide) ?_
                refine lv_goto (tgt := 233) hx hb dX1_mayBe_229 (by decide) ?_
                have hw : 1 = sm_mayBe uR uW uA uF uI uS p1 p2 p3 := by unfold sm_mayBe; rw [if_pos c_6, hw_31]; (try dsimp only); rw [if_pos c_145, if_pos c_168, if_neg c_200, if_pos c_215, if_pos c_225]; (try rfl)
                exact W.zret (v := 1) hx hb hr rfl (fun t ht hW => ⟨⟨1, (), rfl, hw, ⟨by rw [ht]; exact hP, va_K.moved hW.alike hK, hD⟩⟩, hS.F ht⟩) hS.2.2 dX1_mayBe_233
      · refine lv_iload_n hx hb dX1_mayBe_171 rfl (lv_at hl 3 rfl) ?_
        refine lv_aload_n hx hb dX1_mayBe_172 rfl (lv_at hl 0 rfl) ?_
        refine va_get (D := (dC, dI)) (ci := 1) (v := .ref (b 8)) (C := RX1) (T := TX1) (N := 17) hx hb hg inX1 hown hK hP 0 rfl rfl 13 (by decide) (hg _ w_359) (fun _ h9 => h9) rfl dX1_mayBe_173 ?_
        refine lv_iload_n hx hb dX1_mayBe_176 rfl (lv_at hl 2 rfl) ?_
        refine va_iald hx hb hK hP 8 7 rfl rfl (ix_k hs2) dX1_mayBe_177 ?_
        refine lv_icmp_lt (tgt := 185) hx hb dX1_mayBe_178 (by decide) (fun c_178 => ?_) (fun c_178 => ?_)
        · refine lv_iconst (v := 0) hx hb dX1_mayBe_185 (by decide) ?_
          refine lv_istore (lv' := [(6, .int 0), (0, .ref (b 0)), (1, .int p1), (2, .int p2), (3, .int p3), (4, .int x4_o31), (5, .int x5_o31)]) hx hb dX1_mayBe_186 hl (by decide) rfl (fun ls hl => ?_)
          refine lv_iload hx hb dX1_mayBe_188 (lv_at hl 0 rfl) ?_
          refine lv_if_eq (tgt := 232) hx hb dX1_mayBe_190 (by decide) (fun c_190 => ?_) (fun c_190 => ?_)
          · refine lv_iconst (v := 0) hx hb dX1_mayBe_232 (by decide) ?_
            have hw : 0 = sm_mayBe uR uW uA uF uI uS p1 p2 p3 := by unfold sm_mayBe; rw [if_pos c_6, hw_31]; (try dsimp only); rw [if_pos c_145, if_neg c_168, if_pos c_178]; (try rfl)
            exact W.zret (v := 0) hx hb hr rfl (fun t ht hW => ⟨⟨0, (), rfl, hw, ⟨by rw [ht]; exact hP, va_K.moved hW.alike hK, hD⟩⟩, hS.F ht⟩) hS.2.2 dX1_mayBe_233
          · exact absurd c_190 (by decide)
        · refine lv_iconst (v := 1) hx hb dX1_mayBe_181 (by decide) ?_
          refine lv_goto (tgt := 186) hx hb dX1_mayBe_182 (by decide) ?_
          refine lv_istore (lv' := [(6, .int 1), (0, .ref (b 0)), (1, .int p1), (2, .int p2), (3, .int p3), (4, .int x4_o31), (5, .int x5_o31)]) hx hb dX1_mayBe_186 hl (by decide) rfl (fun ls hl => ?_)
          refine lv_iload hx hb dX1_mayBe_188 (lv_at hl 0 rfl) ?_
          refine lv_if_eq (tgt := 232) hx hb dX1_mayBe_190 (by decide) (fun c_190 => ?_) (fun c_190 => ?_)
          · exact absurd c_190 (by decide)
          · refine lv_aload_n hx hb dX1_mayBe_193 rfl (lv_at hl 1 rfl) ?_
            refine va_get (D := (dC, dI)) (ci := 1) (v := .ref (b 3)) (C := RX1) (T := TX1) (N := 17) hx hb hg inX1 hown hK hP 0 rfl rfl 7 (by decide) (hg _ w_353) (fun _ h9 => h9) rfl dX1_mayBe_194 ?_
            refine lv_iload_n hx hb dX1_mayBe_197 rfl (lv_at hl 3 rfl) ?_
            refine va_iald hx hb hK hP 3 2 rfl rfl (ix_k hs2) dX1_mayBe_198 ?_
            refine lv_iconst (v := (-1)) hx hb dX1_mayBe_199 (by decide) ?_
            refine lv_icmp_eq (tgt := 228) hx hb dX1_mayBe_200 (by decide) (fun c_200 => ?_) (fun c_200 => ?_)
            · refine lv_iconst (v := 1) hx hb dX1_mayBe_228 (by decide) ?_
              refine lv_goto (tgt := 233) hx hb dX1_mayBe_229 (by decide) ?_
              have hw : 1 = sm_mayBe uR uW uA uF uI uS p1 p2 p3 := by unfold sm_mayBe; rw [if_pos c_6, hw_31]; (try dsimp only); rw [if_pos c_145, if_neg c_168, if_neg c_178, if_pos c_200]; (try rfl)
              exact W.zret (v := 1) hx hb hr rfl (fun t ht hW => ⟨⟨1, (), rfl, hw, ⟨by rw [ht]; exact hP, va_K.moved hW.alike hK, hD⟩⟩, hS.F ht⟩) hS.2.2 dX1_mayBe_233
            · refine lv_aload_n hx hb dX1_mayBe_203 rfl (lv_at hl 1 rfl) ?_
              refine va_get (D := (dC, dI)) (ci := 1) (v := .ref (b 3)) (C := RX1) (T := TX1) (N := 17) hx hb hg inX1 hown hK hP 0 rfl rfl 7 (by decide) (hg _ w_353) (fun _ h9 => h9) rfl dX1_mayBe_204 ?_
              refine lv_iload_n hx hb dX1_mayBe_207 rfl (lv_at hl 3 rfl) ?_
              refine va_iald hx hb hK hP 3 2 rfl rfl (ix_k hs2) dX1_mayBe_208 ?_
              refine lv_aload_n hx hb dX1_mayBe_209 rfl (lv_at hl 1 rfl) ?_
              refine va_get (D := (dC, dI)) (ci := 1) (v := .ref (b 3)) (C := RX1) (T := TX1) (N := 17) hx hb hg inX1 hown hK hP 0 rfl rfl 7 (by decide) (hg _ w_353) (fun _ h9 => h9) rfl dX1_mayBe_210 ?_
              refine lv_iload_n hx hb dX1_mayBe_213 rfl (lv_at hl 2 rfl) ?_
              refine va_iald hx hb hK hP 3 2 rfl rfl (ix_k hs) dX1_mayBe_214 ?_
              refine lv_icmp_ne (tgt := 228) hx hb dX1_mayBe_215 (by decide) (fun c_215 => ?_) (fun c_215 => ?_)
              · refine lv_iconst (v := 1) hx hb dX1_mayBe_228 (by decide) ?_
                refine lv_goto (tgt := 233) hx hb dX1_mayBe_229 (by decide) ?_
                have hw : 1 = sm_mayBe uR uW uA uF uI uS p1 p2 p3 := by unfold sm_mayBe; rw [if_pos c_6, hw_31]; (try dsimp only); rw [if_pos c_145, if_neg c_168, if_neg c_178, if_neg c_200, if_neg c_215]; (try rfl)
                exact W.zret (v := 1) hx hb hr rfl (fun t ht hW => ⟨⟨1, (), rfl, hw, ⟨by rw [ht]; exact hP, va_K.moved hW.alike hK, hD⟩⟩, hS.F ht⟩) hS.2.2 dX1_mayBe_233
              · refine lv_iload_n hx hb dX1_mayBe_218 rfl (lv_at hl 4 rfl) ?_
                refine lv_aload_n hx hb dX1_mayBe_219 rfl (lv_at hl 1 rfl) ?_
                refine va_get (D := (dC, dI)) (ci := 1) (v := .ref (b 8)) (C := RX1) (T := TX1) (N := 17) hx hb hg inX1 hown hK hP 0 rfl rfl 13 (by decide) (hg _ w_359) (fun _ h9 => h9) rfl dX1_mayBe_220 ?_
                refine lv_iload_n hx hb dX1_mayBe_223 rfl (lv_at hl 3 rfl) ?_
                refine va_iald hx hb hK hP 8 7 rfl rfl (ix_k hs2) dX1_mayBe_224 ?_
                refine lv_icmp_ne (tgt := 232) hx hb dX1_mayBe_225 (by decide) (fun c_225 => ?_) (fun c_225 => ?_)
                · refine lv_iconst (v := 0) hx hb dX1_mayBe_232 (by decide) ?_
                  have hw : 0 = sm_mayBe uR uW uA uF uI uS p1 p2 p3 := by unfold sm_mayBe; rw [if_pos c_6, hw_31]; (try dsimp only); rw [if_pos c_145, if_neg c_168, if_neg c_178, if_neg c_200, if_pos c_215, if_neg c_225]; (try rfl)
                  exact W.zret (v := 0) hx hb hr rfl (fun t ht hW => ⟨⟨0, (), rfl, hw, ⟨by rw [ht]; exact hP, va_K.moved hW.alike hK, hD⟩⟩, hS.F ht⟩) hS.2.2 dX1_mayBe_233
                · refine lv_iconst (v := 1) hx hb dX1_mayBe_228 (by decide) ?_
                  refine lv_goto (tgt := 233) hx hb dX1_mayBe_229 (by decide) ?_
                  have hw : 1 = sm_mayBe uR uW uA uF uI uS p1 p2 p3 := by unfold sm_mayBe; rw [if_pos c_6, hw_31]; (try dsimp only); rw [if_pos c_145, if_neg c_168, if_neg c_178, if_neg c_200, if_pos c_215, if_pos c_225]; (try rfl)
                  exact W.zret (v := 1) hx hb hr rfl (fun t ht hW => ⟨⟨1, (), rfl, hw, ⟨by rw [ht]; exact hP, va_K.moved hW.alike hK, hD⟩⟩, hS.F ht⟩) hS.2.2 dX1_mayBe_233
    · refine lv_iload_n hx hb dX1_mayBe_148 rfl (lv_at hl 3 rfl) ?_
      refine lv_aload_n hx hb dX1_mayBe_149 rfl (lv_at hl 0 rfl) ?_
      refine va_get (D := (dC, dI)) (ci := 1) (v := .ref (b 8)) (C := RX1) (T := TX1) (N := 17) hx hb hg inX1 hown hK hP 0 rfl rfl 13 (by decide) (hg _ w_359) (fun _ h9 => h9) rfl dX1_mayBe_150 ?_
      refine lv_iload_n hx hb dX1_mayBe_153 rfl (lv_at hl 2 rfl) ?_
      refine va_iald hx hb hK hP 8 7 rfl rfl (ix_k hs2) dX1_mayBe_154 ?_
      refine lv_icmp_le (tgt := 162) hx hb dX1_mayBe_155 (by decide) (fun c_155 => ?_) (fun c_155 => ?_)
      · refine lv_iconst (v := 0) hx hb dX1_mayBe_162 (by decide) ?_
        refine lv_goto (tgt := 186) hx hb dX1_mayBe_163 (by decide) ?_
        refine lv_istore (lv' := [(6, .int 0), (0, .ref (b 0)), (1, .int p1), (2, .int p2), (3, .int p3), (4, .int x4_o31), (5, .int x5_o31)]) hx hb dX1_mayBe_186 hl (by decide) rfl (fun ls hl => ?_)
        refine lv_iload hx hb dX1_mayBe_188 (lv_at hl 0 rfl) ?_
        refine lv_if_eq (tgt := 232) hx hb dX1_mayBe_190 (by decide) (fun c_190 => ?_) (fun c_190 => ?_)
        · refine lv_iconst (v := 0) hx hb dX1_mayBe_232 (by decide) ?_
          have hw : 0 = sm_mayBe uR uW uA uF uI uS p1 p2 p3 := by unfold sm_mayBe; rw [if_pos c_6, hw_31]; (try dsimp only); rw [if_neg c_145, if_pos c_155]; (try rfl)
          exact W.zret (v := 0) hx hb hr rfl (fun t ht hW => ⟨⟨0, (), rfl, hw, ⟨by rw [ht]; exact hP, va_K.moved hW.alike hK, hD⟩⟩, hS.F ht⟩) hS.2.2 dX1_mayBe_233
        · exact absurd c_190 (by decide)
      · refine lv_iconst (v := 1) hx hb dX1_mayBe_158 (by decide) ?_
        refine lv_goto (tgt := 186) hx hb dX1_mayBe_159 (by decide) ?_
        refine lv_istore (lv' := [(6, .int 1), (0, .ref (b 0)), (1, .int p1), (2, .int p2), (3, .int p3), (4, .int x4_o31), (5, .int x5_o31)]) hx hb dX1_mayBe_186 hl (by decide) rfl (fun ls hl => ?_)
        refine lv_iload hx hb dX1_mayBe_188 (lv_at hl 0 rfl) ?_
        refine lv_if_eq (tgt := 232) hx hb dX1_mayBe_190 (by decide) (fun c_190 => ?_) (fun c_190 => ?_)
        · exact absurd c_190 (by decide)
        · refine lv_aload_n hx hb dX1_mayBe_193 rfl (lv_at hl 1 rfl) ?_
          refine va_get (D := (dC, dI)) (ci := 1) (v := .ref (b 3)) (C := RX1) (T := TX1) (N := 17) hx hb hg inX1 hown hK hP 0 rfl rfl 7 (by decide) (hg _ w_353) (fun _ h9 => h9) rfl dX1_mayBe_194 ?_
          refine lv_iload_n hx hb dX1_mayBe_197 rfl (lv_at hl 3 rfl) ?_
          refine va_iald hx hb hK hP 3 2 rfl rfl (ix_k hs2) dX1_mayBe_198 ?_
          refine lv_iconst (v := (-1)) hx hb dX1_mayBe_199 (by decide) ?_
          refine lv_icmp_eq (tgt := 228) hx hb dX1_mayBe_200 (by decide) (fun c_200 => ?_) (fun c_200 => ?_)
          · refine lv_iconst (v := 1) hx hb dX1_mayBe_228 (by decide) ?_
            refine lv_goto (tgt := 233) hx hb dX1_mayBe_229 (by decide) ?_
            have hw : 1 = sm_mayBe uR uW uA uF uI uS p1 p2 p3 := by unfold sm_mayBe; rw [if_pos c_6, hw_31]; (try dsimp only); rw [if_neg c_145, if_neg c_155, if_pos c_200]; (try rfl)
            exact W.zret (v := 1) hx hb hr rfl (fun t ht hW => ⟨⟨1, (), rfl, hw, ⟨by rw [ht]; exact hP, va_K.moved hW.alike hK, hD⟩⟩, hS.F ht⟩) hS.2.2 dX1_mayBe_233
          · refine lv_aload_n hx hb dX1_mayBe_203 rfl (lv_at hl 1 rfl) ?_
            refine va_get (D := (dC, dI)) (ci := 1) (v := .ref (b 3)) (C := RX1) (T := TX1) (N := 17) hx hb hg inX1 hown hK hP 0 rfl rfl 7 (by decide) (hg _ w_353) (fun _ h9 => h9) rfl dX1_mayBe_204 ?_
            refine lv_iload_n hx hb dX1_mayBe_207 rfl (lv_at hl 3 rfl) ?_
            refine va_iald hx hb hK hP 3 2 rfl rfl (ix_k hs2) dX1_mayBe_208 ?_
            refine lv_aload_n hx hb dX1_mayBe_209 rfl (lv_at hl 1 rfl) ?_
            refine va_get (D := (dC, dI)) (ci := 1) (v := .ref (b 3)) (C := RX1) (T := TX1) (N := 17) hx hb hg inX1 hown hK hP 0 rfl rfl 7 (by decide) (hg _ w_353) (fun _ h9 => h9) rfl dX1_mayBe_210 ?_
            refine lv_iload_n hx hb dX1_mayBe_213 rfl (lv_at hl 2 rfl) ?_
            refine va_iald hx hb hK hP 3 2 rfl rfl (ix_k hs) dX1_mayBe_214 ?_
            refine lv_icmp_ne (tgt := 228) hx hb dX1_mayBe_215 (by decide) (fun c_215 => ?_) (fun c_215 => ?_)
            · refine lv_iconst (v := 1) hx hb dX1_mayBe_228 (by decide) ?_
              refine lv_goto (tgt := 233) hx hb dX1_mayBe_229 (by decide) ?_
              have hw : 1 = sm_mayBe uR uW uA uF uI uS p1 p2 p3 := by unfold sm_mayBe; rw [if_pos c_6, hw_31]; (try dsimp only); rw [if_neg c_145, if_neg c_155, if_neg c_200, if_neg c_215]; (try rfl)
              exact W.zret (v := 1) hx hb hr rfl (fun t ht hW => ⟨⟨1, (), rfl, hw, ⟨by rw [ht]; exact hP, va_K.moved hW.alike hK, hD⟩⟩, hS.F ht⟩) hS.2.2 dX1_mayBe_233
            · refine lv_iload_n hx hb dX1_mayBe_218 rfl (lv_at hl 4 rfl) ?_
              refine lv_aload_n hx hb dX1_mayBe_219 rfl (lv_at hl 1 rfl) ?_
              refine va_get (D := (dC, dI)) (ci := 1) (v := .ref (b 8)) (C := RX1) (T := TX1) (N := 17) hx hb hg inX1 hown hK hP 0 rfl rfl 13 (by decide) (hg _ w_359) (fun _ h9 => h9) rfl dX1_mayBe_220 ?_
              refine lv_iload_n hx hb dX1_mayBe_223 rfl (lv_at hl 3 rfl) ?_
              refine va_iald hx hb hK hP 8 7 rfl rfl (ix_k hs2) dX1_mayBe_224 ?_
              refine lv_icmp_ne (tgt := 232) hx hb dX1_mayBe_225 (by decide) (fun c_225 => ?_) (fun c_225 => ?_)
              · refine lv_iconst (v := 0) hx hb dX1_mayBe_232 (by decide) ?_
                have hw : 0 = sm_mayBe uR uW uA uF uI uS p1 p2 p3 := by unfold sm_mayBe; rw [if_pos c_6, hw_31]; (try dsimp only); rw [if_neg c_145, if_neg c_155, if_neg c_200, if_pos c_215, if_neg c_225]; (try rfl)
                exact W.zret (v := 0) hx hb hr rfl (fun t ht hW => ⟨⟨0, (), rfl, hw, ⟨by rw [ht]; exact hP, va_K.moved hW.alike hK, hD⟩⟩, hS.F ht⟩) hS.2.2 dX1_mayBe_233
              · refine lv_iconst (v := 1) hx hb dX1_mayBe_228 (by decide) ?_
                refine lv_goto (tgt := 233) hx hb dX1_mayBe_229 (by decide) ?_
                have hw : 1 = sm_mayBe uR uW uA uF uI uS p1 p2 p3 := by unfold sm_mayBe; rw [if_pos c_6, hw_31]; (try dsimp only); rw [if_neg c_145, if_neg c_155, if_neg c_200, if_pos c_215, if_pos c_225]; (try rfl)
                exact W.zret (v := 1) hx hb hr rfl (fun t ht hW => ⟨⟨1, (), rfl, hw, ⟨by rw [ht]; exact hP, va_K.moved hW.alike hK, hD⟩⟩, hS.F ht⟩) hS.2.2 dX1_mayBe_233
  · refine lv_aload_n hx hb dX1_mayBe_9 rfl (lv_at hl 0 rfl) ?_
    refine lv_iload_n hx hb dX1_mayBe_10 rfl (lv_at hl 1 rfl) ?_
    refine lv_iload_n hx hb dX1_mayBe_11 rfl (lv_at hl 2 rfl) ?_
    have hFc := va_free (wc := ws_sm b h uR uW uA uM uX uF uI uS ut us ur ub uo ui ul uk uh) hD hS hA [0, 1, 2, 3, 4, 5, 6, 7, 8] rfl
    refine va_calli (va_runV (As := [.int p1, .int p2]) (rest := []) ⟨hx, hb, hml, hown, hg⟩ (cm_isIn l dC dI b h H.size uR uW uA uM uX uF uI uS ut us ur ub uo ui ul uk uh p1 p2 hs hc) (cwV 2 hg (gi_V w_488 w_490 s_19 w_2 w_491) rfl rfl rfl (by decide +kernel) ⟨Nat.le_of_ble_eq_true rfl, Nat.le_of_ble_eq_true rfl⟩) ⟨pr_bl, va_recv hK hP (ci := 1) (q0 := 0) rfl rfl, pr_ok hK hP hD⟩ rfl rfl hl.1 rfl (lv_room (Nat.le_of_ble_eq_true rfl)) dX1_mayBe_12 ⟨Nat.le_of_ble_eq_true rfl, Nat.le_of_ble_eq_true rfl⟩) hS (fun q _ h => hFc q h) hFc (fun r_12 u t H1 locs ht hvm hw_12 hB hz1 hk1 hS => ?_)
    subst hw_12
    obtain ⟨hP, hK1, hD1⟩ := hB
    rw [ht] at hP
    have hD := hD1.weaken (fun _ q _ h => hFc q.1 h)
    generalize H1 = H at hP hS ⊢
    have hP : va_P (dC, dI) vwCl (ws_sm b h uR uW uA uM uX uF uI uS ut us ur ub uo ui ul uk uh) H := hP
    have hD : va_D A (ws_sm b h uR uW uA uM uX uF uI uS ut us ur ub uo ui ul uk uh) := hD
    refine lv_if_eq (tgt := 22) hx hb dX1_mayBe_15 (by decide) (fun c_15 => ?_) (fun c_15 => ?_)
    · refine lv_iconst (v := 0) hx hb dX1_mayBe_22 (by decide) ?_
      refine lv_istore (lv' := [(4, .int 0), (0, .ref (b 0)), (1, .int p1), (2, .int p2), (3, .int p3)]) hx hb dX1_mayBe_23 hl (by decide) rfl (fun ls hl => ?_)
      refine lv_iconst (v := 0) hx hb dX1_mayBe_25 (by decide) ?_
      refine lv_istore (lv' := [(5, .int 0), (4, .int 0), (0, .ref (b 0)), (1, .int p1), (2, .int p2), (3, .int p3)]) hx hb dX1_mayBe_26 hl (by decide) rfl (fun ls hl => ?_)
      refine lv_iconst (v := 0) hx hb dX1_mayBe_28 (by decide) ?_
      refine lv_istore (lv' := [(6, .int 0), (5, .int 0), (4, .int 0), (0, .ref (b 0)), (1, .int p1), (2, .int p2), (3, .int p3)]) hx hb dX1_mayBe_29 hl (by decide) rfl (fun ls hl => ?_)
      refine cm_mayBe_L31 uR uW uA uM uX uF uI uS ut us ur ub uo ui ul uk uh p1 p2 p3 hx hb hml hown hg hA hK hs hs2 42 0 0 0 H locs ls (cnt_0 (by decide) (by decide)) hP hD hS (lv_sub hl [3, 4, 5, 6, 2, 1, 0] rfl) (fun x4_o31 x5_o31 hw_31 H locs ls hP hD hS hl => ?_)
      refine lv_iload hx hb dX1_mayBe_143 (lv_at hl 4 rfl) ?_
      refine lv_if_eq (tgt := 166) hx hb dX1_mayBe_145 (by decide) (fun c_145 => ?_) (fun c_145 => ?_)
      · refine lv_iload hx hb dX1_mayBe_166 (lv_at hl 5 rfl) ?_
        refine lv_if_eq (tgt := 181) hx hb dX1_mayBe_168 (by decide) (fun c_168 => ?_) (fun c_168 => ?_)
        · refine lv_iconst (v := 1) hx hb dX1_mayBe_181 (by decide) ?_
          refine lv_goto (tgt := 186) hx hb dX1_mayBe_182 (by decide) ?_
          refine lv_istore (lv' := [(6, .int 1), (0, .ref (b 0)), (1, .int p1), (2, .int p2), (3, .int p3), (4, .int x4_o31), (5, .int x5_o31)]) hx hb dX1_mayBe_186 hl (by decide) rfl (fun ls hl => ?_)
          refine lv_iload hx hb dX1_mayBe_188 (lv_at hl 0 rfl) ?_
          refine lv_if_eq (tgt := 232) hx hb dX1_mayBe_190 (by decide) (fun c_190 => ?_) (fun c_190 => ?_)
          · exact absurd c_190 (by decide)
          · refine lv_aload_n hx hb dX1_mayBe_193 rfl (lv_at hl 1 rfl) ?_
            refine va_get (D := (dC, dI)) (ci := 1) (v := .ref (b 3)) (C := RX1) (T := TX1) (N := 17) hx hb hg inX1 hown hK hP 0 rfl rfl 7 (by decide) (hg _ w_353) (fun _ h9 => h9) rfl dX1_mayBe_194 ?_
            refine lv_iload_n hx hb dX1_mayBe_197 rfl (lv_at hl 3 rfl) ?_
            refine va_iald hx hb hK hP 3 2 rfl rfl (ix_k hs2) dX1_mayBe_198 ?_
            refine lv_iconst (v := (-1)) hx hb dX1_mayBe_199 (by decide) ?_
            refine lv_icmp_eq (tgt := 228) hx hb dX1_mayBe_200 (by decide) (fun c_200 => ?_) (fun c_200 => ?_)
            · refine lv_iconst (v := 1) hx hb dX1_mayBe_228 (by decide) ?_
              refine lv_goto (tgt := 233) hx hb dX1_mayBe_229 (by decide) ?_
              have hw : 1 = sm_mayBe uR uW uA uF uI uS p1 p2 p3 := by unfold sm_mayBe; rw [if_neg c_6, if_pos c_15, hw_31]; (try dsimp only); rw [if_pos c_145, if_pos c_168, if_pos c_200]; (try rfl)
              exact W.zret (v := 1) hx hb hr rfl (fun t ht hW => ⟨⟨1, (), rfl, hw, ⟨by rw [ht]; exact hP, va_K.moved hW.alike hK, hD⟩⟩, hS.F ht⟩) hS.2.2 dX1_mayBe_233
            · refine lv_aload_n hx hb dX1_mayBe_203 rfl (lv_at hl 1 rfl) ?_
              refine va_get (D := (dC, dI)) (ci := 1) (v := .ref (b 3)) (C := RX1) (T := TX1) (N := 17) hx hb hg inX1 hown hK hP 0 rfl rfl 7 (by decide) (hg _ w_353) (fun _ h9 => h9) rfl dX1_mayBe_204 ?_
              refine lv_iload_n hx hb dX1_mayBe_207 rfl (lv_at hl 3 rfl) ?_
              refine va_iald hx hb hK hP 3 2 rfl rfl (ix_k hs2) dX1_mayBe_208 ?_
              refine lv_aload_n hx hb dX1_mayBe_209 rfl (lv_at hl 1 rfl) ?_
              refine va_get (D := (dC, dI)) (ci := 1) (v := .ref (b 3)) (C := RX1) (T := TX1) (N := 17) hx hb hg inX1 hown hK hP 0 rfl rfl 7 (by decide) (hg _ w_353) (fun _ h9 => h9) rfl dX1_mayBe_210 ?_
              refine lv_iload_n hx hb dX1_mayBe_213 rfl (lv_at hl 2 rfl) ?_
              refine va_iald hx hb hK hP 3 2 rfl rfl (ix_k hs) dX1_mayBe_214 ?_
              refine lv_icmp_ne (tgt := 228) hx hb dX1_mayBe_215 (by decide) (fun c_215 => ?_) (fun c_215 => ?_)
              · refine lv_iconst (v := 1) hx hb dX1_mayBe_228 (by decide) ?_
                refine lv_goto (tgt := 233) hx hb dX1_mayBe_229 (by decide) ?_
                have hw : 1 = sm_mayBe uR uW uA uF uI uS p1 p2 p3 := by unfold sm_mayBe; rw [if_neg c_6, if_pos c_15, hw_31]; (try dsimp only); rw [if_pos c_145, if_pos c_168, if_neg c_200, if_neg c_215]; (try rfl)
                exact W.zret (v := 1) hx hb hr rfl (fun t ht hW => ⟨⟨1, (), rfl, hw, ⟨by rw [ht]; exact hP, va_K.moved hW.alike hK, hD⟩⟩, hS.F ht⟩) hS.2.2 dX1_mayBe_233
              · refine lv_iload_n hx hb dX1_mayBe_218 rfl (lv_at hl 4 rfl) ?_
                refine lv_aload_n hx hb dX1_mayBe_219 rfl (lv_at hl 1 rfl) ?_
                refine va_get (D := (dC, dI)) (ci := 1) (v := .ref (b 8)) (C := RX1) (T := TX1) (N := 17) hx hb hg inX1 hown hK hP 0 rfl rfl 13 (by decide) (hg _ w_359) (fun _ h9 => h9) rfl dX1_mayBe_220 ?_
                refine lv_iload_n hx hb dX1_mayBe_223 rfl (lv_at hl 3 rfl) ?_
                refine va_iald hx hb hK hP 8 7 rfl rfl (ix_k hs2) dX1_mayBe_224 ?_
                refine lv_icmp_ne (tgt := 232) hx hb dX1_mayBe_225 (by decide) (fun c_225 => ?_) (fun c_225 => ?_)
                · refine lv_iconst (v := 0) hx hb dX1_mayBe_232 (by decide) ?_
                  have hw : 0 = sm_mayBe uR uW uA uF uI uS p1 p2 p3 := by unfold sm_mayBe; rw [if_neg c_6, if_pos c_15, hw_31]; (try dsimp only); rw [if_pos c_145, if_pos c_168, if_neg c_200, if_pos c_215, if_neg c_225]; (try rfl)
                  exact W.zret (v := 0) hx hb hr rfl (fun t ht hW => ⟨⟨0, (), rfl, hw, ⟨by rw [ht]; exact hP, va_K.moved hW.alike hK, hD⟩⟩, hS.F ht⟩) hS.2.2 dX1_mayBe_233
                · refine lv_iconst (v := 1) hx hb dX1_mayBe_228 (by decide) ?_
                  refine lv_goto (tgt := 233) hx hb dX1_mayBe_229 (by decide) ?_
                  have hw : 1 = sm_mayBe uR uW uA uF uI uS p1 p2 p3 := by unfold sm_mayBe; rw [if_neg c_6, if_pos c_15, hw_31]; (try dsimp only); rw [if_pos c_145, if_pos c_168, if_neg c_200, if_pos c_215, if_pos c_225]; (try rfl)
                  exact W.zret (v := 1) hx hb hr rfl (fun t ht hW => ⟨⟨1, (), rfl, hw, ⟨by rw [ht]; exact hP, va_K.moved hW.alike hK, hD⟩⟩, hS.F ht⟩) hS.2.2 dX1_mayBe_233
        · refine lv_iload_n hx hb dX1_mayBe_171 rfl (lv_at hl 3 rfl) ?_
          refine lv_aload_n hx hb dX1_mayBe_172 rfl (lv_at hl 0 rfl) ?_
          refine va_get (D := (dC, dI)) (ci := 1) (v := .ref (b 8)) (C := RX1) (T := TX1) (N := 17) hx hb hg inX1 hown hK hP 0 rfl rfl 13 (by decide) (hg _ w_359) (fun _ h9 => h9) rfl dX1_mayBe_173 ?_
          refine lv_iload_n hx hb dX1_mayBe_176 rfl (lv_at hl 2 rfl) ?_
          refine va_iald hx hb hK hP 8 7 rfl rfl (ix_k hs2) dX1_mayBe_177 ?_
          refine lv_icmp_lt (tgt := 185) hx hb dX1_mayBe_178 (by decide) (fun c_178 => ?_) (fun c_178 => ?_)
          · refine lv_iconst (v := 0) hx hb dX1_mayBe_185 (by decide) ?_
            refine lv_istore (lv' := [(6, .int 0), (0, .ref (b 0)), (1, .int p1), (2, .int p2), (3, .int p3), (4, .int x4_o31), (5, .int x5_o31)]) hx hb dX1_mayBe_186 hl (by decide) rfl (fun ls hl => ?_)
            refine lv_iload hx hb dX1_mayBe_188 (lv_at hl 0 rfl) ?_
            refine lv_if_eq (tgt := 232) hx hb dX1_mayBe_190 (by decide) (fun c_190 => ?_) (fun c_190 => ?_)
            · refine lv_iconst (v := 0) hx hb dX1_mayBe_232 (by decide) ?_
              have hw : 0 = sm_mayBe uR uW uA uF uI uS p1 p2 p3 := by unfold sm_mayBe; rw [if_neg c_6, if_pos c_15, hw_31]; (try dsimp only); rw [if_pos c_145, if_neg c_168, if_pos c_178]; (try rfl)
              exact W.zret (v := 0) hx hb hr rfl (fun t ht hW => ⟨⟨0, (), rfl, hw, ⟨by rw [ht]; exact hP, va_K.moved hW.alike hK, hD⟩⟩, hS.F ht⟩) hS.2.2 dX1_mayBe_233
            · exact absurd c_190 (by decide)
          · refine lv_iconst (v := 1) hx hb dX1_mayBe_181 (by decide) ?_
            refine lv_goto (tgt := 186) hx hb dX1_mayBe_182 (by decide) ?_
            refine lv_istore (lv' := [(6, .int 1), (0, .ref (b 0)), (1, .int p1), (2, .int p2), (3, .int p3), (4, .int x4_o31), (5, .int x5_o31)]) hx hb dX1_mayBe_186 hl (by decide) rfl (fun ls hl => ?_)
            refine lv_iload hx hb dX1_mayBe_188 (lv_at hl 0 rfl) ?_
            refine lv_if_eq (tgt := 232) hx hb dX1_mayBe_190 (by decide) (fun c_190 => ?_) (fun c_190 => ?_)
            · exact absurd c_190 (by decide)
            · refine lv_aload_n hx hb dX1_mayBe_193 rfl (lv_at hl 1 rfl) ?_
              refine va_get (D := (dC, dI)) (ci := 1) (v := .ref (b 3)) (C := RX1) (T := TX1) (N := 17) hx hb hg inX1 hown hK hP 0 rfl rfl 7 (by decide) (hg _ w_353) (fun _ h9 => h9) rfl dX1_mayBe_194 ?_
              refine lv_iload_n hx hb dX1_mayBe_197 rfl (lv_at hl 3 rfl) ?_
              refine va_iald hx hb hK hP 3 2 rfl rfl (ix_k hs2) dX1_mayBe_198 ?_
              refine lv_iconst (v := (-1)) hx hb dX1_mayBe_199 (by decide) ?_
              refine lv_icmp_eq (tgt := 228) hx hb dX1_mayBe_200 (by decide) (fun c_200 => ?_) (fun c_200 => ?_)
              · refine lv_iconst (v := 1) hx hb dX1_mayBe_228 (by decide) ?_
                refine lv_goto (tgt := 233) hx hb dX1_mayBe_229 (by decide) ?_
                have hw : 1 = sm_mayBe uR uW uA uF uI uS p1 p2 p3 := by unfold sm_mayBe; rw [if_neg c_6, if_pos c_15, hw_31]; (try dsimp only); rw [if_pos c_145, if_neg c_168, if_neg c_178, if_pos c_200]; (try rfl)
                exact W.zret (v := 1) hx hb hr rfl (fun t ht hW => ⟨⟨1, (), rfl, hw, ⟨by rw [ht]; exact hP, va_K.moved hW.alike hK, hD⟩⟩, hS.F ht⟩) hS.2.2 dX1_mayBe_233
              · refine lv_aload_n hx hb dX1_mayBe_203 rfl (lv_at hl 1 rfl) ?_
                refine va_get (D := (dC, dI)) (ci := 1) (v := .ref (b 3)) (C := RX1) (T := TX1) (N := 17) hx hb hg inX1 hown hK hP 0 rfl rfl 7 (by decide) (hg _ w_353) (fun _ h9 => h9) rfl dX1_mayBe_204 ?_
                refine lv_iload_n hx hb dX1_mayBe_207 rfl (lv_at hl 3 rfl) ?_
                refine va_iald hx hb hK hP 3 2 rfl rfl (ix_k hs2) dX1_mayBe_208 ?_
                refine lv_aload_n hx hb dX1_mayBe_209 rfl (lv_at hl 1 rfl) ?_
                refine va_get (D := (dC, dI)) (ci := 1) (v := .ref (b 3)) (C := RX1) (T := TX1) (N := 17) hx hb hg inX1 hown hK hP 0 rfl rfl 7 (by decide) (hg _ w_353) (fun _ h9 => h9) rfl dX1_mayBe_210 ?_
                refine lv_iload_n hx hb dX1_mayBe_213 rfl (lv_at hl 2 rfl) ?_
                refine va_iald hx hb hK hP 3 2 rfl rfl (ix_k hs) dX1_mayBe_214 ?_
                refine lv_icmp_ne (tgt := 228) hx hb dX1_mayBe_215 (by decide) (fun c_215 => ?_) (fun c_215 => ?_)
                · refine lv_iconst (v := 1) hx hb dX1_mayBe_228 (by decide) ?_
                  refine lv_goto (tgt := 233) hx hb dX1_mayBe_229 (by decide) ?_
                  have hw : 1 = sm_mayBe uR uW uA uF uI uS p1 p2 p3 := by unfold sm_mayBe; rw [if_neg c_6, if_pos c_15, hw_31]; (try dsimp only); rw [if_pos c_145, if_neg c_168, if_neg c_178, if_neg c_200, if_neg c_215]; (try rfl)
                  exact W.zret (v := 1) hx hb hr rfl (fun t ht hW => ⟨⟨1, (), rfl, hw, ⟨by rw [ht]; exact hP, va_K.moved hW.alike hK, hD⟩⟩, hS.F ht⟩) hS.2.2 dX1_mayBe_233
                · refine lv_iload_n hx hb dX1_mayBe_218 rfl (lv_at hl 4 rfl) ?_
                  refine lv_aload_n hx hb dX1_mayBe_219 rfl (lv_at hl 1 rfl) ?_
                  refine va_get (D := (dC, dI)) (ci := 1) (v := .ref (b 8)) (C := RX1) (T := TX1) (N := 17) hx hb hg inX1 hown hK hP 0 rfl rfl 13 (by decide) (hg _ w_359) (fun _ h9 => h9) rfl dX1_mayBe_220 ?_
                  refine lv_iload_n hx hb dX1_mayBe_223 rfl (lv_at hl 3 rfl) ?_
                  refine va_iald hx hb hK hP 8 7 rfl rfl (ix_k hs2) dX1_mayBe_224 ?_
                  refine lv_icmp_ne (tgt := 232) hx hb dX1_mayBe_225 (by decide) (fun c_225 => ?_) (fun c_225 => ?_)
                  · refine lv_iconst (v := 0) hx hb dX1_mayBe_232 (by decide) ?_
                    have hw : 0 = sm_mayBe uR uW uA uF uI uS p1 p2 p3 := by unfold sm_mayBe; rw [if_neg c_6, if_pos c_15, hw_31]; (try dsimp only); rw [if_pos c_145, if_neg c_168, if_neg c_178, if_neg c_200, if_pos c_215, if_neg c_225]; (try rfl)
                    exact W.zret (v := 0) hx hb hr rfl (fun t ht hW => ⟨⟨0, (), rfl, hw, ⟨by rw [ht]; exact hP, va_K.moved hW.alike hK, hD⟩⟩, hS.F ht⟩) hS.2.2 dX1_mayBe_233
                  · refine lv_iconst (v := 1) hx hb dX1_mayBe_228 (by decide) ?_
                    refine lv_goto (tgt := 233) hx hb dX1_mayBe_229 (by decide) ?_
                    have hw : 1 = sm_mayBe uR uW uA uF uI uS p1 p2 p3 := by unfold sm_mayBe; rw [if_neg c_6, if_pos c_15, hw_31]; (try dsimp only); rw [if_pos c_145, if_neg c_168, if_neg c_178, if_neg c_200, if_pos c_215, if_pos c_225]; (try rfl)
                    exact W.zret (v := 1) hx hb hr rfl (fun t ht hW => ⟨⟨1, (), rfl, hw, ⟨by rw [ht]; exact hP, va_K.moved hW.alike hK, hD⟩⟩, hS.F ht⟩) hS.2.2 dX1_mayBe_233
      · refine lv_iload_n hx hb dX1_mayBe_148 rfl (lv_at hl 3 rfl) ?_
        refine lv_aload_n hx hb dX1_mayBe_149 rfl (lv_at hl 0 rfl) ?_
        refine va_get (D := (dC, dI)) (ci := 1) (v := .ref (b 8)) (C := RX1) (T := TX1) (N := 17) hx hb hg inX1 hown hK hP 0 rfl rfl 13 (by decide) (hg _ w_359) (fun _ h9 => h9) rfl dX1_mayBe_150 ?_
        refine lv_iload_n hx hb dX1_mayBe_153 rfl (lv_at hl 2 rfl) ?_
        refine va_iald hx hb hK hP 8 7 rfl rfl (ix_k hs2) dX1_mayBe_154 ?_
        refine lv_icmp_le (tgt := 162) hx hb dX1_mayBe_155 (by decide) (fun c_155 => ?_) (fun c_155 => ?_)
        · refine lv_iconst (v := 0) hx hb dX1_mayBe_162 (by decide) ?_
          refine lv_goto (tgt := 186) hx hb dX1_mayBe_163 (by decide) ?_
          refine lv_istore (lv' := [(6, .int 0), (0, .ref (b 0)), (1, .int p1), (2, .int p2), (3, .int p3), (4, .int x4_o31), (5, .int x5_o31)]) hx hb dX1_mayBe_186 hl (by decide) rfl (fun ls hl => ?_)
          refine lv_iload hx hb dX1_mayBe_188 (lv_at hl 0 rfl) ?_
          refine lv_if_eq (tgt := 232) hx hb dX1_mayBe_190 (by decide) (fun c_190 => ?_) (fun c_190 => ?_)
          · refine lv_iconst (v := 0) hx hb dX1_mayBe_232 (by decide) ?_
            have hw : 0 = sm_mayBe uR uW uA uF uI uS p1 p2 p3 := by unfold sm_mayBe; rw [if_neg c_6, if_pos c_15, hw_31]; (try dsimp only); rw [if_neg c_145, if_pos c_155]; (try rfl)
            exact W.zret (v := 0) hx hb hr rfl (fun t ht hW => ⟨⟨0, (), rfl, hw, ⟨by rw [ht]; exact hP, va_K.moved hW.alike hK, hD⟩⟩, hS.F ht⟩) hS.2.2 dX1_mayBe_233
          · exact absurd c_190 (by decide)
        · refine lv_iconst (v := 1) hx hb dX1_mayBe_158 (by decide) ?_
          refine lv_goto (tgt := 186) hx hb dX1_mayBe_159 (by decide) ?_
          refine lv_istore (lv' := [(6, .int 1), (0, .ref (b 0)), (1, .int p1), (2, .int p2), (3, .int p3), (4, .int x4_o31), (5, .int x5_o31)]) hx hb dX1_mayBe_186 hl (by decide) rfl (fun ls hl => ?_)
          refine lv_iload hx hb dX1_mayBe_188 (lv_at hl 0 rfl) ?_
          refine lv_if_eq (tgt := 232) hx hb dX1_mayBe_190 (by decide) (fun c_190 => ?_) (fun c_190 => ?_)
          · exact absurd c_190 (by decide)
          · refine lv_aload_n hx hb dX1_mayBe_193 rfl (lv_at hl 1 rfl) ?_
            refine va_get (D := (dC, dI)) (ci := 1) (v := .ref (b 3)) (C := RX1) (T := TX1) (N := 17) hx hb hg inX1 hown hK hP 0 rfl rfl 7 (by decide) (hg _ w_353) (fun _ h9 => h9) rfl dX1_mayBe_194 ?_
            refine lv_iload_n hx hb dX1_mayBe_197 rfl (lv_at hl 3 rfl) ?_
            refine va_iald hx hb hK hP 3 2 rfl rfl (ix_k hs2) dX1_mayBe_198 ?_
            refine lv_iconst (v := (-1)) hx hb dX1_mayBe_199 (by decide) ?_
            refine lv_icmp_eq (tgt := 228) hx hb dX1_mayBe_200 (by decide) (fun c_200 => ?_) (fun c_200 => ?_)
            · refine lv_iconst (v := 1) hx hb dX1_mayBe_228 (by decide) ?_
              refine lv_goto (tgt := 233) hx hb dX1_mayBe_229 (by decide) ?_
              have hw : 1 = sm_mayBe uR uW uA uF uI uS p1 p2 p3 := by unfold sm_mayBe; rw [if_neg c_6, if_pos c_15, hw_31]; (try dsimp only); rw [if_neg c_145, if_neg c_155, if_pos c_200]; (try rfl)
              exact W.zret (v := 1) hx hb hr rfl (fun t ht hW => ⟨⟨1, (), rfl, hw, ⟨by rw [ht]; exact hP, va_K.moved hW.alike hK, hD⟩⟩, hS.F ht⟩) hS.2.2 dX1_mayBe_233
            · refine lv_aload_n hx hb dX1_mayBe_203 rfl (lv_at hl 1 rfl) ?_
              refine va_get (D := (dC, dI)) (ci := 1) (v := .ref (b 3)) (C := RX1) (T := TX1) (N := 17) hx hb hg inX1 hown hK hP 0 rfl rfl 7 (by decide) (hg _ w_353) (fun _ h9 => h9) rfl dX1_mayBe_204 ?_
              refine lv_iload_n hx hb dX1_mayBe_207 rfl (lv_at hl 3 rfl) ?_
              refine va_iald hx hb hK hP 3 2 rfl rfl (ix_k hs2) dX1_mayBe_208 ?_
              refine lv_aload_n hx hb dX1_mayBe_209 rfl (lv_at hl 1 rfl) ?_
              refine va_get (D := (dC, dI)) (ci := 1) (v := .ref (b 3)) (C := RX1) (T := TX1) (N := 17) hx hb hg inX1 hown hK hP 0 rfl rfl 7 (by decide) (hg _ w_353) (fun _ h9 => h9) rfl dX1_mayBe_210 ?_
              refine lv_iload_n hx hb dX1_mayBe_213 rfl (lv_at hl 2 rfl) ?_
              refine va_iald hx hb hK hP 3 2 rfl rfl (ix_k hs) dX1_mayBe_214 ?_
              refine lv_icmp_ne (tgt := 228) hx hb dX1_mayBe_215 (by decide) (fun c_215 => ?_) (fun c_215 => ?_)
              · refine lv_iconst (v := 1) hx hb dX1_mayBe_228 (by decide) ?_
                refine lv_goto (tgt := 233) hx hb dX1_mayBe_229 (by decide) ?_
                have hw : 1 = sm_mayBe uR uW uA uF uI uS p1 p2 p3 := by unfold sm_mayBe; rw [if_neg c_6, if_pos c_15, hw_31]; (try dsimp only); rw [if_neg c_145, if_neg c_155, if_neg c_200, if_neg c_215]; (try rfl)
                exact W.zret (v := 1) hx hb hr rfl (fun t ht hW => ⟨⟨1, (), rfl, hw, ⟨by rw [ht]; exact hP, va_K.moved hW.alike hK, hD⟩⟩, hS.F ht⟩) hS.2.2 dX1_mayBe_233
              · refine lv_iload_n hx hb dX1_mayBe_218 rfl (lv_at hl 4 rfl) ?_
                refine lv_aload_n hx hb dX1_mayBe_219 rfl (lv_at hl 1 rfl) ?_
                refine va_get (D := (dC, dI)) (ci := 1) (v := .ref (b 8)) (C := RX1) (T := TX1) (N := 17) hx hb hg inX1 hown hK hP 0 rfl rfl 13 (by decide) (hg _ w_359) (fun _ h9 => h9) rfl dX1_mayBe_220 ?_
                refine lv_iload_n hx hb dX1_mayBe_223 rfl (lv_at hl 3 rfl) ?_
                refine va_iald hx hb hK hP 8 7 rfl rfl (ix_k hs2) dX1_mayBe_224 ?_
                refine lv_icmp_ne (tgt := 232) hx hb dX1_mayBe_225 (by decide) (fun c_225 => ?_) (fun c_225 => ?_)
                · refine lv_iconst (v := 0) hx hb dX1_mayBe_232 (by decide) ?_
                  have hw : 0 = sm_mayBe uR uW uA uF uI uS p1 p2 p3 := by unfold sm_mayBe; rw [if_neg c_6, if_pos c_15, hw_31]; (try dsimp only); rw [if_neg c_145, if_neg c_155, if_neg c_200, if_pos c_215, if_neg c_225]; (try rfl)
                  exact W.zret (v := 0) hx hb hr rfl (fun t ht hW => ⟨⟨0, (), rfl, hw, ⟨by rw [ht]; exact hP, va_K.moved hW.alike hK, hD⟩⟩, hS.F ht⟩) hS.2.2 dX1_mayBe_233
                · refine lv_iconst (v := 1) hx hb dX1_mayBe_228 (by decide) ?_
                  refine lv_goto (tgt := 233) hx hb dX1_mayBe_229 (by decide) ?_
                  have hw : 1 = sm_mayBe uR uW uA uF uI uS p1 p2 p3 := by unfold sm_mayBe; rw [if_neg c_6, if_pos c_15, hw_31]; (try dsimp only); rw [if_neg c_145, if_neg c_155, if_neg c_200, if_pos c_215, if_pos c_225]; (try rfl)
                  exact W.zret (v := 1) hx hb hr rfl (fun t ht hW => ⟨⟨1, (), rfl, hw, ⟨by rw [ht]; exact hP, va_K.moved hW.alike hK, hD⟩⟩, hS.F ht⟩) hS.2.2 dX1_mayBe_233
    · refine lv_iconst (v := 1) hx hb dX1_mayBe_18 (by decide) ?_
      refine lv_goto (tgt := 23) hx hb dX1_mayBe_19 (by decide) ?_
      refine lv_istore (lv' := [(4, .int 1), (0, .ref (b 0)), (1, .int p1), (2, .int p2), (3, .int p3)]) hx hb dX1_mayBe_23 hl (by decide) rfl (fun ls hl => ?_)
      refine lv_iconst (v := 0) hx hb dX1_mayBe_25 (by decide) ?_
      refine lv_istore (lv' := [(5, .int 0), (4, .int 1), (0, .ref (b 0)), (1, .int p1), (2, .int p2), (3, .int p3)]) hx hb dX1_mayBe_26 hl (by decide) rfl (fun ls hl => ?_)
      refine lv_iconst (v := 0) hx hb dX1_mayBe_28 (by decide) ?_
      refine lv_istore (lv' := [(6, .int 0), (5, .int 0), (4, .int 1), (0, .ref (b 0)), (1, .int p1), (2, .int p2), (3, .int p3)]) hx hb dX1_mayBe_29 hl (by decide) rfl (fun ls hl => ?_)
      refine cm_mayBe_L31 uR uW uA uM uX uF uI uS ut us ur ub uo ui ul uk uh p1 p2 p3 hx hb hml hown hg hA hK hs hs2 42 1 0 0 H locs ls (cnt_0 (by decide) (by decide)) hP hD hS (lv_sub hl [3, 4, 5, 6, 2, 1, 0] rfl) (fun x4_o31 x5_o31 hw_31 H locs ls hP hD hS hl => ?_)
      refine lv_iload hx hb dX1_mayBe_143 (lv_at hl 4 rfl) ?_
      refine lv_if_eq (tgt := 166) hx hb dX1_mayBe_145 (by decide) (fun c_145 => ?_) (fun c_145 => ?_)
      · refine lv_iload hx hb dX1_mayBe_166 (lv_at hl 5 rfl) ?_
        refine lv_if_eq (tgt := 181) hx hb dX1_mayBe_168 (by decide) (fun c_168 => ?_) (fun c_168 => ?_)
        · refine lv_iconst (v := 1) hx hb dX1_mayBe_181 (by decide) ?_
          refine lv_goto (tgt := 186) hx hb dX1_mayBe_182 (by decide) ?_
          refine lv_istore (lv' := [(6, .int 1), (0, .ref (b 0)), (1, .int p1), (2, .int p2), (3, .int p3), (4, .int x4_o31), (5, .int x5_o31)]) hx hb dX1_mayBe_186 hl (by decide) rfl (fun ls hl => ?_)
          refine lv_iload hx hb dX1_mayBe_188 (lv_at hl 0 rfl) ?_
          refine lv_if_eq (tgt := 232) hx hb dX1_mayBe_190 (by decide) (fun c_190 => ?_) (fun c_190 => ?_)
          · exact absurd c_190 (by decide)
          · refine lv_aload_n hx hb dX1_mayBe_193 rfl (lv_at hl 1 rfl) ?_
            refine va_get (D := (dC, dI)) (ci := 1) (v := .ref (b 3)) (C := RX1) (T := TX1) (N := 17) hx hb hg inX1 hown hK hP 0 rfl rfl 7 (by decide) (hg _ w_353) (fun _ h9 => h9) rfl dX1_mayBe_194 ?_
            refine lv_iload_n hx hb dX1_mayBe_197 rfl (lv_at hl 3 rfl) ?_
            refine va_iald hx hb hK hP 3 2 rfl rfl (ix_k hs2) dX1_mayBe_198 ?_
            refine lv_iconst (v := (-1)) hx hb dX1_mayBe_199 (by decide) ?_
            refine lv_icmp_eq (tgt := 228) hx hb dX1_mayBe_200 (by decide) (fun c_200 => ?_) (fun c_200 => ?_)
            · refine lv_iconst (v := 1) hx hb dX1_mayBe_228 (by decide) ?_
              refine lv_goto (tgt := 233) hx hb dX1_mayBe_229 (by decide) ?_
              have hw : 1 = sm_mayBe uR uW uA uF uI uS p1 p2 p3 := by unfold sm_mayBe; rw [if_neg c_6, if_neg c_15, hw_31]; (try dsimp only); rw [if_pos c_145, if_pos c_168, if_pos c_200]; (try rfl)
              exact W.zret (v := 1) hx hb hr rfl (fun t ht hW => ⟨⟨1, (), rfl, hw, ⟨by rw [ht]; exact hP, va_K.moved hW.alike hK, hD⟩⟩, hS.F ht⟩) hS.2.2 dX1_mayBe_233
            · refine lv_aload_n hx hb dX1_mayBe_203 rfl (lv_at hl 1 rfl) ?_
              refine va_get (D := (dC, dI)) (ci := 1) (v := .ref (b 3)) (C := RX1) (T := TX1) (N := 17) hx hb hg inX1 hown hK hP 0 rfl rfl 7 (by decide) (hg _ w_353) (fun _ h9 => h9) rfl dX1_mayBe_204 ?_
              refine lv_iload_n hx hb dX1_mayBe_207 rfl (lv_at hl 3 rfl) ?_
              refine va_iald hx hb hK hP 3 2 rfl rfl (ix_k hs2) dX1_mayBe_208 ?_
              refine lv_aload_n hx hb dX1_mayBe_209 rfl (lv_at hl 1 rfl) ?_
              refine va_get (D := (dC, dI)) (ci := 1) (v := .ref (b 3)) (C := RX1) (T := TX1) (N := 17) hx hb hg inX1 hown hK hP 0 rfl rfl 7 (by decide) (hg _ w_353) (fun _ h9 => h9) rfl dX1_mayBe_210 ?_
              refine lv_iload_n hx hb dX1_mayBe_213 rfl (lv_at hl 2 rfl) ?_
              refine va_iald hx hb hK hP 3 2 rfl rfl (ix_k hs) dX1_mayBe_214 ?_
              refine lv_icmp_ne (tgt := 228) hx hb dX1_mayBe_215 (by decide) (fun c_215 => ?_) (fun c_215 => ?_)
              · refine lv_iconst (v := 1) hx hb dX1_mayBe_228 (by decide) ?_
                refine lv_goto (tgt := 233) hx hb dX1_mayBe_229 (by decide) ?_
                have hw : 1 = sm_mayBe uR uW uA uF uI uS p1 p2 p3 := by unfold sm_mayBe; rw [if_neg c_6, if_neg c_15, hw_31]; (try dsimp only); rw [if_pos c_145, if_pos c_168, if_neg c_200, if_neg c_215]; (try rfl)
                exact W.zret (v := 1) hx hb hr rfl (fun t ht hW => ⟨⟨1, (), rfl, hw, ⟨by rw [ht]; exact hP, va_K.moved hW.alike hK, hD⟩⟩, hS.F ht⟩) hS.2.2 dX1_mayBe_233
              · refine lv_iload_n hx hb dX1_mayBe_218 rfl (lv_at hl 4 rfl) ?_
                refine lv_aload_n hx hb dX1_mayBe_219 rfl (lv_at hl 1 rfl) ?_
                refine va_get (D := (dC, dI)) (ci := 1) (v := .ref (b 8)) (C := RX1) (T := TX1) (N := 17) hx hb hg inX1 hown hK hP 0 rfl rfl 13 (by decide) (hg _ w_359) (fun _ h9 => h9) rfl dX1_mayBe_220 ?_
                refine lv_iload_n hx hb dX1_mayBe_223 rfl (lv_at hl 3 rfl) ?_
                refine va_iald hx hb hK hP 8 7 rfl rfl (ix_k hs2) dX1_mayBe_224 ?_
                refine lv_icmp_ne (tgt := 232) hx hb dX1_mayBe_225 (by decide) (fun c_225 => ?_) (fun c_225 => ?_)
                · refine lv_iconst (v := 0) hx hb dX1_mayBe_232 (by decide) ?_
                  have hw : 0 = sm_mayBe uR uW uA uF uI uS p1 p2 p3 := by unfold sm_mayBe; rw [if_neg c_6, if_neg c_15, hw_31]; (try dsimp only); rw [if_pos c_145, if_pos c_168, if_neg c_200, if_pos c_215, if_neg c_225]; (try rfl)
                  exact W.zret (v := 0) hx hb hr rfl (fun t ht hW => ⟨⟨0, (), rfl, hw, ⟨by rw [ht]; exact hP, va_K.moved hW.alike hK, hD⟩⟩, hS.F ht⟩) hS.2.2 dX1_mayBe_233
                · refine lv_iconst (v := 1) hx hb dX1_mayBe_228 (by decide) ?_
                  refine lv_goto (tgt := 233) hx hb dX1_mayBe_229 (by decide) ?_
                  have hw : 1 = sm_mayBe uR uW uA uF uI uS p1 p2 p3 := by unfold sm_mayBe; rw [if_neg c_6, if_neg c_15, hw_31]; (try dsimp only); rw [if_pos c_145, if_pos c_168, if_neg c_200, if_pos c_215, if_pos c_225]; (try rfl)
                  exact W.zret (v := 1) hx hb hr rfl (fun t ht hW => ⟨⟨1, (), rfl, hw, ⟨by rw [ht]; exact hP, va_K.moved hW.alike hK, hD⟩⟩, hS.F ht⟩) hS.2.2 dX1_mayBe_233
        · refine lv_iload_n hx hb dX1_mayBe_171 rfl (lv_at hl 3 rfl) ?_
          refine lv_aload_n hx hb dX1_mayBe_172 rfl (lv_at hl 0 rfl) ?_
          refine va_get (D := (dC, dI)) (ci := 1) (v := .ref (b 8)) (C := RX1) (T := TX1) (N := 17) hx hb hg inX1 hown hK hP 0 rfl rfl 13 (by decide) (hg _ w_359) (fun _ h9 => h9) rfl dX1_mayBe_173 ?_
          refine lv_iload_n hx hb dX1_mayBe_176 rfl (lv_at hl 2 rfl) ?_
          refine va_iald hx hb hK hP 8 7 rfl rfl (ix_k hs2) dX1_mayBe_177 ?_
          refine lv_icmp_lt (tgt := 185) hx hb dX1_mayBe_178 (by decide) (fun c_178 => ?_) (fun c_178 => ?_)
          · refine lv_iconst (v := 0) hx hb dX1_mayBe_185 (by decide) ?_
            refine lv_istore (lv' := [(6, .int 0), (0, .ref (b 0)), (1, .int p1), (2, .int p2), (3, .int p3), (4, .int x4_o31), (5, .int x5_o31)]) hx hb dX1_mayBe_186 hl (by decide) rfl (fun ls hl => ?_)
            refine lv_iload hx hb dX1_mayBe_188 (lv_at hl 0 rfl) ?_
            refine lv_if_eq (tgt := 232) hx hb dX1_mayBe_190 (by decide) (fun c_190 => ?_) (fun c_190 => ?_)
            · refine lv_iconst (v := 0) hx hb dX1_mayBe_232 (by decide) ?_
              have hw : 0 = sm_mayBe uR uW uA uF uI uS p1 p2 p3 := by unfold sm_mayBe; rw [if_neg c_6, if_neg c_15, hw_31]; (try dsimp only); rw [if_pos c_145, if_neg c_168, if_pos c_178]; (try rfl)
              exact W.zret (v := 0) hx hb hr rfl (fun t ht hW => ⟨⟨0, (), rfl, hw, ⟨by rw [ht]; exact hP, va_K.moved hW.alike hK, hD⟩⟩, hS.F ht⟩) hS.2.2 dX1_mayBe_233
            · exact absurd c_190 (by decide)
          · refine lv_iconst (v := 1) hx hb dX1_mayBe_181 (by decide) ?_
            refine lv_goto (tgt := 186) hx hb dX1_mayBe_182 (by decide) ?_
            refine lv_istore (lv' := [(6, .int 1), (0, .ref (b 0)), (1, .int p1), (2, .int p2), (3, .int p3), (4, .int x4_o31), (5, .int x5_o31)]) hx hb dX1_mayBe_186 hl (by decide) rfl (fun ls hl => ?_)
            refine lv_iload hx hb dX1_mayBe_188 (lv_at hl 0 rfl) ?_
            refine lv_if_eq (tgt := 232) hx hb dX1_mayBe_190 (by decide) (fun c_190 => ?_) (fun c_190 => ?_)
            · exact absurd c_190 (by decide)
            · refine lv_aload_n hx hb dX1_mayBe_193 rfl (lv_at hl 1 rfl) ?_
              refine va_get (D := (dC, dI)) (ci := 1) (v := .ref (b 3)) (C := RX1) (T := TX1) (N := 17) hx hb hg inX1 hown hK hP 0 rfl rfl 7 (by decide) (hg _ w_353) (fun _ h9 => h9) rfl dX1_mayBe_194 ?_
              refine lv_iload_n hx hb dX1_mayBe_197 rfl (lv_at hl 3 rfl) ?_
              refine va_iald hx hb hK hP 3 2 rfl rfl (ix_k hs2) dX1_mayBe_198 ?_
              refine lv_iconst (v := (-1)) hx hb dX1_mayBe_199 (by decide) ?_
              refine lv_icmp_eq (tgt := 228) hx hb dX1_mayBe_200 (by decide) (fun c_200 => ?_) (fun c_200 => ?_)
              · refine lv_iconst (v := 1) hx hb dX1_mayBe_228 (by decide) ?_
                refine lv_goto (tgt := 233) hx hb dX1_mayBe_229 (by decide) ?_
                have hw : 1 = sm_mayBe uR uW uA uF uI uS p1 p2 p3 := by unfold sm_mayBe; rw [if_neg c_6, if_neg c_15, hw_31]; (try dsimp only); rw [if_pos c_145, if_neg c_168, if_neg c_178, if_pos c_200]; (try rfl)
                exact W.zret (v := 1) hx hb hr rfl (fun t ht hW => ⟨⟨1, (), rfl, hw, ⟨by rw [ht]; exact hP, va_K.moved hW.alike hK, hD⟩⟩, hS.F ht⟩) hS.2.2 dX1_mayBe_233
              · refine lv_aload_n hx hb dX1_mayBe_203 rfl (lv_at hl 1 rfl) ?_
                refine va_get (D := (dC, dI)) (ci := 1) (v := .ref (b 3)) (C := RX1) (T := TX1) (N := 17) hx hb hg inX1 hown hK hP 0 rfl rfl 7 (by decide) (hg _ w_353) (fun _ h9 => h9) rfl dX1_mayBe_204 ?_
                refine lv_iload_n hx hb dX1_mayBe_207 rfl (lv_at hl 3 rfl) ?_
                refine va_iald hx hb hK hP 3 2 rfl rfl (ix_k hs2) dX1_mayBe_208 ?_
                refine lv_aload_n hx hb dX1_mayBe_209 rfl (lv_at hl 1 rfl) ?_
                refine va_get (D := (dC, dI)) (ci := 1) (v := .ref (b 3)) (C := RX1) (T := TX1) (N := 17) hx hb hg inX1 hown hK hP 0 rfl rfl 7 (by decide) (hg _ w_353) (fun _ h9 => h9) rfl dX1_mayBe_210 ?_
                refine lv_iload_n hx hb dX1_mayBe_213 rfl (lv_at hl 2 rfl) ?_
                refine va_iald hx hb hK hP 3 2 rfl rfl (ix_k hs) dX1_mayBe_214 ?_
                refine lv_icmp_ne (tgt := 228) hx hb dX1_mayBe_215 (by decide) (fun c_215 => ?_) (fun c_215 => ?_)
                · refine lv_iconst (v := 1) hx hb dX1_mayBe_228 (by decide) ?_
                  refine lv_goto (tgt := 233) hx hb dX1_mayBe_229 (by decide) ?_
                  have hw : 1 = sm_mayBe uR uW uA uF uI uS p1 p2 p3 := by unfold sm_mayBe; rw [if_neg c_6, if_neg c_15, hw_31]; (try dsimp only); rw [if_pos c_145, if_neg c_168, if_neg c_178, if_neg c_200, if_neg c_215]; (try rfl)
                  exact W.zret (v := 1) hx hb hr rfl (fun t ht hW => ⟨⟨1, (), rfl, hw, ⟨by rw [ht]; exact hP, va_K.moved hW.alike hK, hD⟩⟩, hS.F ht⟩) hS.2.2 dX1_mayBe_233
                · refine lv_iload_n hx hb dX1_mayBe_218 rfl (lv_at hl 4 rfl) ?_
                  refine lv_aload_n hx hb dX1_mayBe_219 rfl (lv_at hl 1 rfl) ?_
                  refine va_get (D := (dC, dI)) (ci := 1) (v := .ref (b 8)) (C := RX1) (T := TX1) (N := 17) hx hb hg inX1 hown hK hP 0 rfl rfl 13 (by decide) (hg _ w_359) (fun _ h9 => h9) rfl dX1_mayBe_220 ?_
                  refine lv_iload_n hx hb dX1_mayBe_223 rfl (lv_at hl 3 rfl) ?_
                  refine va_iald hx hb hK hP 8 7 rfl rfl (ix_k hs2) dX1_mayBe_224 ?_
                  refine lv_icmp_ne (tgt := 232) hx hb dX1_mayBe_225 (by decide) (fun c_225 => ?_) (fun c_225 => ?_)
                  · refine lv_iconst (v := 0) hx hb dX1_mayBe_232 (by decide) ?_
                    have hw : 0 = sm_mayBe uR uW uA uF uI uS p1 p2 p3 := by unfold sm_mayBe; rw [if_neg c_6, if_neg c_15, hw_31]; (try dsimp only); rw [if_pos c_145, if_neg c_168, if_neg c_178, if_neg c_200, if_pos c_215, if_neg c_225]; (try rfl)
                    exact W.zret (v := 0) hx hb hr rfl (fun t ht hW => ⟨⟨0, (), rfl, hw, ⟨by rw [ht]; exact hP, va_K.moved hW.alike hK, hD⟩⟩, hS.F ht⟩) hS.2.2 dX1_mayBe_233
                  · refine lv_iconst (v := 1) hx hb dX1_mayBe_228 (by decide) ?_
                    refine lv_goto (tgt := 233) hx hb dX1_mayBe_229 (by decide) ?_
                    have hw : 1 = sm_mayBe uR uW uA uF uI uS p1 p2 p3 := by unfold sm_mayBe; rw [if_neg c_6, if_neg c_15, hw_31]; (try dsimp only); rw [if_pos c_145, if_neg c_168, if_neg c_178, if_neg c_200, if_pos c_215, if_pos c_225]; (try rfl)
                    exact W.zret (v := 1) hx hb hr rfl (fun t ht hW => ⟨⟨1, (), rfl, hw, ⟨by rw [ht]; exact hP, va_K.moved hW.alike hK, hD⟩⟩, hS.F ht⟩) hS.2.2 dX1_mayBe_233
      · refine lv_iload_n hx hb dX1_mayBe_148 rfl (lv_at hl 3 rfl) ?_
        refine lv_aload_n hx hb dX1_mayBe_149 rfl (lv_at hl 0 rfl) ?_
        refine va_get (D := (dC, dI)) (ci := 1) (v := .ref (b 8)) (C := RX1) (T := TX1) (N := 17) hx hb hg inX1 hown hK hP 0 rfl rfl 13 (by decide) (hg _ w_359) (fun _ h9 => h9) rfl dX1_mayBe_150 ?_
        refine lv_iload_n hx hb dX1_mayBe_153 rfl (lv_at hl 2 rfl) ?_
        refine va_iald hx hb hK hP 8 7 rfl rfl (ix_k hs2) dX1_mayBe_154 ?_
        refine lv_icmp_le (tgt := 162) hx hb dX1_mayBe_155 (by decide) (fun c_155 => ?_) (fun c_155 => ?_)
        · refine lv_iconst (v := 0) hx hb dX1_mayBe_162 (by decide) ?_
          refine lv_goto (tgt := 186) hx hb dX1_mayBe_163 (by decide) ?_
          refine lv_istore (lv' := [(6, .int 0), (0, .ref (b 0)), (1, .int p1), (2, .int p2), (3, .int p3), (4, .int x4_o31), (5, .int x5_o31)]) hx hb dX1_mayBe_186 hl (by decide) rfl (fun ls hl => ?_)
          refine lv_iload hx hb dX1_mayBe_188 (lv_at hl 0 rfl) ?_
          refine lv_if_eq (tgt := 232) hx hb dX1_mayBe_190 (by decide) (fun c_190 => ?_) (fun c_190 => ?_)
          · refine lv_iconst (v := 0) hx hb dX1_mayBe_232 (by decide) ?_
            have hw : 0 = sm_mayBe uR uW uA uF uI uS p1 p2 p3 := by unfold sm_mayBe; rw [if_neg c_6, if_neg c_15, hw_31]; (try dsimp only); rw [if_neg c_145, if_pos c_155]; (try rfl)
            exact W.zret (v := 0) hx hb hr rfl (fun t ht hW => ⟨⟨0, (), rfl, hw, ⟨by rw [ht]; exact hP, va_K.moved hW.alike hK, hD⟩⟩, hS.F ht⟩) hS.2.2 dX1_mayBe_233
          · exact absurd c_190 (by decide)
        · refine lv_iconst (v := 1) hx hb dX1_mayBe_158 (by decide) ?_
          refine lv_goto (tgt := 186) hx hb dX1_mayBe_159 (by decide) ?_
          refine lv_istore (lv' := [(6, .int 1), (0, .ref (b 0)), (1, .int p1), (2, .int p2), (3, .int p3), (4, .int x4_o31), (5, .int x5_o31)]) hx hb dX1_mayBe_186 hl (by decide) rfl (fun ls hl => ?_)
          refine lv_iload hx hb dX1_mayBe_188 (lv_at hl 0 rfl) ?_
          refine lv_if_eq (tgt := 232) hx hb dX1_mayBe_190 (by decide) (fun c_190 => ?_) (fun c_190 => ?_)
          · exact absurd c_190 (by decide)
          · refine lv_aload_n hx hb dX1_mayBe_193 rfl (lv_at hl 1 rfl) ?_
            refine va_get (D := (dC, dI)) (ci := 1) (v := .ref (b 3)) (C := RX1) (T := TX1) (N := 17) hx hb hg inX1 hown hK hP 0 rfl rfl 7 (by decide) (hg _ w_353) (fun _ h9 => h9) rfl dX1_mayBe_194 ?_
            refine lv_iload_n hx hb dX1_mayBe_197 rfl (lv_at hl 3 rfl) ?_
            refine va_iald hx hb hK hP 3 2 rfl rfl (ix_k hs2) dX1_mayBe_198 ?_
            refine lv_iconst (v := (-1)) hx hb dX1_mayBe_199 (by decide) ?_
            refine lv_icmp_eq (tgt := 228) hx hb dX1_mayBe_200 (by decide) (fun c_200 => ?_) (fun c_200 => ?_)
            · refine lv_iconst (v := 1) hx hb dX1_mayBe_228 (by decide) ?_
              refine lv_goto (tgt := 233) hx hb dX1_mayBe_229 (by decide) ?_
              have hw : 1 = sm_mayBe uR uW uA uF uI uS p1 p2 p3 := by unfold sm_mayBe; rw [if_neg c_6, if_neg c_15, hw_31]; (try dsimp only); rw [if_neg c_145, if_neg c_155, if_pos c_200]; (try rfl)
              exact W.zret (v := 1) hx hb hr rfl (fun t ht hW => ⟨⟨1, (), rfl, hw, ⟨by rw [ht]; exact hP, va_K.moved hW.alike hK, hD⟩⟩, hS.F ht⟩) hS.2.2 dX1_mayBe_233
            · refine lv_aload_n hx hb dX1_mayBe_203 rfl (lv_at hl 1 rfl) ?_
              refine va_get (D := (dC, dI)) (ci := 1) (v := .ref (b 3)) (C := RX1) (T := TX1) (N := 17) hx hb hg inX1 hown hK hP 0 rfl rfl 7 (by decide) (hg _ w_353) (fun _ h9 => h9) rfl dX1_mayBe_204 ?_
              refine lv_iload_n hx hb dX1_mayBe_207 rfl (lv_at hl 3 rfl) ?_
              refine va_iald hx hb hK hP 3 2 rfl rfl (ix_k hs2) dX1_mayBe_208 ?_
              refine lv_aload_n hx hb dX1_mayBe_209 rfl (lv_at hl 1 rfl) ?_
              refine va_get (D := (dC, dI)) (ci := 1) (v := .ref (b 3)) (C := RX1) (T := TX1) (N := 17) hx hb hg inX1 hown hK hP 0 rfl rfl 7 (by decide) (hg _ w_353) (fun _ h9 => h9) rfl dX1_mayBe_210 ?_
              refine lv_iload_n hx hb dX1_mayBe_213 rfl (lv_at hl 2 rfl) ?_
              refine va_iald hx hb hK hP 3 2 rfl rfl (ix_k hs) dX1_mayBe_214 ?_
              refine lv_icmp_ne (tgt := 228) hx hb dX1_mayBe_215 (by decide) (fun c_215 => ?_) (fun c_215 => ?_)
              · refine lv_iconst (v := 1) hx hb dX1_mayBe_228 (by decide) ?_
                refine lv_goto (tgt := 233) hx hb dX1_mayBe_229 (by decide) ?_
                have hw : 1 = sm_mayBe uR uW uA uF uI uS p1 p2 p3 := by unfold sm_mayBe; rw [if_neg c_6, if_neg c_15, hw_31]; (try dsimp only); rw [if_neg c_145, if_neg c_155, if_neg c_200, if_neg c_215]; (try rfl)
                exact W.zret (v := 1) hx hb hr rfl (fun t ht hW => ⟨⟨1, (), rfl, hw, ⟨by rw [ht]; exact hP, va_K.moved hW.alike hK, hD⟩⟩, hS.F ht⟩) hS.2.2 dX1_mayBe_233
              · refine lv_iload_n hx hb dX1_mayBe_218 rfl (lv_at hl 4 rfl) ?_
                refine lv_aload_n hx hb dX1_mayBe_219 rfl (lv_at hl 1 rfl) ?_
                refine va_get (D := (dC, dI)) (ci := 1) (v := .ref (b 8)) (C := RX1) (T := TX1) (N := 17) hx hb hg inX1 hown hK hP 0 rfl rfl 13 (by decide) (hg _ w_359) (fun _ h9 => h9) rfl dX1_mayBe_220 ?_
                refine lv_iload_n hx hb dX1_mayBe_223 rfl (lv_at hl 3 rfl) ?_
                refine va_iald hx hb hK hP 8 7 rfl rfl (ix_k hs2) dX1_mayBe_224 ?_
                refine lv_icmp_ne (tgt := 232) hx hb dX1_mayBe_225 (by decide) (fun c_225 => ?_) (fun c_225 => ?_)
                · refine lv_iconst (v := 0) hx hb dX1_mayBe_232 (by decide) ?_
                  have hw : 0 = sm_mayBe uR uW uA uF uI uS p1 p2 p3 := by unfold sm_mayBe; rw [if_neg c_6, if_neg c_15, hw_31]; (try dsimp only); rw [if_neg c_145, if_neg c_155, if_neg c_200, if_pos c_215, if_neg c_225]; (try rfl)
                  exact W.zret (v := 0) hx hb hr rfl (fun t ht hW => ⟨⟨0, (), rfl, hw, ⟨by rw [ht]; exact hP, va_K.moved hW.alike hK, hD⟩⟩, hS.F ht⟩) hS.2.2 dX1_mayBe_233
                · refine lv_iconst (v := 1) hx hb dX1_mayBe_228 (by decide) ?_
                  refine lv_goto (tgt := 233) hx hb dX1_mayBe_229 (by decide) ?_
                  have hw : 1 = sm_mayBe uR uW uA uF uI uS p1 p2 p3 := by unfold sm_mayBe; rw [if_neg c_6, if_neg c_15, hw_31]; (try dsimp only); rw [if_neg c_145, if_neg c_155, if_neg c_200, if_pos c_215, if_pos c_225]; (try rfl)
                  exact W.zret (v := 1) hx hb hr rfl (fun t ht hW => ⟨⟨1, (), rfl, hw, ⟨by rw [ht]; exact hP, va_K.moved hW.alike hK, hD⟩⟩, hS.F ht⟩) hS.2.2 dX1_mayBe_233
