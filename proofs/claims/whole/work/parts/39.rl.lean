theorem rl_clear {rd : Nat → Int64} {wr : Nat → Int64} {ay : Nat → Int32} {ia : Nat → Int32} {mo : Nat → Int32} {wo : Nat → Int32} {so : Nat → Int32} {oi : Nat → Int32} {si : Nat → Int32} {mi : Nat → Int32} {wi : Nat → Int32} {ns : Int32} {nt : Int32} {nf : Int32} {np : Int32} {sl : Int32} {hs : Int32} {uR : Nat → Int32} {uW : Nat → Int32} {uA : Nat → Int32} {uM : Nat → Int32} {uX : Nat → Int32} {uF : Nat → Int32} {uI : Nat → Int32} {uS : Nat → Int32} {ut : Int32} {us : Int32} {ur : Int32} {ub : Int32} {uo : Int32} {ui : Int32} {ul : Int32} {uk : Int32} {uh : Int32} {ns' : Int32} {nt' : Int32} {nf' : Int32} {np' : Int32} {sl' : Int32} {hs' : Int32} {ut' : Int32} {us' : Int32} {ur' : Int32} {ub' : Int32} {uo' : Int32} {ui' : Int32} {ul' : Int32} {uh' : Int32} (hR : Rel rd wr ay ia mo wo so oi si mi wi ns nt nf np sl hs uR uW uA uM uX uF uI uS ut us ur ub uo ui ul uk uh) (h1 : sl_clear = (ns', nt', nf', np', sl', hs')) (h2 : sm_clear = (ut', us', ur', ub', uo', ui', ul', uh')) : Rel rd wr ay ia mo wo so oi si mi wi ns' nt' nf' np' sl' hs' uR uW uA uM uX uF uI uS ut' us' ur' ub' uo' ui' ul' uk uh' := by
  have h1 : ((0 : Int32), (0 : Int32), (0 : Int32), (0 : Int32), (0 : Int32), (-1 : Int32)) = (ns', nt', nf', np', sl', hs') := h1
  have h2 : ((0 : Int32), (0 : Int32), (0 : Int32), (0 : Int32), (0 : Int32), (-1 : Int32), (0 : Int32), (-1 : Int32)) = (ut', us', ur', ub', uo', ui', ul', uh') := h2
  cases h1
  cases h2
  exact ⟨0, 0, by decide, by decide, rfl, rfl, rfl, rfl, rfl, ⟨by decide, by decide⟩, rfl, ⟨by decide, by decide⟩, fun i h => absurd h (by omega), fun i h => absurd h (by omega), ⟨fun i h => absurd h (by omega), fun t h => absurd h (by omega), rfl⟩, rfl, Or.inl rfl, fun _ => rfl, fun h => absurd h (by decide)⟩
theorem rl_assign {rd : Nat → Int64} {wr : Nat → Int64} {ay : Nat → Int32} {ia : Nat → Int32} {mo : Nat → Int32} {wo : Nat → Int32} {so : Nat → Int32} {oi : Nat → Int32} {si : Nat → Int32} {mi : Nat → Int32} {wi : Nat → Int32} {ns : Int32} {nt : Int32} {nf : Int32} {np : Int32} {sl : Int32} {hs : Int32} {uR : Nat → Int32} {uW : Nat → Int32} {uA : Nat → Int32} {uM : Nat → Int32} {uX : Nat → Int32} {uF : Nat → Int32} {uI : Nat → Int32} {uS : Nat → Int32} {ut : Int32} {us : Int32} {ur : Int32} {ub : Int32} {uo : Int32} {ui : Int32} {ul : Int32} {uk : Int32} {uh : Int32} {ou : Nat → Int64} {p1 : Int32} {p2 : Int32} {rd' : Nat → Int64} {wr' : Nat → Int64} {ay' : Nat → Int32} {ia' : Nat → Int32} {mo' : Nat → Int32} {wo' : Nat → Int32} {ns' : Int32} {np' : Int32} {sl' : Int32} {hs' : Int32} {ou' : Nat → Int64} {uR' : Nat → Int32} {uW' : Nat → Int32} {uA' : Nat → Int32} {uM' : Nat → Int32} {uX' : Nat → Int32} {uF' : Nat → Int32} {uI' : Nat → Int32} {ut' : Int32} {us' : Int32} {ur' : Int32} {ul' : Int32} {uh' : Int32} {r1 : Int32} {r2 : Int32} (hR : Rel rd wr ay ia mo wo so oi si mi wi ns nt nf np sl hs uR uW uA uM uX uF uI uS ut us ur ub uo ui ul uk uh) (h1 : la_assign rd wr ay ia mo wo oi ns nf np sl hs ou p1 p2 = (r1, rd', wr', ay', ia', mo', wo', ns', np', sl', hs', ou')) (h2 : sm_assign uR uW uA uM uX uF uI us ur ui ul uh p1 p2 = (r2, uR', uW', uA', uM', uX', uF', uI', ut', us', ur', ul', uh')) : sm_thrown ut' = r1 ∧ (r1 = 0 → ou' 0 = r2.toInt64) ∧ Rel rd' wr' ay' ia' mo' wo' so oi si mi wi ns' nt nf np' sl' hs' uR' uW' uA' uM' uX' uF' uI' uS ut' us' ur' ub uo ui ul' uk uh' := by
  sorry
theorem rl_load {rd : Nat → Int64} {wr : Nat → Int64} {ay : Nat → Int32} {ia : Nat → Int32} {mo : Nat → Int32} {wo : Nat → Int32} {so : Nat → Int32} {oi : Nat → Int32} {si : Nat → Int32} {mi : Nat → Int32} {wi : Nat → Int32} {ns : Int32} {nt : Int32} {nf : Int32} {np : Int32} {sl : Int32} {hs : Int32} {uR : Nat → Int32} {uW : Nat → Int32} {uA : Nat → Int32} {uM : Nat → Int32} {uX : Nat → Int32} {uF : Nat → Int32} {uI : Nat → Int32} {uS : Nat → Int32} {ut : Int32} {us : Int32} {ur : Int32} {ub : Int32} {uo : Int32} {ui : Int32} {ul : Int32} {uk : Int32} {uh : Int32} {ou : Nat → Int64} {p1 : Int32} {p2 : Int32} {p3 : Int32} {rd' : Nat → Int64} {wr' : Nat → Int64} {ay' : Nat → Int32} {ia' : Nat → Int32} {mo' : Nat → Int32} {wo' : Nat → Int32} {ns' : Int32} {np' : Int32} {sl' : Int32} {hs' : Int32} {ou' : Nat → Int64} {uR' : Nat → Int32} {uW' : Nat → Int32} {uA' : Nat → Int32} {uM' : Nat → Int32} {uX' : Nat → Int32} {uF' : Nat → Int32} {uI' : Nat → Int32} {ut' : Int32} {us' : Int32} {ur' : Int32} {ul' : Int32} {uh' : Int32} {r1 : Int32} {r2 : Int32} (hR : Rel rd wr ay ia mo wo so oi si mi wi ns nt nf np sl hs uR uW uA uM uX uF uI uS ut us ur ub uo ui ul uk uh) (h1 : la_load rd wr ay ia mo wo oi ns nf np sl hs ou p1 p2 p3 = (r1, rd', wr', ay', ia', mo', wo', ns', np', sl', hs', ou')) (h2 : sm_load uR uW uA uM uX uF uI us ur ui ul uh p1 p2 p3 = (r2, uR', uW', uA', uM', uX', uF', uI', ut', us', ur', ul', uh')) : sm_thrown ut' = r1 ∧ (r1 = 0 → ou' 0 = r2.toInt64) ∧ Rel rd' wr' ay' ia' mo' wo' so oi si mi wi ns' nt nf np' sl' hs' uR' uW' uA' uM' uX' uF' uI' uS ut' us' ur' ub uo ui ul' uk uh' := by
  sorry
theorem rl_store {rd : Nat → Int64} {wr : Nat → Int64} {ay : Nat → Int32} {ia : Nat → Int32} {mo : Nat → Int32} {wo : Nat → Int32} {so : Nat → Int32} {oi : Nat → Int32} {si : Nat → Int32} {mi : Nat → Int32} {wi : Nat → Int32} {ns : Int32} {nt : Int32} {nf : Int32} {np : Int32} {sl : Int32} {hs : Int32} {uR : Nat → Int32} {uW : Nat → Int32} {uA : Nat → Int32} {uM : Nat → Int32} {uX : Nat → Int32} {uF : Nat → Int32} {uI : Nat → Int32} {uS : Nat → Int32} {ut : Int32} {us : Int32} {ur : Int32} {ub : Int32} {uo : Int32} {ui : Int32} {ul : Int32} {uk : Int32} {uh : Int32} {ou : Nat → Int64} {p1 : Int32} {p2 : Int32} {p3 : Int32} {rd' : Nat → Int64} {wr' : Nat → Int64} {ay' : Nat → Int32} {ia' : Nat → Int32} {mo' : Nat → Int32} {wo' : Nat → Int32} {ns' : Int32} {np' : Int32} {sl' : Int32} {hs' : Int32} {ou' : Nat → Int64} {uR' : Nat → Int32} {uW' : Nat → Int32} {uA' : Nat → Int32} {uM' : Nat → Int32} {uX' : Nat → Int32} {uF' : Nat → Int32} {uI' : Nat → Int32} {ut' : Int32} {us' : Int32} {ur' : Int32} {ul' : Int32} {uh' : Int32} {r1 : Int32} {r2 : Int32} (hR : Rel rd wr ay ia mo wo so oi si mi wi ns nt nf np sl hs uR uW uA uM uX uF uI uS ut us ur ub uo ui ul uk uh) (h1 : la_store rd wr ay ia mo wo oi ns nf np sl hs ou p1 p2 p3 = (r1, rd', wr', ay', ia', mo', wo', ns', np', sl', hs', ou')) (h2 : sm_store uR uW uA uM uX uF uI us ur ui ul uh p1 p2 p3 = (r2, uR', uW', uA', uM', uX', uF', uI', ut', us', ur', ul', uh')) : sm_thrown ut' = r1 ∧ (r1 = 0 → ou' 0 = r2.toInt64) ∧ Rel rd' wr' ay' ia' mo' wo' so oi si mi wi ns' nt nf np' sl' hs' uR' uW' uA' uM' uX' uF' uI' uS ut' us' ur' ub uo ui ul' uk uh' := by
  sorry
theorem rl_valid {rd : Nat → Int64} {wr : Nat → Int64} {ay : Nat → Int32} {ia : Nat → Int32} {mo : Nat → Int32} {wo : Nat → Int32} {so : Nat → Int32} {oi : Nat → Int32} {si : Nat → Int32} {mi : Nat → Int32} {wi : Nat → Int32} {ns : Int32} {nt : Int32} {nf : Int32} {np : Int32} {sl : Int32} {hs : Int32} {uR : Nat → Int32} {uW : Nat → Int32} {uA : Nat → Int32} {uM : Nat → Int32} {uX : Nat → Int32} {uF : Nat → Int32} {uI : Nat → Int32} {uS : Nat → Int32} {ut : Int32} {us : Int32} {ur : Int32} {ub : Int32} {uo : Int32} {ui : Int32} {ul : Int32} {uk : Int32} {uh : Int32} {ou : Nat → Int64} {p1 : Int32} {rd' : Nat → Int64} {wr' : Nat → Int64} {ay' : Nat → Int32} {ia' : Nat → Int32} {mo' : Nat → Int32} {wo' : Nat → Int32} {ns' : Int32} {np' : Int32} {sl' : Int32} {hs' : Int32} {ou' : Nat → Int64} {uR' : Nat → Int32} {uW' : Nat → Int32} {uA' : Nat → Int32} {uM' : Nat → Int32} {uX' : Nat → Int32} {uF' : Nat → Int32} {uI' : Nat → Int32} {ut' : Int32} {us' : Int32} {ur' : Int32} {ul' : Int32} {uh' : Int32} {r1 : Int32} {r2 : Int32} (hR : Rel rd wr ay ia mo wo so oi si mi wi ns nt nf np sl hs uR uW uA uM uX uF uI uS ut us ur ub uo ui ul uk uh) (h1 : la_valid rd wr ay ia mo wo oi ns nf np sl hs ou p1 = (r1, rd', wr', ay', ia', mo', wo', ns', np', sl', hs', ou')) (h2 : sm_valid uR uW uA uM uX uF uI us ur ui ul uh p1 = (r2, uR', uW', uA', uM', uX', uF', uI', ut', us', ur', ul', uh')) : sm_thrown ut' = r1 ∧ (r1 = 0 → ou' 0 = r2.toInt64) ∧ Rel rd' wr' ay' ia' mo' wo' so oi si mi wi ns' nt nf np' sl' hs' uR' uW' uA' uM' uX' uF' uI' uS ut' us' ur' ub uo ui ul' uk uh' := by
  sorry
theorem rl_drop {rd : Nat → Int64} {wr : Nat → Int64} {ay : Nat → Int32} {ia : Nat → Int32} {mo : Nat → Int32} {wo : Nat → Int32} {so : Nat → Int32} {oi : Nat → Int32} {si : Nat → Int32} {mi : Nat → Int32} {wi : Nat → Int32} {ns : Int32} {nt : Int32} {nf : Int32} {np : Int32} {sl : Int32} {hs : Int32} {uR : Nat → Int32} {uW : Nat → Int32} {uA : Nat → Int32} {uM : Nat → Int32} {uX : Nat → Int32} {uF : Nat → Int32} {uI : Nat → Int32} {uS : Nat → Int32} {ut : Int32} {us : Int32} {ur : Int32} {ub : Int32} {uo : Int32} {ui : Int32} {ul : Int32} {uk : Int32} {uh : Int32} {ou : Nat → Int64} {rd' : Nat → Int64} {wr' : Nat → Int64} {ay' : Nat → Int32} {ia' : Nat → Int32} {mo' : Nat → Int32} {wo' : Nat → Int32} {ns' : Int32} {np' : Int32} {sl' : Int32} {hs' : Int32} {ou' : Nat → Int64} {uR' : Nat → Int32} {uW' : Nat → Int32} {uA' : Nat → Int32} {uM' : Nat → Int32} {uX' : Nat → Int32} {uF' : Nat → Int32} {uI' : Nat → Int32} {ut' : Int32} {us' : Int32} {ur' : Int32} {ul' : Int32} {uh' : Int32} {r1 : Int32} {r2 : Int32} (hR : Rel rd wr ay ia mo wo so oi si mi wi ns nt nf np sl hs uR uW uA uM uX uF uI uS ut us ur ub uo ui ul uk uh) (h1 : la_drop rd wr ay ia mo wo oi ns nf np sl hs ou = (r1, rd', wr', ay', ia', mo', wo', ns', np', sl', hs', ou')) (h2 : sm_drop uR uW uA uM uX uF uI us ur ui ul uh = (r2, uR', uW', uA', uM', uX', uF', uI', ut', us', ur', ul', uh')) : sm_thrown ut' = r1 ∧ (r1 = 0 → ou' 0 = r2.toInt64) ∧ Rel rd' wr' ay' ia' mo' wo' so oi si mi wi ns' nt nf np' sl' hs' uR' uW' uA' uM' uX' uF' uI' uS ut' us' ur' ub uo ui ul' uk uh' := by
  sorry
theorem rl_open {rd : Nat → Int64} {wr : Nat → Int64} {ay : Nat → Int32} {ia : Nat → Int32} {mo : Nat → Int32} {wo : Nat → Int32} {so : Nat → Int32} {oi : Nat → Int32} {si : Nat → Int32} {mi : Nat → Int32} {wi : Nat → Int32} {ns : Int32} {nt : Int32} {nf : Int32} {np : Int32} {sl : Int32} {hs : Int32} {uR : Nat → Int32} {uW : Nat → Int32} {uA : Nat → Int32} {uM : Nat → Int32} {uX : Nat → Int32} {uF : Nat → Int32} {uI : Nat → Int32} {uS : Nat → Int32} {ut : Int32} {us : Int32} {ur : Int32} {ub : Int32} {uo : Int32} {ui : Int32} {ul : Int32} {uk : Int32} {uh : Int32} {ou : Nat → Int64} {p1 : Int32} {rd' : Nat → Int64} {wr' : Nat → Int64} {ay' : Nat → Int32} {ia' : Nat → Int32} {mo' : Nat → Int32} {wo' : Nat → Int32} {oi' : Nat → Int32} {ns' : Int32} {nf' : Int32} {np' : Int32} {sl' : Int32} {hs' : Int32} {ou' : Nat → Int64} {uR' : Nat → Int32} {uW' : Nat → Int32} {uA' : Nat → Int32} {uM' : Nat → Int32} {uX' : Nat → Int32} {uF' : Nat → Int32} {uI' : Nat → Int32} {ut' : Int32} {us' : Int32} {ur' : Int32} {uo' : Int32} {ui' : Int32} {ul' : Int32} {uh' : Int32} {r1 : Int32} {r2 : Int32} (hR : Rel rd wr ay ia mo wo so oi si mi wi ns nt nf np sl hs uR uW uA uM uX uF uI uS ut us ur ub uo ui ul uk uh) (h1 : la_open rd wr ay ia mo wo oi ns nf np sl hs ou p1 = (r1, rd', wr', ay', ia', mo', wo', oi', ns', nf', np', sl', hs', ou')) (h2 : sm_open uR uW uA uM uX uF uI us ur uo ui ul uh p1 = (r2, uR', uW', uA', uM', uX', uF', uI', ut', us', ur', uo', ui', ul', uh')) : sm_thrown ut' = r1 ∧ (r1 = 0 → ou' 0 = r2.toInt64) ∧ Rel rd' wr' ay' ia' mo' wo' so oi' si mi wi ns' nt nf' np' sl' hs' uR' uW' uA' uM' uX' uF' uI' uS ut' us' ur' ub uo' ui' ul' uk uh' := by
  sorry
theorem rl_close {rd : Nat → Int64} {wr : Nat → Int64} {ay : Nat → Int32} {ia : Nat → Int32} {mo : Nat → Int32} {wo : Nat → Int32} {so : Nat → Int32} {oi : Nat → Int32} {si : Nat → Int32} {mi : Nat → Int32} {wi : Nat → Int32} {ns : Int32} {nt : Int32} {nf : Int32} {np : Int32} {sl : Int32} {hs : Int32} {uR : Nat → Int32} {uW : Nat → Int32} {uA : Nat → Int32} {uM : Nat → Int32} {uX : Nat → Int32} {uF : Nat → Int32} {uI : Nat → Int32} {uS : Nat → Int32} {ut : Int32} {us : Int32} {ur : Int32} {ub : Int32} {uo : Int32} {ui : Int32} {ul : Int32} {uk : Int32} {uh : Int32} {ou : Nat → Int64} {nf' : Int32} {ou' : Nat → Int64} {ut' : Int32} {uo' : Int32} {ui' : Int32} {r1 : Int32} {r2 : Int32} (hR : Rel rd wr ay ia mo wo so oi si mi wi ns nt nf np sl hs uR uW uA uM uX uF uI uS ut us ur ub uo ui ul uk uh) (h1 : la_close oi nf ou = (r1, nf', ou')) (h2 : sm_close uI uo ui = (r2, ut', uo', ui')) : sm_thrown ut' = r1 ∧ (r1 = 0 → ou' 0 = r2.toInt64) ∧ Rel rd wr ay ia mo wo so oi si mi wi ns nt nf' np sl hs uR uW uA uM uX uF uI uS ut' us ur ub uo' ui' ul uk uh := by
  obtain ⟨n, f, hn, hf, e1, e2, e3, e4, e5, e6, e7, e8, hS, hB, hI, hL⟩ := id hR
  unfold la_close sl_close at h1
  unfold sm_close at h2
  by_cases hf0 : f = 0
  · have c1 : nf < 1 := by rw [e3, hf0]; decide
    have c2 : uo = 0 := by rw [e4, hf0]; rfl
    rw [if_pos c1] at h1
    rw [if_pos c2] at h2
    cases h1
    cases h2
    exact ⟨rfl, fun h => absurd h (by decide), hR⟩
  · obtain ⟨g, rfl⟩ : ∃ g, f = g + 1 := ⟨f - 1, by omega⟩
    have c1 : ¬ nf < 1 := by
      rw [e3, i_lt, nI_toInt (by omega), show (1 : Int32).toInt = 1 from rfl]
      omega
    have c2 : nf ≤ 8 := by
      rw [e3, i_le, nI_toInt (by omega), show (8 : Int32).toInt = 8 from rfl]
      omega
    have c3 : ¬ uo = 0 := by rw [e4]; exact nI_ne0 (by omega) (by omega)
    rw [if_neg c1, if_pos c2] at h1
    rw [if_neg c3] at h2
    dsimp only at h1
    have d1 : nf - 1 = nI g := by rw [e3, nI_pred]
    have d2 : uo - 1 = nI g := by rw [e4, nI_pred]
    rw [d1, nI_clamp (by omega)] at h1
    rw [d2] at h2
    obtain ⟨i1, i2, i3⟩ := hI
    rw [if_neg (by omega), Nat.add_sub_cancel] at i3
    have i4 := i2 g (by omega)
    simp only [Prod.mk.injEq] at h1 h2
    obtain ⟨a1, a2, a3⟩ := h1
    obtain ⟨b1, b2, b3, b4⟩ := h2
    refine ⟨?_, ?_, n, g, hn, by omega, e1, e2, a2.symm, b3.symm, e5, e6, e7, e8, hS, hB, ⟨i1, fun t ht => i2 t (by omega), ?_⟩, hL⟩
    · rw [← b2, ← a1]; rfl
    · intro _
      rw [← a3, ← b1, i3]
      exact pk_uLs
    · rw [← b4, i3, i4.2.2.2]
theorem rl_apply {rd : Nat → Int64} {wr : Nat → Int64} {ay : Nat → Int32} {ia : Nat → Int32} {mo : Nat → Int32} {wo : Nat → Int32} {so : Nat → Int32} {oi : Nat → Int32} {si : Nat → Int32} {mi : Nat → Int32} {wi : Nat → Int32} {ns : Int32} {nt : Int32} {nf : Int32} {np : Int32} {sl : Int32} {hs : Int32} {uR : Nat → Int32} {uW : Nat → Int32} {uA : Nat → Int32} {uM : Nat → Int32} {uX : Nat → Int32} {uF : Nat → Int32} {uI : Nat → Int32} {uS : Nat → Int32} {ut : Int32} {us : Int32} {ur : Int32} {ub : Int32} {uo : Int32} {ui : Int32} {ul : Int32} {uk : Int32} {uh : Int32} {ou : Nat → Int64} {p1 : Int32} {p2 : Int32} {p3 : Int32} {rd' : Nat → Int64} {wr' : Nat → Int64} {ay' : Nat → Int32} {ia' : Nat → Int32} {mo' : Nat → Int32} {wo' : Nat → Int32} {ns' : Int32} {nt' : Int32} {np' : Int32} {sl' : Int32} {hs' : Int32} {ou' : Nat → Int64} {uR' : Nat → Int32} {uW' : Nat → Int32} {uA' : Nat → Int32} {uM' : Nat → Int32} {uX' : Nat → Int32} {uF' : Nat → Int32} {uI' : Nat → Int32} {ut' : Int32} {us' : Int32} {ur' : Int32} {ub' : Int32} {ul' : Int32} {uh' : Int32} {r1 : Int32} {r2 : Int32} (hR : Rel rd wr ay ia mo wo so oi si mi wi ns nt nf np sl hs uR uW uA uM uX uF uI uS ut us ur ub uo ui ul uk uh) (h1 : la_apply rd wr ay ia mo wo oi ns nt nf np sl hs ou p1 p2 p3 = (r1, rd', wr', ay', ia', mo', wo', ns', nt', np', sl', hs', ou')) (h2 : sm_apply uR uW uA uM uX uF uI us ur ub ui ul uh p1 p2 p3 = (r2, uR', uW', uA', uM', uX', uF', uI', ut', us', ur', ub', ul', uh')) : sm_thrown ut' = r1 ∧ (r1 = 0 → ou' 0 = r2.toInt64) ∧ Rel rd' wr' ay' ia' mo' wo' so oi si mi wi ns' nt' nf np' sl' hs' uR' uW' uA' uM' uX' uF' uI' uS ut' us' ur' ub' uo ui ul' uk uh' := by
  sorry
theorem rl_lay {rd : Nat → Int64} {wr : Nat → Int64} {ay : Nat → Int32} {ia : Nat → Int32} {mo : Nat → Int32} {wo : Nat → Int32} {so : Nat → Int32} {oi : Nat → Int32} {si : Nat → Int32} {mi : Nat → Int32} {wi : Nat → Int32} {ns : Int32} {nt : Int32} {nf : Int32} {np : Int32} {sl : Int32} {hs : Int32} {uR : Nat → Int32} {uW : Nat → Int32} {uA : Nat → Int32} {uM : Nat → Int32} {uX : Nat → Int32} {uF : Nat → Int32} {uI : Nat → Int32} {uS : Nat → Int32} {ut : Int32} {us : Int32} {ur : Int32} {ub : Int32} {uo : Int32} {ui : Int32} {ul : Int32} {uk : Int32} {uh : Int32} {ou : Nat → Int64} {p1 : Int32} {p2 : Int32} {p3 : Int32} {so' : Nat → Int32} {si' : Nat → Int32} {mi' : Nat → Int32} {wi' : Nat → Int32} {sl' : Int32} {hs' : Int32} {ou' : Nat → Int64} {uS' : Nat → Int32} {ut' : Int32} {ul' : Int32} {uk' : Int32} {uh' : Int32} {r1 : Int32} {r2 : Int32} (hR : Rel rd wr ay ia mo wo so oi si mi wi ns nt nf np sl hs uR uW uA uM uX uF uI uS ut us ur ub uo ui ul uk uh) (h1 : la_lay rd wr ay ia mo wo so si mi wi ns sl hs ou p1 p2 p3 = (r1, so', si', mi', wi', sl', hs', ou')) (h2 : sm_lay uR uW uA uM uX uF uI uS us ul uk uh p1 p2 p3 = (r2, uS', ut', ul', uk', uh')) : sm_thrown ut' = r1 ∧ (r1 = 0 → ou' 0 = r2.toInt64) ∧ Rel rd wr ay ia mo wo so' oi si' mi' wi' ns nt nf np sl' hs' uR uW uA uM uX uF uI uS' ut' us ur ub uo ui ul' uk' uh' := by
  sorry
theorem rl_homeless {rd : Nat → Int64} {wr : Nat → Int64} {ay : Nat → Int32} {ia : Nat → Int32} {mo : Nat → Int32} {wo : Nat → Int32} {so : Nat → Int32} {oi : Nat → Int32} {si : Nat → Int32} {mi : Nat → Int32} {wi : Nat → Int32} {ns : Int32} {nt : Int32} {nf : Int32} {np : Int32} {sl : Int32} {hs : Int32} {uR : Nat → Int32} {uW : Nat → Int32} {uA : Nat → Int32} {uM : Nat → Int32} {uX : Nat → Int32} {uF : Nat → Int32} {uI : Nat → Int32} {uS : Nat → Int32} {ut : Int32} {us : Int32} {ur : Int32} {ub : Int32} {uo : Int32} {ui : Int32} {ul : Int32} {uk : Int32} {uh : Int32} {ut' : Int32} {r2 : Int32} (hR : Rel rd wr ay ia mo wo so oi si mi wi ns nt nf np sl hs uR uW uA uM uX uF uI uS ut us ur ub uo ui ul uk uh) (h2 : sm_homeless uh = (r2, ut')) : (sl_homeless hs) = r2 ∧ Rel rd wr ay ia mo wo so oi si mi wi ns nt nf np sl hs uR uW uA uM uX uF uI uS ut' us ur ub uo ui ul uk uh := by
  obtain ⟨n, f, hn, hf, e1, e2, e3, e4, e5, e6, e7, e8, hS, hB, hI, hL⟩ := id hR
  have e := (Prod.mk.inj (show (uh, (0 : Int32)) = (r2, ut') from h2)).1
  exact ⟨hL.1.trans e, hR⟩
theorem rl_stage {rd : Nat → Int64} {wr : Nat → Int64} {ay : Nat → Int32} {ia : Nat → Int32} {mo : Nat → Int32} {wo : Nat → Int32} {so : Nat → Int32} {oi : Nat → Int32} {si : Nat → Int32} {mi : Nat → Int32} {wi : Nat → Int32} {ns : Int32} {nt : Int32} {nf : Int32} {np : Int32} {sl : Int32} {hs : Int32} {uR : Nat → Int32} {uW : Nat → Int32} {uA : Nat → Int32} {uM : Nat → Int32} {uX : Nat → Int32} {uF : Nat → Int32} {uI : Nat → Int32} {uS : Nat → Int32} {ut : Int32} {us : Int32} {ur : Int32} {ub : Int32} {uo : Int32} {ui : Int32} {ul : Int32} {uk : Int32} {uh : Int32} {p1 : Int32} {ut' : Int32} {r2 : Int32} (hR : Rel rd wr ay ia mo wo so oi si mi wi ns nt nf np sl hs uR uW uA uM uX uF uI uS ut us ur ub uo ui ul uk uh) (h2 : sm_stage uS us ul p1 = (r2, ut')) : (sl_stage so ns sl p1) = r2 ∧ Rel rd wr ay ia mo wo so oi si mi wi ns nt nf np sl hs uR uW uA uM uX uF uI uS ut' us ur ub uo ui ul uk uh := by
  refine ⟨?_, hR⟩
  obtain ⟨n, f, hn, hf, e1, e2, e3, e4, e5, e6, e7, e8, hS, hB, hI, hL⟩ := id hR
  unfold sm_stage at h2
  unfold sl_stage
  obtain ⟨l1, l2, l3, l4⟩ := hL
  rcases l2 with h0 | h1
  · rw [if_pos h0] at h2; rw [if_pos (l3 h0)]; exact (Prod.mk.inj h2).1
  · have hne : ¬ ul = 0 := by rw [h1]; decide
    obtain ⟨m1, m2, m3, m4, m5⟩ := l4 h1
    have hsl : ¬ sl = 0 := fun q => by rw [← m1, q] at m2; exact absurd m2 (by decide)
    rw [if_neg hne] at h2; rw [if_neg hsl]
    by_cases c1 : p1 < 0
    · rw [if_pos c1] at h2 ⊢; exact (Prod.mk.inj h2).1
    · rw [if_neg c1] at h2 ⊢
      have e12 : ns = us := e1.trans e2.symm
      rw [e12]
      by_cases c2 : us ≤ p1
      · rw [if_pos c2] at h2 ⊢; exact (Prod.mk.inj h2).1
      · rw [if_neg c2] at h2 ⊢
        have h3 := nn_of c1
        have h4 : p1.toInt < n := by
          rw [i_le, e2, nI_toInt (by omega)] at c2
          omega
        have h5 : p1 < 48 := by
          rw [i_lt, show (48 : Int32).toInt = 48 from rfl]
          omega
        rw [if_pos h5]
        have h6 : p1.toNatClampNeg < n := by
          show p1.toInt.toNat < n
          omega
        exact (m4 _ h6).trans (Prod.mk.inj h2).1
theorem rl_used {rd : Nat → Int64} {wr : Nat → Int64} {ay : Nat → Int32} {ia : Nat → Int32} {mo : Nat → Int32} {wo : Nat → Int32} {so : Nat → Int32} {oi : Nat → Int32} {si : Nat → Int32} {mi : Nat → Int32} {wi : Nat → Int32} {ns : Int32} {nt : Int32} {nf : Int32} {np : Int32} {sl : Int32} {hs : Int32} {uR : Nat → Int32} {uW : Nat → Int32} {uA : Nat → Int32} {uM : Nat → Int32} {uX : Nat → Int32} {uF : Nat → Int32} {uI : Nat → Int32} {uS : Nat → Int32} {ut : Int32} {us : Int32} {ur : Int32} {ub : Int32} {uo : Int32} {ui : Int32} {ul : Int32} {uk : Int32} {uh : Int32} {p1 : Int32} {p2 : Int32} {ut' : Int32} {r2 : Int32} (hR : Rel rd wr ay ia mo wo so oi si mi wi ns nt nf np sl hs uR uW uA uM uX uF uI uS ut us ur ub uo ui ul uk uh) (h2 : sm_used uM uX uS us ul uk p1 p2 = (r2, ut')) : (sl_used si mi wi sl p1 p2) = r2 ∧ Rel rd wr ay ia mo wo so oi si mi wi ns nt nf np sl hs uR uW uA uM uX uF uI uS ut' us ur ub uo ui ul uk uh := by
  refine ⟨?_, hR⟩
  obtain ⟨n, f, hn, hf, e1, e2, e3, e4, e5, e6, e7, e8, hS, hB, hI, hL⟩ := id hR
  unfold sm_used at h2
  unfold sl_used
  obtain ⟨l1, l2, l3, l4⟩ := hL
  rcases l2 with h0 | h1
  · rw [if_pos h0] at h2
    have hq := (Prod.mk.inj h2).1
    have hsl := l3 h0
    by_cases c1 : p1 < 0
    · rw [if_pos c1]; exact hq
    · rw [if_neg c1]
      have c2 : sl ≤ p1 := by rw [hsl, i_le, i_0]; exact nn_of c1
      rw [if_pos c2]; exact hq
  · have hne : ¬ ul = 0 := by rw [h1]; decide
    obtain ⟨m1, m2, m3, m4, m5⟩ := l4 h1
    rw [if_neg hne] at h2
    by_cases c1 : p1 < 0
    · rw [if_pos c1] at h2 ⊢; exact (Prod.mk.inj h2).1
    · rw [if_neg c1] at h2 ⊢
      rw [m1]
      by_cases c2 : uk ≤ p1
      · rw [if_pos c2] at h2 ⊢; exact (Prod.mk.inj h2).1
      · rw [if_neg c2] at h2 ⊢
        have h3 := nn_of c1
        have h4 : p1.toInt < 12 := by rw [i_le] at c2; omega
        have h5 : p1 < 12 := by rw [i_lt, show (12 : Int32).toInt = 12 from rfl]; exact h4
        rw [if_pos h5]
        have h6 : p1.toNatClampNeg < 12 := by
          show p1.toInt.toNat < 12
          omega
        have ep : p1 = nI p1.toNatClampNeg := by
          apply Int32.toInt_inj.mp
          rw [nI_toInt (by omega)]
          show p1.toInt = (p1.toInt.toNat : Int)
          omega
        obtain ⟨q1, q2, q3⟩ := m5 _ h6
        rw [← e2, ← ep] at q1 q2 q3
        by_cases d1 : p2 = 0
        · rw [if_pos d1]
          rw [if_neg (by rw [d1]; decide), if_neg (by rw [d1]; decide), d1] at h2
          exact q1.trans (Prod.mk.inj h2).1
        · rw [if_neg d1]
          by_cases d2 : p2 = 1
          · rw [if_pos d2]
            rw [if_neg (by rw [d2]; decide), if_neg (by rw [d2]; decide), d2] at h2
            exact q2.trans (Prod.mk.inj h2).1
          · rw [if_neg d2]
            by_cases d3 : p2 = 2
            · rw [if_pos d3]
              rw [if_neg (by rw [d3]; decide), if_neg (by rw [d3]; decide), d3] at h2
              exact q3.trans (Prod.mk.inj h2).1
            · rw [if_neg d3]
              by_cases k1 : p2 < 0
              · rw [if_pos k1] at h2; exact (Prod.mk.inj h2).1
              · rw [if_neg k1] at h2
                have k2 : 3 ≤ p2 := by
                  have g0 := nn_of k1
                  have g1 := lv_neT d1 (a := 0) rfl
                  have g2 := lv_neT d2 (a := 1) rfl
                  have g3 := lv_neT d3 (a := 2) rfl
                  rw [i_le, show (3 : Int32).toInt = 3 from rfl]
                  omega
                rw [if_pos k2] at h2; exact (Prod.mk.inj h2).1
theorem rl_count {rd : Nat → Int64} {wr : Nat → Int64} {ay : Nat → Int32} {ia : Nat → Int32} {mo : Nat → Int32} {wo : Nat → Int32} {so : Nat → Int32} {oi : Nat → Int32} {si : Nat → Int32} {mi : Nat → Int32} {wi : Nat → Int32} {ns : Int32} {nt : Int32} {nf : Int32} {np : Int32} {sl : Int32} {hs : Int32} {uR : Nat → Int32} {uW : Nat → Int32} {uA : Nat → Int32} {uM : Nat → Int32} {uX : Nat → Int32} {uF : Nat → Int32} {uI : Nat → Int32} {uS : Nat → Int32} {ut : Int32} {us : Int32} {ur : Int32} {ub : Int32} {uo : Int32} {ui : Int32} {ul : Int32} {uk : Int32} {uh : Int32} {p1 : Int32} {ut' : Int32} {r2 : Int32} (hR : Rel rd wr ay ia mo wo so oi si mi wi ns nt nf np sl hs uR uW uA uM uX uF uI uS ut us ur ub uo ui ul uk uh) (h2 : sm_count us ub uo p1 = (r2, ut')) : (sl_count ns nt nf p1) = r2 ∧ Rel rd wr ay ia mo wo so oi si mi wi ns nt nf np sl hs uR uW uA uM uX uF uI uS ut' us ur ub uo ui ul uk uh := by
  obtain ⟨n, f, hn, hf, e1, e2, e3, e4, e5, e6, e7, e8, hS, hB, hI, hL⟩ := id hR
  unfold sm_count at h2
  unfold sl_count
  by_cases c1 : p1 = 0
  · rw [if_pos c1] at h2 ⊢; exact ⟨(e1.trans e2.symm).trans (Prod.mk.inj h2).1, hR⟩
  · rw [if_neg c1] at h2 ⊢
    by_cases c2 : p1 = 1
    · rw [if_pos c2] at h2 ⊢; exact ⟨e5.trans (Prod.mk.inj h2).1, hR⟩
    · rw [if_neg c2] at h2 ⊢
      by_cases c3 : p1 = 2
      · rw [if_pos c3] at h2 ⊢; exact ⟨(e3.trans e4.symm).trans (Prod.mk.inj h2).1, hR⟩
      · rw [if_neg c3] at h2 ⊢; exact ⟨(Prod.mk.inj h2).1, hR⟩
