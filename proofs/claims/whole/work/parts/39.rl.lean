theorem rl_clear {rd : Nat → Int64} {wr : Nat → Int64} {ay : Nat → Int32} {ia : Nat → Int32} {mo : Nat → Int32} {wo : Nat → Int32} {so : Nat → Int32} {oi : Nat → Int32} {si : Nat → Int32} {mi : Nat → Int32} {wi : Nat → Int32} {ns : Int32} {nt : Int32} {nf : Int32} {np : Int32} {sl : Int32} {hs : Int32} {uR : Nat → Int32} {uW : Nat → Int32} {uA : Nat → Int32} {uM : Nat → Int32} {uX : Nat → Int32} {uF : Nat → Int32} {uI : Nat → Int32} {uS : Nat → Int32} {ut : Int32} {us : Int32} {ur : Int32} {ub : Int32} {uo : Int32} {ui : Int32} {ul : Int32} {uk : Int32} {uh : Int32} {ns' : Int32} {nt' : Int32} {nf' : Int32} {np' : Int32} {sl' : Int32} {hs' : Int32} {ut' : Int32} {us' : Int32} {ur' : Int32} {ub' : Int32} {uo' : Int32} {ui' : Int32} {ul' : Int32} {uh' : Int32} (hR : Rel rd wr ay ia mo wo so oi si mi wi ns nt nf np sl hs uR uW uA uM uX uF uI uS ut us ur ub uo ui ul uk uh) (h1 : sl_clear = (ns', nt', nf', np', sl', hs')) (h2 : sm_clear = (ut', us', ur', ub', uo', ui', ul', uh')) : Rel rd wr ay ia mo wo so oi si mi wi ns' nt' nf' np' sl' hs' uR uW uA uM uX uF uI uS ut' us' ur' ub' uo' ui' ul' uk uh' := by
  have h1 : ((0 : Int32), (0 : Int32), (0 : Int32), (0 : Int32), (0 : Int32), (-1 : Int32)) = (ns', nt', nf', np', sl', hs') := h1
  have h2 : ((0 : Int32), (0 : Int32), (0 : Int32), (0 : Int32), (0 : Int32), (-1 : Int32), (0 : Int32), (-1 : Int32)) = (ut', us', ur', ub', uo', ui', ul', uh') := h2
  cases h1
  cases h2
  exact ⟨0, 0, by decide, by decide, rfl, rfl, rfl, rfl, rfl, ⟨by decide, by decide⟩, rfl, ⟨by decide, by decide⟩, fun i h => absurd h (by omega), fun i h => absurd h (by omega), ⟨fun i h => absurd h (by omega), fun t h => absurd h (by omega), rfl⟩, rfl, Or.inl rfl, fun _ => rfl, fun h => absurd h (by decide)⟩
theorem rl_assign {rd : Nat → Int64} {wr : Nat → Int64} {ay : Nat → Int32} {ia : Nat → Int32} {mo : Nat → Int32} {wo : Nat → Int32} {so : Nat → Int32} {oi : Nat → Int32} {si : Nat → Int32} {mi : Nat → Int32} {wi : Nat → Int32} {ns : Int32} {nt : Int32} {nf : Int32} {np : Int32} {sl : Int32} {hs : Int32} {uR : Nat → Int32} {uW : Nat → Int32} {uA : Nat → Int32} {uM : Nat → Int32} {uX : Nat → Int32} {uF : Nat → Int32} {uI : Nat → Int32} {uS : Nat → Int32} {ut : Int32} {us : Int32} {ur : Int32} {ub : Int32} {uo : Int32} {ui : Int32} {ul : Int32} {uk : Int32} {uh : Int32} {ou : Nat → Int64} {p1 : Int32} {p2 : Int32} {rd' : Nat → Int64} {wr' : Nat → Int64} {ay' : Nat → Int32} {ia' : Nat → Int32} {mo' : Nat → Int32} {wo' : Nat → Int32} {ns' : Int32} {np' : Int32} {sl' : Int32} {hs' : Int32} {ou' : Nat → Int64} {uR' : Nat → Int32} {uW' : Nat → Int32} {uA' : Nat → Int32} {uM' : Nat → Int32} {uX' : Nat → Int32} {uF' : Nat → Int32} {uI' : Nat → Int32} {ut' : Int32} {us' : Int32} {ur' : Int32} {ul' : Int32} {uh' : Int32} {r1 : Int32} {r2 : Int32} (hR : Rel rd wr ay ia mo wo so oi si mi wi ns nt nf np sl hs uR uW uA uM uX uF uI uS ut us ur ub uo ui ul uk uh) (h1 : la_assign rd wr ay ia mo wo oi ns nf np sl hs ou p1 p2 = (r1, rd', wr', ay', ia', mo', wo', ns', np', sl', hs', ou')) (h2 : sm_assign uR uW uA uM uX uF uI us ur ui ul uh p1 p2 = (r2, uR', uW', uA', uM', uX', uF', uI', ut', us', ur', ul', uh')) : sm_thrown ut' = r1 ∧ (r1 = 0 → ou' 0 = r2.toInt64) ∧ Rel rd' wr' ay' ia' mo' wo' so oi si mi wi ns' nt nf np' sl' hs' uR' uW' uA' uM' uX' uF' uI' uS ut' us' ur' ub uo ui ul' uk uh' := by
  obtain ⟨n, f, hn, hf, e1, e2, e3, e4, e5, e6, e7, e8, hS, hB, hI, hL⟩ := id hR
  subst e1 e2 e3 e4 e5 e7
  unfold la_assign sl_assign at h1
  unfold sm_assign at h2
  rcases cd_place p1 with ⟨m, hm, ep, a1, a2⟩ | ⟨a1, a2⟩
  · rw [a1] at h1
    rw [if_neg a2] at h2
    dsimp only at h1
    rcases cd_read p2 with ⟨P, hP, eP, b1, b2⟩ | ⟨b1, b2⟩
    · rw [b1] at h1
      rw [if_neg b2] at h2
      dsimp only at h1
      subst ep eP
      obtain ⟨c1, c2, c3, c4⟩ := co_N hP
      rw [c1] at h1
      rw [c2] at h2
      rcases ad_N (rd := rd) (wr := wr) (ay := ay) (mo := mo) (wo := wo) hn hf e8 hI (show pcC P ≤ 100 by omega) (sl_readingAndWriting (nI P) (nI m)) (jl 1 (nI m)) (-1) with ⟨d1, d2⟩ | ⟨hn', hr, d1, d2⟩
      · rw [d1] at h1
        rw [if_neg d2] at h2
        dsimp only at h1
        rw [if_pos rfl] at h1
        cases h1
        cases h2
        exact ⟨rfl, fun h => absurd h (by decide), hR⟩
      · rw [d1] at h1
        rw [if_pos d2] at h2
        dsimp only at h1
        obtain ⟨R0, W0, g1, g2, g3⟩ := cm_N (uR := uR) (uW := uW) (uA := uA) (uM := uM) (uX := uX) (uF := uF) (uI := uI) (ur := np) (ui := ui) (c := nI (pcC P)) hn'
        rw [g1] at h2
        dsimp only at h2
        obtain ⟨k1, k2⟩ := rd_N hn' hP R0
        generalize sm_reads R0 (nI n) (nI P) = Q at k1 k2 h2
        obtain ⟨U, V, w1, w2, w3⟩ := wr_N hn' (show m < 41 by omega) Q W0
        rw [w1] at h2
        dsimp only at h2
        cases h1
        cases h2
        refine ⟨rfl, fun _ => pk_uLs, rl_step hn' hf e6 hr hS hB hI r_m1 (r_0 (by decide)) (r_0 (by decide)) (fun q hq => ?_) (fun k hk => ?_) (fun k hk => ?_) (fun i hi => pk_un (by omega))⟩
        · rw [(w2 q hq).1, (w2 q hq).2, k1 q hq]
          exact g2 q hq
        · rw [(w3 k hk).1, (w3 k hk).2, k2 k hk, (g3 k hk).1, (g3 k hk).2, rw_N hP hm, j1_N hm, decide_eq_true hm, Bool.true_and]
          refine ⟨?_, rfl⟩
          cases rb P k <;> cases (decide (28 ≤ k) && decide (m = k - 12)) <;> rfl
        · rw [rw_N hP hm, j1_N hm, rb_41 hP hk, decide_eq_false (show ¬ m = k - 12 by omega), decide_eq_false (show ¬ k = m by omega), Bool.and_false]
          exact ⟨rfl, rfl⟩
    · rw [b1] at h1
      rw [if_pos b2] at h2
      dsimp only at h1
      rw [if_neg (by decide)] at h1
      cases h1
      cases h2
      exact ⟨rfl, fun h => absurd h (by decide), hR⟩
  · rw [a1] at h1
    rw [if_pos a2] at h2
    dsimp only at h1
    rw [if_neg (by decide)] at h1
    cases h1
    cases h2
    exact ⟨rfl, fun h => absurd h (by decide), hR⟩
theorem rl_load {rd : Nat → Int64} {wr : Nat → Int64} {ay : Nat → Int32} {ia : Nat → Int32} {mo : Nat → Int32} {wo : Nat → Int32} {so : Nat → Int32} {oi : Nat → Int32} {si : Nat → Int32} {mi : Nat → Int32} {wi : Nat → Int32} {ns : Int32} {nt : Int32} {nf : Int32} {np : Int32} {sl : Int32} {hs : Int32} {uR : Nat → Int32} {uW : Nat → Int32} {uA : Nat → Int32} {uM : Nat → Int32} {uX : Nat → Int32} {uF : Nat → Int32} {uI : Nat → Int32} {uS : Nat → Int32} {ut : Int32} {us : Int32} {ur : Int32} {ub : Int32} {uo : Int32} {ui : Int32} {ul : Int32} {uk : Int32} {uh : Int32} {ou : Nat → Int64} {p1 : Int32} {p2 : Int32} {p3 : Int32} {rd' : Nat → Int64} {wr' : Nat → Int64} {ay' : Nat → Int32} {ia' : Nat → Int32} {mo' : Nat → Int32} {wo' : Nat → Int32} {ns' : Int32} {np' : Int32} {sl' : Int32} {hs' : Int32} {ou' : Nat → Int64} {uR' : Nat → Int32} {uW' : Nat → Int32} {uA' : Nat → Int32} {uM' : Nat → Int32} {uX' : Nat → Int32} {uF' : Nat → Int32} {uI' : Nat → Int32} {ut' : Int32} {us' : Int32} {ur' : Int32} {ul' : Int32} {uh' : Int32} {r1 : Int32} {r2 : Int32} (hR : Rel rd wr ay ia mo wo so oi si mi wi ns nt nf np sl hs uR uW uA uM uX uF uI uS ut us ur ub uo ui ul uk uh) (h1 : la_load rd wr ay ia mo wo oi ns nf np sl hs ou p1 p2 p3 = (r1, rd', wr', ay', ia', mo', wo', ns', np', sl', hs', ou')) (h2 : sm_load uR uW uA uM uX uF uI us ur ui ul uh p1 p2 p3 = (r2, uR', uW', uA', uM', uX', uF', uI', ut', us', ur', ul', uh')) : sm_thrown ut' = r1 ∧ (r1 = 0 → ou' 0 = r2.toInt64) ∧ Rel rd' wr' ay' ia' mo' wo' so oi si mi wi ns' nt nf np' sl' hs' uR' uW' uA' uM' uX' uF' uI' uS ut' us' ur' ub uo ui ul' uk uh' := by
  obtain ⟨n, f, hn, hf, e1, e2, e3, e4, e5, e6, e7, e8, hS, hB, hI, hL⟩ := id hR
  subst e1 e2 e3 e4 e5 e7
  unfold la_load sl_load at h1
  unfold sm_load at h2
  rcases cd_place p1 with ⟨m, hm, ep, a1, a2⟩ | ⟨a1, a2⟩
  · rw [a1] at h1
    rw [if_neg a2] at h2
    dsimp only at h1
    rcases cd_array p2 with ⟨y, hy, ey, q1, q2, q3⟩ | ⟨q1, q2⟩
    · rw [q1] at h1
      rw [if_neg q2, if_neg q3] at h2
      dsimp only at h1
      rcases cd_read p3 with ⟨P, hP, eP, b1, b2⟩ | ⟨b1, b2⟩
      · rw [b1] at h1
        rw [if_neg b2] at h2
        dsimp only at h1
        subst ep eP ey
        obtain ⟨c1, c2, c3, c4⟩ := co_N hP
        rw [c1] at h1
        rw [c2] at h2
        rcases ad_N (rd := rd) (wr := wr) (ay := ay) (mo := mo) (wo := wo) hn hf e8 hI (show pcC P ≤ 100 by omega) (sl_readingAndWriting (nI P) (nI m)) (jl 1 (nI m)) (nI y) with ⟨d1, d2⟩ | ⟨hn', hr, d1, d2⟩
        · rw [d1] at h1
          rw [if_neg d2] at h2
          dsimp only at h1
          rw [if_pos rfl] at h1
          cases h1
          cases h2
          exact ⟨rfl, fun h => absurd h (by decide), hR⟩
        · rw [d1] at h1
          rw [if_pos d2] at h2
          dsimp only at h1
          obtain ⟨R0, W0, g1, g2, g3⟩ := cm_N (uR := uR) (uW := uW) (uA := uA) (uM := uM) (uX := uX) (uF := uF) (uI := uI) (ur := np) (ui := ui) (c := nI (pcC P)) hn'
          rw [g1] at h2
          dsimp only at h2
          obtain ⟨k1, k2⟩ := rd_N hn' hP R0
          generalize sm_reads R0 (nI n) (nI P) = Q at k1 k2 h2
          obtain ⟨U, V, w1, w2, w3⟩ := wr_N hn' (show m < 41 by omega) Q W0
          rw [w1] at h2
          dsimp only at h2
          rw [nI_clamp (by omega), upd_upd] at h2
          cases h1
          cases h2
          refine ⟨rfl, fun _ => pk_uLs, rl_step hn' hf e6 hr hS hB hI (r_ar hy) (r_0 (by decide)) (r_0 (by decide)) (fun q hq => ?_) (fun k hk => ?_) (fun k hk => ?_) (fun i hi => pk_un (by omega))⟩
          · rw [(w2 q hq).1, (w2 q hq).2, k1 q hq]
            exact g2 q hq
          · rw [(w3 k hk).1, (w3 k hk).2, k2 k hk, (g3 k hk).1, (g3 k hk).2, rw_N hP hm, j1_N hm, decide_eq_true hm, Bool.true_and]
            refine ⟨?_, rfl⟩
            cases rb P k <;> cases (decide (28 ≤ k) && decide (m = k - 12)) <;> rfl
          · rw [rw_N hP hm, j1_N hm, rb_41 hP hk, decide_eq_false (show ¬ m = k - 12 by omega), decide_eq_false (show ¬ k = m by omega), Bool.and_false]
            exact ⟨rfl, rfl⟩
      · rw [b1] at h1
        rw [if_pos b2] at h2
        dsimp only at h1
        rw [if_neg (by decide)] at h1
        cases h1
        cases h2
        exact ⟨rfl, fun h => absurd h (by decide), hR⟩
    · rw [q1] at h1
      dsimp only at h1
      rw [if_neg (by decide)] at h1
      rcases q2 with q2 | ⟨q2, q3⟩
      · rw [if_pos q2] at h2
        cases h1
        cases h2
        exact ⟨rfl, fun h => absurd h (by decide), hR⟩
      · rw [if_neg q2, if_pos q3] at h2
        cases h1
        cases h2
        exact ⟨rfl, fun h => absurd h (by decide), hR⟩
  · rw [a1] at h1
    rw [if_pos a2] at h2
    dsimp only at h1
    rw [if_neg (by decide)] at h1
    cases h1
    cases h2
    exact ⟨rfl, fun h => absurd h (by decide), hR⟩
theorem rl_store {rd : Nat → Int64} {wr : Nat → Int64} {ay : Nat → Int32} {ia : Nat → Int32} {mo : Nat → Int32} {wo : Nat → Int32} {so : Nat → Int32} {oi : Nat → Int32} {si : Nat → Int32} {mi : Nat → Int32} {wi : Nat → Int32} {ns : Int32} {nt : Int32} {nf : Int32} {np : Int32} {sl : Int32} {hs : Int32} {uR : Nat → Int32} {uW : Nat → Int32} {uA : Nat → Int32} {uM : Nat → Int32} {uX : Nat → Int32} {uF : Nat → Int32} {uI : Nat → Int32} {uS : Nat → Int32} {ut : Int32} {us : Int32} {ur : Int32} {ub : Int32} {uo : Int32} {ui : Int32} {ul : Int32} {uk : Int32} {uh : Int32} {ou : Nat → Int64} {p1 : Int32} {p2 : Int32} {p3 : Int32} {rd' : Nat → Int64} {wr' : Nat → Int64} {ay' : Nat → Int32} {ia' : Nat → Int32} {mo' : Nat → Int32} {wo' : Nat → Int32} {ns' : Int32} {np' : Int32} {sl' : Int32} {hs' : Int32} {ou' : Nat → Int64} {uR' : Nat → Int32} {uW' : Nat → Int32} {uA' : Nat → Int32} {uM' : Nat → Int32} {uX' : Nat → Int32} {uF' : Nat → Int32} {uI' : Nat → Int32} {ut' : Int32} {us' : Int32} {ur' : Int32} {ul' : Int32} {uh' : Int32} {r1 : Int32} {r2 : Int32} (hR : Rel rd wr ay ia mo wo so oi si mi wi ns nt nf np sl hs uR uW uA uM uX uF uI uS ut us ur ub uo ui ul uk uh) (h1 : la_store rd wr ay ia mo wo oi ns nf np sl hs ou p1 p2 p3 = (r1, rd', wr', ay', ia', mo', wo', ns', np', sl', hs', ou')) (h2 : sm_store uR uW uA uM uX uF uI us ur ui ul uh p1 p2 p3 = (r2, uR', uW', uA', uM', uX', uF', uI', ut', us', ur', ul', uh')) : sm_thrown ut' = r1 ∧ (r1 = 0 → ou' 0 = r2.toInt64) ∧ Rel rd' wr' ay' ia' mo' wo' so oi si mi wi ns' nt nf np' sl' hs' uR' uW' uA' uM' uX' uF' uI' uS ut' us' ur' ub uo ui ul' uk uh' := by
  obtain ⟨n, f, hn, hf, e1, e2, e3, e4, e5, e6, e7, e8, hS, hB, hI, hL⟩ := id hR
  subst e1 e2 e3 e4 e5 e7
  unfold la_store sl_store at h1
  unfold sm_store at h2
  rcases cd_array p1 with ⟨y, hy, ey, q1, q2, q3⟩ | ⟨q1, q2⟩
  · rw [q1] at h1
    rw [if_neg q2, if_neg q3] at h2
    dsimp only at h1
    rcases cd_read p2 with ⟨P, hP, eP, b1, b2⟩ | ⟨b1, b2⟩
    · rw [b1] at h1
      rw [if_neg b2] at h2
      dsimp only at h1
      rcases cd_read p3 with ⟨Z, hZ, eZ, b3, b4⟩ | ⟨b3, b4⟩
      · rw [b3] at h1
        rw [if_neg b4] at h2
        dsimp only at h1
        subst eP eZ ey
        obtain ⟨c1, c2, c3, c4⟩ := co_N hP
        obtain ⟨c5, c6, c7, c8⟩ := co_N hZ
        rw [c1, c5, nI_add, orN (by omega) (by omega)] at h1
        rw [c2, c6, nI_add] at h2
        have hO : P ||| Z < 2 ^ 28 := Nat.or_lt_two_pow hP hZ
        rcases ad_N (rd := rd) (wr := wr) (ay := ay) (mo := mo) (wo := wo) hn hf e8 hI (show pcC P + pcC Z ≤ 100 by omega) (sl_reading (nI (P ||| Z))) 0 (nI y) with ⟨d1, d2⟩ | ⟨hn', hr, d1, d2⟩
        · rw [d1] at h1
          rw [if_neg d2] at h2
          dsimp only at h1
          rw [if_pos rfl] at h1
          cases h1
          cases h2
          exact ⟨rfl, fun h => absurd h (by decide), hR⟩
        · rw [d1] at h1
          rw [if_pos d2] at h2
          dsimp only at h1
          obtain ⟨R0, W0, g1, g2, g3⟩ := cm_N (uR := uR) (uW := uW) (uA := uA) (uM := uM) (uX := uX) (uF := uF) (uI := uI) (ur := np) (ui := ui) (c := nI (pcC P + pcC Z)) hn'
          rw [g1] at h2
          dsimp only at h2
          obtain ⟨k1, k2⟩ := rd_N hn' hP R0
          generalize sm_reads R0 (nI n) (nI P) = Q at k1 k2 h2
          obtain ⟨w2, w3⟩ := rd_N hn' hZ Q
          generalize sm_reads Q (nI n) (nI Z) = U at w2 w3 h2
          rw [nI_clamp (by omega), upd_upd] at h2
          cases h1
          cases h2
          refine ⟨rfl, fun _ => pk_uLs, rl_step hn' hf e6 hr hS hB hI (r_ar hy) (r_0 (by decide)) (r_0 (by decide)) (fun q hq => ?_) (fun k hk => ?_) (fun k hk => ?_) (fun i hi => pk_un (by omega))⟩
          · rw [w2 q hq, k1 q hq]
            exact g2 q hq
          · rw [w3 k hk, k2 k hk, (g3 k hk).1, (g3 k hk).2, re_N hO, bj_0, rb_or]
            refine ⟨?_, rfl⟩
            cases rb P k <;> cases rb Z k <;> rfl
          · rw [re_N hO, bj_0, rb_41 hO hk]
            exact ⟨rfl, rfl⟩
      · rw [b3] at h1
        rw [if_pos b4] at h2
        dsimp only at h1
        rw [if_neg (by decide)] at h1
        cases h1
        cases h2
        exact ⟨rfl, fun h => absurd h (by decide), hR⟩
    · rw [b1] at h1
      rw [if_pos b2] at h2
      dsimp only at h1
      rw [if_neg (by decide)] at h1
      cases h1
      cases h2
      exact ⟨rfl, fun h => absurd h (by decide), hR⟩
  · rw [q1] at h1
    dsimp only at h1
    rw [if_neg (by decide)] at h1
    rcases q2 with q2 | ⟨q2, q3⟩
    · rw [if_pos q2] at h2
      cases h1
      cases h2
      exact ⟨rfl, fun h => absurd h (by decide), hR⟩
    · rw [if_neg q2, if_pos q3] at h2
      cases h1
      cases h2
      exact ⟨rfl, fun h => absurd h (by decide), hR⟩
theorem rl_valid {rd : Nat → Int64} {wr : Nat → Int64} {ay : Nat → Int32} {ia : Nat → Int32} {mo : Nat → Int32} {wo : Nat → Int32} {so : Nat → Int32} {oi : Nat → Int32} {si : Nat → Int32} {mi : Nat → Int32} {wi : Nat → Int32} {ns : Int32} {nt : Int32} {nf : Int32} {np : Int32} {sl : Int32} {hs : Int32} {uR : Nat → Int32} {uW : Nat → Int32} {uA : Nat → Int32} {uM : Nat → Int32} {uX : Nat → Int32} {uF : Nat → Int32} {uI : Nat → Int32} {uS : Nat → Int32} {ut : Int32} {us : Int32} {ur : Int32} {ub : Int32} {uo : Int32} {ui : Int32} {ul : Int32} {uk : Int32} {uh : Int32} {ou : Nat → Int64} {p1 : Int32} {rd' : Nat → Int64} {wr' : Nat → Int64} {ay' : Nat → Int32} {ia' : Nat → Int32} {mo' : Nat → Int32} {wo' : Nat → Int32} {ns' : Int32} {np' : Int32} {sl' : Int32} {hs' : Int32} {ou' : Nat → Int64} {uR' : Nat → Int32} {uW' : Nat → Int32} {uA' : Nat → Int32} {uM' : Nat → Int32} {uX' : Nat → Int32} {uF' : Nat → Int32} {uI' : Nat → Int32} {ut' : Int32} {us' : Int32} {ur' : Int32} {ul' : Int32} {uh' : Int32} {r1 : Int32} {r2 : Int32} (hR : Rel rd wr ay ia mo wo so oi si mi wi ns nt nf np sl hs uR uW uA uM uX uF uI uS ut us ur ub uo ui ul uk uh) (h1 : la_valid rd wr ay ia mo wo oi ns nf np sl hs ou p1 = (r1, rd', wr', ay', ia', mo', wo', ns', np', sl', hs', ou')) (h2 : sm_valid uR uW uA uM uX uF uI us ur ui ul uh p1 = (r2, uR', uW', uA', uM', uX', uF', uI', ut', us', ur', ul', uh')) : sm_thrown ut' = r1 ∧ (r1 = 0 → ou' 0 = r2.toInt64) ∧ Rel rd' wr' ay' ia' mo' wo' so oi si mi wi ns' nt nf np' sl' hs' uR' uW' uA' uM' uX' uF' uI' uS ut' us' ur' ub uo ui ul' uk uh' := by
  obtain ⟨n, f, hn, hf, e1, e2, e3, e4, e5, e6, e7, e8, hS, hB, hI, hL⟩ := id hR
  subst e1 e2 e3 e4 e5 e7
  unfold la_valid sl_valid at h1
  unfold sm_valid at h2
  by_cases a1 : p1 < 0
  · rw [if_pos a1] at h1 h2
    dsimp only at h1
    rw [if_neg (by decide)] at h1
    cases h1
    cases h2
    exact ⟨rfl, fun h => absurd h (by decide), hR⟩
  · rw [if_neg a1] at h1 h2
    have e12 : (12 : Int32).toInt = 12 := rfl
    have e11 : (11 : Int32).toInt = 11 := rfl
    by_cases a2 : p1 < 12
    · have a3 : p1 ≤ 11 := by rw [i_le]; rw [i_lt] at a2; omega
      rw [if_pos a2] at h1
      rw [if_pos a3] at h2
      obtain ⟨m, hm, ep⟩ := nn_N (b := 12) (nn_of a1) (by rw [i_lt] at a2; omega)
      subst ep
      have e16 : (16 : Int32) + nI m = nI (16 + m) := nI_add 16 m
      rw [e16, sh1_N (16 + m) (by omega), nI_l (Nat.lt_of_lt_of_le (Nat.pow_lt_pow_right (by decide) (show 16 + m < 28 by omega)) (by decide)), show (0 : Int32) = nI 0 from rfl] at h1
      rw [e16, show sm_isFull (nI n) np 0 = sm_isFull (nI n) np (nI 0) from rfl] at h2
      have hP : 2 ^ (16 + m) < 2 ^ 28 := Nat.pow_lt_pow_right (by decide) (by omega)
      rcases ad_N (rd := rd) (wr := wr) (ay := ay) (mo := mo) (wo := wo) hn hf e8 hI (show 0 ≤ 100 by omega) (sl_validitiesOf (nI (2 ^ (16 + m)))) ((lN (2 ^ (16 + m))) ||| (sl_validitiesOf (nI (2 ^ (16 + m))))) (-1) with ⟨d1, d2⟩ | ⟨hn', hr, d1, d2⟩
      · rw [d1] at h1
        rw [if_neg d2] at h2
        dsimp only at h1
        rw [if_pos rfl] at h1
        cases h1
        cases h2
        exact ⟨rfl, fun h => absurd h (by decide), hR⟩
      · rw [d1] at h1
        rw [if_pos d2] at h2
        dsimp only at h1
        obtain ⟨R0, W0, g1, g2, g3⟩ := cm_N (uR := uR) (uW := uW) (uA := uA) (uM := uM) (uX := uX) (uF := uF) (uI := uI) (ur := np) (ui := ui) (c := 0) hn'
        rw [g1] at h2
        dsimp only at h2
        obtain ⟨U, V, w1, w2, w3⟩ := wr_N hn' (show 16 + m < 41 by omega) R0 W0
        rw [w1] at h2
        dsimp only at h2
        rw [th28_N hn' (by omega)] at h2
        cases h1
        cases h2
        refine ⟨rfl, fun _ => pk_uLs, rl_step hn' hf e6 hr hS hB hI r_m1 (r_0 (by decide)) (r_0 (by decide)) (fun q hq => ?_) (fun k hk => ?_) (fun k hk => ?_) (fun i hi => pk_un (by omega))⟩
        · rw [pk_un (by omega), (w2 q hq).1, (w2 q hq).2]
          exact g2 q hq
        · rw [(w3 k hk).1, (g3 k hk).1, bj_or, vo_N hP, bj_N (by omega), Nat.testBit_two_pow, Nat.testBit_two_pow, decide_eq_true (show 16 + m < 28 by omega), Bool.true_and]
          refine ⟨rfl, ?_⟩
          by_cases q : k = 28 + m
          · rw [q, pk_us, decide_eq_true (show 28 ≤ 28 + m by omega), decide_eq_true (show 16 + m = 28 + m - 12 by omega), Bool.true_and, Bool.or_true]
            rfl
          · rw [pk_un (by omega), (w3 k hk).2, (g3 k hk).2]
            by_cases q2 : k = 16 + m
            · rw [decide_eq_true q2, decide_eq_true q2.symm, Bool.true_or]
            · rw [decide_eq_false q2, decide_eq_false (fun h => q2 h.symm), Bool.false_or]
              by_cases q3 : 28 ≤ k
              · rw [decide_eq_false (show ¬ 16 + m = k - 12 by omega), Bool.and_false]
              · rw [decide_eq_false q3, Bool.false_and]
        · rw [bj_or, vo_N hP, bj_N (by omega), Nat.testBit_two_pow, Nat.testBit_two_pow, decide_eq_false (show ¬ 16 + m = k by omega), decide_eq_false (show ¬ 16 + m = k - 12 by omega), Bool.and_false]
          exact ⟨rfl, rfl⟩
    · have a3 : ¬ p1 ≤ 11 := by rw [i_le]; rw [i_lt] at a2; omega
      rw [if_neg a2] at h1
      rw [if_neg a3] at h2
      dsimp only at h1
      rw [if_neg (by decide)] at h1
      cases h1
      cases h2
      exact ⟨rfl, fun h => absurd h (by decide), hR⟩
theorem rl_drop {rd : Nat → Int64} {wr : Nat → Int64} {ay : Nat → Int32} {ia : Nat → Int32} {mo : Nat → Int32} {wo : Nat → Int32} {so : Nat → Int32} {oi : Nat → Int32} {si : Nat → Int32} {mi : Nat → Int32} {wi : Nat → Int32} {ns : Int32} {nt : Int32} {nf : Int32} {np : Int32} {sl : Int32} {hs : Int32} {uR : Nat → Int32} {uW : Nat → Int32} {uA : Nat → Int32} {uM : Nat → Int32} {uX : Nat → Int32} {uF : Nat → Int32} {uI : Nat → Int32} {uS : Nat → Int32} {ut : Int32} {us : Int32} {ur : Int32} {ub : Int32} {uo : Int32} {ui : Int32} {ul : Int32} {uk : Int32} {uh : Int32} {ou : Nat → Int64} {rd' : Nat → Int64} {wr' : Nat → Int64} {ay' : Nat → Int32} {ia' : Nat → Int32} {mo' : Nat → Int32} {wo' : Nat → Int32} {ns' : Int32} {np' : Int32} {sl' : Int32} {hs' : Int32} {ou' : Nat → Int64} {uR' : Nat → Int32} {uW' : Nat → Int32} {uA' : Nat → Int32} {uM' : Nat → Int32} {uX' : Nat → Int32} {uF' : Nat → Int32} {uI' : Nat → Int32} {ut' : Int32} {us' : Int32} {ur' : Int32} {ul' : Int32} {uh' : Int32} {r1 : Int32} {r2 : Int32} (hR : Rel rd wr ay ia mo wo so oi si mi wi ns nt nf np sl hs uR uW uA uM uX uF uI uS ut us ur ub uo ui ul uk uh) (h1 : la_drop rd wr ay ia mo wo oi ns nf np sl hs ou = (r1, rd', wr', ay', ia', mo', wo', ns', np', sl', hs', ou')) (h2 : sm_drop uR uW uA uM uX uF uI us ur ui ul uh = (r2, uR', uW', uA', uM', uX', uF', uI', ut', us', ur', ul', uh')) : sm_thrown ut' = r1 ∧ (r1 = 0 → ou' 0 = r2.toInt64) ∧ Rel rd' wr' ay' ia' mo' wo' so oi si mi wi ns' nt nf np' sl' hs' uR' uW' uA' uM' uX' uF' uI' uS ut' us' ur' ub uo ui ul' uk uh' := by
  obtain ⟨n, f, hn, hf, e1, e2, e3, e4, e5, e6, e7, e8, hS, hB, hI, hL⟩ := id hR
  subst e1 e2 e3 e4 e5 e7
  unfold la_drop sl_drop at h1
  unfold sm_drop at h2
  rcases ad_N (rd := rd) (wr := wr) (ay := ay) (mo := mo) (wo := wo) hn hf e8 hI (show 0 ≤ 100 by omega) 0 1099511627776 (-1) with ⟨d1, d2⟩ | ⟨hn', hr, d1, d2⟩
  · rw [show (0 : Int32) = nI 0 from rfl, d1] at h1
    rw [if_neg (show ¬ sm_isFull (nI n) np 0 = 0 from d2)] at h2
    dsimp only at h1
    cases h1
    cases h2
    exact ⟨rfl, fun h => absurd h (by decide), hR⟩
  · rw [show (0 : Int32) = nI 0 from rfl, d1] at h1
    rw [if_pos (show sm_isFull (nI n) np 0 = 0 from d2)] at h2
    dsimp only at h1
    obtain ⟨R0, W0, g1, g2, g3⟩ := cm_N (uR := uR) (uW := uW) (uA := uA) (uM := uM) (uX := uX) (uF := uF) (uI := uI) (ur := np) (ui := ui) (c := 0) hn'
    rw [g1] at h2
    dsimp only at h2
    obtain ⟨U, V, w1, w2, w3⟩ := wr_N hn' (show 40 < 41 by omega) R0 W0
    rw [show (40 : Int32) = nI 40 from rfl, w1] at h2
    dsimp only at h2
    cases h1
    cases h2
    refine ⟨rfl, fun _ => pk_uLs, rl_step hn' hf e6 hr hS hB hI r_m1 (r_0 (by decide)) (r_0 (by decide)) (fun q hq => ?_) (fun k hk => ?_) (fun k hk => ?_) (fun i hi => pk_un (by omega))⟩
    · rw [(w2 q hq).1, (w2 q hq).2]
      exact g2 q hq
    · rw [(w3 k hk).1, (w3 k hk).2, (g3 k hk).1, (g3 k hk).2, bj_0, dr_N, decide_eq_false (show ¬ 40 < 28 by omega)]
      exact ⟨rfl, rfl⟩
    · rw [bj_0, dr_N, decide_eq_false (show ¬ k = 40 by omega)]
      exact ⟨rfl, rfl⟩
theorem rl_open {rd : Nat → Int64} {wr : Nat → Int64} {ay : Nat → Int32} {ia : Nat → Int32} {mo : Nat → Int32} {wo : Nat → Int32} {so : Nat → Int32} {oi : Nat → Int32} {si : Nat → Int32} {mi : Nat → Int32} {wi : Nat → Int32} {ns : Int32} {nt : Int32} {nf : Int32} {np : Int32} {sl : Int32} {hs : Int32} {uR : Nat → Int32} {uW : Nat → Int32} {uA : Nat → Int32} {uM : Nat → Int32} {uX : Nat → Int32} {uF : Nat → Int32} {uI : Nat → Int32} {uS : Nat → Int32} {ut : Int32} {us : Int32} {ur : Int32} {ub : Int32} {uo : Int32} {ui : Int32} {ul : Int32} {uk : Int32} {uh : Int32} {ou : Nat → Int64} {p1 : Int32} {rd' : Nat → Int64} {wr' : Nat → Int64} {ay' : Nat → Int32} {ia' : Nat → Int32} {mo' : Nat → Int32} {wo' : Nat → Int32} {oi' : Nat → Int32} {ns' : Int32} {nf' : Int32} {np' : Int32} {sl' : Int32} {hs' : Int32} {ou' : Nat → Int64} {uR' : Nat → Int32} {uW' : Nat → Int32} {uA' : Nat → Int32} {uM' : Nat → Int32} {uX' : Nat → Int32} {uF' : Nat → Int32} {uI' : Nat → Int32} {ut' : Int32} {us' : Int32} {ur' : Int32} {uo' : Int32} {ui' : Int32} {ul' : Int32} {uh' : Int32} {r1 : Int32} {r2 : Int32} (hR : Rel rd wr ay ia mo wo so oi si mi wi ns nt nf np sl hs uR uW uA uM uX uF uI uS ut us ur ub uo ui ul uk uh) (h1 : la_open rd wr ay ia mo wo oi ns nf np sl hs ou p1 = (r1, rd', wr', ay', ia', mo', wo', oi', ns', nf', np', sl', hs', ou')) (h2 : sm_open uR uW uA uM uX uF uI us ur uo ui ul uh p1 = (r2, uR', uW', uA', uM', uX', uF', uI', ut', us', ur', uo', ui', ul', uh')) : sm_thrown ut' = r1 ∧ (r1 = 0 → ou' 0 = r2.toInt64) ∧ Rel rd' wr' ay' ia' mo' wo' so oi' si mi wi ns' nt nf' np' sl' hs' uR' uW' uA' uM' uX' uF' uI' uS ut' us' ur' ub uo' ui' ul' uk uh' := by
  obtain ⟨n, f, hn, hf, e1, e2, e3, e4, e5, e6, e7, e8, hS, hB, hI, hL⟩ := id hR
  subst e1 e2 e3 e4 e5 e7
  unfold la_open sl_open at h1
  unfold sm_open at h2
  rcases cd_read p1 with ⟨P, hP, eP, b1, b2⟩ | ⟨b1, b2⟩
  · rw [b1] at h1
    rw [if_neg b2] at h2
    dsimp only at h1
    subst eP
    obtain ⟨c1, c2, c3, c4⟩ := co_N hP
    rw [c1, if_neg (nI_pos (by omega))] at h1
    rw [c2] at h2
    have hfull : ¬ f < 8 → nI f = 8 := fun h => by rw [show f = 8 by omega]; rfl
    rcases ad_N (rd := rd) (wr := wr) (ay := ay) (mo := mo) (wo := wo) hn hf e8 hI (show pcC P ≤ 100 by omega) (sl_reading (nI P)) 0 (-1) with ⟨d1, d2⟩ | ⟨hn', hr, d1, d2⟩
    · rw [d1] at h1
      rw [if_neg d2] at h2
      by_cases hf8 : f < 8
      · rw [if_pos (show nI f < 8 from nI_lt (b := 8) hf8 (by decide))] at h1
        dsimp only at h1
        rw [if_pos rfl] at h1
        cases h1
        cases h2
        exact ⟨rfl, fun h => absurd h (by decide), hR⟩
      · rw [if_neg (show ¬ nI f < 8 by rw [hfull hf8]; decide)] at h1
        dsimp only at h1
        rw [if_pos rfl] at h1
        cases h1
        cases h2
        exact ⟨rfl, fun h => absurd h (by decide), hR⟩
    · rw [d1] at h1
      rw [if_pos d2] at h2
      by_cases hf8 : f < 8
      · rw [if_pos (show nI f < 8 from nI_lt (b := 8) hf8 (by decide))] at h1
        rw [if_neg (show ¬ nI f = 8 from fun q => absurd ((nI_eq (b := 8) (by omega) (by decide)).mp q) (by omega))] at h2
        dsimp only at h1
        obtain ⟨R0, W0, g1, g2, g3⟩ := cm_N (uR := uR) (uW := uW) (uA := uA) (uM := uM) (uX := uX) (uF := uF) (uI := uI) (ur := np) (ui := ui) (c := nI (pcC P)) hn'
        rw [g1] at h2
        dsimp only at h2
        obtain ⟨k1, k2⟩ := rd_N hn' hP R0
        generalize sm_reads R0 (nI n) (nI P) = Q at k1 k2 h2
        rw [nI_clamp (by omega), upd_upd, nI_1] at h2
        rw [nI_clamp (by omega), nI_1] at h1
        cases h1
        cases h2
        refine ⟨rfl, fun _ => pk_uLs, rl_stepO hn' hf8 e6 hr hS hB hI r_m1 (r_0 (by decide)) (r_0 (by decide)) (fun q hq => ?_) (fun k hk => ?_) (fun k hk => ?_) (fun i hi => pk_un (by omega)) pk_us⟩
        · rw [k1 q hq]
          exact g2 q hq
        · rw [k2 k hk, (g3 k hk).1, (g3 k hk).2, re_N hP, bj_0]
          exact ⟨rfl, rfl⟩
        · rw [re_N hP, bj_0, rb_41 hP hk]
          exact ⟨rfl, rfl⟩
      · rw [if_neg (show ¬ nI f < 8 by rw [hfull hf8]; decide)] at h1
        rw [if_pos (hfull hf8)] at h2
        dsimp only at h1
        rw [if_pos rfl] at h1
        cases h1
        cases h2
        exact ⟨rfl, fun h => absurd h (by decide), hR⟩
  · rw [b1] at h1
    rw [if_pos b2] at h2
    dsimp only at h1
    rw [if_neg (by decide)] at h1
    cases h1
    cases h2
    exact ⟨rfl, fun h => absurd h (by decide), hR⟩
theorem rl_close {rd : Nat → Int64} {wr : Nat → Int64} {ay : Nat → Int32} {ia : Nat → Int32} {mo : Nat → Int32} {wo : Nat → Int32} {so : Nat → Int32} {oi : Nat → Int32} {si : Nat → Int32} {mi : Nat → Int32} {wi : Nat → Int32} {ns : Int32} {nt : Int32} {nf : Int32} {np : Int32} {sl : Int32} {hs : Int32} {uR : Nat → Int32} {uW : Nat → Int32} {uA : Nat → Int32} {uM : Nat → Int32} {uX : Nat → Int32} {uF : Nat → Int32} {uI : Nat → Int32} {uS : Nat → Int32} {ut : Int32} {us : Int32} {ur : Int32} {ub : Int32} {uo : Int32} {ui : Int32} {ul : Int32} {uk : Int32} {uh : Int32} {ou : Nat → Int64} {nf' : Int32} {ou' : Nat → Int64} {ut' : Int32} {uo' : Int32} {ui' : Int32} {r1 : Int32} {r2 : Int32} (hR : Rel rd wr ay ia mo wo so oi si mi wi ns nt nf np sl hs uR uW uA uM uX uF uI uS ut us ur ub uo ui ul uk uh) (h1 : la_close oi nf ou = (r1, nf', ou')) (h2 : sm_close uI uo ui = (r2, ut', uo', ui')) : sm_thrown ut' = r1 ∧ (r1 = 0 → ou' 0 = r2.toInt64) ∧ Rel rd wr ay ia mo wo so oi si mi wi ns nt nf' np sl hs uR uW uA uM uX uF uI uS ut' us ur ub uo' ui' ul uk uh := by
  obtain ⟨n, f, hn, hf, e1, e2, e3, e4, e5, e6, e7, e8, hS, hB, hI, hL⟩ := id hR
  unfold la_close sl_close at h1
  unfold sm_close at h2
  by_cases hf0 : f = 0
  · have c1 : nf < 1 := by rw [e3, hf0]; decide
    have c2 : uo = 0 := by rw [e4, hf0]; rfl
    rw [if_pos c1] at h1
    rw [if_pos c2] at h2
    cases h1
    cases h2
    exact ⟨rfl, fun h => absurd h (by decide), hR⟩
  · obtain ⟨g, rfl⟩ : ∃ g, f = g + 1 := ⟨f - 1, by omega⟩
    have c1 : ¬ nf < 1 := by
      rw [e3, i_lt, nI_toInt (by omega), show (1 : Int32).toInt = 1 from rfl]
      omega
    have c2 : nf ≤ 8 := by
      rw [e3, i_le, nI_toInt (by omega), show (8 : Int32).toInt = 8 from rfl]
      omega
    have c3 : ¬ uo = 0 := by rw [e4]; exact nI_ne0 (by omega) (by omega)
    rw [if_neg c1, if_pos c2] at h1
    rw [if_neg c3] at h2
    dsimp only at h1
    have d1 : nf - 1 = nI g := by rw [e3, nI_pred]
    have d2 : uo - 1 = nI g := by rw [e4, nI_pred]
    rw [d1, nI_clamp (by omega)] at h1
    rw [d2] at h2
    obtain ⟨i1, i2, i3⟩ := hI
    rw [if_neg (by omega), Nat.add_sub_cancel] at i3
    have i4 := i2 g (by omega)
    simp only [Prod.mk.injEq] at h1 h2
    obtain ⟨a1, a2, a3⟩ := h1
    obtain ⟨b1, b2, b3, b4⟩ := h2
    refine ⟨?_, ?_, n, g, hn, by omega, e1, e2, a2.symm, b3.symm, e5, e6, e7, e8, hS, hB, ⟨i1, fun t ht => i2 t (by omega), ?_⟩, hL⟩
    · rw [← b2, ← a1]; rfl
    · intro _
      rw [← a3, ← b1, i3]
      exact pk_uLs
    · rw [← b4, i3, i4.2.2.2]
theorem rl_apply {rd : Nat → Int64} {wr : Nat → Int64} {ay : Nat → Int32} {ia : Nat → Int32} {mo : Nat → Int32} {wo : Nat → Int32} {so : Nat → Int32} {oi : Nat → Int32} {si : Nat → Int32} {mi : Nat → Int32} {wi : Nat → Int32} {ns : Int32} {nt : Int32} {nf : Int32} {np : Int32} {sl : Int32} {hs : Int32} {uR : Nat → Int32} {uW : Nat → Int32} {uA : Nat → Int32} {uM : Nat → Int32} {uX : Nat → Int32} {uF : Nat → Int32} {uI : Nat → Int32} {uS : Nat → Int32} {ut : Int32} {us : Int32} {ur : Int32} {ub : Int32} {uo : Int32} {ui : Int32} {ul : Int32} {uk : Int32} {uh : Int32} {ou : Nat → Int64} {p1 : Int32} {p2 : Int32} {p3 : Int32} {rd' : Nat → Int64} {wr' : Nat → Int64} {ay' : Nat → Int32} {ia' : Nat → Int32} {mo' : Nat → Int32} {wo' : Nat → Int32} {ns' : Int32} {nt' : Int32} {np' : Int32} {sl' : Int32} {hs' : Int32} {ou' : Nat → Int64} {uR' : Nat → Int32} {uW' : Nat → Int32} {uA' : Nat → Int32} {uM' : Nat → Int32} {uX' : Nat → Int32} {uF' : Nat → Int32} {uI' : Nat → Int32} {ut' : Int32} {us' : Int32} {ur' : Int32} {ub' : Int32} {ul' : Int32} {uh' : Int32} {r1 : Int32} {r2 : Int32} (hR : Rel rd wr ay ia mo wo so oi si mi wi ns nt nf np sl hs uR uW uA uM uX uF uI uS ut us ur ub uo ui ul uk uh) (h1 : la_apply rd wr ay ia mo wo oi ns nt nf np sl hs ou p1 p2 p3 = (r1, rd', wr', ay', ia', mo', wo', ns', nt', np', sl', hs', ou')) (h2 : sm_apply uR uW uA uM uX uF uI us ur ub ui ul uh p1 p2 p3 = (r2, uR', uW', uA', uM', uX', uF', uI', ut', us', ur', ub', ul', uh')) : sm_thrown ut' = r1 ∧ (r1 = 0 → ou' 0 = r2.toInt64) ∧ Rel rd' wr' ay' ia' mo' wo' so oi si mi wi ns' nt' nf np' sl' hs' uR' uW' uA' uM' uX' uF' uI' uS ut' us' ur' ub' uo ui ul' uk uh' := by
  obtain ⟨n, f, hn, hf, e1, e2, e3, e4, e5, e6, e7, e8, hS, hB, hI, hL⟩ := id hR
  subst e1 e2 e3 e4 e5 e7
  unfold la_apply sl_apply at h1
  unfold sm_apply at h2
  rcases cd_place p3 with ⟨m, hm, ep, a1, a2⟩ | ⟨a1, a2⟩
  · rw [a1] at h1
    simp only [if_neg a2] at h2
    dsimp only at h1
    rcases cd_read p1 with ⟨P, hP, eP, b1, b2⟩ | ⟨b1, b2⟩
    · rw [b1] at h1
      simp only [if_neg b2] at h2
      dsimp only at h1
      subst ep eP
      obtain ⟨i1, i2⟩ := ib_N hP
      have i3 := on_N hP
      obtain ⟨c1, c2, c3, c4⟩ := co_N hP
      have c0 : sl_costOf 0 = nI 1 := rfl
      rw [c1, c0, nI_add, i1] at h1
      rw [i3] at h2
      have e32 : (32 : Int32).toInt = 32 := rfl
      by_cases v1 : p2 < 1
      · rw [if_pos v1] at h1 h2
        dsimp only at h1
        rw [if_pos rfl] at h1
        cases h1
        cases h2
        exact ⟨rfl, fun h => absurd h (by decide), hR⟩
      · rw [if_neg v1] at h1 h2
        by_cases v2 : p2 ≤ 32
        · have v3 : ¬ 32 < p2 := by rw [i_lt]; rw [i_le] at v2; omega
          rw [if_pos v2] at h1
          rw [if_neg v3] at h2
          by_cases v4 : nI (pcN P) < 1
          · rw [if_pos v4] at h1 h2
            dsimp only at h1
            rw [if_pos rfl] at h1
            cases h1
            cases h2
            exact ⟨rfl, fun h => absurd h (by decide), hR⟩
          · rw [if_neg v4] at h1 h2
            by_cases v5 : nI (pcN P) ≤ 4
            · rw [if_pos v5] at h1 h2
              have v4' : 1 ≤ pcN P := by
                rw [i_lt, nI_toInt (by omega), show (1 : Int32).toInt = 1 from rfl] at v4
                omega
              have v5' : pcN P ≤ 4 := by
                rw [i_le, nI_toInt (by omega), show (4 : Int32).toInt = 4 from rfl] at v5
                omega
              have eC : pcC P = pcN P := by unfold pcC; split <;> omega
              rw [eC] at h1
              have e1n : nI (pcN P) + 1 = nI (pcN P + 1) := nI_1 _
              rw [e1n] at h2
              obtain ⟨d, hd, ed⟩ := nn_N (x := p2) (b := 33) (by have := ge1 v1; omega) (by rw [i_le] at v2; omega)
              obtain ⟨t, ht, et⟩ := nn_N (x := nt) (b := 9) e6.1 (by omega)
              subst ed et
              have hfull : ¬ t < 8 → nI t = 8 := fun h => by rw [show t = 8 by omega]; rfl
              rcases ad_N (rd := rd) (wr := wr) (ay := ay) (mo := mo) (wo := wo) hn hf e8 hI (show pcN P + 1 ≤ 100 by omega) (sl_readingAndWriting (nI P) (nI m)) (jl 1 (nI m)) (-1) with ⟨d1, d2⟩ | ⟨hn', hr, d1, d2⟩
              · rw [d1] at h1
                rw [if_neg d2] at h2
                by_cases t8 : t < 8
                · rw [if_pos (show nI t < 8 from nI_lt (b := 8) t8 (by decide))] at h1
                  dsimp only at h1
                  rw [if_neg (by decide), if_pos rfl] at h1
                  cases h1
                  cases h2
                  exact ⟨rfl, fun h => absurd h (by decide), hR⟩
                · rw [if_neg (show ¬ nI t < 8 by rw [hfull t8]; decide)] at h1
                  dsimp only at h1
                  rw [if_neg (by decide), if_pos rfl] at h1
                  cases h1
                  cases h2
                  exact ⟨rfl, fun h => absurd h (by decide), hR⟩
              · rw [d1] at h1
                rw [if_pos d2] at h2
                by_cases t8 : t < 8
                · rw [if_pos (show nI t < 8 from nI_lt (b := 8) t8 (by decide))] at h1
                  rw [if_neg (show ¬ nI t = 8 from fun q => absurd ((nI_eq (b := 8) (by omega) (by decide)).mp q) (by omega))] at h2
                  obtain ⟨R0, W0, g1, g2, g3⟩ := cm_N (uR := uR) (uW := uW) (uA := uA) (uM := uM) (uX := uX) (uF := uF) (uI := uI) (ur := np) (ui := ui) (c := nI (pcN P + 1)) hn'
                  rw [g1] at h2
                  dsimp only at h2
                  obtain ⟨k1, k2⟩ := rd_N hn' hP R0
                  generalize sm_reads R0 (nI n) (nI P) = Q at k1 k2 h2
                  obtain ⟨U, V, w1, w2, w3⟩ := wr_N hn' (show m < 41 by omega) Q W0
                  rw [w1] at h2
                  dsimp only at h1 h2
                  have en : ∀ x y : Int32, sl_need (upd mo n 0) (upd wo n 0) (nI n) x y = (upd mo n x, upd wo n y) := by
                    intro x y
                    unfold sl_need
                    rw [if_neg (nI_pos (by omega)), if_neg (show ¬ (48 : Int32) ≤ nI n from nI_ge (b := 48) hn' (by decide)), nI_clamp (by omega), upd_upd, upd_upd]
                  rw [en] at h1
                  dsimp only at h1
                  rw [nI_clamp (by omega), upd_upd, upd_upd] at h2
                  have eM : nI d * (16 * nI (pcN P) + 8) = nI (d * (16 * pcN P + 8)) := by
                    rw [show (16 : Int32) = nI 16 from rfl, show (8 : Int32) = nI 8 from rfl, pk_mul, nI_add, pk_mul]
                  have eX : 8 * nI (pcN P) = nI (8 * pcN P) := pk_mul 8 (pcN P)
                  have hd1 : d * (16 * pcN P + 8) ≤ 32 * 72 := Nat.mul_le_mul (by omega) (by omega)
                  rw [eM, eX, nI_1] at h1 h2
                  cases h1
                  cases h2
                  refine ⟨rfl, fun _ => pk_uLs, rl_step hn' hf (by rw [nI_toInt (by omega)]; omega) hr hS hB hI r_m1 (by rw [nI_toInt (by omega)]; omega) (by rw [nI_toInt (by omega)]; omega) (fun q hq => ?_) (fun k hk => ?_) (fun k hk => ?_) (fun i hi => pk_un (by omega))⟩
                  · rw [(w2 q hq).1, (w2 q hq).2, k1 q hq]
                    exact g2 q hq
                  · rw [(w3 k hk).1, (w3 k hk).2, k2 k hk, (g3 k hk).1, (g3 k hk).2, rw_N hP hm, j1_N hm, decide_eq_true hm, Bool.true_and]
                    refine ⟨?_, rfl⟩
                    cases rb P k <;> cases (decide (28 ≤ k) && decide (m = k - 12)) <;> rfl
                  · rw [rw_N hP hm, j1_N hm, rb_41 hP hk, decide_eq_false (show ¬ m = k - 12 by omega), decide_eq_false (show ¬ k = m by omega), Bool.and_false]
                    exact ⟨rfl, rfl⟩
                · rw [if_neg (show ¬ nI t < 8 by rw [hfull t8]; decide)] at h1
                  rw [if_pos (hfull t8)] at h2
                  dsimp only at h1
                  rw [if_neg (by decide), if_pos rfl] at h1
                  cases h1
                  cases h2
                  exact ⟨rfl, fun h => absurd h (by decide), hR⟩
            · rw [if_neg v5] at h1 h2
              dsimp only at h1
              rw [if_pos rfl] at h1
              cases h1
              cases h2
              exact ⟨rfl, fun h => absurd h (by decide), hR⟩
        · have v3 : 32 < p2 := by rw [i_lt]; rw [i_le] at v2; omega
          rw [if_neg v2] at h1
          rw [if_pos v3] at h2
          dsimp only at h1
          rw [if_pos rfl] at h1
          cases h1
          cases h2
          exact ⟨rfl, fun h => absurd h (by decide), hR⟩
    · rw [b1] at h1
      simp only [if_pos b2, ite_self] at h2
      dsimp only at h1
      rw [if_neg (by decide), if_neg (by decide)] at h1
      cases h1
      cases h2
      exact ⟨rfl, fun h => absurd h (by decide), hR⟩
  · rw [a1] at h1
    simp only [if_pos a2, ite_self] at h2
    dsimp only at h1
    rw [if_neg (by decide), if_neg (by decide)] at h1
    cases h1
    cases h2
    exact ⟨rfl, fun h => absurd h (by decide), hR⟩
theorem rl_lay {rd : Nat → Int64} {wr : Nat → Int64} {ay : Nat → Int32} {ia : Nat → Int32} {mo : Nat → Int32} {wo : Nat → Int32} {so : Nat → Int32} {oi : Nat → Int32} {si : Nat → Int32} {mi : Nat → Int32} {wi : Nat → Int32} {ns : Int32} {nt : Int32} {nf : Int32} {np : Int32} {sl : Int32} {hs : Int32} {uR : Nat → Int32} {uW : Nat → Int32} {uA : Nat → Int32} {uM : Nat → Int32} {uX : Nat → Int32} {uF : Nat → Int32} {uI : Nat → Int32} {uS : Nat → Int32} {ut : Int32} {us : Int32} {ur : Int32} {ub : Int32} {uo : Int32} {ui : Int32} {ul : Int32} {uk : Int32} {uh : Int32} {ou : Nat → Int64} {p1 : Int32} {p2 : Int32} {p3 : Int32} {so' : Nat → Int32} {si' : Nat → Int32} {mi' : Nat → Int32} {wi' : Nat → Int32} {sl' : Int32} {hs' : Int32} {ou' : Nat → Int64} {uS' : Nat → Int32} {ut' : Int32} {ul' : Int32} {uk' : Int32} {uh' : Int32} {r1 : Int32} {r2 : Int32} (hR : Rel rd wr ay ia mo wo so oi si mi wi ns nt nf np sl hs uR uW uA uM uX uF uI uS ut us ur ub uo ui ul uk uh) (h1 : la_lay rd wr ay ia mo wo so si mi wi ns sl hs ou p1 p2 p3 = (r1, so', si', mi', wi', sl', hs', ou')) (h2 : sm_lay uR uW uA uM uX uF uI uS us ul uk uh p1 p2 p3 = (r2, uS', ut', ul', uk', uh')) : sm_thrown ut' = r1 ∧ (r1 = 0 → ou' 0 = r2.toInt64) ∧ Rel rd wr ay ia mo wo so' oi si' mi' wi' ns nt nf np sl' hs' uR uW uA uM uX uF uI uS' ut' us ur ub uo ui ul' uk' uh' := by
  obtain ⟨n, f, hn, hf, e1, e2, e3, e4, e5, e6, e7, e8, hS, hB, hI, hL⟩ := id hR
  subst e1 e2 e3 e4 e5 e7
  unfold la_lay sl_lay at h1
  unfold sm_lay at h2
  have e12 : (12 : Int32).toInt = 12 := rfl
  by_cases a1 : p1 < 1
  · rw [if_pos a1] at h1 h2
    dsimp only at h1
    cases h1
    cases h2
    exact ⟨rfl, fun h => absurd h (by decide), hR⟩
  · rw [if_neg a1] at h1 h2
    by_cases a2 : p1 ≤ 12
    · have a3 : ¬ 12 < p1 := by rw [i_lt]; rw [i_le] at a2; omega
      rw [if_pos a2] at h1
      rw [if_neg a3] at h2
      by_cases a4 : p2 < 0
      · rw [if_pos a4] at h1 h2
        dsimp only at h1
        cases h1
        cases h2
        exact ⟨rfl, fun h => absurd h (by decide), hR⟩
      · rw [if_neg a4] at h1 h2
        by_cases a5 : 0 ≤ p3
        · rw [if_pos a5] at h1 h2
          have g1 := ge1 a1
          obtain ⟨S, hS12, eS⟩ := nn_N (x := p1) (b := 13) (by omega) (by rw [i_le] at a2; omega)
          subst eS
          have hS1 : 1 ≤ S := by rw [nI_toInt (by omega)] at g1; omega
          have p3n : 0 ≤ p3.toInt := by rw [i_le, i_0] at a5; exact a5
          obtain ⟨si0, mi0, wi0, em, ez⟩ := em_N si mi wi
          have hLI : LI ay ia so si0 mi0 wi0 uM uX uS S 0 := ⟨fun i hi => by omega, fun i hi => by omega, fun i hi => by omega, fun s hs => ez s hs⟩
          have hl := lay_L hn hS hB hI.1 hS1 (by omega) (nn_of a4) p3n n 0 49 1 so si0 mi0 wi0 uS (by omega) (by omega) hLI ⟨by decide, by decide⟩
          rw [nI_0] at hl
          unfold sl_forgetStages at h1
          dsimp only at h1
          rw [em] at h1
          dsimp only at h1
          rcases hl with ⟨so1, si1, mi1, wi1, uS1, K1, q1, q2, q3, q4⟩ | ⟨so1, si1, mi1, wi1, uS1, uk1, hh, q1, q2⟩
          · rw [q1] at h1
            rw [q2] at h2
            dsimp only at h1 h2
            cases h1
            cases h2
            refine ⟨rfl, fun _ => pk_uLs, n, f, hn, hf, rfl, rfl, rfl, rfl, rfl, e6, rfl, e8, hS, hB, hI, rfl, Or.inr rfl, fun h => absurd h (by decide), fun _ => ⟨rfl, q4.1, q4.2, fun i hi => (q3.1 i hi).1, fun s hs => ?_⟩⟩
            rw [su_N hn, su_N hn, su_N hn]
            exact q3.2.2.2 s hs
          · rw [q1] at h1
            rw [q2] at h2
            dsimp only at h1 h2
            cases h1
            cases h2
            exact ⟨rfl, fun _ => pk_uLs, n, f, hn, hf, rfl, rfl, rfl, rfl, rfl, e6, rfl, e8, hS, hB, hI, rfl, Or.inl rfl, fun _ => rfl, fun h => absurd h (by decide)⟩
        · rw [if_neg a5] at h1 h2
          dsimp only at h1
          cases h1
          cases h2
          exact ⟨rfl, fun h => absurd h (by decide), hR⟩
    · have a3 : 12 < p1 := by rw [i_lt]; rw [i_le] at a2; omega
      rw [if_neg a2] at h1
      rw [if_pos a3] at h2
      dsimp only at h1
      cases h1
      cases h2
      exact ⟨rfl, fun h => absurd h (by decide), hR⟩
theorem rl_homeless {rd : Nat → Int64} {wr : Nat → Int64} {ay : Nat → Int32} {ia : Nat → Int32} {mo : Nat → Int32} {wo : Nat → Int32} {so : Nat → Int32} {oi : Nat → Int32} {si : Nat → Int32} {mi : Nat → Int32} {wi : Nat → Int32} {ns : Int32} {nt : Int32} {nf : Int32} {np : Int32} {sl : Int32} {hs : Int32} {uR : Nat → Int32} {uW : Nat → Int32} {uA : Nat → Int32} {uM : Nat → Int32} {uX : Nat → Int32} {uF : Nat → Int32} {uI : Nat → Int32} {uS : Nat → Int32} {ut : Int32} {us : Int32} {ur : Int32} {ub : Int32} {uo : Int32} {ui : Int32} {ul : Int32} {uk : Int32} {uh : Int32} {ut' : Int32} {r2 : Int32} (hR : Rel rd wr ay ia mo wo so oi si mi wi ns nt nf np sl hs uR uW uA uM uX uF uI uS ut us ur ub uo ui ul uk uh) (h2 : sm_homeless uh = (r2, ut')) : (sl_homeless hs) = r2 ∧ Rel rd wr ay ia mo wo so oi si mi wi ns nt nf np sl hs uR uW uA uM uX uF uI uS ut' us ur ub uo ui ul uk uh := by
  obtain ⟨n, f, hn, hf, e1, e2, e3, e4, e5, e6, e7, e8, hS, hB, hI, hL⟩ := id hR
  have e := (Prod.mk.inj (show (uh, (0 : Int32)) = (r2, ut') from h2)).1
  exact ⟨hL.1.trans e, hR⟩
theorem rl_stage {rd : Nat → Int64} {wr : Nat → Int64} {ay : Nat → Int32} {ia : Nat → Int32} {mo : Nat → Int32} {wo : Nat → Int32} {so : Nat → Int32} {oi : Nat → Int32} {si : Nat → Int32} {mi : Nat → Int32} {wi : Nat → Int32} {ns : Int32} {nt : Int32} {nf : Int32} {np : Int32} {sl : Int32} {hs : Int32} {uR : Nat → Int32} {uW : Nat → Int32} {uA : Nat → Int32} {uM : Nat → Int32} {uX : Nat → Int32} {uF : Nat → Int32} {uI : Nat → Int32} {uS : Nat → Int32} {ut : Int32} {us : Int32} {ur : Int32} {ub : Int32} {uo : Int32} {ui : Int32} {ul : Int32} {uk : Int32} {uh : Int32} {p1 : Int32} {ut' : Int32} {r2 : Int32} (hR : Rel rd wr ay ia mo wo so oi si mi wi ns nt nf np sl hs uR uW uA uM uX uF uI uS ut us ur ub uo ui ul uk uh) (h2 : sm_stage uS us ul p1 = (r2, ut')) : (sl_stage so ns sl p1) = r2 ∧ Rel rd wr ay ia mo wo so oi si mi wi ns nt nf np sl hs uR uW uA uM uX uF uI uS ut' us ur ub uo ui ul uk uh := by
  refine ⟨?_, hR⟩
  obtain ⟨n, f, hn, hf, e1, e2, e3, e4, e5, e6, e7, e8, hS, hB, hI, hL⟩ := id hR
  unfold sm_stage at h2
  unfold sl_stage
  obtain ⟨l1, l2, l3, l4⟩ := hL
  rcases l2 with h0 | h1
  · rw [if_pos h0] at h2; rw [if_pos (l3 h0)]; exact (Prod.mk.inj h2).1
  · have hne : ¬ ul = 0 := by rw [h1]; decide
    obtain ⟨m1, m2, m3, m4, m5⟩ := l4 h1
    have hsl : ¬ sl = 0 := fun q => by rw [← m1, q] at m2; exact absurd m2 (by decide)
    rw [if_neg hne] at h2; rw [if_neg hsl]
    by_cases c1 : p1 < 0
    · rw [if_pos c1] at h2 ⊢; exact (Prod.mk.inj h2).1
    · rw [if_neg c1] at h2 ⊢
      have e12 : ns = us := e1.trans e2.symm
      rw [e12]
      by_cases c2 : us ≤ p1
      · rw [if_pos c2] at h2 ⊢; exact (Prod.mk.inj h2).1
      · rw [if_neg c2] at h2 ⊢
        have h3 := nn_of c1
        have h4 : p1.toInt < n := by
          rw [i_le, e2, nI_toInt (by omega)] at c2
          omega
        have h5 : p1 < 48 := by
          rw [i_lt, show (48 : Int32).toInt = 48 from rfl]
          omega
        rw [if_pos h5]
        have h6 : p1.toNatClampNeg < n := by
          show p1.toInt.toNat < n
          omega
        exact (m4 _ h6).trans (Prod.mk.inj h2).1
theorem rl_used {rd : Nat → Int64} {wr : Nat → Int64} {ay : Nat → Int32} {ia : Nat → Int32} {mo : Nat → Int32} {wo : Nat → Int32} {so : Nat → Int32} {oi : Nat → Int32} {si : Nat → Int32} {mi : Nat → Int32} {wi : Nat → Int32} {ns : Int32} {nt : Int32} {nf : Int32} {np : Int32} {sl : Int32} {hs : Int32} {uR : Nat → Int32} {uW : Nat → Int32} {uA : Nat → Int32} {uM : Nat → Int32} {uX : Nat → Int32} {uF : Nat → Int32} {uI : Nat → Int32} {uS : Nat → Int32} {ut : Int32} {us : Int32} {ur : Int32} {ub : Int32} {uo : Int32} {ui : Int32} {ul : Int32} {uk : Int32} {uh : Int32} {p1 : Int32} {p2 : Int32} {ut' : Int32} {r2 : Int32} (hR : Rel rd wr ay ia mo wo so oi si mi wi ns nt nf np sl hs uR uW uA uM uX uF uI uS ut us ur ub uo ui ul uk uh) (h2 : sm_used uM uX uS us ul uk p1 p2 = (r2, ut')) : (sl_used si mi wi sl p1 p2) = r2 ∧ Rel rd wr ay ia mo wo so oi si mi wi ns nt nf np sl hs uR uW uA uM uX uF uI uS ut' us ur ub uo ui ul uk uh := by
  refine ⟨?_, hR⟩
  obtain ⟨n, f, hn, hf, e1, e2, e3, e4, e5, e6, e7, e8, hS, hB, hI, hL⟩ := id hR
  unfold sm_used at h2
  unfold sl_used
  obtain ⟨l1, l2, l3, l4⟩ := hL
  rcases l2 with h0 | h1
  · rw [if_pos h0] at h2
    have hq := (Prod.mk.inj h2).1
    have hsl := l3 h0
    by_cases c1 : p1 < 0
    · rw [if_pos c1]; exact hq
    · rw [if_neg c1]
      have c2 : sl ≤ p1 := by rw [hsl, i_le, i_0]; exact nn_of c1
      rw [if_pos c2]; exact hq
  · have hne : ¬ ul = 0 := by rw [h1]; decide
    obtain ⟨m1, m2, m3, m4, m5⟩ := l4 h1
    rw [if_neg hne] at h2
    by_cases c1 : p1 < 0
    · rw [if_pos c1] at h2 ⊢; exact (Prod.mk.inj h2).1
    · rw [if_neg c1] at h2 ⊢
      rw [m1]
      by_cases c2 : uk ≤ p1
      · rw [if_pos c2] at h2 ⊢; exact (Prod.mk.inj h2).1
      · rw [if_neg c2] at h2 ⊢
        have h3 := nn_of c1
        have h4 : p1.toInt < 12 := by rw [i_le] at c2; omega
        have h5 : p1 < 12 := by rw [i_lt, show (12 : Int32).toInt = 12 from rfl]; exact h4
        rw [if_pos h5]
        have h6 : p1.toNatClampNeg < 12 := by
          show p1.toInt.toNat < 12
          omega
        have ep : p1 = nI p1.toNatClampNeg := by
          apply Int32.toInt_inj.mp
          rw [nI_toInt (by omega)]
          show p1.toInt = (p1.toInt.toNat : Int)
          omega
        obtain ⟨q1, q2, q3⟩ := m5 _ h6
        rw [← e2, ← ep] at q1 q2 q3
        by_cases d1 : p2 = 0
        · rw [if_pos d1]
          rw [if_neg (by rw [d1]; decide), if_neg (by rw [d1]; decide), d1] at h2
          exact q1.trans (Prod.mk.inj h2).1
        · rw [if_neg d1]
          by_cases d2 : p2 = 1
          · rw [if_pos d2]
            rw [if_neg (by rw [d2]; decide), if_neg (by rw [d2]; decide), d2] at h2
            exact q2.trans (Prod.mk.inj h2).1
          · rw [if_neg d2]
            by_cases d3 : p2 = 2
            · rw [if_pos d3]
              rw [if_neg (by rw [d3]; decide), if_neg (by rw [d3]; decide), d3] at h2
              exact q3.trans (Prod.mk.inj h2).1
            · rw [if_neg d3]
              by_cases k1 : p2 < 0
              · rw [if_pos k1] at h2; exact (Prod.mk.inj h2).1
              · rw [if_neg k1] at h2
                have k2 : 3 ≤ p2 := by
                  have g0 := nn_of k1
                  have g1 := lv_neT d1 (a := 0) rfl
                  have g2 := lv_neT d2 (a := 1) rfl
                  have g3 := lv_neT d3 (a := 2) rfl
                  rw [i_le, show (3 : Int32).toInt = 3 from rfl]
                  omega
                rw [if_pos k2] at h2; exact (Prod.mk.inj h2).1
theorem rl_count {rd : Nat → Int64} {wr : Nat → Int64} {ay : Nat → Int32} {ia : Nat → Int32} {mo : Nat → Int32} {wo : Nat → Int32} {so : Nat → Int32} {oi : Nat → Int32} {si : Nat → Int32} {mi : Nat → Int32} {wi : Nat → Int32} {ns : Int32} {nt : Int32} {nf : Int32} {np : Int32} {sl : Int32} {hs : Int32} {uR : Nat → Int32} {uW : Nat → Int32} {uA : Nat → Int32} {uM : Nat → Int32} {uX : Nat → Int32} {uF : Nat → Int32} {uI : Nat → Int32} {uS : Nat → Int32} {ut : Int32} {us : Int32} {ur : Int32} {ub : Int32} {uo : Int32} {ui : Int32} {ul : Int32} {uk : Int32} {uh : Int32} {p1 : Int32} {ut' : Int32} {r2 : Int32} (hR : Rel rd wr ay ia mo wo so oi si mi wi ns nt nf np sl hs uR uW uA uM uX uF uI uS ut us ur ub uo ui ul uk uh) (h2 : sm_count us ub uo p1 = (r2, ut')) : (sl_count ns nt nf p1) = r2 ∧ Rel rd wr ay ia mo wo so oi si mi wi ns nt nf np sl hs uR uW uA uM uX uF uI uS ut' us ur ub uo ui ul uk uh := by
  obtain ⟨n, f, hn, hf, e1, e2, e3, e4, e5, e6, e7, e8, hS, hB, hI, hL⟩ := id hR
  unfold sm_count at h2
  unfold sl_count
  by_cases c1 : p1 = 0
  · rw [if_pos c1] at h2 ⊢; exact ⟨(e1.trans e2.symm).trans (Prod.mk.inj h2).1, hR⟩
  · rw [if_neg c1] at h2 ⊢
    by_cases c2 : p1 = 1
    · rw [if_pos c2] at h2 ⊢; exact ⟨e5.trans (Prod.mk.inj h2).1, hR⟩
    · rw [if_neg c2] at h2 ⊢
      by_cases c3 : p1 = 2
      · rw [if_pos c3] at h2 ⊢; exact ⟨(e3.trans e4.symm).trans (Prod.mk.inj h2).1, hR⟩
      · rw [if_neg c3] at h2 ⊢; exact ⟨(Prod.mk.inj h2).1, hR⟩
