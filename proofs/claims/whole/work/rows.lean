section
-- ===== PART A: goes FIRST, ahead of the names: the tables' words, and 'selects' of the private methods out of them =====
/-- a private method of a class that the tables say can be made, by its rows of tables_1 -/
def lw_okq (q : MethodName × Nat) : Prop := (q.1.cls ≠ "java/lang/invoke/MethodHandle" ∧ q.1.cls ≠ "java/lang/invoke/VarHandle") ∧ Cond.instantiable q.1.cls q.2 ∈ tables_1 ∧ Cond.privateMethod q.1 ∈ tables_1 ∧ Cond.instanceMethod q.1 ∈ tables_1
theorem lw_p0 : lw_okq (⟨"StageLayer", "forgetStages", "()V"⟩, 17) := ⟨⟨by decide +kernel, by decide +kernel⟩, List.mem_of_getElem? (i := 12) (by decide +kernel), List.mem_of_getElem? (i := 78) (by decide +kernel), List.mem_of_getElem? (i := 79) (by decide +kernel)⟩
theorem lw_p1 : lw_okq (⟨"java/lang/Throwable", "fillInStackTrace", "(I)Ljava/lang/Throwable;"⟩, 6) := ⟨⟨by decide +kernel, by decide +kernel⟩, List.mem_of_getElem? (i := 148) (by decide +kernel), List.mem_of_getElem? (i := 146) (by decide +kernel), List.mem_of_getElem? (i := 147) (by decide +kernel)⟩
theorem lw_p2 : lw_okq (⟨"StageLayer", "addStep", "(JJII)I"⟩, 17) := ⟨⟨by decide +kernel, by decide +kernel⟩, List.mem_of_getElem? (i := 12) (by decide +kernel), List.mem_of_getElem? (i := 203) (by decide +kernel), List.mem_of_getElem? (i := 204) (by decide +kernel)⟩
theorem lw_p3 : lw_okq (⟨"StageLayer", "innermostIf", "()I"⟩, 17) := ⟨⟨by decide +kernel, by decide +kernel⟩, List.mem_of_getElem? (i := 12) (by decide +kernel), List.mem_of_getElem? (i := 224) (by decide +kernel), List.mem_of_getElem? (i := 225) (by decide +kernel)⟩
theorem lw_p4 : lw_okq (⟨"StageLayer", "need", "(III)V"⟩, 17) := ⟨⟨by decide +kernel, by decide +kernel⟩, List.mem_of_getElem? (i := 12) (by decide +kernel), List.mem_of_getElem? (i := 228) (by decide +kernel), List.mem_of_getElem? (i := 229) (by decide +kernel)⟩
theorem lw_p5 : lw_okq (⟨"StageLayer", "emptyStages", "()V"⟩, 17) := ⟨⟨by decide +kernel, by decide +kernel⟩, List.mem_of_getElem? (i := 12) (by decide +kernel), List.mem_of_getElem? (i := 317) (by decide +kernel), List.mem_of_getElem? (i := 318) (by decide +kernel)⟩
theorem lw_p6 : lw_okq (⟨"StageLayer", "findStage", "(IIII)I"⟩, 17) := ⟨⟨by decide +kernel, by decide +kernel⟩, List.mem_of_getElem? (i := 12) (by decide +kernel), List.mem_of_getElem? (i := 321) (by decide +kernel), List.mem_of_getElem? (i := 322) (by decide +kernel)⟩
theorem lw_p7 : lw_okq (⟨"StageLayer", "earliestStage", "(I)I"⟩, 17) := ⟨⟨by decide +kernel, by decide +kernel⟩, List.mem_of_getElem? (i := 12) (by decide +kernel), List.mem_of_getElem? (i := 325) (by decide +kernel), List.mem_of_getElem? (i := 326) (by decide +kernel)⟩
theorem lw_p8 : lw_okq (⟨"StageLayer", "stageOfSharedArray", "(I)I"⟩, 17) := ⟨⟨by decide +kernel, by decide +kernel⟩, List.mem_of_getElem? (i := 12) (by decide +kernel), List.mem_of_getElem? (i := 329) (by decide +kernel), List.mem_of_getElem? (i := 330) (by decide +kernel)⟩
theorem lw_p9 : lw_okq (⟨"StageLayer", "hasRoom", "(IIII)Z"⟩, 17) := ⟨⟨by decide +kernel, by decide +kernel⟩, List.mem_of_getElem? (i := 12) (by decide +kernel), List.mem_of_getElem? (i := 333) (by decide +kernel), List.mem_of_getElem? (i := 334) (by decide +kernel)⟩
theorem lw_p10 : lw_okq (⟨"StageLayer", "settle", "(II)V"⟩, 17) := ⟨⟨by decide +kernel, by decide +kernel⟩, List.mem_of_getElem? (i := 12) (by decide +kernel), List.mem_of_getElem? (i := 337) (by decide +kernel), List.mem_of_getElem? (i := 338) (by decide +kernel)⟩
theorem lw_p11 : lw_okq (⟨"StageLayerModel", "isFull", "(I)Z"⟩, 17) := ⟨⟨by decide +kernel, by decide +kernel⟩, List.mem_of_getElem? (i := 341) (by decide +kernel), List.mem_of_getElem? (i := 425) (by decide +kernel), List.mem_of_getElem? (i := 426) (by decide +kernel)⟩
theorem lw_p12 : lw_okq (⟨"StageLayerModel", "comes", "(I)I"⟩, 17) := ⟨⟨by decide +kernel, by decide +kernel⟩, List.mem_of_getElem? (i := 341) (by decide +kernel), List.mem_of_getElem? (i := 429) (by decide +kernel), List.mem_of_getElem? (i := 430) (by decide +kernel)⟩
theorem lw_p13 : lw_okq (⟨"StageLayerModel", "reads", "(II)V"⟩, 17) := ⟨⟨by decide +kernel, by decide +kernel⟩, List.mem_of_getElem? (i := 341) (by decide +kernel), List.mem_of_getElem? (i := 433) (by decide +kernel), List.mem_of_getElem? (i := 434) (by decide +kernel)⟩
theorem lw_p14 : lw_okq (⟨"StageLayerModel", "writes", "(II)V"⟩, 17) := ⟨⟨by decide +kernel, by decide +kernel⟩, List.mem_of_getElem? (i := 341) (by decide +kernel), List.mem_of_getElem? (i := 437) (by decide +kernel), List.mem_of_getElem? (i := 438) (by decide +kernel)⟩
theorem lw_p15 : lw_okq (⟨"StageLayerModel", "place", "(IIII)I"⟩, 17) := ⟨⟨by decide +kernel, by decide +kernel⟩, List.mem_of_getElem? (i := 341) (by decide +kernel), List.mem_of_getElem? (i := 473) (by decide +kernel), List.mem_of_getElem? (i := 474) (by decide +kernel)⟩
def lw_privs_1 : List (MethodName × Nat) := [(⟨"StageLayer", "forgetStages", "()V"⟩, 17), (⟨"java/lang/Throwable", "fillInStackTrace", "(I)Ljava/lang/Throwable;"⟩, 6), (⟨"StageLayer", "addStep", "(JJII)I"⟩, 17), (⟨"StageLayer", "innermostIf", "()I"⟩, 17), (⟨"StageLayer", "need", "(III)V"⟩, 17), (⟨"StageLayer", "emptyStages", "()V"⟩, 17), (⟨"StageLayer", "findStage", "(IIII)I"⟩, 17), (⟨"StageLayer", "earliestStage", "(I)I"⟩, 17), (⟨"StageLayer", "stageOfSharedArray", "(I)I"⟩, 17), (⟨"StageLayer", "hasRoom", "(IIII)Z"⟩, 17), (⟨"StageLayer", "settle", "(II)V"⟩, 17), (⟨"StageLayerModel", "isFull", "(I)Z"⟩, 17), (⟨"StageLayerModel", "comes", "(I)I"⟩, 17), (⟨"StageLayerModel", "reads", "(II)V"⟩, 17), (⟨"StageLayerModel", "writes", "(II)V"⟩, 17), (⟨"StageLayerModel", "place", "(IIII)I"⟩, 17)]
theorem lw_r1 : ∀ q ∈ lw_privs_1, lw_okq q := List.forall_mem_cons.mpr ⟨lw_p0, List.forall_mem_cons.mpr ⟨lw_p1, List.forall_mem_cons.mpr ⟨lw_p2, List.forall_mem_cons.mpr ⟨lw_p3, List.forall_mem_cons.mpr ⟨lw_p4, List.forall_mem_cons.mpr ⟨lw_p5, List.forall_mem_cons.mpr ⟨lw_p6, List.forall_mem_cons.mpr ⟨lw_p7, List.forall_mem_cons.mpr ⟨lw_p8, List.forall_mem_cons.mpr ⟨lw_p9, List.forall_mem_cons.mpr ⟨lw_p10, List.forall_mem_cons.mpr ⟨lw_p11, List.forall_mem_cons.mpr ⟨lw_p12, List.forall_mem_cons.mpr ⟨lw_p13, List.forall_mem_cons.mpr ⟨lw_p14, List.forall_mem_cons.mpr ⟨lw_p15, fun _ h => absurd h List.not_mem_nil⟩⟩⟩⟩⟩⟩⟩⟩⟩⟩⟩⟩⟩⟩⟩⟩
theorem lw_p16 : lw_okq (⟨"StageLayerModel", "hasRoom", "(IIII)Z"⟩, 17) := ⟨⟨by decide +kernel, by decide +kernel⟩, List.mem_of_getElem? (i := 341) (by decide +kernel), List.mem_of_getElem? (i := 477) (by decide +kernel), List.mem_of_getElem? (i := 478) (by decide +kernel)⟩
theorem lw_p17 : lw_okq (⟨"StageLayerModel", "sum", "(III)I"⟩, 17) := ⟨⟨by decide +kernel, by decide +kernel⟩, List.mem_of_getElem? (i := 341) (by decide +kernel), List.mem_of_getElem? (i := 481) (by decide +kernel), List.mem_of_getElem? (i := 482) (by decide +kernel)⟩
theorem lw_p18 : lw_okq (⟨"StageLayerModel", "mayBe", "(III)Z"⟩, 17) := ⟨⟨by decide +kernel, by decide +kernel⟩, List.mem_of_getElem? (i := 341) (by decide +kernel), List.mem_of_getElem? (i := 485) (by decide +kernel), List.mem_of_getElem? (i := 486) (by decide +kernel)⟩
theorem lw_p19 : lw_okq (⟨"StageLayerModel", "isIn", "(II)Z"⟩, 17) := ⟨⟨by decide +kernel, by decide +kernel⟩, List.mem_of_getElem? (i := 341) (by decide +kernel), List.mem_of_getElem? (i := 489) (by decide +kernel), List.mem_of_getElem? (i := 490) (by decide +kernel)⟩
def lw_privs_2 : List (MethodName × Nat) := [(⟨"StageLayerModel", "hasRoom", "(IIII)Z"⟩, 17), (⟨"StageLayerModel", "sum", "(III)I"⟩, 17), (⟨"StageLayerModel", "mayBe", "(III)Z"⟩, 17), (⟨"StageLayerModel", "isIn", "(II)Z"⟩, 17)]
theorem lw_r2 : ∀ q ∈ lw_privs_2, lw_okq q := List.forall_mem_cons.mpr ⟨lw_p16, List.forall_mem_cons.mpr ⟨lw_p17, List.forall_mem_cons.mpr ⟨lw_p18, List.forall_mem_cons.mpr ⟨lw_p19, fun _ h => absurd h List.not_mem_nil⟩⟩⟩⟩
def lw_privs : List (MethodName × Nat) := lw_privs_1 ++ (lw_privs_2)
def lw_tbl : List Cond := k2_sels lw_privs ++ tables_1
theorem lw_privs_ok : ∀ q ∈ lw_privs, lw_okq q := by
  show ∀ q ∈ lw_privs_1 ++ (lw_privs_2), lw_okq q
  exact List.forall_mem_append.mpr ⟨lw_r1, lw_r2⟩
/-! ===== BEGIN words of one list among another's, by their places ===== -/
theorem goodIn_r {big : List Cond} (ws : List Cond) (ps : List Nat) (hp : ws = ps.filterMap (fun i => big[i]?)) (h : ws.all goodWord = true) : GoodIn big ws := by
  intro w hw
  have h1 := List.all_eq_true.mp h w hw
  rw [hp] at hw
  obtain ⟨i, -, hi⟩ := List.mem_filterMap.mp hw
  have hm : w ∈ big := by first | exact List.mem_of_getElem? hi | exact List.getElem?_mem hi
  exact ⟨hm, good_of_word h1⟩
theorem goodIn_app {big a b : List Cond} (ha : GoodIn big a) (hb : GoodIn big b) : GoodIn big (a ++ b) := fun w h => (List.mem_append.mp h).elim (ha w) (hb w)
theorem goodIn_ca {big a b : List Cond} {c : Cond} (ha : GoodIn big (c :: a)) (hb : GoodIn big b) : GoodIn big (c :: (a ++ b)) := fun w h => (List.mem_cons.mp h).elim (fun e => ha w (List.mem_cons.mpr (Or.inl e))) (fun h => (List.mem_append.mp h).elim (fun h => ha w (List.mem_cons.mpr (Or.inr h))) (hb w))
theorem goodIn_sub {big ws : List Cond} (hm : ∀ w ∈ ws, w ∈ big) (h : ws.all goodWord = true) : GoodIn big ws := fun w hw => ⟨hm w hw, good_of_word (List.all_eq_true.mp h w hw)⟩
/-! ===== END ===== -/

/-! ===== BEGIN exceptions that leave a method, and their catching by the caller (launches without stack traces) ===== -/
section VXA
/-! The laws vx_back, vx_callV, vx_callS, vx_callSW, vx_throw0, vx_throwS follow proofs of the library, with one case more: JvmDerived/Free/Laws.lean (Back.of_free), Shelf42/LK1.lean (callV, callS), Shelf/KitTraced.lean (throwNew0V, throwNewS). -/
/-- where a method has thrown q: the class by its name, the cell, what was written, the world -/
def vx_T (XC : String → State → State → Prop) (st : State) (q : Addr) (t : State) (mc ms : Nat) (free : Addr → Prop) : Prop :=
  ∃ (E : String) (ce : Cell) (L : List Loc), XC E st t ∧ t.heap[q]? = some ce ∧ ce.vm = .none ∧ st.vm.findClass E = some ce.cls ∧ st.WarmedH t.vm ∧ st.sameButNew ({ t with vm := st.vm } : State) L mc ms ∧ ∀ z ∈ L, free z.base
def vx_Q (Qc : Array Value → State → Outcome → State → Prop) (XC : String → State → State → Prop) (mc ms : Nat) (free : Addr → Prop) : Array Value → State → Outcome → State → Prop := fun a st o t =>
  (Qc a st o t ∧ ∃ L, FrameEnd st o t L mc ms ∧ ∀ q ∈ L, free q.base) ∨ ∃ q, o = .threw q ∧ vx_T XC st q t mc ms free
/-- a callee that returns or throws -/
def vx_Met (l : Launch) (y : MethodName) (ws : List Cond) (rm : Room) (Pc : Array Value → State → Prop) (Qc : Array Value → State → Outcome → State → Prop) (XC : String → State → State → Prop) (mc ms : Nat) (free : Addr → Prop) : Prop :=
  MetFree l y (headSpec ws rm) Pc (fun _ _ _ _ _ => True) (vx_Q Qc XC mc ms free)
def vx_Post (XC : String → State → State → Prop) (mc ms : Nat) (free : Addr → Prop) : Pt → Array Value → Addr → Pt → Prop := fun A a q B =>
  ∃ (g : JFrame) (mk : MethodId) (t : State) (L : List Loc) (E : String) (ce : Cell), B.U.heap = t.heap ∧ B.U.vm = t.vm ∧ XC E (A.U.calling g mk a) t ∧ t.heap[q]? = some ce ∧ ce.vm = .none ∧ A.U.vm.findClass E = some ce.cls ∧ B.locs = A.locs ++ L ∧ (∀ z ∈ L, free z.base) ∧ B.cells = A.cells + mc ∧ B.slots = A.slots + ms
def vx_Back (l : Launch) (R : Room) (p : Program) (e : Env) (below : List Frame) (s : State) (sargs : Array Value) (y : MethodName) (len W9 : Nat)
    (Pre : Pt → Array Value → Prop) (Post : Pt → Array Value → Option Value → Pt → Prop) (PostX : Pt → Array Value → Addr → Pt → Prop) : Prop :=
  ∀ (m : MethodId) (meth : Method) (c : Code) (A : Pt) (g : JFrame) (ig : Instr) (mk : MethodId) (a : Array Value),
    Stand p l e R s m sargs below meth c A.U A.locs A.cells A.slots → g.method = m → g.locals.size = c.maxLocals → decode c.code g.pc = .ok (ig, len) →
    2 * g.monitorRoom + (g.stack.map fun v => v.category).sum ≤ W9 → A.U.methodNamed? y = some mk → Pre A a →
    (∃ (v : Option Value) (B : Pt), Stand p l e R s m sargs below meth c B.U B.locs B.cells B.slots ∧ Post A a v B ∧
      Steps p.tables e below (doInvoke e (A.U.setTop g) [] mk a).1 (B.U.setTop { g with pc := g.pc + len, stack := v.toList ++ g.stack })) ∨
    (∃ (q : Addr) (B : Pt), Stand p l e R s m sargs below meth c B.U B.locs B.cells B.slots ∧ PostX A a q B ∧
      Steps p.tables e below (doInvoke e (A.U.setTop g) [] mk a).1 ((B.U.setTop g).pushFrame (.throwing q)))
section Payer
variable {l : Launch} {R : Room} {p : Program} {e : Env} {below : List Frame} {s : State} {sargs : Array Value} {y : MethodName} {len W9 : Nat}
theorem vx_back {ws : List Cond} {rm : Room} {Pc : Array Value → State → Prop} {Qc : Array Value → State → Outcome → State → Prop} {XC : String → State → State → Prop} {mc ms : Nat} {free : Addr → Prop} {bytes : ByteArray} {maxL : Nat} {ret : Option FieldType}
    (hM : vx_Met l y ws rm Pc Qc XC mc ms free) (hblind : FrameBlind Pc) (hrc : rm.cells = mc) (hrs : rm.slots = ms)
    (hframes : rm.frames + 1 ≤ R.frames) (hlocals : W9 + (maxL + 11) + rm.locals ≤ R.locals)
    (hws : ∀ w ∈ ws, ∀ a' U, s.WarmedH U.vm → w.before a' U = true) (hcode : Cond.code y bytes maxL ret ∈ ws) (hinit : ∀ a' U, s.WarmedH U.vm → (Cond.initialized y.cls).before a' U = true) :
    vx_Back l R p e below s sargs y len W9 (PreOf R mc ms Pc) (PostOf Qc mc ms free) (vx_Post XC mc ms free) := by
  intro m meth c A g ig mk a X hg hsize hdg hW hn hp
  have h1 : (headSpec ws rm).pre.before a A.U = true := atoms_intro fun w hw => hws w hw _ _ X.warmed
  have h2 : (Cond.code y bytes maxL ret).before a A.U = true := hws _ hcode _ _ X.warmed
  have h3 : (Cond.initialized y.cls).before a A.U = true := hinit _ _ X.warmed
  have h4 : A.cells + (headSpec ws rm).room.cells ≤ R.cells := by rw [show (headSpec ws rm).room.cells = mc from hrc]; exact hp.1
  have h5 : A.slots + (headSpec ws rm).room.slots ≤ R.slots := by rw [show (headSpec ws rm).room.slots = ms from hrs]; exact hp.2.1
  have hPc : Pc a (A.U.calling g mk a) := hblind _ _ _ _ hp.2.2
  obtain ⟨U, Ls, c0, s0⟩ := A
  dsimp only [Pt.U, Pt.locs, Pt.cells, Pt.slots] at h1 h2 h3 h4 h5 X hn hPc ⊢
  obtain ⟨methY, cY, hmY, hcY, -, hlY, -, -, -, -⟩ := Cond.code_spec hn h2
  obtain ⟨kY, hkY, -⟩ := className_of_methodNamed hn
  have hinitY : kY.init = .initialized := Cond.initialized_spec (findClass_of_methodNamed hn) hkY h3
  have h : At U g.method c below := by rw [hg]; exact X.here
  have hlocals9 : W9 + (maxL + 11) + (headSpec ws rm).room.locals ≤ R.locals := hlocals
  have happ : (headSpec ws rm).appliesLoose y e.platform (U.calling g mk a) = true :=
    Spec.appliesLoose_calling (g := g) h hdg hn hkY hinitY
      (X.room_calling (g := g) (R' := (headSpec ws rm).room) hsize hmY hcY hframes (by rw [hlY]; omega) h4 h5) h1
  obtain ⟨mid, hmid⟩ := h.above
  have hfr : (U.setTop g).frames = (.java g :: mid) ++ below := by rw [State.frames_setTop' g h.top, hmid]; rfl
  obtain ⟨o, s₂, hsteps, -, hend, hq⟩ := Steps.callFree hM p X.admits X.cas X.clock (acts := []) hfr happ hPc trivial
  have hq' : vx_Q Qc XC mc ms free a (U.calling g mk a) o s₂ := hq
  rw [State.frames_setTop' g h.top] at hend
  obtain ⟨g₀, hg0⟩ := Option.isSome_iff_exists.mp h.top
  obtain ⟨r, hr⟩ := State.topJava?_eq_some.mp hg0
  have hr' : (({ U with heap := s₂.heap, slotsUsed := s₂.slotsUsed } : State).setVm s₂.vm).frames = .java g₀ :: r := hr
  rcases hq' with ⟨hqc, L, hfe, hL⟩ | ⟨q, rfl, E, ce, L, hx, hce, hcv, hcl, hW₂, hsm, hL⟩
  · obtain ⟨⟨v, rfl⟩, hW₂, e2, q2, q3, q4, q5, q6⟩ := id hfe
    have e3 : s₂ = ({ (U.calling g mk a).setFrames s₂.frames with heap := s₂.heap, slotsUsed := s₂.slotsUsed } : State).setVm s₂.vm := by
      have : s₂ = ({ s₂ with vm := (U.calling g mk a).vm } : State).setVm s₂.vm := rfl
      rw [e2] at this
      exact this
    obtain ⟨c₂, i₂, len₂, hc₂, hd₂, hf₂⟩ := hend
    have hW' : U.WarmedH s₂.vm := hW₂
    have hcc : c₂ = c := by
      have h1 : s₂.code? g.method = U.code? g.method := by
        rw [State.code?_eq, State.code?_eq, hW'.alike.method?]
      exact Option.some.inj (hc₂.symm.trans (h1.trans h.code))
    subst hcc
    have hlen : len₂ = len := by rw [hdg] at hd₂; cases hd₂; rfl
    subst hlen
    have hs₂ : s₂ = (({ U with heap := s₂.heap, slotsUsed := s₂.slotsUsed } : State).setVm s₂.vm).setTop { g with pc := g.pc + len₂, stack := v.toList ++ g.stack } := by
      refine e3.trans ?_
      rw [hf₂, State.calling_eq h.top, State.setFrames_setFrames, State.setTop_of_frames _ hr', hr]
      rfl
    have hsame : U.sameButNew ({ U with heap := s₂.heap, slotsUsed := s₂.slotsUsed } : State) L mc ms := by
      refine ⟨?_, q2, q3, q4, q5, q6⟩
      obtain ⟨t, ht, -⟩ := State.frames_cons hr
      show ({ U with heap := s₂.heap, slotsUsed := s₂.slotsUsed } : State) = { U.setFrames U.frames with heap := s₂.heap, slotsUsed := s₂.slotsUsed }
      rw [State.setFrames_self ht]
    subst hg
    refine Or.inl ⟨v, ⟨(({ U with heap := s₂.heap, slotsUsed := s₂.slotsUsed } : State).setVm s₂.vm), Ls ++ L, c0 + mc, s0 + ms⟩,
      ⟨X.admits, X.cas, X.clock, X.frames, X.room, X.hears, X.method, X.code, (X.here.setHeapUsed s₂.heap s₂.slotsUsed).setVm hW'.alike, X.tail, State.WarmedH.trans X.warmed hW', X.limits, X.bytes, X.same.trans (hsame.setVm s.vm)⟩,
      ⟨g, mk, s₂, L, rfl, rfl, hqc, rfl, hL, rfl, rfl⟩, ?_⟩
    show Steps p.tables e below _ ((({ U with heap := s₂.heap, slotsUsed := s₂.slotsUsed } : State).setVm s₂.vm).setTop { g with pc := g.pc + len₂, stack := v.toList ++ g.stack })
    rw [← hs₂]
    exact hsteps
  · obtain ⟨e2, q2, q3, q4, q5, q6⟩ := id hsm
    have e3 : s₂ = ({ (U.calling g mk a).setFrames s₂.frames with heap := s₂.heap, slotsUsed := s₂.slotsUsed } : State).setVm s₂.vm := by
      have : s₂ = ({ s₂ with vm := (U.calling g mk a).vm } : State).setVm s₂.vm := rfl
      rw [e2] at this
      exact this
    have hf₂ : s₂.frames = .throwing q :: .java g :: U.frames.tail := hend
    have hW' : U.WarmedH s₂.vm := hW₂
    have hs₂ : s₂ = ((({ U with heap := s₂.heap, slotsUsed := s₂.slotsUsed } : State).setVm s₂.vm).setTop g).pushFrame (.throwing q) := by
      refine e3.trans ?_
      rw [hf₂, State.calling_eq h.top, State.setFrames_setFrames, State.pushFrame, State.frames_setTop _ hr', State.setTop_of_frames _ hr', State.setFrames_setFrames, hr]
      rfl
    have hsame : U.sameButNew ({ U with heap := s₂.heap, slotsUsed := s₂.slotsUsed } : State) L mc ms := by
      refine ⟨?_, q2, q3, q4, q5, q6⟩
      obtain ⟨t, ht, -⟩ := State.frames_cons hr
      show ({ U with heap := s₂.heap, slotsUsed := s₂.slotsUsed } : State) = { U.setFrames U.frames with heap := s₂.heap, slotsUsed := s₂.slotsUsed }
      rw [State.setFrames_self ht]
    subst hg
    refine Or.inr ⟨q, ⟨(({ U with heap := s₂.heap, slotsUsed := s₂.slotsUsed } : State).setVm s₂.vm), Ls ++ L, c0 + mc, s0 + ms⟩,
      ⟨X.admits, X.cas, X.clock, X.frames, X.room, X.hears, X.method, X.code, (X.here.setHeapUsed s₂.heap s₂.slotsUsed).setVm hW'.alike, X.tail, State.WarmedH.trans X.warmed hW', X.limits, X.bytes, X.same.trans (hsame.setVm s.vm)⟩,
      ⟨g, mk, s₂, L, E, ce, rfl, rfl, hx, hce, hcv, hcl, rfl, hL, rfl, rfl⟩, ?_⟩
    show Steps p.tables e below _ (((({ U with heap := s₂.heap, slotsUsed := s₂.slotsUsed } : State).setVm s₂.vm).setTop g).pushFrame (.throwing q))
    rw [← hs₂]
    exact hsteps
end Payer
section Calls
variable {p : Program} {l : Launch} {e : Env} {R : Room} {s : State} {m : MethodId} {args : Array Value} {below : List Frame} {meth : Method} {c : Code} {T : State} {locs : List Loc} {cells slots : Nat}
theorem vx_callV (X : Stand p l e R s m args below meth c T locs cells slots) (hexec : p.tables.exec = Jvm.exec) {own C : String} {index : Nat} {y : MethodName} {bytes : ByteArray} {maxL : Nat} {ret : Option FieldType}
    (hown : s.vm.findClass own = some m.cls) (hlink : (Cond.methodLink own index y).before args s = true) (hinst : (Cond.instanceMethod y).before args s = true) (hsel : (Cond.selects C y y).before args s = true)
    (hcode : (Cond.code y bytes maxL ret).before args s = true) (hy : y.cls ≠ "java/lang/invoke/MethodHandle" ∧ y.cls ≠ "java/lang/invoke/VarHandle")
    {W9 : Nat} {Pre : Pt → Array Value → Prop} {Post : Pt → Array Value → Option Value → Pt → Prop} {PostX : Pt → Array Value → Addr → Pt → Prop} (hK : vx_Back l R p e below s args y 3 W9 Pre Post PostX)
    {b : Addr} {cellB : Cell} (hcell : T.heap[b]? = some cellB) (hobj : cellB.vm.isStatics = false) (hcls : s.vm.findClass C = some cellB.cls)
    {g : JFrame} (hg : g.method = m) (hsize : g.locals.size = c.maxLocals) {argsL rest : List Value} (hlen : ∀ sig, parseMethodDescriptor y.desc = some sig → argsL.length = sig.parameters.length)
    (hstack : g.stack = argsL.reverse ++ .ref b :: rest) (hW : 2 * g.monitorRoom + (rest.map fun v => v.category).sum ≤ W9) (hdg : decode c.code g.pc = .ok (.invokevirtual index, 3))
    (hpre : ∀ vm₁, s.WarmedH vm₁ → Pre ⟨T.setVm vm₁, locs, cells, slots⟩ (Value.ref b :: argsL).toArray) :
    (∃ (v : Option Value) (vm₁ : Vm) (B : Pt), s.WarmedH vm₁ ∧ Stand p l e R s m args below meth c B.U B.locs B.cells B.slots ∧ Post ⟨T.setVm vm₁, locs, cells, slots⟩ (Value.ref b :: argsL).toArray v B ∧
      ∀ target, Steps p.tables e below (B.U.setTop { g with pc := g.pc + 3, stack := v.toList ++ rest }) target → Steps p.tables e below (T.setTop g) target) ∨
    (∃ (q : Addr) (vm₁ : Vm) (B : Pt), s.WarmedH vm₁ ∧ Stand p l e R s m args below meth c B.U B.locs B.cells B.slots ∧ PostX ⟨T.setVm vm₁, locs, cells, slots⟩ (Value.ref b :: argsL).toArray q B ∧
      Steps p.tables e below (T.setTop g) ((B.U.setTop { g with stack := rest }).pushFrame (.throwing q))) := by
  obtain ⟨mk, methM, hnamed, hmethM, hstM, habM⟩ := Cond.instanceMethod_spec hinst
  obtain ⟨methM', cM, hmethM', -, -, -, -, -, -, hsigM⟩ := Cond.code_spec hnamed hcode
  cases hmethM.symm.trans hmethM'
  obtain ⟨c2, r2, m2, q1, q2, q3, q4, kP, hkP, hkPi⟩ := Cond.selects_spec hsel
  cases hcls.symm.trans q1
  cases (State.methodFound?_of_named hnamed hy).symm.trans q2
  cases hnamed.symm.trans q3
  have hselP : selectMethod e.platform s.vm cellB.cls mk = .method mk := by rw [Launch.admits_selectMethod X.admits]; exact q4
  obtain ⟨vm₁, X₁, hstep₁⟩ := X.invokevirtual hexec hown hlink hnamed hmethM hstM hkP hkPi hy (a := b) (cell := cellB) hcell
    (fun z h => by rw [h] at hobj; cases hobj) hselP hmethM habM hkP hkPi (g := g) hg (argsL := argsL) (rest := rest) (hlen _ hsigM) hstack hdg
  rcases hK m meth c ⟨T.setVm vm₁, locs, cells, slots⟩ { g with stack := rest } (.invokevirtual index) mk (Value.ref b :: argsL).toArray X₁ hg hsize hdg hW (X₁.named hnamed) (hpre vm₁ X₁.warmed) with ⟨v, B, X', hpost, hsteps⟩ | ⟨q, B, X', hpost, hsteps⟩
  · exact Or.inl ⟨v, vm₁, B, X₁.warmed, X', hpost, fun target h => hstep₁ _ fun acts => by rw [doInvoke_state]; exact hsteps.trans h⟩
  · exact Or.inr ⟨q, vm₁, B, X₁.warmed, X', hpost, hstep₁ _ fun acts => by rw [doInvoke_state]; exact hsteps⟩
theorem vx_callS (X : Stand p l e R s m args below meth c T locs cells slots) (hexec : p.tables.exec = Jvm.exec) {own : String} {index : Nat} {y : MethodName} {bytes : ByteArray} {maxL : Nat} {ret : Option FieldType}
    (hown : s.vm.findClass own = some m.cls) (hlink : (Cond.methodLink own index y).before args s = true) (hstat : (Cond.static y).before args s = true) (hinit : (Cond.initialized y.cls).before args s = true)
    (hcode : (Cond.code y bytes maxL ret).before args s = true) (hy : y.cls ≠ "java/lang/invoke/MethodHandle" ∧ y.cls ≠ "java/lang/invoke/VarHandle")
    {W9 : Nat} {Pre : Pt → Array Value → Prop} {Post : Pt → Array Value → Option Value → Pt → Prop} {PostX : Pt → Array Value → Addr → Pt → Prop} (hK : vx_Back l R p e below s args y 3 W9 Pre Post PostX)
    {g : JFrame} (hg : g.method = m) (hsize : g.locals.size = c.maxLocals) {argsL rest : List Value} (hlen : ∀ sig, parseMethodDescriptor y.desc = some sig → argsL.length = sig.parameters.length)
    (hstack : g.stack = argsL.reverse ++ rest) (hW : 2 * g.monitorRoom + (rest.map fun v => v.category).sum ≤ W9) (hdg : decode c.code g.pc = .ok (.invokestatic index, 3))
    (hpre : ∀ vm₁, s.WarmedH vm₁ → Pre ⟨T.setVm vm₁, locs, cells, slots⟩ argsL.toArray) :
    (∃ (v : Option Value) (vm₁ : Vm) (B : Pt), s.WarmedH vm₁ ∧ Stand p l e R s m args below meth c B.U B.locs B.cells B.slots ∧ Post ⟨T.setVm vm₁, locs, cells, slots⟩ argsL.toArray v B ∧
      ∀ target, Steps p.tables e below (B.U.setTop { g with pc := g.pc + 3, stack := v.toList ++ rest }) target → Steps p.tables e below (T.setTop g) target) ∨
    (∃ (q : Addr) (vm₁ : Vm) (B : Pt), s.WarmedH vm₁ ∧ Stand p l e R s m args below meth c B.U B.locs B.cells B.slots ∧ PostX ⟨T.setVm vm₁, locs, cells, slots⟩ argsL.toArray q B ∧
      Steps p.tables e below (T.setTop g) ((B.U.setTop { g with stack := rest }).pushFrame (.throwing q))) := by
  obtain ⟨mk, hnamed⟩ := Cond.code_named hcode
  obtain ⟨methM, cM, hmethM, -, -, -, -, -, -, hsigM⟩ := Cond.code_spec hnamed hcode
  have hstatic : methM.isStatic = true := Cond.static_spec hnamed hmethM hstat
  obtain ⟨kP, hkP, -⟩ := className_of_methodNamed hnamed
  have hinitP : kP.init = .initialized := Cond.initialized_spec (findClass_of_methodNamed hnamed) hkP hinit
  obtain ⟨vm₁, X₁, hstep₁⟩ := X.invokestatic hexec hown hlink hnamed hmethM hstatic hkP hinitP hy (g := g) hg (argsL := argsL) (rest := rest) (hlen _ hsigM) hstack hdg
  rcases hK m meth c ⟨T.setVm vm₁, locs, cells, slots⟩ { g with stack := rest } (.invokestatic index) mk argsL.toArray X₁ hg hsize hdg hW (X₁.named hnamed) (hpre vm₁ X₁.warmed) with ⟨v, B, X', hpost, hsteps⟩ | ⟨q, B, X', hpost, hsteps⟩
  · exact Or.inl ⟨v, vm₁, B, X₁.warmed, X', hpost, fun target h => hstep₁ _ fun acts => by rw [doInvoke_state]; exact hsteps.trans h⟩
  · exact Or.inr ⟨q, vm₁, B, X₁.warmed, X', hpost, hstep₁ _ fun acts => by rw [doInvoke_state]; exact hsteps⟩
end Calls
theorem vx_cls {s : State} {T : State} {vm₁ : Vm} {E : String} {k : ClassId} (hW : s.WarmedH vm₁) (h : (T.setVm vm₁).vm.findClass E = some k) : s.vm.findClass E = some k := by
  have h1 : vm₁.findClass E = some k := h
  rw [hW.alike.findClass] at h1
  exact h1
/-- the method's frame g, with q thrown over it -/
def vx_W (p : Program) (l : Launch) (e : Env) (R : Room) (s : State) (m : MethodId) (args : Array Value) (below : List Frame) (meth : Method) (c : Code) (H : Heap) (locs : List Loc) (cells slots : Nat) (Q : State → Prop) (g : JFrame) (q : Addr) : Prop :=
  ∀ T : State, T.heap = H → Stand p l e R s m args below meth c T locs cells slots → ∃ t, Steps p.tables e below ((T.setTop g).pushFrame (.throwing q)) t ∧ Q t
def vx_Run (p : Program) (l : Launch) (e : Env) (R : Room) (s : State) (m : MethodId) (args : Array Value) (below : List Frame) (meth : Method) (c : Code) (H : Heap) (locs : List Loc) (cells slots mc ms : Nat) (g : JFrame) (rest : List Value) (Qa : State → Outcome → State → Prop) (XC : String → State → State → Prop) (free : Addr → Prop) : Prop :=
  ∀ T : State, T.heap = H → Stand p l e R s m args below meth c T locs cells slots →
    (∃ (v : Option Value) (st₀ t T' : State) (L : List Loc), st₀.heap = H ∧ Stand p l e R s m args below meth c T' (locs ++ L) (cells + mc) (slots + ms) ∧ (∀ q ∈ L, free q.base) ∧ T'.heap = t.heap ∧ T'.vm = t.vm ∧ Qa st₀ (.returned v) t ∧
      Goes p e below T g T' { g with pc := g.pc + 3, stack := v.toList ++ rest }) ∨
    (∃ (q : Addr) (st₀ t T' : State) (L : List Loc) (E : String) (ce : Cell), st₀.heap = H ∧ Stand p l e R s m args below meth c T' (locs ++ L) (cells + mc) (slots + ms) ∧ (∀ z ∈ L, free z.base) ∧ T'.heap = t.heap ∧ T'.vm = t.vm ∧ XC E st₀ t ∧ t.heap[q]? = some ce ∧ ce.vm = .none ∧ s.vm.findClass E = some ce.cls ∧
      Steps p.tables e below (T.setTop g) ((T'.setTop { g with stack := rest }).pushFrame (.throwing q)))
def vx_X {S : Type} (px : S → Prop) (B : String → S → State → Prop) (A : Nat → Prop) : String → State → State → Prop := fun E st t => ∃ u : S, px u ∧ B E u t ∧ va_F A st t
section Runs
variable {p : Program} {l : Launch} {e : Env} {R : Room} {s : State} {m : MethodId} {args : Array Value} {below : List Frame} {meth : Method} {c : Code} {H : Heap} {locs : List Loc} {cells slots : Nat}
variable {y : MethodName} {bytes cc : ByteArray} {maxL nL mc ms n index : Nat} {ret : Option FieldType} {ws : List Cond} {rm : Room} {Pc : Array Value → State → Prop} {Qc : Array Value → State → Outcome → State → Prop} {XC : String → State → State → Prop} {free : Addr → Prop} {Ts : List Cond} {own C : String} {b : Addr} {As rest : List Value} {g : JFrame}
theorem vx_callBack (cb : CallB R s args own index y bytes maxL ret ws rm mc ms n) (hM : vx_Met l y ws rm Pc Qc XC mc ms free) (hbl : FrameBlind Pc) : vx_Back l R p e below s args y 3 8 (PreOf R mc ms Pc) (PostOf Qc mc ms free) (vx_Post XC mc ms free) := by
  obtain ⟨hrc, hrs, hfr, hlo, hws, hcw, -, hini, -⟩ := cb
  exact vx_back (bytes := bytes) (maxL := maxL) (ret := ret) hM hbl hrc hrs hfr hlo hws hcw (fun a' U hW => word_at hW (Or.inl (by first | rfl | simp [Cond.onTables, Cond.keeps, Cond.steady])) hini)
theorem vx_runV (S : CallFix p m c cc nL s args Ts own) (hM : vx_Met l y ws rm Pc Qc XC mc ms free) (cw : CallW R s args own C index y bytes maxL ret ws rm mc ms n) (hp : PreV s H C b Pc As)
    (hg : g.method = m) (hn : As.length = n) (hsize : g.locals.size = nL) (hstack : g.stack = As.reverse ++ .ref b :: rest) (hW : 2 * g.monitorRoom + (rest.map fun v => v.category).sum ≤ 8) (hdg : decode cc g.pc = .ok (.invokevirtual index, 3)) (hf : cells + mc ≤ R.cells ∧ slots + ms ≤ R.slots) :
    vx_Run p l e R s m args below meth c H locs cells slots mc ms g rest (Qc (Value.ref b :: As).toArray) XC free := by
  have hK : vx_Back l R p e below s args y 3 8 (PreOf R mc ms Pc) (PostOf Qc mc ms free) (vx_Post XC mc ms free) := vx_callBack cw.1 hM hp.1
  obtain ⟨⟨-, -, -, -, -, -, hcode, -, hy, hlen, hl⟩, hin, hse⟩ := cw
  obtain ⟨hx, hb, hml, ho, -⟩ := S
  obtain ⟨-, ⟨cellB, hcB, hoB, hclB⟩, hPc⟩ := hp
  intro T hT X
  rcases vx_callV X hx (C := C) (bytes := bytes) (maxL := maxL) (ret := ret) ho hl hin hse hcode hy hK (by rw [hT]; exact hcB) hoB hclB hg (hsize.trans hml.symm) (argsL := As) (rest := rest) (fun sig h => hn.trans (hlen sig h)) hstack hW (by rw [hb]; exact hdg)
    (fun vm₁ hW₁ => ⟨hf.1, hf.2, hPc (T.setVm vm₁) hT hW₁⟩) with ⟨v, vm₁, ⟨U', l2, c2, s2⟩, hW₁, X', ⟨g', mk, t, L, e1, e2, hq, h1, hL, h2, h3⟩, st⟩ | ⟨q, vm₁, ⟨U', l2, c2, s2⟩, hW₁, X', ⟨g', mk, t, L, E, ce, e1, e2, hq, hce, hcv, hcl, h1, hL, h2, h3⟩, st⟩
  · dsimp only [Pt.U, Pt.locs, Pt.cells, Pt.slots] at X' e1 e2 h1 h2 h3 st
    subst h1; subst h2; subst h3
    exact Or.inl ⟨v, (T.setVm vm₁).calling g' mk (Value.ref b :: As).toArray, t, U', L, hT, X', hL, e1, e2, hq, st⟩
  · dsimp only [Pt.U, Pt.locs, Pt.cells, Pt.slots] at X' e1 e2 h1 h2 h3 st hcl
    subst h1; subst h2; subst h3
    exact Or.inr ⟨q, (T.setVm vm₁).calling g' mk (Value.ref b :: As).toArray, t, U', L, E, ce, hT, X', hL, e1, e2, hq, hce, hcv, vx_cls hW₁ hcl, st⟩
theorem vx_runS (S : CallFix p m c cc nL s args Ts own) (hM : vx_Met l y ws rm Pc Qc XC mc ms free) (cw : CallB R s args own index y bytes maxL ret ws rm mc ms n ∧ (Cond.static y).before args s = true) (hp : PreS s H Pc As)
    (hg : g.method = m) (hn : As.length = n) (hsize : g.locals.size = nL) (hstack : g.stack = As.reverse ++ rest) (hW : 2 * g.monitorRoom + (rest.map fun v => v.category).sum ≤ 8) (hdg : decode cc g.pc = .ok (.invokestatic index, 3)) (hf : cells + mc ≤ R.cells ∧ slots + ms ≤ R.slots) :
    vx_Run p l e R s m args below meth c H locs cells slots mc ms g rest (Qc As.toArray) XC free := by
  have hK : vx_Back l R p e below s args y 3 8 (PreOf R mc ms Pc) (PostOf Qc mc ms free) (vx_Post XC mc ms free) := vx_callBack cw.1 hM hp.1
  obtain ⟨⟨-, -, -, -, -, -, hcode, hini, hy, hlen, hl⟩, hstt⟩ := cw
  obtain ⟨hx, hb, hml, ho, -⟩ := S
  intro T hT X
  rcases vx_callS X hx (bytes := bytes) (maxL := maxL) (ret := ret) ho hl hstt hini hcode hy hK hg (hsize.trans hml.symm) (argsL := As) (rest := rest) (fun sig h => hn.trans (hlen sig h)) hstack hW (by rw [hb]; exact hdg)
    (fun vm₁ hW₁ => ⟨hf.1, hf.2, hp.2 (T.setVm vm₁) hT hW₁⟩) with ⟨v, vm₁, ⟨U', l2, c2, s2⟩, hW₁, X', ⟨g', mk, t, L, e1, e2, hq, h1, hL, h2, h3⟩, st⟩ | ⟨q, vm₁, ⟨U', l2, c2, s2⟩, hW₁, X', ⟨g', mk, t, L, E, ce, e1, e2, hq, hce, hcv, hcl, h1, hL, h2, h3⟩, st⟩
  · dsimp only [Pt.U, Pt.locs, Pt.cells, Pt.slots] at X' e1 e2 h1 h2 h3 st
    subst h1; subst h2; subst h3
    exact Or.inl ⟨v, (T.setVm vm₁).calling g' mk As.toArray, t, U', L, hT, X', hL, e1, e2, hq, st⟩
  · dsimp only [Pt.U, Pt.locs, Pt.cells, Pt.slots] at X' e1 e2 h1 h2 h3 st hcl
    subst h1; subst h2; subst h3
    exact Or.inr ⟨q, (T.setVm vm₁).calling g' mk As.toArray, t, U', L, E, ce, hT, X', hL, e1, e2, hq, hce, hcv, vx_cls hW₁ hcl, st⟩
end Runs
section Rows
variable {p : Program} {l : Launch} {e : Env} {R : Room} {s : State} {m : MethodId} {args : Array Value} {below : List Frame} {meth : Method} {c : Code} {H : Heap} {locs : List Loc} {cells slots : Nat} {Q : State → Prop}
variable {mc ms : Nat} {free : Addr → Prop} {A0 A1 : Nat → Prop} {H0 : Heap} {a : Array Value} {pc : Nat} {ls : Array Slot} {st0 rest : List Value}
theorem vx_keep {st₀ t T' : State} {L : List Loc} (h0 : st₀.heap = H) (e1 : T'.heap = t.heap) (hS : va_S A0 H0 H locs) (hA : ∀ q, q < H.size → A1 q → A0 q) (hf : ∀ q, free q → A0 q) (hL : ∀ q ∈ L, free q.base) (hF : va_F A1 st₀ t) :
    H.size ≤ T'.heap.size ∧ (∀ q : Nat, q < H.size → ¬ A1 q → T'.heap[q]? = H[q]?) ∧ va_S A0 H0 T'.heap (locs ++ L) := by
  obtain ⟨hz, hk⟩ := hF
  rw [h0] at hz hk
  exact ⟨by rw [e1]; exact hz, fun q h1 h2 => by rw [e1]; exact hk q h1 h2,
    ⟨Nat.le_trans hS.1 (by rw [e1]; exact hz), fun q h1 h2 => by rw [e1, hk q (Nat.lt_of_lt_of_le h1 hS.1) (fun z => h2 (hA q (Nat.lt_of_lt_of_le h1 hS.1) z))]; exact hS.2.1 q h1 h2, fun q hq => by
      rcases List.mem_append.mp hq with h | h
      · exact hS.2.2 q h
      · exact hf _ (hL q h)⟩⟩
theorem vx_calli {S SX : Type} {post : Int32 → S → Prop} {px : SX → Prop} {B : S → State → Prop} {BX : String → SX → State → Prop} {AX : Nat → Prop} (hr : vx_Run p l e R s m args below meth c H locs cells slots mc ms (F0 m pc ls st0) rest (va_Qi post B A1 a) (vx_X px BX AX) free) (hS : va_S A0 H0 H locs) (hA : ∀ q, q < H.size → A1 q → A0 q) (hf : ∀ q, free q → A0 q) (hAX : ∀ q, q < H.size → AX q → A0 q)
    (kx : ∀ (E : String) (ce : Cell) (q9 : Addr) (u : SX) (t : State) (H1 : Heap) (locs1 : List Loc), t.heap = H1 → s.vm.Alike t.vm → px u → BX E u t → H.size ≤ H1.size → (∀ q : Nat, q < H.size → ¬ AX q → H1[q]? = H[q]?) → va_S A0 H0 H1 locs1 → H1[q9]? = some ce → ce.vm = .none → s.vm.findClass E = some ce.cls → vx_W p l e R s m args below meth c H1 locs1 (cells + mc) (slots + ms) Q (F0 m pc ls rest) q9)
    (kk : ∀ (r : Int32) (u : S) (t : State) (H1 : Heap) (locs1 : List Loc), t.heap = H1 → s.vm.Alike t.vm → post r u → B u t → H.size ≤ H1.size → (∀ q : Nat, q < H.size → ¬ A1 q → H1[q]? = H[q]?) → va_S A0 H0 H1 locs1 → W p l e R s m args below meth c H1 locs1 (cells + mc) (slots + ms) Q (F0 m (pc + 3) ls (.int r :: rest))) : W p l e R s m args below meth c H locs cells slots Q (F0 m pc ls st0) := by
  intro T hT X
  rcases hr T hT X with ⟨v, st₀, t, T', L, h0, X', hL, e1, e2, ⟨⟨r, u, hv, hp, hb⟩, hF⟩, st⟩ | ⟨q, st₀, t, T', L, E, ce, h0, X', hL, e1, e2, ⟨u, hp, hb, hF⟩, hce, hcv, hcl, st⟩
  · cases hv
    obtain ⟨k1, k2, k3⟩ := vx_keep h0 e1 hS hA hf hL hF
    obtain ⟨t2, a1, b1⟩ := kk r u t T'.heap (locs ++ L) e1.symm (by rw [← e2]; exact X'.warmed.alike) hp hb k1 k2 k3 T' rfl X'
    exact ⟨t2, st t2 a1, b1⟩
  · obtain ⟨k1, k2, k3⟩ := vx_keep h0 e1 hS hAX hf hL hF
    obtain ⟨t2, a1, b1⟩ := kx E ce q u t T'.heap (locs ++ L) e1.symm (by rw [← e2]; exact X'.warmed.alike) hp hb k1 k2 k3 (by rw [e1]; exact hce) hcv hcl T' rfl X'
    exact ⟨t2, st.trans a1, b1⟩
theorem vx_calll {S SX : Type} {post : Int64 → S → Prop} {px : SX → Prop} {B : S → State → Prop} {BX : String → SX → State → Prop} {AX : Nat → Prop} (hr : vx_Run p l e R s m args below meth c H locs cells slots mc ms (F0 m pc ls st0) rest (va_Ql post B A1 a) (vx_X px BX AX) free) (hS : va_S A0 H0 H locs) (hA : ∀ q, q < H.size → A1 q → A0 q) (hf : ∀ q, free q → A0 q) (hAX : ∀ q, q < H.size → AX q → A0 q)
    (kx : ∀ (E : String) (ce : Cell) (q9 : Addr) (u : SX) (t : State) (H1 : Heap) (locs1 : List Loc), t.heap = H1 → s.vm.Alike t.vm → px u → BX E u t → H.size ≤ H1.size → (∀ q : Nat, q < H.size → ¬ AX q → H1[q]? = H[q]?) → va_S A0 H0 H1 locs1 → H1[q9]? = some ce → ce.vm = .none → s.vm.findClass E = some ce.cls → vx_W p l e R s m args below meth c H1 locs1 (cells + mc) (slots + ms) Q (F0 m pc ls rest) q9)
    (kk : ∀ (r : Int64) (u : S) (t : State) (H1 : Heap) (locs1 : List Loc), t.heap = H1 → s.vm.Alike t.vm → post r u → B u t → H.size ≤ H1.size → (∀ q : Nat, q < H.size → ¬ A1 q → H1[q]? = H[q]?) → va_S A0 H0 H1 locs1 → W p l e R s m args below meth c H1 locs1 (cells + mc) (slots + ms) Q (F0 m (pc + 3) ls (.long r :: rest))) : W p l e R s m args below meth c H locs cells slots Q (F0 m pc ls st0) := by
  intro T hT X
  rcases hr T hT X with ⟨v, st₀, t, T', L, h0, X', hL, e1, e2, ⟨⟨r, u, hv, hp, hb⟩, hF⟩, st⟩ | ⟨q, st₀, t, T', L, E, ce, h0, X', hL, e1, e2, ⟨u, hp, hb, hF⟩, hce, hcv, hcl, st⟩
  · cases hv
    obtain ⟨k1, k2, k3⟩ := vx_keep h0 e1 hS hA hf hL hF
    obtain ⟨t2, a1, b1⟩ := kk r u t T'.heap (locs ++ L) e1.symm (by rw [← e2]; exact X'.warmed.alike) hp hb k1 k2 k3 T' rfl X'
    exact ⟨t2, st t2 a1, b1⟩
  · obtain ⟨k1, k2, k3⟩ := vx_keep h0 e1 hS hAX hf hL hF
    obtain ⟨t2, a1, b1⟩ := kx E ce q u t T'.heap (locs ++ L) e1.symm (by rw [← e2]; exact X'.warmed.alike) hp hb k1 k2 k3 (by rw [e1]; exact hce) hcv hcl T' rfl X'
    exact ⟨t2, st.trans a1, b1⟩
theorem vx_callf {S SX : Type} {post : UInt32 → S → Prop} {px : SX → Prop} {B : S → State → Prop} {BX : String → SX → State → Prop} {AX : Nat → Prop} (hr : vx_Run p l e R s m args below meth c H locs cells slots mc ms (F0 m pc ls st0) rest (va_Qf post B A1 a) (vx_X px BX AX) free) (hS : va_S A0 H0 H locs) (hA : ∀ q, q < H.size → A1 q → A0 q) (hf : ∀ q, free q → A0 q) (hAX : ∀ q, q < H.size → AX q → A0 q)
    (kx : ∀ (E : String) (ce : Cell) (q9 : Addr) (u : SX) (t : State) (H1 : Heap) (locs1 : List Loc), t.heap = H1 → s.vm.Alike t.vm → px u → BX E u t → H.size ≤ H1.size → (∀ q : Nat, q < H.size → ¬ AX q → H1[q]? = H[q]?) → va_S A0 H0 H1 locs1 → H1[q9]? = some ce → ce.vm = .none → s.vm.findClass E = some ce.cls → vx_W p l e R s m args below meth c H1 locs1 (cells + mc) (slots + ms) Q (F0 m pc ls rest) q9)
    (kk : ∀ (r : UInt32) (u : S) (t : State) (H1 : Heap) (locs1 : List Loc), t.heap = H1 → s.vm.Alike t.vm → post r u → B u t → H.size ≤ H1.size → (∀ q : Nat, q < H.size → ¬ A1 q → H1[q]? = H[q]?) → va_S A0 H0 H1 locs1 → W p l e R s m args below meth c H1 locs1 (cells + mc) (slots + ms) Q (F0 m (pc + 3) ls (.float r :: rest))) : W p l e R s m args below meth c H locs cells slots Q (F0 m pc ls st0) := by
  intro T hT X
  rcases hr T hT X with ⟨v, st₀, t, T', L, h0, X', hL, e1, e2, ⟨⟨r, u, hv, hp, hb⟩, hF⟩, st⟩ | ⟨q, st₀, t, T', L, E, ce, h0, X', hL, e1, e2, ⟨u, hp, hb, hF⟩, hce, hcv, hcl, st⟩
  · cases hv
    obtain ⟨k1, k2, k3⟩ := vx_keep h0 e1 hS hA hf hL hF
    obtain ⟨t2, a1, b1⟩ := kk r u t T'.heap (locs ++ L) e1.symm (by rw [← e2]; exact X'.warmed.alike) hp hb k1 k2 k3 T' rfl X'
    exact ⟨t2, st t2 a1, b1⟩
  · obtain ⟨k1, k2, k3⟩ := vx_keep h0 e1 hS hAX hf hL hF
    obtain ⟨t2, a1, b1⟩ := kx E ce q u t T'.heap (locs ++ L) e1.symm (by rw [← e2]; exact X'.warmed.alike) hp hb k1 k2 k3 (by rw [e1]; exact hce) hcv hcl T' rfl X'
    exact ⟨t2, st.trans a1, b1⟩
theorem vx_calld {S SX : Type} {post : UInt64 → S → Prop} {px : SX → Prop} {B : S → State → Prop} {BX : String → SX → State → Prop} {AX : Nat → Prop} (hr : vx_Run p l e R s m args below meth c H locs cells slots mc ms (F0 m pc ls st0) rest (va_Qd post B A1 a) (vx_X px BX AX) free) (hS : va_S A0 H0 H locs) (hA : ∀ q, q < H.size → A1 q → A0 q) (hf : ∀ q, free q → A0 q) (hAX : ∀ q, q < H.size → AX q → A0 q)
    (kx : ∀ (E : String) (ce : Cell) (q9 : Addr) (u : SX) (t : State) (H1 : Heap) (locs1 : List Loc), t.heap = H1 → s.vm.Alike t.vm → px u → BX E u t → H.size ≤ H1.size → (∀ q : Nat, q < H.size → ¬ AX q → H1[q]? = H[q]?) → va_S A0 H0 H1 locs1 → H1[q9]? = some ce → ce.vm = .none → s.vm.findClass E = some ce.cls → vx_W p l e R s m args below meth c H1 locs1 (cells + mc) (slots + ms) Q (F0 m pc ls rest) q9)
    (kk : ∀ (r : UInt64) (u : S) (t : State) (H1 : Heap) (locs1 : List Loc), t.heap = H1 → s.vm.Alike t.vm → post r u → B u t → H.size ≤ H1.size → (∀ q : Nat, q < H.size → ¬ A1 q → H1[q]? = H[q]?) → va_S A0 H0 H1 locs1 → W p l e R s m args below meth c H1 locs1 (cells + mc) (slots + ms) Q (F0 m (pc + 3) ls (.double r :: rest))) : W p l e R s m args below meth c H locs cells slots Q (F0 m pc ls st0) := by
  intro T hT X
  rcases hr T hT X with ⟨v, st₀, t, T', L, h0, X', hL, e1, e2, ⟨⟨r, u, hv, hp, hb⟩, hF⟩, st⟩ | ⟨q, st₀, t, T', L, E, ce, h0, X', hL, e1, e2, ⟨u, hp, hb, hF⟩, hce, hcv, hcl, st⟩
  · cases hv
    obtain ⟨k1, k2, k3⟩ := vx_keep h0 e1 hS hA hf hL hF
    obtain ⟨t2, a1, b1⟩ := kk r u t T'.heap (locs ++ L) e1.symm (by rw [← e2]; exact X'.warmed.alike) hp hb k1 k2 k3 T' rfl X'
    exact ⟨t2, st t2 a1, b1⟩
  · obtain ⟨k1, k2, k3⟩ := vx_keep h0 e1 hS hAX hf hL hF
    obtain ⟨t2, a1, b1⟩ := kx E ce q u t T'.heap (locs ++ L) e1.symm (by rw [← e2]; exact X'.warmed.alike) hp hb k1 k2 k3 (by rw [e1]; exact hce) hcv hcl T' rfl X'
    exact ⟨t2, st.trans a1, b1⟩
theorem vx_callv {S SX : Type} {post : S → Prop} {px : SX → Prop} {B : S → State → Prop} {BX : String → SX → State → Prop} {AX : Nat → Prop} (hr : vx_Run p l e R s m args below meth c H locs cells slots mc ms (F0 m pc ls st0) rest (va_Qv post B A1 a) (vx_X px BX AX) free) (hS : va_S A0 H0 H locs) (hA : ∀ q, q < H.size → A1 q → A0 q) (hf : ∀ q, free q → A0 q) (hAX : ∀ q, q < H.size → AX q → A0 q)
    (kx : ∀ (E : String) (ce : Cell) (q9 : Addr) (u : SX) (t : State) (H1 : Heap) (locs1 : List Loc), t.heap = H1 → s.vm.Alike t.vm → px u → BX E u t → H.size ≤ H1.size → (∀ q : Nat, q < H.size → ¬ AX q → H1[q]? = H[q]?) → va_S A0 H0 H1 locs1 → H1[q9]? = some ce → ce.vm = .none → s.vm.findClass E = some ce.cls → vx_W p l e R s m args below meth c H1 locs1 (cells + mc) (slots + ms) Q (F0 m pc ls rest) q9)
    (kk : ∀ (u : S) (t : State) (H1 : Heap) (locs1 : List Loc), t.heap = H1 → s.vm.Alike t.vm → post u → B u t → H.size ≤ H1.size → (∀ q : Nat, q < H.size → ¬ A1 q → H1[q]? = H[q]?) → va_S A0 H0 H1 locs1 → W p l e R s m args below meth c H1 locs1 (cells + mc) (slots + ms) Q (F0 m (pc + 3) ls (rest))) : W p l e R s m args below meth c H locs cells slots Q (F0 m pc ls st0) := by
  intro T hT X
  rcases hr T hT X with ⟨v, st₀, t, T', L, h0, X', hL, e1, e2, ⟨⟨u, hv, hp, hb⟩, hF⟩, st⟩ | ⟨q, st₀, t, T', L, E, ce, h0, X', hL, e1, e2, ⟨u, hp, hb, hF⟩, hce, hcv, hcl, st⟩
  · cases hv
    obtain ⟨k1, k2, k3⟩ := vx_keep h0 e1 hS hA hf hL hF
    obtain ⟨t2, a1, b1⟩ := kk u t T'.heap (locs ++ L) e1.symm (by rw [← e2]; exact X'.warmed.alike) hp hb k1 k2 k3 T' rfl X'
    exact ⟨t2, st t2 a1, b1⟩
  · obtain ⟨k1, k2, k3⟩ := vx_keep h0 e1 hS hAX hf hL hF
    obtain ⟨t2, a1, b1⟩ := kx E ce q u t T'.heap (locs ++ L) e1.symm (by rw [← e2]; exact X'.warmed.alike) hp hb k1 k2 k3 (by rw [e1]; exact hce) hcv hcl T' rfl X'
    exact ⟨t2, st.trans a1, b1⟩
/-- caught by the row x of this method's table; the rows ahead don't take it -/
theorem vx_catch {own name : String} {E : String} {ce : Cell} {q : Addr} (hown : s.vm.findClass own = some m.cls) (pre : List ExceptionTableEntry) (x : ExceptionTableEntry) (suf : List ExceptionTableEntry) (hsplit : c.exceptionTable.toList = pre ++ x :: suf)
    (hpass : ∀ z ∈ pre, covers z pc = false ∨ (z.catchType ≠ 0 ∧ ∃ nm : String, (Cond.classLink own z.catchType nm).before args s = true ∧ va_Nc E nm s)) (hx : covers x pc = true) (h0 : x.catchType ≠ 0)
    (hlink : (Cond.classLink own x.catchType name).before args s = true) (hcast : (Cond.castable E name).before args s = true) (hcell : H[q]? = some ce) (hv : ce.vm = .none) (hcl : s.vm.findClass E = some ce.cls)
    (kk : W p l e R s m args below meth c H locs cells slots Q (F0 m x.handlerPc ls [.ref q])) : vx_W p l e R s m args below meth c H locs cells slots Q (F0 m pc ls rest) q := by
  intro T hT X
  have hpl : e.platform.magicAccessors = ({} : Platform).magicAccessors := by rw [X.admits.platform]
  obtain ⟨c3, c4, hc3, hc4, hasg⟩ := Cond.castable_spec hcast
  cases Option.some.inj (hc3.symm.trans hcl)
  obtain ⟨c5, hc5, hcl5⟩ := Cond.classLink_spec hown hlink e.platform hpl
  cases Option.some.inj (hc4.symm.trans hc5)
  obtain ⟨vm', X', st⟩ := X.thenCaughtThrough q (g := F0 m pc ls rest) rfl (Steps.refl _) (by rw [hT]; exact hcell) (by rw [hv]; rfl) (by obtain ⟨k9, h9, -⟩ := Vm.findClass_spec hcl; exact ⟨k9, h9⟩) pre x suf hsplit
    (fun z hz => by
      rcases hpass z hz with h | ⟨hz0, nm, hl1, hn1⟩
      · exact Or.inl h
      · obtain ⟨c6, hc6, hcl6⟩ := Cond.classLink_spec hown hl1 e.platform hpl
        obtain ⟨a8, b8, h1, h2, h3⟩ := hn1
        cases Option.some.inj (h1.symm.trans hcl)
        cases Option.some.inj (h2.symm.trans hc6)
        exact Or.inr ⟨hz0, _, hcl6, h3⟩) hx (Or.inr ⟨h0, c4, hcl5, hasg⟩)
  obtain ⟨t, a1, b1⟩ := kk (T.setVm vm') hT X'
  exact ⟨t, st.trans a1, b1⟩
end Rows
section Ends
variable {p : Program} {l : Launch} {e : Env} {R : Room} {s : State} {m : MethodId} {args : Array Value} {below : List Frame} {meth : Method} {c : Code} {H : Heap} {locs : List Loc} {cells slots : Nat} {Q : State → Prop}
variable {mc ms : Nat} {free : Addr → Prop} {A0 A1 : Nat → Prop} {H0 : Heap} {a : Array Value} {ls : Array Slot} {st0 rest : List Value}
variable {Qc : Array Value → State → Outcome → State → Prop} {XC : String → State → State → Prop}
/-- what a body that may throw owes at its end -/
def vx_MQ (below : List Frame) (Qc : Array Value → State → Outcome → State → Prop) (XC : String → State → State → Prop) (a : Array Value) (s : State) (mc ms : Nat) (free : Addr → Prop) : State → Prop := fun t =>
  ∃ o, t.status = .running ∧ Ended t below o ∧ vx_Q Qc XC mc ms free a s o t
theorem vx_ret {g : JFrame} {mc ms : Nat} (k : W p l e R s m args below meth c H locs cells slots (MQ below Qc args s mc ms free) g) : W p l e R s m args below meth c H locs cells slots (vx_MQ below Qc XC args s mc ms free) g := by
  intro T hT X
  obtain ⟨t, a1, o, b1, b2, b3, b4⟩ := k T hT X
  exact ⟨t, a1, o, b1, b2, Or.inl ⟨b3, b4⟩⟩
/-- not caught here: it goes on to the caller -/
theorem vx_widen {g : JFrame} {q : Addr} {k n : Nat} (h1 : cells ≤ k) (h2 : slots ≤ n) (kk : vx_W p l e R s m args below meth c H locs k n Q g q) : vx_W p l e R s m args below meth c H locs cells slots Q g q := fun T hT X => kk T hT (stand_widen X h1 h2)
theorem vx_out {pc : Nat} {E : String} {ce : Cell} {q : Addr} {mc ms : Nat} (hout : ∀ x ∈ c.exceptionTable.toList, covers x pc = false) (hlocks : meth.locks = false) (hcell : H[q]? = some ce) (hv : ce.vm = .none) (hcl : s.vm.findClass E = some ce.cls)
    (hx : ∀ t : State, t.heap = H → s.vm.Alike t.vm → XC E s t) (hf : ∀ z ∈ locs, free z.base) (hc : cells ≤ mc) (hs : slots ≤ ms) :
    vx_W p l e R s m args below meth c H locs cells slots (vx_MQ below Qc XC args s mc ms free) (F0 m pc ls rest) q := by
  intro T hT X
  obtain ⟨st1, hrun, hend, hW, hsm⟩ := X.leaveThrown q (g := F0 m pc ls rest) rfl rfl rfl hout hlocks
  have hcell9 : (T.setFrames (.throwing q :: below)).heap[q]? = some ce := by
    show T.heap[q]? = some ce
    rw [hT]; exact hcell
  exact ⟨_, st1, .threw q, hrun, hend, Or.inr ⟨q, rfl, E, ce, locs, hx _ hT hW.alike, hcell9, hv, hcl, hW, hsm.mono hc hs, hf⟩⟩
theorem vx_frame {U : State} {k n : Nat} (h : s.sameButNew ({ U with vm := s.vm } : State) locs k n) : s.heap.size ≤ U.heap.size ∧ ∀ q : Nat, q < s.heap.size → (∀ z ∈ locs, z.base ≠ q) → U.heap[q]? = s.heap[q]? := by
  obtain ⟨-, h2, -, -, -, h6⟩ := h
  refine ⟨h2, fun q hq hz => ?_⟩
  obtain ⟨c9, e1, e2, e3, e4⟩ := h6 q _ (Array.getElem?_eq_getElem hq)
  have hs : c9.slots = (s.heap[q]).slots := Array.ext_getElem? fun i => e4 i fun hm => hz _ hm rfl
  have h9 : c9 = s.heap[q] := by
    rw [hs] at e2
    exact e2
  have e5 : U.heap[q]? = some c9 := e1
  rw [e5, h9, Array.getElem?_eq_getElem hq]
/-- the words of a throw but the four that speak of the heap -/
def vx_no (w : Cond) : Bool := decide (w ≠ .isRef (.static Bundle.tN "UNASSIGNED_STACK" Bundle.steD)) && decide (w ≠ .isRef (.static Bundle.tN "SUPPRESSED_SENTINEL" Bundle.listD)) && decide (w ≠ .laysStatic Bundle.tN "UNASSIGNED_STACK" Bundle.steD) && decide (w ≠ .laysStatic Bundle.tN "SUPPRESSED_SENTINEL" Bundle.listD)
def vx_at0 (own : String) (ic : Nat) (X : String) (names : List String) : List Cond := (Bundle.ownAtoms0 own ic X names).filter vx_no
def vx_atS (own : String) (ic : Nat) (X : String) (names : List String) : List Cond := (Bundle.ownAtoms own ic X names).filter vx_no
/-- a word that the tables alone decide, or a good one -/
def vx_ot (w : Cond) : Bool := w.onTables || goodWord w
theorem vx_ot_at {args a' : Array Value} {s U : State} {w : Cond} (hW : s.WarmedH U.vm) (hvm : s.vm = U.vm) (hg : vx_ot w = true) (h : w.before args s = true) : w.before a' U = true := by
  simp only [vx_ot, Bool.or_eq_true] at hg
  rcases hg with hg | hg
  · exact va_tabs hg hvm h
  · exact word_at hW (good_of_word hg) h
/-- a list's words: the good ones out of the method's own list, the others by premises of their own -/
theorem vx_hat {args : Array Value} {s : State} {L B : List Cond} (h1 : ∀ w ∈ L.filter goodWord, w.before args s = true) (h2 : ∀ w ∈ L.filter (fun w => !goodWord w), w ∈ B) (h3 : ∀ w ∈ B, w.before args s = true) : ∀ w ∈ L, w.before args s = true := by
  intro w hw
  by_cases g : goodWord w = true
  · exact h1 w (List.mem_filter.mpr ⟨hw, g⟩)
  · refine h3 w (h2 w (List.mem_filter.mpr ⟨hw, ?_⟩))
    show (!goodWord w) = true
    cases hgw : goodWord w
    · rfl
    · exact absurd hgw g
theorem vx_c {args : Array Value} {s : State} {w : Cond} {B : List Cond} (h : w.before args s = true) (t : ∀ w ∈ B, w.before args s = true) : ∀ w' ∈ w :: B, w'.before args s = true := fun w' h' => (List.mem_cons.mp h').elim (fun e => by rw [e]; exact h) (t w')
theorem vx_n {args : Array Value} {s : State} : ∀ w ∈ ([] : List Cond), w.before args s = true := fun _ h => nomatch h
theorem vx_own {args : Array Value} {s : State} {L : List Cond} (h1 : ∀ w ∈ L.filter vx_no, w.before args s = true)
    (hU : (Cond.isRef (.static Bundle.tN "UNASSIGNED_STACK" Bundle.steD)).before args s = true) (hN : (Cond.isRef (.static Bundle.tN "SUPPRESSED_SENTINEL" Bundle.listD)).before args s = true)
    (lU : (Cond.laysStatic Bundle.tN "UNASSIGNED_STACK" Bundle.steD).before args s = true) (lN : (Cond.laysStatic Bundle.tN "SUPPRESSED_SENTINEL" Bundle.listD).before args s = true) : ∀ w ∈ L, w.before args s = true := by
  intro w hw
  by_cases e1 : w = .isRef (.static Bundle.tN "UNASSIGNED_STACK" Bundle.steD)
  · rw [e1]; exact hU
  · by_cases e2 : w = .isRef (.static Bundle.tN "SUPPRESSED_SENTINEL" Bundle.listD)
    · rw [e2]; exact hN
    · by_cases e3 : w = .laysStatic Bundle.tN "UNASSIGNED_STACK" Bundle.steD
      · rw [e3]; exact lU
      · by_cases e4 : w = .laysStatic Bundle.tN "SUPPRESSED_SENTINEL" Bundle.listD
        · rw [e4]; exact lN
        · exact h1 w (List.mem_filter.mpr ⟨hw, by unfold vx_no; rw [decide_eq_true e1, decide_eq_true e2, decide_eq_true e3, decide_eq_true e4]; rfl⟩)
/-- where a static field lies, its class's statics cell in H -/
def vx_L (C n d : String) (A : Nat → Prop) (U : State) (H : Heap) : Prop := ∃ (c : ClassId) (k : Class) (i : Nat) (f : Field) (a : Nat) (cell : Cell), U.vm.findClass C = some c ∧ U.fieldFound? C n d = some (c, k, i, f) ∧ f.isStatic = true ∧ k.statics = some a ∧ H[a]? = some cell ∧ cell.vm.isStatics = true ∧ cell.cls = c ∧ f.slot < cell.slots.size ∧ k.staticTypes[f.slot]? = some f.type ∧ ¬ A a
theorem vx_L.moved {C n d : String} {A : Nat → Prop} {u U : State} {H : Heap} (hvm : u.vm.Alike U.vm) (h : vx_L C n d A u H) : vx_L C n d A U H := by
  obtain ⟨c, k, i, f, a, cell, h1, h2, h3, h4, h5, h6, h7, h8, h9, h10⟩ := h
  obtain ⟨k', hi', he⟩ := State.fieldFound?_setVm hvm h2
  exact ⟨c, k', i, f, a, cell, by rw [hvm.findClass]; exact h1, hi', h3, by rw [he]; exact h4, h5, h6, h7, h8, by rw [he]; exact h9, h10⟩
theorem vx_L.kept {C n d : String} {A : Nat → Prop} {U : State} {H H1 : Heap} (h : vx_L C n d A U H) (hq : ∀ a : Nat, a < H.size → ¬ A a → H1[a]? = H[a]?) : vx_L C n d A U H1 := by
  obtain ⟨c, k, i, f, a, cell, h1, h2, h3, h4, h5, h6, h7, h8, h9, h10⟩ := h
  exact ⟨c, k, i, f, a, cell, h1, h2, h3, h4, by rw [hq a (Array.getElem?_eq_some_iff.mp h5).1 h10]; exact h5, h6, h7, h8, h9, h10⟩
theorem vx_L.narrow {C n d : String} {A B : Nat → Prop} {U : State} {H : Heap} (h : vx_L C n d A U H) (hAB : ∀ q, B q → A q) : vx_L C n d B U H := by
  obtain ⟨c, k, i, f, a, cell, h1, h2, h3, h4, h5, h6, h7, h8, h9, h10⟩ := h
  exact ⟨c, k, i, f, a, cell, h1, h2, h3, h4, h5, h6, h7, h8, h9, fun z => h10 (hAB _ z)⟩
theorem vx_L.word {C n d : String} {A : Nat → Prop} {s : State} {args : Array Value} (h : vx_L C n d A s s.heap) : (Cond.laysStatic C n d).before args s = true := by
  obtain ⟨c, k, i, f, a, cell, h1, h2, h3, h4, h5, h6, h7, h8, h9, -⟩ := h
  show (Cond.laysStatic C n d).holds args s none s [] = true
  exact Cond.laysStatic_of h1 h2 h3 h4 h5 h6 h7 h8 h9
/-- .. and what it holds: null or some reference -/
def vx_Zq (C n d : String) (A : Nat → Prop) (U : State) (H : Heap) : Prop := va_Zq C n d A U H ∧ vx_L C n d A U H
theorem vx_Zq.moved {C n d : String} {A : Nat → Prop} {u U : State} {H : Heap} (hvm : u.vm.Alike U.vm) (h : vx_Zq C n d A u H) : vx_Zq C n d A U H := ⟨va_Zq.moved hvm h.1, vx_L.moved hvm h.2⟩
theorem vx_Zq.kept {C n d : String} {A : Nat → Prop} {U : State} {H H1 : Heap} (h : vx_Zq C n d A U H) (hq : ∀ a : Nat, a < H.size → ¬ A a → H1[a]? = H[a]?) : vx_Zq C n d A U H1 := ⟨va_Zq.kept h.1 hq, vx_L.kept h.2 hq⟩
theorem vx_Zq.narrow {C n d : String} {A B : Nat → Prop} {U : State} {H : Heap} (h : vx_Zq C n d A U H) (hAB : ∀ q, B q → A q) : vx_Zq C n d B U H := ⟨va_Zq.narrow h.1 hAB, vx_L.narrow h.2 hAB⟩
theorem vx_Zqof {args : Array Value} {s : State} {C n d : String} {A : Nat → Prop} (hl : (Cond.laysStatic C n d).before args s = true) (hini : (Cond.initialized C).before args s = true) (h : (Cond.isRef (.static C n d)).before args s = true) (hA : ∀ a : Nat, a < s.heap.size → ¬ A a) : vx_Zq C n d A s s.heap := by
  refine ⟨va_Zqof hl hini h hA, ?_⟩
  obtain ⟨c, k, i, f, a, cell, h1, h2, h3, h4, h5, h6, h7, h8, h9⟩ := Cond.laysStatic_spec hl
  exact ⟨c, k, i, f, a, cell, h1, h2, h3, h4, h5, h6, h7, h8, h9, hA a (Array.getElem?_eq_some_iff.mp h5).1⟩
theorem vx_isRef {C n d : String} {v : Value} {A : Nat → Prop} {s : State} {args : Array Value} (h : va_Z C n d v A s s.heap) (hv : v.isRef = true) : (Cond.isRef (.static C n d)).before args s = true := by
  obtain ⟨cf, kf, fi, f, a, cell, h1, h2, h3, h4, h5, h6, h7, -⟩ := h
  have he : (Term.static C n d).eval args s none [] s = some v := by
    simp [Term.eval, State.fieldNamed?, h1, h2, h4, h5, h6, h7]
  simp only [Cond.before, Cond.holds, Cond.value, he]
  cases v <;> simp_all [Value.isRef]
theorem vx_isRefq {C n d : String} {A : Nat → Prop} {s : State} {args : Array Value} (h : va_Zq C n d A s s.heap) : (Cond.isRef (.static C n d)).before args s = true := by
  rcases h with h | ⟨t, h⟩
  · exact vx_isRef h rfl
  · exact vx_isRef h rfl
/-- the same frame, seen from here: as if the method were called anew in this heap -/
theorem vx_rebase {T : State} (X : Stand p l e R s m args below meth c T locs cells slots) {R' : Room} (hf : R'.frames ≤ R.frames) (hl : R'.locals ≤ R.locals) (hc : cells + R'.cells ≤ R.cells) (hs : slots + R'.slots ≤ R.slots) :
    Stand p l e R' ((T.setVm s.vm).setFrames (.invoking m args :: below)) m args below meth c T [] 0 0 := by
  have htop : (T.setVm s.vm).topJava?.isSome := X.here.top
  have hF : ((T.setVm s.vm).setFrames (.invoking m args :: below)).frames = .invoking m args :: below := State.frames_setFrames _ (State.cur_lt_of_top htop)
  obtain ⟨g₀, hg0⟩ := Option.isSome_iff_exists.mp htop
  obtain ⟨r, hr⟩ := State.topJava?_eq_some.mp hg0
  have hl9 : e.platform.stackLimits (T.setVm s.vm).me = e.platform.stackLimits s.me := X.limits
  have hb9 : (T.setVm s.vm).me.stackBytes = s.me.stackBytes := X.bytes
  refine ⟨X.admits, X.cas, X.clock, hF, ?_, X.hears, X.method, X.code, X.here, X.tail, X.warmed, ?_, ?_, ?_⟩
  · have h := X.room
    have hU : ((T.setVm s.vm).setFrames (.invoking m args :: below)).localsInUse = s.localsInUse := by
      rw [State.localsInUse_invoking hF (meth := meth) (c := c) X.method X.code, State.localsInUse_invoking X.frames X.method X.code]
    simp only [State.hasRoom, Bool.and_eq_true, decide_eq_true_eq] at h ⊢
    obtain ⟨⟨⟨⟨h1, h2, h3, h4, h5, h6⟩, h7⟩, h8⟩, h9⟩ := h
    rw [X.frames, List.length_cons] at h2 h3
    have q1 := X.heapSize
    have q2 := X.used
    simp only [hF, hU, List.length_cons, State.stackLimits_setFrames, State.stackBytes_setFrames, hl9, hb9]
    refine ⟨⟨⟨⟨by omega, by omega, by omega, by omega, by omega, h6⟩, ?_⟩, ?_⟩, X.book⟩
    · show T.heap.size + R'.cells ≤ e.platform.maxCells
      omega
    · show T.slotsUsed + R'.slots ≤ e.platform.maxSlots
      omega
  · rw [State.stackLimits_setFrames]; rfl
  · rw [State.stackBytes_setFrames]; rfl
  · refine ⟨?_, Nat.le_refl _, Nat.le_refl _, ?_, ?_, fun a c9 h9 => ⟨c9, h9, rfl, rfl, fun _ _ => rfl⟩⟩
    · obtain ⟨t, ht, -⟩ := State.frames_cons hr
      show T.setVm s.vm = { ((T.setVm s.vm).setFrames (.invoking m args :: below)).setFrames (T.setVm s.vm).frames with heap := T.heap, slotsUsed := T.slotsUsed }
      rw [State.setFrames_setFrames, State.setFrames_self ht]
      rfl
    · show T.slotsUsed = T.slotsUsed + ((T.heap.toList.drop T.heap.size).map (·.slots.size)).sum
      rw [List.drop_eq_nil_of_le (Nat.le_of_eq Array.length_toList)]
      rfl
    · show ((T.heap.toList.drop T.heap.size).map (·.slots.size)).sum ≤ 0
      rw [List.drop_eq_nil_of_le (Nat.le_of_eq Array.length_toList)]
      exact Nat.le_refl _
/-- 'throw new E()': new; dup; invokespecial; athrow -/
theorem vx_throw0 {cc : ByteArray} {pc : Nat} (hexec : p.tables.exec = Jvm.exec) (hb : c.code = cc) (hl : l.stackTraces = false) {own cls : String} {names : List String} {ik ic mc ms : Nat} {A : Nat → Prop}
    (hown : s.vm.findClass own = some m.cls) (hcls : Bundle.fit cls = true) (hnames : ∀ n ∈ names, Bundle.fit n = true)
    (hk : (Cond.classLink own ik cls).before args s = true) (hini : (Cond.initialized cls).before args s = true) (hat : ∀ w ∈ vx_at0 own ic cls names, w.before args s = true)
    (hgood : ∀ w ∈ Cond.classLink own ik cls :: Cond.initialized cls :: vx_at0 own ic cls names, vx_ot w = true)
    (hU : vx_Zq Bundle.tN "UNASSIGNED_STACK" Bundle.steD A s s.heap) (hN : vx_Zq Bundle.tN "SUPPRESSED_SENTINEL" Bundle.listD A s s.heap) (hS : va_S A s.heap H locs) (hsize : ls.size = c.maxLocals)
    (d0 : decode cc pc = .ok (.new ik, 3)) (d3 : decode cc (pc + 3) = .ok (.dup, 1)) (d4 : decode cc (pc + 4) = .ok (.invokespecial ic, 3)) (d7 : decode cc (pc + 7) = .ok (.athrow, 1))
    (hout : ∀ x ∈ c.exceptionTable.toList, covers x (pc + 7) = false)
    (hRframes : names.length + 3 < R.frames) (hRlocals : (rest.map fun v => v.category).sum + (13 * (names.length + 1) + 42) ≤ R.locals) (hRcells : cells + 1 ≤ R.cells) (hRslots : slots + 6 ≤ R.slots) (hlocks : meth.locks = false)
    (hx : ∀ t : State, s.vm.Alike t.vm → H.size ≤ t.heap.size → (∀ q : Nat, q < H.size → t.heap[q]? = H[q]?) → XC cls s t)
    (hf : ∀ z ∈ locs, free z.base) (hc : cells + 1 ≤ mc) (hs : slots + 6 ≤ ms) :
    W p l e R s m args below meth c H locs cells slots (vx_MQ below Qc XC args s mc ms free) (F0 m pc ls rest) := by
  intro T hT X
  have htr : e.platform.stackTraces = false := (show e.platform.stackTraces = l.stackTraces by rw [X.admits.platform]).trans hl
  have Y := vx_rebase X (R' := { frames := R.frames, locals := R.locals, cells := 1, slots := 6 }) (Nat.le_refl _) (Nat.le_refl _) hRcells hRslots
  obtain ⟨s', hA⟩ : ∃ z, z = (T.setVm s.vm).setFrames (.invoking m args :: below) := ⟨_, rfl⟩
  rw [← hA] at Y
  have hvm : s'.vm = s.vm := by rw [hA]; rfl
  have hhp : s'.heap = H := by rw [hA]; exact hT
  have hW0 : s.WarmedH s'.vm := by rw [hvm]; exact State.WarmedH.refl s
  have hat' : ∀ w ∈ vx_at0 own ic cls names, w.before args s' = true := fun w hw => vx_ot_at hW0 hvm.symm (hgood w (List.mem_cons_of_mem _ (List.mem_cons_of_mem _ hw))) (hat w hw)
  have hk' : (Cond.classLink own ik cls).before args s' = true := vx_ot_at hW0 hvm.symm (hgood _ List.mem_cons_self) hk
  have hini' : (Cond.initialized cls).before args s' = true := vx_ot_at hW0 hvm.symm (hgood _ (List.mem_cons_of_mem _ List.mem_cons_self)) hini
  have hU' : vx_Zq Bundle.tN "UNASSIGNED_STACK" Bundle.steD A s' s'.heap := by rw [hhp]; exact vx_Zq.moved hW0.alike (hU.kept hS.2.1)
  have hN' : vx_Zq Bundle.tN "SUPPRESSED_SENTINEL" Bundle.listD A s' s'.heap := by rw [hhp]; exact vx_Zq.moved hW0.alike (hN.kept hS.2.1)
  have h : ∀ w ∈ Bundle.ownAtoms0 own ic cls names, w.before args s' = true := vx_own hat' (vx_isRefq hU'.1) (vx_isRefq hN'.1) hU'.2.word hN'.2.word
  have hown' : s'.vm.findClass own = some m.cls := by rw [hvm]; exact hown
  have hins : (Cond.instantiable cls 6).before args s' = true := h _ (by simp [Bundle.ownAtoms0])
  obtain ⟨vm₁, cX, kX, hfX, hkX, -, -, X₁, st1⟩ := Y.newCold hexec (own := own) (C := cls) (index := ik) (n := 6) hown' hk' hins hini'
    (g := F0 m pc ls rest) rfl (by rw [hb]; exact d0) (Nat.le_refl _) (Nat.le_refl _)
  generalize hT1 : (T.setVm vm₁).pushCell { cls := cX, slots := kX.instanceTypes.map defaultValue, vm := .none } = T1 at X₁ st1
  have hcat : (Value.ref T.heap.size).category = 1 := rfl
  have hcellA : T1.heap[T.heap.size]? = some (freshCell cX kX) := by rw [← hT1]; exact State.heap_pushCell_size _ _
  have d3' : decode c.code (pc + 3) = .ok (.dup, 1) := by rw [hb]; exact d3
  obtain ⟨U, hsteps, hrun, hend, hW, hsame, ce, hce, hO⟩ := X₁.ctorThrow0 hexec htr (own := own) (cls := cls) (names := names) (ic := ic) hown' hcls hnames h (fun x hx => nomatch hx) hfX hkX hcellA (by rw [hhp, hT]; exact Nat.le_refl _)
    (g := { method := m, pc := pc + 4, locals := ls, stack := .ref T.heap.size :: .ref T.heap.size :: rest, locked := none }) rfl hsize rfl rfl (rest := rest) rfl
    (by rw [hb]; exact d4) (by rw [hb]; exact d7) hout hRframes (by simp only [List.map_cons, List.sum_cons, hcat]; omega) hlocks
  obtain ⟨f1, f2⟩ := vx_frame hsame
  rw [hhp] at f1 f2
  have hWs : s.WarmedH U.vm := State.WarmedH.trans hW0 hW
  have hcl : s.vm.findClass cls = some ce.cls := by
    have h9 := hO.cls
    rw [hvm] at h9
    exact h9
  have hall : s.sameButNew ({ U with vm := s.vm } : State) locs mc ms := by
    subst hA
    obtain ⟨e1, e2⟩ := hsame
    rw [State.setFrames_setFrames] at e1
    have h2 : (T.setVm s.vm).sameButNew ({ U with vm := s.vm } : State) [] (0 + 1) (0 + 6) := ⟨e1, e2⟩
    have h3 := X.same.trans h2
    rw [List.append_nil] at h3
    exact h3.mono hc hs
  refine ⟨U, ?_, .threw T.heap.size, hrun, hend, Or.inr ⟨T.heap.size, rfl, cls, ce, locs, hx U hWs.alike f1 (fun q hq => f2 q hq (fun z hz => nomatch hz)), hce, hO.vm, hcl, hWs, hall, hf⟩⟩
  refine st1 _ ?_
  show Steps p.tables e below (T1.setTop { method := m, pc := pc + 3, locals := ls, stack := .ref T.heap.size :: rest, locked := none }) _
  jvm_step X₁.here [X₁.here.top, hexec, d3', Value.category]
  exact hsteps
/-- 'throw new E("text")': new; dup; ldc; invokespecial; athrow -/
theorem vx_throwS {cc : ByteArray} {pc : Nat} (hexec : p.tables.exec = Jvm.exec) (hb : c.code = cc) (hl : l.stackTraces = false) {own cls text : String} {names : List String} {ik is ic mc ms sa : Nat} {A : Nat → Prop}
    (hown : s.vm.findClass own = some m.cls) (hcls : Bundle.fit cls = true) (hnames : ∀ n ∈ names, Bundle.fit n = true)
    (hk : (Cond.classLink own ik cls).before args s = true) (hini : (Cond.initialized cls).before args s = true) (hstr : vk_R own is text sa s) (hat : ∀ w ∈ vx_atS own ic cls names, w.before args s = true)
    (hgood : ∀ w ∈ Cond.classLink own ik cls :: Cond.initialized cls :: vx_atS own ic cls names, vx_ot w = true)
    (hU : vx_Zq Bundle.tN "UNASSIGNED_STACK" Bundle.steD A s s.heap) (hN : vx_Zq Bundle.tN "SUPPRESSED_SENTINEL" Bundle.listD A s s.heap) (hS : va_S A s.heap H locs) (hsize : ls.size = c.maxLocals)
    (d0 : decode cc pc = .ok (.new ik, 3)) (d3 : decode cc (pc + 3) = .ok (.dup, 1)) (d4 : decode cc (pc + 4) = .ok (.ldc is, 2)) (d6 : decode cc (pc + 6) = .ok (.invokespecial ic, 3)) (d9 : decode cc (pc + 9) = .ok (.athrow, 1))
    (hout : ∀ x ∈ c.exceptionTable.toList, covers x (pc + 9) = false)
    (hRframes : names.length + 3 < R.frames) (hRlocals : (rest.map fun v => v.category).sum + (13 * (names.length + 1) + 43) ≤ R.locals) (hRcells : cells + 1 ≤ R.cells) (hRslots : slots + 6 ≤ R.slots) (hlocks : meth.locks = false)
    (hx : ∀ t : State, s.vm.Alike t.vm → H.size ≤ t.heap.size → (∀ q : Nat, q < H.size → t.heap[q]? = H[q]?) → XC cls s t)
    (hf : ∀ z ∈ locs, free z.base) (hc : cells + 1 ≤ mc) (hs : slots + 6 ≤ ms) :
    W p l e R s m args below meth c H locs cells slots (vx_MQ below Qc XC args s mc ms free) (F0 m pc ls rest) := by
  intro T hT X
  have htr : e.platform.stackTraces = false := (show e.platform.stackTraces = l.stackTraces by rw [X.admits.platform]).trans hl
  have Y := vx_rebase X (R' := { frames := R.frames, locals := R.locals, cells := 1, slots := 6 }) (Nat.le_refl _) (Nat.le_refl _) hRcells hRslots
  obtain ⟨s', hA⟩ : ∃ z, z = (T.setVm s.vm).setFrames (.invoking m args :: below) := ⟨_, rfl⟩
  rw [← hA] at Y
  have hvm : s'.vm = s.vm := by rw [hA]; rfl
  have hhp : s'.heap = H := by rw [hA]; exact hT
  have hW0 : s.WarmedH s'.vm := by rw [hvm]; exact State.WarmedH.refl s
  have hat' : ∀ w ∈ vx_atS own ic cls names, w.before args s' = true := fun w hw => vx_ot_at hW0 hvm.symm (hgood w (List.mem_cons_of_mem _ (List.mem_cons_of_mem _ hw))) (hat w hw)
  have hk' : (Cond.classLink own ik cls).before args s' = true := vx_ot_at hW0 hvm.symm (hgood _ List.mem_cons_self) hk
  have hini' : (Cond.initialized cls).before args s' = true := vx_ot_at hW0 hvm.symm (hgood _ (List.mem_cons_of_mem _ List.mem_cons_self)) hini
  have hU' : vx_Zq Bundle.tN "UNASSIGNED_STACK" Bundle.steD A s' s'.heap := by rw [hhp]; exact vx_Zq.moved hW0.alike (hU.kept hS.2.1)
  have hN' : vx_Zq Bundle.tN "SUPPRESSED_SENTINEL" Bundle.listD A s' s'.heap := by rw [hhp]; exact vx_Zq.moved hW0.alike (hN.kept hS.2.1)
  have h : ∀ w ∈ Bundle.ownAtoms own ic cls names, w.before args s' = true := vx_own hat' (vx_isRefq hU'.1) (vx_isRefq hN'.1) hU'.2.word hN'.2.word
  have hown' : s'.vm.findClass own = some m.cls := by rw [hvm]; exact hown
  have hins : (Cond.instantiable cls 6).before args s' = true := h _ (by simp [Bundle.ownAtoms])
  obtain ⟨vm₁, cX, kX, hfX, hkX, -, -, X₁, st1⟩ := Y.newCold hexec (own := own) (C := cls) (index := ik) (n := 6) hown' hk' hins hini'
    (g := F0 m pc ls rest) rfl (by rw [hb]; exact d0) (Nat.le_refl _) (Nat.le_refl _)
  generalize hT1 : (T.setVm vm₁).pushCell { cls := cX, slots := kX.instanceTypes.map defaultValue, vm := .none } = T1 at X₁ st1
  have hcat : (Value.ref T.heap.size).category = 1 := rfl
  have hcellA : T1.heap[T.heap.size]? = some (freshCell cX kX) := by rw [← hT1]; exact State.heap_pushCell_size _ _
  have d3' : decode c.code (pc + 3) = .ok (.dup, 1) := by rw [hb]; exact d3
  have d4' : decode c.code (pc + 4) = .ok (.ldc is, 2) := by rw [hb]; exact d4
  have hstr' : vk_R own is text sa s' := vk_R.warm hW0 hstr
  obtain ⟨U, hsteps, hrun, hend, hW, hsame, ce, hce, hO⟩ := X₁.ctorThrowS hexec htr (own := own) (cls := cls) (names := names) (ic := ic) hown' hcls hnames h (fun x hx => nomatch hx) hfX hkX hcellA (by rw [hhp, hT]; exact Nat.le_refl _) (msg := .ref sa) rfl
    (g := { method := m, pc := pc + 6, locals := ls, stack := .ref sa :: .ref T.heap.size :: .ref T.heap.size :: rest, locked := none }) rfl hsize rfl rfl (rest := rest) rfl
    (by rw [hb]; exact d6) (by rw [hb]; exact d9) hout hRframes (by simp only [List.map_cons, List.sum_cons, hcat]; omega) hlocks
  obtain ⟨f1, f2⟩ := vx_frame hsame
  rw [hhp] at f1 f2
  have hWs : s.WarmedH U.vm := State.WarmedH.trans hW0 hW
  have hcl : s.vm.findClass cls = some ce.cls := by
    have h9 := hO.cls
    rw [hvm] at h9
    exact h9
  have hall : s.sameButNew ({ U with vm := s.vm } : State) locs mc ms := by
    subst hA
    obtain ⟨e1, e2⟩ := hsame
    rw [State.setFrames_setFrames] at e1
    have h2 : (T.setVm s.vm).sameButNew ({ U with vm := s.vm } : State) [] (0 + 1) (0 + 6) := ⟨e1, e2⟩
    have h3 := X.same.trans h2
    rw [List.append_nil] at h3
    exact h3.mono hc hs
  refine ⟨U, ?_, .threw T.heap.size, hrun, hend, Or.inr ⟨T.heap.size, rfl, cls, ce, locs, hx U hWs.alike f1 (fun q hq => f2 q hq (fun z hz => nomatch hz)), hce, hO.vm, hcl, hWs, hall, hf⟩⟩
  refine st1 _ ?_
  show Steps p.tables e below (T1.setTop { method := m, pc := pc + 3, locals := ls, stack := .ref T.heap.size :: rest, locked := none }) _
  jvm_step X₁.here [X₁.here.top, hexec, d3', Value.category]
  exact X₁.ldcString hexec (own := own) (text := text) (index := is) (a := sa) hown' hstr'.1 hstr'.2
    (g := { method := m, pc := pc + 4, locals := ls, stack := .ref T.heap.size :: .ref T.heap.size :: rest, locked := none }) rfl d4' _ hsteps
/-- 'throw new E("text")', the text by a wide index -/
theorem vx_throwSW {cc : ByteArray} {pc : Nat} (hexec : p.tables.exec = Jvm.exec) (hb : c.code = cc) (hl : l.stackTraces = false) {own cls text : String} {names : List String} {ik is ic mc ms sa : Nat} {A : Nat → Prop}
    (hown : s.vm.findClass own = some m.cls) (hcls : Bundle.fit cls = true) (hnames : ∀ n ∈ names, Bundle.fit n = true)
    (hk : (Cond.classLink own ik cls).before args s = true) (hini : (Cond.initialized cls).before args s = true) (hstr : vk_R own is text sa s) (hat : ∀ w ∈ vx_atS own ic cls names, w.before args s = true)
    (hgood : ∀ w ∈ Cond.classLink own ik cls :: Cond.initialized cls :: vx_atS own ic cls names, vx_ot w = true)
    (hU : vx_Zq Bundle.tN "UNASSIGNED_STACK" Bundle.steD A s s.heap) (hN : vx_Zq Bundle.tN "SUPPRESSED_SENTINEL" Bundle.listD A s s.heap) (hS : va_S A s.heap H locs) (hsize : ls.size = c.maxLocals)
    (d0 : decode cc pc = .ok (.new ik, 3)) (d3 : decode cc (pc + 3) = .ok (.dup, 1)) (d4 : decode cc (pc + 4) = .ok (.ldc_w is, 3)) (d7 : decode cc (pc + 7) = .ok (.invokespecial ic, 3)) (d10 : decode cc (pc + 10) = .ok (.athrow, 1))
    (hout : ∀ x ∈ c.exceptionTable.toList, covers x (pc + 10) = false)
    (hRframes : names.length + 3 < R.frames) (hRlocals : (rest.map fun v => v.category).sum + (13 * (names.length + 1) + 43) ≤ R.locals) (hRcells : cells + 1 ≤ R.cells) (hRslots : slots + 6 ≤ R.slots) (hlocks : meth.locks = false)
    (hx : ∀ t : State, s.vm.Alike t.vm → H.size ≤ t.heap.size → (∀ q : Nat, q < H.size → t.heap[q]? = H[q]?) → XC cls s t)
    (hf : ∀ z ∈ locs, free z.base) (hc : cells + 1 ≤ mc) (hs : slots + 6 ≤ ms) :
    W p l e R s m args below meth c H locs cells slots (vx_MQ below Qc XC args s mc ms free) (F0 m pc ls rest) := by
  intro T hT X
  have htr : e.platform.stackTraces = false := (show e.platform.stackTraces = l.stackTraces by rw [X.admits.platform]).trans hl
  have Y := vx_rebase X (R' := { frames := R.frames, locals := R.locals, cells := 1, slots := 6 }) (Nat.le_refl _) (Nat.le_refl _) hRcells hRslots
  obtain ⟨s', hA⟩ : ∃ z, z = (T.setVm s.vm).setFrames (.invoking m args :: below) := ⟨_, rfl⟩
  rw [← hA] at Y
  have hvm : s'.vm = s.vm := by rw [hA]; rfl
  have hhp : s'.heap = H := by rw [hA]; exact hT
  have hW0 : s.WarmedH s'.vm := by rw [hvm]; exact State.WarmedH.refl s
  have hat' : ∀ w ∈ vx_atS own ic cls names, w.before args s' = true := fun w hw => vx_ot_at hW0 hvm.symm (hgood w (List.mem_cons_of_mem _ (List.mem_cons_of_mem _ hw))) (hat w hw)
  have hk' : (Cond.classLink own ik cls).before args s' = true := vx_ot_at hW0 hvm.symm (hgood _ List.mem_cons_self) hk
  have hini' : (Cond.initialized cls).before args s' = true := vx_ot_at hW0 hvm.symm (hgood _ (List.mem_cons_of_mem _ List.mem_cons_self)) hini
  have hU' : vx_Zq Bundle.tN "UNASSIGNED_STACK" Bundle.steD A s' s'.heap := by rw [hhp]; exact vx_Zq.moved hW0.alike (hU.kept hS.2.1)
  have hN' : vx_Zq Bundle.tN "SUPPRESSED_SENTINEL" Bundle.listD A s' s'.heap := by rw [hhp]; exact vx_Zq.moved hW0.alike (hN.kept hS.2.1)
  have h : ∀ w ∈ Bundle.ownAtoms own ic cls names, w.before args s' = true := vx_own hat' (vx_isRefq hU'.1) (vx_isRefq hN'.1) hU'.2.word hN'.2.word
  have hown' : s'.vm.findClass own = some m.cls := by rw [hvm]; exact hown
  have hins : (Cond.instantiable cls 6).before args s' = true := h _ (by simp [Bundle.ownAtoms])
  obtain ⟨vm₁, cX, kX, hfX, hkX, -, -, X₁, st1⟩ := Y.newCold hexec (own := own) (C := cls) (index := ik) (n := 6) hown' hk' hins hini'
    (g := F0 m pc ls rest) rfl (by rw [hb]; exact d0) (Nat.le_refl _) (Nat.le_refl _)
  generalize hT1 : (T.setVm vm₁).pushCell { cls := cX, slots := kX.instanceTypes.map defaultValue, vm := .none } = T1 at X₁ st1
  have hcat : (Value.ref T.heap.size).category = 1 := rfl
  have hcellA : T1.heap[T.heap.size]? = some (freshCell cX kX) := by rw [← hT1]; exact State.heap_pushCell_size _ _
  have d3' : decode c.code (pc + 3) = .ok (.dup, 1) := by rw [hb]; exact d3
  have d4' : decode c.code (pc + 4) = .ok (.ldc_w is, 3) := by rw [hb]; exact d4
  have hstr' : vk_R own is text sa s' := vk_R.warm hW0 hstr
  obtain ⟨U, hsteps, hrun, hend, hW, hsame, ce, hce, hO⟩ := X₁.ctorThrowS hexec htr (own := own) (cls := cls) (names := names) (ic := ic) hown' hcls hnames h (fun x hx => nomatch hx) hfX hkX hcellA (by rw [hhp, hT]; exact Nat.le_refl _) (msg := .ref sa) rfl
    (g := { method := m, pc := pc + 7, locals := ls, stack := .ref sa :: .ref T.heap.size :: .ref T.heap.size :: rest, locked := none }) rfl hsize rfl rfl (rest := rest) rfl
    (by rw [hb]; exact d7) (by rw [hb]; exact d10) hout hRframes (by simp only [List.map_cons, List.sum_cons, hcat]; omega) hlocks
  obtain ⟨f1, f2⟩ := vx_frame hsame
  rw [hhp] at f1 f2
  have hWs : s.WarmedH U.vm := State.WarmedH.trans hW0 hW
  have hcl : s.vm.findClass cls = some ce.cls := by
    have h9 := hO.cls
    rw [hvm] at h9
    exact h9
  have hall : s.sameButNew ({ U with vm := s.vm } : State) locs mc ms := by
    subst hA
    obtain ⟨e1, e2⟩ := hsame
    rw [State.setFrames_setFrames] at e1
    have h2 : (T.setVm s.vm).sameButNew ({ U with vm := s.vm } : State) [] (0 + 1) (0 + 6) := ⟨e1, e2⟩
    have h3 := X.same.trans h2
    rw [List.append_nil] at h3
    exact h3.mono hc hs
  refine ⟨U, ?_, .threw T.heap.size, hrun, hend, Or.inr ⟨T.heap.size, rfl, cls, ce, locs, hx U hWs.alike f1 (fun q hq => f2 q hq (fun z hz => nomatch hz)), hce, hO.vm, hcl, hWs, hall, hf⟩⟩
  refine st1 _ ?_
  show Steps p.tables e below (T1.setTop { method := m, pc := pc + 3, locals := ls, stack := .ref T.heap.size :: rest, locked := none }) _
  jvm_step X₁.here [X₁.here.top, hexec, d3', Value.category]
  exact X₁.ldcStringW hexec (own := own) (text := text) (index := is) (a := sa) hown' hstr'.1 hstr'.2
    (g := { method := m, pc := pc + 4, locals := ls, stack := .ref T.heap.size :: .ref T.heap.size :: rest, locked := none }) rfl d4' _ hsteps
end Ends
section Bodies
variable {l : Launch}
theorem vx_ofW {y : MethodName} {ws ws' : List Cond} {rm : Room} {Pc : Array Value → State → Prop} {Qc : Array Value → State → Outcome → State → Prop} {XC : String → State → State → Prop} {mc ms : Nat} {free : Addr → Prop} {cc : ByteArray} {maxL : Nat} {ret : Option FieldType}
    (hy : plainName y.cls = true) (hw : ws = Cond.code y cc maxL ret :: ws')
    (body : ∀ p e s m args below meth c s₁, BodyLoose p l y (headSpec ws rm) cc maxL ret e s m args below meth c s₁ → c.maxLocals = maxL → (∀ x ∈ c.exceptionTable.toList, False) → Pc args s →
      W p l e (headSpec ws rm).room s m args below meth c s.heap [] 0 0 (vx_MQ below Qc XC args s mc ms free) (entryFrame m args maxL)) : vx_Met l y ws rm Pc Qc XC mc ms free := by
  refine MetFree.of_bodyS (code := cc) (maxLocals := maxL) (ret := ret) hy ?_ ?_
  · intro args s m h hn
    obtain ⟨meth, c, h1, h2, h3, h4, h5, h6, -, -⟩ := Cond.code_spec hn (atoms_spec (ws := ws) h _ (by rw [hw]; exact List.mem_cons_self))
    exact ⟨meth, c, h1, h2, h3, h4, h5, h6⟩
  · intro p e s m args below meth c s₁ B hml hP _
    have hh0 : s₁.heap = s.heap := by rw [B.state]; rfl
    have ht : ∀ x ∈ c.exceptionTable.toList, False := by
      obtain ⟨meth9, c9, h1, h2, -, -, -, -, h7, -⟩ := Cond.code_spec B.named (atoms_spec (ws := ws) B.pre _ (by rw [hw]; exact List.mem_cons_self))
      cases Option.some.inj (h1.symm.trans B.method)
      cases Option.some.inj (h2.symm.trans (Stand.of_body B).code)
      intro x hx
      rw [Array.isEmpty_iff.mp h7] at hx
      cases hx
    obtain ⟨t, a1, o, b1, b2, b3⟩ := body p e s m args below meth c s₁ B hml ht hP s₁ hh0 (Stand.of_body B)
    exact ⟨t, o, a1, b1, b2, b3⟩
/-- the table of a body with handlers -/
theorem vx_table {p : Program} {x y : MethodName} {S : Spec} {cc bytes : ByteArray} {maxL maxL' : Nat} {ret ret' : Option FieldType} {e : Env} {s s₁ : State} {m : MethodId} {args : Array Value} {below : List Frame} {meth : Method} {c : Code} {hh : List (Nat × Nat × Nat × Nat)}
    (B : BodyLoose p l y S cc maxL ret e s m args below meth c s₁) (h : (Cond.codeWith y bytes maxL' ret' hh).before args s = true) : c.exceptionTable.toList = tableOf hh := by
  obtain ⟨m9, meth9, c9, hn9, h1, h2, -, -, h6, -⟩ := Cond.codeWith_spec h
  cases Option.some.inj (hn9.symm.trans B.named)
  cases Option.some.inj (h1.symm.trans B.method)
  cases Option.some.inj (h2.symm.trans (Stand.of_body B).code)
  rw [← h6, table_eq]
end Bodies
end VXA
/-! ===== END ===== -/
/-! ===== BEGIN a static call of a method with an exception table ===== -/
section VXS
variable {p : Program} {l : Launch} {e : Env} {R : Room} {s : State} {m : MethodId} {args : Array Value} {below : List Frame} {meth : Method} {c : Code} {T : State} {H : Heap} {locs : List Loc} {cells slots : Nat}
abbrev vx_CSW (R : Room) (s : State) (args : Array Value) (own : String) (index : Nat) (y : MethodName) (bytes : ByteArray) (maxL : Nat) (ret : Option FieldType) (hh : List (Nat × Nat × Nat × Nat)) (ws : List Cond) (rm : Room) (mc ms n : Nat) : Prop :=
  (rm.cells = mc ∧ rm.slots = ms ∧ rm.frames + 1 ≤ R.frames ∧ 8 + (maxL + 11) + rm.locals ≤ R.locals ∧ (∀ w ∈ ws, ∀ (a' : Array Value) (U : State), s.WarmedH U.vm → w.before a' U = true) ∧ Cond.codeWith y bytes maxL ret hh ∈ ws) ∧
  (Cond.codeWith y bytes maxL ret hh).before args s = true ∧ (Cond.initialized y.cls).before args s = true ∧ (y.cls ≠ "java/lang/invoke/MethodHandle" ∧ y.cls ≠ "java/lang/invoke/VarHandle") ∧
  (∀ sig, parseMethodDescriptor y.desc = some sig → n = sig.parameters.length) ∧ (Cond.methodLink own index y).before args s = true ∧ (Cond.static y).before args s = true
theorem vx_cwSW {own : String} {index maxL mc ms : Nat} {y : MethodName} {bytes : ByteArray} {ret : Option FieldType} {hh : List (Nat × Nat × Nat × Nat)} {Ts ws ws' : List Cond} {rm : Room} (n : Nat) (ht : ∀ w ∈ Ts, w.before args s = true) (hT : GoodIn Ts (va_wsS own index y ws)) (hw : ws = Cond.codeWith y bytes maxL ret hh :: ws') (hrc : rm.cells = mc) (hrs : rm.slots = ms)
    (hd : y.cls ≠ "java/lang/invoke/MethodHandle" ∧ y.cls ≠ "java/lang/invoke/VarHandle" ∧ (parseMethodDescriptor y.desc).map (fun d => d.parameters.length) = some n) (hR : rm.frames + 1 ≤ R.frames ∧ 8 + (maxL + 11) + rm.locals ≤ R.locals) :
    vx_CSW R s args own index y bytes maxL ret hh ws rm mc ms n := by
  have ok : ∀ w ∈ va_wsS own index y ws, w.before args s = true := fun w h => ht w (hT w h).1
  have hG : GoodIn Ts ws := fun w h => hT w (by unfold va_wsS; exact List.mem_append_right _ h)
  have hc : Cond.codeWith y bytes maxL ret hh ∈ ws := by rw [hw]; exact List.mem_cons_self
  refine ⟨⟨hrc, hrs, hR.1, hR.2, pay_in ht hG, hc⟩, ht _ (hG _ hc).1, ok _ (by simp [va_wsS]), ⟨hd.1, hd.2.1⟩, fun sig h => ?_, ok _ (by simp [va_wsS]), ok _ (by simp [va_wsS])⟩
  have h2 := hd.2.2
  rw [h] at h2
  exact (Option.some.inj h2).symm
theorem vx_callSW (X : Stand p l e R s m args below meth c T locs cells slots) (hexec : p.tables.exec = Jvm.exec) {own : String} {index : Nat} {y : MethodName} {bytes : ByteArray} {maxL : Nat} {ret : Option FieldType} {hh : List (Nat × Nat × Nat × Nat)}
    (hown : s.vm.findClass own = some m.cls) (hlink : (Cond.methodLink own index y).before args s = true) (hstat : (Cond.static y).before args s = true) (hinit : (Cond.initialized y.cls).before args s = true)
    (hcode : (Cond.codeWith y bytes maxL ret hh).before args s = true) (hy : y.cls ≠ "java/lang/invoke/MethodHandle" ∧ y.cls ≠ "java/lang/invoke/VarHandle")
    {W9 : Nat} {Pre : Pt → Array Value → Prop} {Post : Pt → Array Value → Option Value → Pt → Prop} (hK : Back l R p e below s args y 3 W9 Pre Post)
    {g : JFrame} (hg : g.method = m) (hsize : g.locals.size = c.maxLocals) {argsL rest : List Value} (hlen : ∀ sig, parseMethodDescriptor y.desc = some sig → argsL.length = sig.parameters.length)
    (hstack : g.stack = argsL.reverse ++ rest) (hW : 2 * g.monitorRoom + (rest.map fun v => v.category).sum ≤ W9) (hdg : decode c.code g.pc = .ok (.invokestatic index, 3))
    (hpre : ∀ vm₁, s.WarmedH vm₁ → Pre ⟨T.setVm vm₁, locs, cells, slots⟩ argsL.toArray) :
    ∃ (v : Option Value) (vm₁ : Vm) (B : Pt), s.WarmedH vm₁ ∧ Stand p l e R s m args below meth c B.U B.locs B.cells B.slots ∧ Post ⟨T.setVm vm₁, locs, cells, slots⟩ argsL.toArray v B ∧
      ∀ target, Steps p.tables e below (B.U.setTop { g with pc := g.pc + 3, stack := v.toList ++ rest }) target → Steps p.tables e below (T.setTop g) target := by
  obtain ⟨mk, methM, cM, hnamed, hmethM, -, -, -, -, -, -, hsigM⟩ := Cond.codeWith_spec hcode
  have hstatic : methM.isStatic = true := Cond.static_spec hnamed hmethM hstat
  obtain ⟨kP, hkP, -⟩ := className_of_methodNamed hnamed
  have hinitP : kP.init = .initialized := Cond.initialized_spec (findClass_of_methodNamed hnamed) hkP hinit
  obtain ⟨vm₁, X₁, hstep₁⟩ := X.invokestatic hexec hown hlink hnamed hmethM hstatic hkP hinitP hy (g := g) hg (argsL := argsL) (rest := rest) (hlen _ hsigM) hstack hdg
  obtain ⟨v, B, X', hpost, hsteps⟩ := hK m meth c ⟨T.setVm vm₁, locs, cells, slots⟩ { g with stack := rest } (.invokestatic index) mk argsL.toArray X₁ hg hsize hdg hW (X₁.named hnamed) (hpre vm₁ X₁.warmed)
  exact ⟨v, vm₁, B, X₁.warmed, X', hpost, fun target h => hstep₁ _ fun acts => by rw [doInvoke_state]; exact hsteps.trans h⟩
theorem vx_runSW {y : MethodName} {bytes cc : ByteArray} {maxL nL mc ms n index : Nat} {ret : Option FieldType} {hh : List (Nat × Nat × Nat × Nat)} {ws : List Cond} {rm : Room} {Pc : Array Value → State → Prop} {Qc : Array Value → State → Outcome → State → Prop} {free : Addr → Prop} {Ts : List Cond} {own : String} {As rest : List Value} {g : JFrame}
    (S : CallFix p m c cc nL s args Ts own) (hM : Met l y ws rm Pc Qc mc ms free) (cw : vx_CSW R s args own index y bytes maxL ret hh ws rm mc ms n) (hp : PreS s H Pc As)
    (hg : g.method = m) (hn : As.length = n) (hsize : g.locals.size = nL) (hstack : g.stack = As.reverse ++ rest) (hW : 2 * g.monitorRoom + (rest.map fun v => v.category).sum ≤ 8) (hdg : decode cc g.pc = .ok (.invokestatic index, 3)) (hf : cells + mc ≤ R.cells ∧ slots + ms ≤ R.slots) :
    va_Run p l e R s m args below meth c H locs cells slots mc ms g rest (Qc As.toArray) (free) := by
  obtain ⟨⟨hrc, hrs, hfr, hlo, hws, hcw⟩, hcode, hini, hy, hlen, hl, hstt⟩ := cw
  have hK : Back l R p e below s args y 3 8 (PreOf R mc ms Pc) (PostOf Qc mc ms free) := va_backW (hh := hh) (bytes := bytes) (maxL := maxL) (ret := ret) hM hp.1 hrc hrs hfr hlo hws hcw (fun a' U hW => word_at hW (Or.inl (by first | rfl | simp [Cond.onTables, Cond.keeps, Cond.steady])) hini)
  obtain ⟨hx, hb, hml, ho, -⟩ := S
  intro T hT X
  obtain ⟨v, vm₁, ⟨U', l2, c2, s2⟩, hW₁, X', ⟨g', mk, t, L, e1, e2, hq, h1, hL, h2, h3⟩, st⟩ := vx_callSW X hx (hh := hh) (bytes := bytes) (maxL := maxL) (ret := ret) ho hl hstt hini hcode hy hK hg (hsize.trans hml.symm) (argsL := As) (rest := rest) (fun sig h => hn.trans (hlen sig h)) hstack hW (by rw [hb]; exact hdg)
    (fun vm₁ hW₁ => ⟨hf.1, hf.2, hp.2 (T.setVm vm₁) hT hW₁⟩)
  dsimp only [Pt.U, Pt.locs, Pt.cells, Pt.slots] at X' e1 e2 h1 h2 h3 st
  subst h1; subst h2; subst h3
  exact ⟨v, (T.setVm vm₁).calling g' mk As.toArray, t, U', L, hT, X', hL, e1, e2, hq, st⟩
/-- not caught here, past rows that name other classes: it goes on to the caller -/
theorem vx_outP {p : Program} {l : Launch} {e : Env} {R : Room} {s : State} {m : MethodId} {args : Array Value} {below : List Frame} {meth : Method} {c : Code} {H : Heap} {locs : List Loc} {cells slots : Nat} {free : Addr → Prop} {ls : Array Slot} {rest : List Value} {Qc : Array Value → State → Outcome → State → Prop} {XC : String → State → State → Prop}
    {pc : Nat} {own E : String} {ce : Cell} {q : Addr} {mc ms : Nat} (hown : s.vm.findClass own = some m.cls) (hlocks : meth.locks = false)
    (hpass : ∀ z ∈ c.exceptionTable.toList, covers z pc = false ∨ (z.catchType ≠ 0 ∧ ∃ nm : String, (Cond.classLink own z.catchType nm).before args s = true ∧ va_Nc E nm s)) (hcell : H[q]? = some ce) (hv : ce.vm = .none) (hcl : s.vm.findClass E = some ce.cls)
    (hx : ∀ t : State, t.heap = H → s.vm.Alike t.vm → XC E s t) (hf : ∀ z ∈ locs, free z.base) (hc : cells ≤ mc) (hs : slots ≤ ms) :
    vx_W p l e R s m args below meth c H locs cells slots (vx_MQ below Qc XC args s mc ms free) (F0 m pc ls rest) q := by
  intro T hT X
  have hpl : e.platform.magicAccessors = ({} : Platform).magicAccessors := by rw [X.admits.platform]
  obtain ⟨vm', hW', X', st⟩ := X.outThrough hlocks q (g := F0 m pc ls rest) rfl rfl rfl (cell := ce) (by rw [hT]; exact hcell) (by rw [hv]; rfl)
    (by obtain ⟨k9, h9, -⟩ := Vm.findClass_spec hcl; exact ⟨k9, h9⟩) (fun z hz => by
      rcases hpass z hz with h | ⟨hz0, nm, hl1, hn1⟩
      · exact Or.inl h
      · obtain ⟨c6, hc6, hcl6⟩ := Cond.classLink_spec hown hl1 e.platform hpl
        obtain ⟨a8, b8, h1, h2, h3⟩ := hn1
        cases Option.some.inj (h1.symm.trans hcl)
        cases Option.some.inj (h2.symm.trans hc6)
        exact Or.inr ⟨hz0, _, hcl6, h3⟩)
  obtain ⟨g₀, hfr⟩ := X'.frames_eq
  have hcell9 : ((T.setVm vm').setFrames (.throwing q :: below)).heap[q]? = some ce := by
    show T.heap[q]? = some ce
    rw [hT]; exact hcell
  have hend : Ended ((T.setVm vm').setFrames (.throwing q :: below)) below (.threw q) := State.frames_setFrames _ (State.cur_lt_of_frames hfr)
  refine ⟨(T.setVm vm').setFrames (.throwing q :: below), ?_, .threw q, X'.here.running, hend, Or.inr ⟨q, rfl, E, ce, locs, hx _ hT (X'.ends _).1.alike, hcell9, hv, hcl, (X'.ends _).1, (X'.ends _).2.mono hc hs, hf⟩⟩
  rw [X.pushThrowing_eq]
  exact st
/-- a thing of a world lies in the heap -/
theorem vx_lt {D : va_G} {cl : List vw_C} {ws : va_W} {H1 : Heap} (h : va_P D cl ws H1) {k : Nat} {q : Nat × va_E} (hk : ws[k]? = some q) : q.1 < H1.size := (h k q hk).lt
end VXS
/-! ===== END ===== -/
/-! ===== BEGIN methods with a table of their own: called by a name, returning or throwing ===== -/
section VXH
/-! vx_backW, vx_callVX, vx_callSX, vx_callVW, vx_runVW, vx_runVX, vx_runSX, vx_ofWH follow the same proofs as their sisters above (Free/Laws.lean, Shelf42/LK1.lean); vx_outP calls Shelf42/NT130.lean (outThrough). -/
section
variable {l : Launch} {R : Room} {p : Program} {e : Env} {below : List Frame} {s : State} {sargs : Array Value} {y : MethodName} {len W9 : Nat}
theorem vx_backW {ws : List Cond} {rm : Room} {Pc : Array Value → State → Prop} {Qc : Array Value → State → Outcome → State → Prop} {XC : String → State → State → Prop} {mc ms : Nat} {free : Addr → Prop} {bytes : ByteArray} {maxL : Nat} {ret : Option FieldType} {hh : List (Nat × Nat × Nat × Nat)}
    (hM : vx_Met l y ws rm Pc Qc XC mc ms free) (hblind : FrameBlind Pc) (hrc : rm.cells = mc) (hrs : rm.slots = ms)
    (hframes : rm.frames + 1 ≤ R.frames) (hlocals : W9 + (maxL + 11) + rm.locals ≤ R.locals)
    (hws : ∀ w ∈ ws, ∀ a' U, s.WarmedH U.vm → w.before a' U = true) (hcode : Cond.codeWith y bytes maxL ret hh ∈ ws) (hinit : ∀ a' U, s.WarmedH U.vm → (Cond.initialized y.cls).before a' U = true) :
    vx_Back l R p e below s sargs y len W9 (PreOf R mc ms Pc) (PostOf Qc mc ms free) (vx_Post XC mc ms free) := by
  intro m meth c A g ig mk a X hg hsize hdg hW hn hp
  have h1 : (headSpec ws rm).pre.before a A.U = true := atoms_intro fun w hw => hws w hw _ _ X.warmed
  have h2 : (Cond.codeWith y bytes maxL ret hh).before a A.U = true := hws _ hcode _ _ X.warmed
  have h3 : (Cond.initialized y.cls).before a A.U = true := hinit _ _ X.warmed
  have h4 : A.cells + (headSpec ws rm).room.cells ≤ R.cells := by rw [show (headSpec ws rm).room.cells = mc from hrc]; exact hp.1
  have h5 : A.slots + (headSpec ws rm).room.slots ≤ R.slots := by rw [show (headSpec ws rm).room.slots = ms from hrs]; exact hp.2.1
  have hPc : Pc a (A.U.calling g mk a) := hblind _ _ _ _ hp.2.2
  obtain ⟨U, Ls, c0, s0⟩ := A
  dsimp only [Pt.U, Pt.locs, Pt.cells, Pt.slots] at h1 h2 h3 h4 h5 X hn hPc ⊢
  obtain ⟨m9, methY, cY, hn9, hmY, hcY, -, hlY, -⟩ := Cond.codeWith_spec h2
  cases Option.some.inj (hn9.symm.trans hn)
  obtain ⟨kY, hkY, -⟩ := className_of_methodNamed hn
  have hinitY : kY.init = .initialized := Cond.initialized_spec (findClass_of_methodNamed hn) hkY h3
  have h : At U g.method c below := by rw [hg]; exact X.here
  have hlocals9 : W9 + (maxL + 11) + (headSpec ws rm).room.locals ≤ R.locals := hlocals
  have happ : (headSpec ws rm).appliesLoose y e.platform (U.calling g mk a) = true :=
    Spec.appliesLoose_calling (g := g) h hdg hn hkY hinitY
      (X.room_calling (g := g) (R' := (headSpec ws rm).room) hsize hmY hcY hframes (by rw [hlY]; omega) h4 h5) h1
  obtain ⟨mid, hmid⟩ := h.above
  have hfr : (U.setTop g).frames = (.java g :: mid) ++ below := by rw [State.frames_setTop' g h.top, hmid]; rfl
  obtain ⟨o, s₂, hsteps, -, hend, hq⟩ := Steps.callFree hM p X.admits X.cas X.clock (acts := []) hfr happ hPc trivial
  have hq' : vx_Q Qc XC mc ms free a (U.calling g mk a) o s₂ := hq
  rw [State.frames_setTop' g h.top] at hend
  obtain ⟨g₀, hg0⟩ := Option.isSome_iff_exists.mp h.top
  obtain ⟨r, hr⟩ := State.topJava?_eq_some.mp hg0
  have hr' : (({ U with heap := s₂.heap, slotsUsed := s₂.slotsUsed } : State).setVm s₂.vm).frames = .java g₀ :: r := hr
  rcases hq' with ⟨hqc, L, hfe, hL⟩ | ⟨q, rfl, E, ce, L, hx, hce, hcv, hcl, hW₂, hsm, hL⟩
  · obtain ⟨⟨v, rfl⟩, hW₂, e2, q2, q3, q4, q5, q6⟩ := id hfe
    have e3 : s₂ = ({ (U.calling g mk a).setFrames s₂.frames with heap := s₂.heap, slotsUsed := s₂.slotsUsed } : State).setVm s₂.vm := by
      have : s₂ = ({ s₂ with vm := (U.calling g mk a).vm } : State).setVm s₂.vm := rfl
      rw [e2] at this
      exact this
    obtain ⟨c₂, i₂, len₂, hc₂, hd₂, hf₂⟩ := hend
    have hW' : U.WarmedH s₂.vm := hW₂
    have hcc : c₂ = c := by
      have h1 : s₂.code? g.method = U.code? g.method := by
        rw [State.code?_eq, State.code?_eq, hW'.alike.method?]
      exact Option.some.inj (hc₂.symm.trans (h1.trans h.code))
    subst hcc
    have hlen : len₂ = len := by rw [hdg] at hd₂; cases hd₂; rfl
    subst hlen
    have hs₂ : s₂ = (({ U with heap := s₂.heap, slotsUsed := s₂.slotsUsed } : State).setVm s₂.vm).setTop { g with pc := g.pc + len₂, stack := v.toList ++ g.stack } := by
      refine e3.trans ?_
      rw [hf₂, State.calling_eq h.top, State.setFrames_setFrames, State.setTop_of_frames _ hr', hr]
      rfl
    have hsame : U.sameButNew ({ U with heap := s₂.heap, slotsUsed := s₂.slotsUsed } : State) L mc ms := by
      refine ⟨?_, q2, q3, q4, q5, q6⟩
      obtain ⟨t, ht, -⟩ := State.frames_cons hr
      show ({ U with heap := s₂.heap, slotsUsed := s₂.slotsUsed } : State) = { U.setFrames U.frames with heap := s₂.heap, slotsUsed := s₂.slotsUsed }
      rw [State.setFrames_self ht]
    subst hg
    refine Or.inl ⟨v, ⟨(({ U with heap := s₂.heap, slotsUsed := s₂.slotsUsed } : State).setVm s₂.vm), Ls ++ L, c0 + mc, s0 + ms⟩,
      ⟨X.admits, X.cas, X.clock, X.frames, X.room, X.hears, X.method, X.code, (X.here.setHeapUsed s₂.heap s₂.slotsUsed).setVm hW'.alike, X.tail, State.WarmedH.trans X.warmed hW', X.limits, X.bytes, X.same.trans (hsame.setVm s.vm)⟩,
      ⟨g, mk, s₂, L, rfl, rfl, hqc, rfl, hL, rfl, rfl⟩, ?_⟩
    show Steps p.tables e below _ ((({ U with heap := s₂.heap, slotsUsed := s₂.slotsUsed } : State).setVm s₂.vm).setTop { g with pc := g.pc + len₂, stack := v.toList ++ g.stack })
    rw [← hs₂]
    exact hsteps
  · obtain ⟨e2, q2, q3, q4, q5, q6⟩ := id hsm
    have e3 : s₂ = ({ (U.calling g mk a).setFrames s₂.frames with heap := s₂.heap, slotsUsed := s₂.slotsUsed } : State).setVm s₂.vm := by
      have : s₂ = ({ s₂ with vm := (U.calling g mk a).vm } : State).setVm s₂.vm := rfl
      rw [e2] at this
      exact this
    have hf₂ : s₂.frames = .throwing q :: .java g :: U.frames.tail := hend
    have hW' : U.WarmedH s₂.vm := hW₂
    have hs₂ : s₂ = ((({ U with heap := s₂.heap, slotsUsed := s₂.slotsUsed } : State).setVm s₂.vm).setTop g).pushFrame (.throwing q) := by
      refine e3.trans ?_
      rw [hf₂, State.calling_eq h.top, State.setFrames_setFrames, State.pushFrame, State.frames_setTop _ hr', State.setTop_of_frames _ hr', State.setFrames_setFrames, hr]
      rfl
    have hsame : U.sameButNew ({ U with heap := s₂.heap, slotsUsed := s₂.slotsUsed } : State) L mc ms := by
      refine ⟨?_, q2, q3, q4, q5, q6⟩
      obtain ⟨t, ht, -⟩ := State.frames_cons hr
      show ({ U with heap := s₂.heap, slotsUsed := s₂.slotsUsed } : State) = { U.setFrames U.frames with heap := s₂.heap, slotsUsed := s₂.slotsUsed }
      rw [State.setFrames_self ht]
    subst hg
    refine Or.inr ⟨q, ⟨(({ U with heap := s₂.heap, slotsUsed := s₂.slotsUsed } : State).setVm s₂.vm), Ls ++ L, c0 + mc, s0 + ms⟩,
      ⟨X.admits, X.cas, X.clock, X.frames, X.room, X.hears, X.method, X.code, (X.here.setHeapUsed s₂.heap s₂.slotsUsed).setVm hW'.alike, X.tail, State.WarmedH.trans X.warmed hW', X.limits, X.bytes, X.same.trans (hsame.setVm s.vm)⟩,
      ⟨g, mk, s₂, L, E, ce, rfl, rfl, hx, hce, hcv, hcl, rfl, hL, rfl, rfl⟩, ?_⟩
    show Steps p.tables e below _ (((({ U with heap := s₂.heap, slotsUsed := s₂.slotsUsed } : State).setVm s₂.vm).setTop g).pushFrame (.throwing q))
    rw [← hs₂]
    exact hsteps
end
variable {p : Program} {l : Launch} {e : Env} {R : Room} {s : State} {m : MethodId} {args : Array Value} {below : List Frame} {meth : Method} {c : Code} {T : State} {H : Heap} {locs : List Loc} {cells slots : Nat}
theorem vx_callVX (X : Stand p l e R s m args below meth c T locs cells slots) (hexec : p.tables.exec = Jvm.exec) {own C : String} {index : Nat} {y : MethodName} {bytes : ByteArray} {maxL : Nat} {ret : Option FieldType} {hh : List (Nat × Nat × Nat × Nat)}
    (hown : s.vm.findClass own = some m.cls) (hlink : (Cond.methodLink own index y).before args s = true) (hinst : (Cond.instanceMethod y).before args s = true) (hsel : (Cond.selects C y y).before args s = true)
    (hcode : (Cond.codeWith y bytes maxL ret hh).before args s = true) (hy : y.cls ≠ "java/lang/invoke/MethodHandle" ∧ y.cls ≠ "java/lang/invoke/VarHandle")
    {W9 : Nat} {Pre : Pt → Array Value → Prop} {Post : Pt → Array Value → Option Value → Pt → Prop} {PostX : Pt → Array Value → Addr → Pt → Prop} (hK : vx_Back l R p e below s args y 3 W9 Pre Post PostX)
    {b : Addr} {cellB : Cell} (hcell : T.heap[b]? = some cellB) (hobj : cellB.vm.isStatics = false) (hcls : s.vm.findClass C = some cellB.cls)
    {g : JFrame} (hg : g.method = m) (hsize : g.locals.size = c.maxLocals) {argsL rest : List Value} (hlen : ∀ sig, parseMethodDescriptor y.desc = some sig → argsL.length = sig.parameters.length)
    (hstack : g.stack = argsL.reverse ++ .ref b :: rest) (hW : 2 * g.monitorRoom + (rest.map fun v => v.category).sum ≤ W9) (hdg : decode c.code g.pc = .ok (.invokevirtual index, 3))
    (hpre : ∀ vm₁, s.WarmedH vm₁ → Pre ⟨T.setVm vm₁, locs, cells, slots⟩ (Value.ref b :: argsL).toArray) :
    (∃ (v : Option Value) (vm₁ : Vm) (B : Pt), s.WarmedH vm₁ ∧ Stand p l e R s m args below meth c B.U B.locs B.cells B.slots ∧ Post ⟨T.setVm vm₁, locs, cells, slots⟩ (Value.ref b :: argsL).toArray v B ∧
      ∀ target, Steps p.tables e below (B.U.setTop { g with pc := g.pc + 3, stack := v.toList ++ rest }) target → Steps p.tables e below (T.setTop g) target) ∨
    (∃ (q : Addr) (vm₁ : Vm) (B : Pt), s.WarmedH vm₁ ∧ Stand p l e R s m args below meth c B.U B.locs B.cells B.slots ∧ PostX ⟨T.setVm vm₁, locs, cells, slots⟩ (Value.ref b :: argsL).toArray q B ∧
      Steps p.tables e below (T.setTop g) ((B.U.setTop { g with stack := rest }).pushFrame (.throwing q))) := by
  obtain ⟨mk, methM, hnamed, hmethM, hstM, habM⟩ := Cond.instanceMethod_spec hinst
  obtain ⟨m8, methM', cM, hn8, hmethM', -, -, -, -, -, -, hsigM⟩ := Cond.codeWith_spec hcode
  cases Option.some.inj (hn8.symm.trans hnamed)
  cases hmethM.symm.trans hmethM'
  obtain ⟨c2, r2, m2, q1, q2, q3, q4, kP, hkP, hkPi⟩ := Cond.selects_spec hsel
  cases hcls.symm.trans q1
  cases (State.methodFound?_of_named hnamed hy).symm.trans q2
  cases hnamed.symm.trans q3
  have hselP : selectMethod e.platform s.vm cellB.cls mk = .method mk := by rw [Launch.admits_selectMethod X.admits]; exact q4
  obtain ⟨vm₁, X₁, hstep₁⟩ := X.invokevirtual hexec hown hlink hnamed hmethM hstM hkP hkPi hy (a := b) (cell := cellB) hcell
    (fun z h => by rw [h] at hobj; cases hobj) hselP hmethM habM hkP hkPi (g := g) hg (argsL := argsL) (rest := rest) (hlen _ hsigM) hstack hdg
  rcases hK m meth c ⟨T.setVm vm₁, locs, cells, slots⟩ { g with stack := rest } (.invokevirtual index) mk (Value.ref b :: argsL).toArray X₁ hg hsize hdg hW (X₁.named hnamed) (hpre vm₁ X₁.warmed) with ⟨v, B, X', hpost, hsteps⟩ | ⟨q, B, X', hpost, hsteps⟩
  · exact Or.inl ⟨v, vm₁, B, X₁.warmed, X', hpost, fun target h => hstep₁ _ fun acts => by rw [doInvoke_state]; exact hsteps.trans h⟩
  · exact Or.inr ⟨q, vm₁, B, X₁.warmed, X', hpost, hstep₁ _ fun acts => by rw [doInvoke_state]; exact hsteps⟩
theorem vx_callSX (X : Stand p l e R s m args below meth c T locs cells slots) (hexec : p.tables.exec = Jvm.exec) {own : String} {index : Nat} {y : MethodName} {bytes : ByteArray} {maxL : Nat} {ret : Option FieldType} {hh : List (Nat × Nat × Nat × Nat)}
    (hown : s.vm.findClass own = some m.cls) (hlink : (Cond.methodLink own index y).before args s = true) (hstat : (Cond.static y).before args s = true) (hinit : (Cond.initialized y.cls).before args s = true)
    (hcode : (Cond.codeWith y bytes maxL ret hh).before args s = true) (hy : y.cls ≠ "java/lang/invoke/MethodHandle" ∧ y.cls ≠ "java/lang/invoke/VarHandle")
    {W9 : Nat} {Pre : Pt → Array Value → Prop} {Post : Pt → Array Value → Option Value → Pt → Prop} {PostX : Pt → Array Value → Addr → Pt → Prop} (hK : vx_Back l R p e below s args y 3 W9 Pre Post PostX)
    {g : JFrame} (hg : g.method = m) (hsize : g.locals.size = c.maxLocals) {argsL rest : List Value} (hlen : ∀ sig, parseMethodDescriptor y.desc = some sig → argsL.length = sig.parameters.length)
    (hstack : g.stack = argsL.reverse ++ rest) (hW : 2 * g.monitorRoom + (rest.map fun v => v.category).sum ≤ W9) (hdg : decode c.code g.pc = .ok (.invokestatic index, 3))
    (hpre : ∀ vm₁, s.WarmedH vm₁ → Pre ⟨T.setVm vm₁, locs, cells, slots⟩ argsL.toArray) :
    (∃ (v : Option Value) (vm₁ : Vm) (B : Pt), s.WarmedH vm₁ ∧ Stand p l e R s m args below meth c B.U B.locs B.cells B.slots ∧ Post ⟨T.setVm vm₁, locs, cells, slots⟩ argsL.toArray v B ∧
      ∀ target, Steps p.tables e below (B.U.setTop { g with pc := g.pc + 3, stack := v.toList ++ rest }) target → Steps p.tables e below (T.setTop g) target) ∨
    (∃ (q : Addr) (vm₁ : Vm) (B : Pt), s.WarmedH vm₁ ∧ Stand p l e R s m args below meth c B.U B.locs B.cells B.slots ∧ PostX ⟨T.setVm vm₁, locs, cells, slots⟩ argsL.toArray q B ∧
      Steps p.tables e below (T.setTop g) ((B.U.setTop { g with stack := rest }).pushFrame (.throwing q))) := by
  obtain ⟨mk, methM, cM, hnamed, hmethM, -, -, -, -, -, -, hsigM⟩ := Cond.codeWith_spec hcode
  have hstatic : methM.isStatic = true := Cond.static_spec hnamed hmethM hstat
  obtain ⟨kP, hkP, -⟩ := className_of_methodNamed hnamed
  have hinitP : kP.init = .initialized := Cond.initialized_spec (findClass_of_methodNamed hnamed) hkP hinit
  obtain ⟨vm₁, X₁, hstep₁⟩ := X.invokestatic hexec hown hlink hnamed hmethM hstatic hkP hinitP hy (g := g) hg (argsL := argsL) (rest := rest) (hlen _ hsigM) hstack hdg
  rcases hK m meth c ⟨T.setVm vm₁, locs, cells, slots⟩ { g with stack := rest } (.invokestatic index) mk argsL.toArray X₁ hg hsize hdg hW (X₁.named hnamed) (hpre vm₁ X₁.warmed) with ⟨v, B, X', hpost, hsteps⟩ | ⟨q, B, X', hpost, hsteps⟩
  · exact Or.inl ⟨v, vm₁, B, X₁.warmed, X', hpost, fun target h => hstep₁ _ fun acts => by rw [doInvoke_state]; exact hsteps.trans h⟩
  · exact Or.inr ⟨q, vm₁, B, X₁.warmed, X', hpost, hstep₁ _ fun acts => by rw [doInvoke_state]; exact hsteps⟩
theorem vx_callVW (X : Stand p l e R s m args below meth c T locs cells slots) (hexec : p.tables.exec = Jvm.exec) {own C : String} {index : Nat} {y : MethodName} {bytes : ByteArray} {maxL : Nat} {ret : Option FieldType} {hh : List (Nat × Nat × Nat × Nat)}
    (hown : s.vm.findClass own = some m.cls) (hlink : (Cond.methodLink own index y).before args s = true) (hinst : (Cond.instanceMethod y).before args s = true) (hsel : (Cond.selects C y y).before args s = true)
    (hcode : (Cond.codeWith y bytes maxL ret hh).before args s = true) (hy : y.cls ≠ "java/lang/invoke/MethodHandle" ∧ y.cls ≠ "java/lang/invoke/VarHandle")
    {W9 : Nat} {Pre : Pt → Array Value → Prop} {Post : Pt → Array Value → Option Value → Pt → Prop} (hK : Back l R p e below s args y 3 W9 Pre Post)
    {b : Addr} {cellB : Cell} (hcell : T.heap[b]? = some cellB) (hobj : cellB.vm.isStatics = false) (hcls : s.vm.findClass C = some cellB.cls)
    {g : JFrame} (hg : g.method = m) (hsize : g.locals.size = c.maxLocals) {argsL rest : List Value} (hlen : ∀ sig, parseMethodDescriptor y.desc = some sig → argsL.length = sig.parameters.length)
    (hstack : g.stack = argsL.reverse ++ .ref b :: rest) (hW : 2 * g.monitorRoom + (rest.map fun v => v.category).sum ≤ W9) (hdg : decode c.code g.pc = .ok (.invokevirtual index, 3))
    (hpre : ∀ vm₁, s.WarmedH vm₁ → Pre ⟨T.setVm vm₁, locs, cells, slots⟩ (Value.ref b :: argsL).toArray) :
    ∃ (v : Option Value) (vm₁ : Vm) (B : Pt), s.WarmedH vm₁ ∧ Stand p l e R s m args below meth c B.U B.locs B.cells B.slots ∧ Post ⟨T.setVm vm₁, locs, cells, slots⟩ (Value.ref b :: argsL).toArray v B ∧
      ∀ target, Steps p.tables e below (B.U.setTop { g with pc := g.pc + 3, stack := v.toList ++ rest }) target → Steps p.tables e below (T.setTop g) target := by
  obtain ⟨mk, methM, hnamed, hmethM, hstM, habM⟩ := Cond.instanceMethod_spec hinst
  obtain ⟨m8, methM', cM, hn8, hmethM', -, -, -, -, -, -, hsigM⟩ := Cond.codeWith_spec hcode
  cases Option.some.inj (hn8.symm.trans hnamed)
  cases hmethM.symm.trans hmethM'
  obtain ⟨c2, r2, m2, q1, q2, q3, q4, kP, hkP, hkPi⟩ := Cond.selects_spec hsel
  cases hcls.symm.trans q1
  cases (State.methodFound?_of_named hnamed hy).symm.trans q2
  cases hnamed.symm.trans q3
  have hselP : selectMethod e.platform s.vm cellB.cls mk = .method mk := by rw [Launch.admits_selectMethod X.admits]; exact q4
  obtain ⟨vm₁, X₁, hstep₁⟩ := X.invokevirtual hexec hown hlink hnamed hmethM hstM hkP hkPi hy (a := b) (cell := cellB) hcell
    (fun z h => by rw [h] at hobj; cases hobj) hselP hmethM habM hkP hkPi (g := g) hg (argsL := argsL) (rest := rest) (hlen _ hsigM) hstack hdg
  obtain ⟨v, B, X', hpost, hsteps⟩ := hK m meth c ⟨T.setVm vm₁, locs, cells, slots⟩ { g with stack := rest } (.invokevirtual index) mk (Value.ref b :: argsL).toArray X₁ hg hsize hdg hW (X₁.named hnamed) (hpre vm₁ X₁.warmed)
  exact ⟨v, vm₁, B, X₁.warmed, X', hpost, fun target h => hstep₁ _ fun acts => by rw [doInvoke_state]; exact hsteps.trans h⟩
abbrev vx_CVW (R : Room) (s : State) (args : Array Value) (own C : String) (index : Nat) (y : MethodName) (bytes : ByteArray) (maxL : Nat) (ret : Option FieldType) (hh : List (Nat × Nat × Nat × Nat)) (ws : List Cond) (rm : Room) (mc ms n : Nat) : Prop :=
  (rm.cells = mc ∧ rm.slots = ms ∧ rm.frames + 1 ≤ R.frames ∧ 8 + (maxL + 11) + rm.locals ≤ R.locals ∧ (∀ w ∈ ws, ∀ (a' : Array Value) (U : State), s.WarmedH U.vm → w.before a' U = true) ∧ Cond.codeWith y bytes maxL ret hh ∈ ws) ∧
  (Cond.codeWith y bytes maxL ret hh).before args s = true ∧ (Cond.initialized y.cls).before args s = true ∧ (y.cls ≠ "java/lang/invoke/MethodHandle" ∧ y.cls ≠ "java/lang/invoke/VarHandle") ∧
  (∀ sig, parseMethodDescriptor y.desc = some sig → n = sig.parameters.length) ∧ (Cond.methodLink own index y).before args s = true ∧ (Cond.instanceMethod y).before args s = true ∧ (Cond.selects C y y).before args s = true
theorem vx_cwVW {own C : String} {index maxL mc ms : Nat} {y : MethodName} {bytes : ByteArray} {ret : Option FieldType} {hh : List (Nat × Nat × Nat × Nat)} {Ts ws ws' : List Cond} {rm : Room} (n : Nat) (ht : ∀ w ∈ Ts, w.before args s = true) (hT : GoodIn Ts (wsV own index C y ws)) (hw : ws = Cond.codeWith y bytes maxL ret hh :: ws') (hrc : rm.cells = mc) (hrs : rm.slots = ms)
    (hd : y.cls = C ∧ y.cls ≠ "java/lang/invoke/MethodHandle" ∧ y.cls ≠ "java/lang/invoke/VarHandle" ∧ (parseMethodDescriptor y.desc).map (fun d => d.parameters.length) = some n) (hR : rm.frames + 1 ≤ R.frames ∧ 8 + (maxL + 11) + rm.locals ≤ R.locals) :
    vx_CVW R s args own C index y bytes maxL ret hh ws rm mc ms n := by
  obtain ⟨hC, hd⟩ := hd
  subst hC
  have ok : ∀ w ∈ wsV own index y.cls y ws, w.before args s = true := fun w h => ht w (hT w h).1
  have hG : GoodIn Ts ws := fun w h => hT w (by unfold wsV; exact List.mem_append_right _ h)
  have hc : Cond.codeWith y bytes maxL ret hh ∈ ws := by rw [hw]; exact List.mem_cons_self
  refine ⟨⟨hrc, hrs, hR.1, hR.2, pay_in ht hG, hc⟩, ht _ (hG _ hc).1, ok _ (by simp [wsV]), ⟨hd.1, hd.2.1⟩, fun sig h => ?_, ok _ (by simp [wsV]), ok _ (by simp [wsV]), ok _ (by simp [wsV])⟩
  have h2 := hd.2.2
  rw [h] at h2
  exact (Option.some.inj h2).symm
theorem vx_runVW {y : MethodName} {bytes cc : ByteArray} {maxL nL mc ms n index : Nat} {ret : Option FieldType} {hh : List (Nat × Nat × Nat × Nat)} {ws : List Cond} {rm : Room} {Pc : Array Value → State → Prop} {Qc : Array Value → State → Outcome → State → Prop} {free : Addr → Prop} {Ts : List Cond} {own C : String} {b : Addr} {As rest : List Value} {g : JFrame}
    (S : CallFix p m c cc nL s args Ts own) (hM : Met l y ws rm Pc Qc mc ms free) (cw : vx_CVW R s args own C index y bytes maxL ret hh ws rm mc ms n) (hp : PreV s H C b Pc As)
    (hg : g.method = m) (hn : As.length = n) (hsize : g.locals.size = nL) (hstack : g.stack = As.reverse ++ .ref b :: rest) (hW : 2 * g.monitorRoom + (rest.map fun v => v.category).sum ≤ 8) (hdg : decode cc g.pc = .ok (.invokevirtual index, 3)) (hf : cells + mc ≤ R.cells ∧ slots + ms ≤ R.slots) :
    va_Run p l e R s m args below meth c H locs cells slots mc ms g rest (Qc (Value.ref b :: As).toArray) free := by
  obtain ⟨⟨hrc, hrs, hfr, hlo, hws, hcw⟩, hcode, hini, hy, hlen, hl, hin, hse⟩ := cw
  have hK : Back l R p e below s args y 3 8 (PreOf R mc ms Pc) (PostOf Qc mc ms free) := va_backW (hh := hh) (bytes := bytes) (maxL := maxL) (ret := ret) hM hp.1 hrc hrs hfr hlo hws hcw (fun a' U hW => word_at hW (Or.inl (by first | rfl | simp [Cond.onTables, Cond.keeps, Cond.steady])) hini)
  obtain ⟨hx, hb, hml, ho, -⟩ := S
  obtain ⟨-, ⟨cellB, hcB, hoB, hclB⟩, hPc⟩ := hp
  intro T hT X
  obtain ⟨v, vm₁, ⟨U', l2, c2, s2⟩, hW₁, X', ⟨g', mk, t, L, e1, e2, hq, h1, hL, h2, h3⟩, st⟩ := vx_callVW X hx (C := C) (hh := hh) (bytes := bytes) (maxL := maxL) (ret := ret) ho hl hin hse hcode hy hK (by rw [hT]; exact hcB) hoB hclB hg (hsize.trans hml.symm) (argsL := As) (rest := rest) (fun sig h => hn.trans (hlen sig h)) hstack hW (by rw [hb]; exact hdg)
    (fun vm₁ hW₁ => ⟨hf.1, hf.2, hPc (T.setVm vm₁) hT hW₁⟩)
  dsimp only [Pt.U, Pt.locs, Pt.cells, Pt.slots] at X' e1 e2 h1 h2 h3 st
  subst h1; subst h2; subst h3
  exact ⟨v, (T.setVm vm₁).calling g' mk (Value.ref b :: As).toArray, t, U', L, hT, X', hL, e1, e2, hq, st⟩
section
variable {y : MethodName} {bytes cc : ByteArray} {maxL nL mc ms n index : Nat} {ret : Option FieldType} {ws : List Cond} {rm : Room} {Pc : Array Value → State → Prop} {Qc : Array Value → State → Outcome → State → Prop} {XC : String → State → State → Prop} {free : Addr → Prop} {Ts : List Cond} {own C : String} {b : Addr} {As rest : List Value} {g : JFrame}
theorem vx_runVX {hh : List (Nat × Nat × Nat × Nat)} (S : CallFix p m c cc nL s args Ts own) (hM : vx_Met l y ws rm Pc Qc XC mc ms free) (cw : vx_CVW R s args own C index y bytes maxL ret hh ws rm mc ms n) (hp : PreV s H C b Pc As)
    (hg : g.method = m) (hn : As.length = n) (hsize : g.locals.size = nL) (hstack : g.stack = As.reverse ++ .ref b :: rest) (hW : 2 * g.monitorRoom + (rest.map fun v => v.category).sum ≤ 8) (hdg : decode cc g.pc = .ok (.invokevirtual index, 3)) (hf : cells + mc ≤ R.cells ∧ slots + ms ≤ R.slots) :
    vx_Run p l e R s m args below meth c H locs cells slots mc ms g rest (Qc (Value.ref b :: As).toArray) XC free := by
  obtain ⟨⟨hrc, hrs, hfr, hlo, hws, hcw⟩, hcode, hini, hy, hlen, hl, hin, hse⟩ := cw
  have hK : vx_Back l R p e below s args y 3 8 (PreOf R mc ms Pc) (PostOf Qc mc ms free) (vx_Post XC mc ms free) := vx_backW (hh := hh) (bytes := bytes) (maxL := maxL) (ret := ret) hM hp.1 hrc hrs hfr hlo hws hcw (fun a' U hW => word_at hW (Or.inl (by first | rfl | simp [Cond.onTables, Cond.keeps, Cond.steady])) hini)
  obtain ⟨hx, hb, hml, ho, -⟩ := S
  obtain ⟨-, ⟨cellB, hcB, hoB, hclB⟩, hPc⟩ := hp
  intro T hT X
  rcases vx_callVX X hx (C := C) (hh := hh) (bytes := bytes) (maxL := maxL) (ret := ret) ho hl hin hse hcode hy hK (by rw [hT]; exact hcB) hoB hclB hg (hsize.trans hml.symm) (argsL := As) (rest := rest) (fun sig h => hn.trans (hlen sig h)) hstack hW (by rw [hb]; exact hdg)
    (fun vm₁ hW₁ => ⟨hf.1, hf.2, hPc (T.setVm vm₁) hT hW₁⟩) with ⟨v, vm₁, ⟨U', l2, c2, s2⟩, hW₁, X', ⟨g', mk, t, L, e1, e2, hq, h1, hL, h2, h3⟩, st⟩ | ⟨q, vm₁, ⟨U', l2, c2, s2⟩, hW₁, X', ⟨g', mk, t, L, E, ce, e1, e2, hq, hce, hcv, hcl, h1, hL, h2, h3⟩, st⟩
  · dsimp only [Pt.U, Pt.locs, Pt.cells, Pt.slots] at X' e1 e2 h1 h2 h3 st
    subst h1; subst h2; subst h3
    exact Or.inl ⟨v, (T.setVm vm₁).calling g' mk (Value.ref b :: As).toArray, t, U', L, hT, X', hL, e1, e2, hq, st⟩
  · dsimp only [Pt.U, Pt.locs, Pt.cells, Pt.slots] at X' e1 e2 h1 h2 h3 st hcl
    subst h1; subst h2; subst h3
    exact Or.inr ⟨q, (T.setVm vm₁).calling g' mk (Value.ref b :: As).toArray, t, U', L, E, ce, hT, X', hL, e1, e2, hq, hce, hcv, vx_cls hW₁ hcl, st⟩
theorem vx_runSX {hh : List (Nat × Nat × Nat × Nat)} (S : CallFix p m c cc nL s args Ts own) (hM : vx_Met l y ws rm Pc Qc XC mc ms free) (cw : vx_CSW R s args own index y bytes maxL ret hh ws rm mc ms n) (hp : PreS s H Pc As)
    (hg : g.method = m) (hn : As.length = n) (hsize : g.locals.size = nL) (hstack : g.stack = As.reverse ++ rest) (hW : 2 * g.monitorRoom + (rest.map fun v => v.category).sum ≤ 8) (hdg : decode cc g.pc = .ok (.invokestatic index, 3)) (hf : cells + mc ≤ R.cells ∧ slots + ms ≤ R.slots) :
    vx_Run p l e R s m args below meth c H locs cells slots mc ms g rest (Qc As.toArray) XC free := by
  obtain ⟨⟨hrc, hrs, hfr, hlo, hws, hcw⟩, hcode, hini, hy, hlen, hl, hstt⟩ := cw
  have hK : vx_Back l R p e below s args y 3 8 (PreOf R mc ms Pc) (PostOf Qc mc ms free) (vx_Post XC mc ms free) := vx_backW (hh := hh) (bytes := bytes) (maxL := maxL) (ret := ret) hM hp.1 hrc hrs hfr hlo hws hcw (fun a' U hW => word_at hW (Or.inl (by first | rfl | simp [Cond.onTables, Cond.keeps, Cond.steady])) hini)
  obtain ⟨hx, hb, hml, ho, -⟩ := S
  intro T hT X
  rcases vx_callSX X hx (hh := hh) (bytes := bytes) (maxL := maxL) (ret := ret) ho hl hstt hini hcode hy hK hg (hsize.trans hml.symm) (argsL := As) (rest := rest) (fun sig h => hn.trans (hlen sig h)) hstack hW (by rw [hb]; exact hdg)
    (fun vm₁ hW₁ => ⟨hf.1, hf.2, hp.2 (T.setVm vm₁) hT hW₁⟩) with ⟨v, vm₁, ⟨U', l2, c2, s2⟩, hW₁, X', ⟨g', mk, t, L, e1, e2, hq, h1, hL, h2, h3⟩, st⟩ | ⟨q, vm₁, ⟨U', l2, c2, s2⟩, hW₁, X', ⟨g', mk, t, L, E, ce, e1, e2, hq, hce, hcv, hcl, h1, hL, h2, h3⟩, st⟩
  · dsimp only [Pt.U, Pt.locs, Pt.cells, Pt.slots] at X' e1 e2 h1 h2 h3 st
    subst h1; subst h2; subst h3
    exact Or.inl ⟨v, (T.setVm vm₁).calling g' mk As.toArray, t, U', L, hT, X', hL, e1, e2, hq, st⟩
  · dsimp only [Pt.U, Pt.locs, Pt.cells, Pt.slots] at X' e1 e2 h1 h2 h3 st hcl
    subst h1; subst h2; subst h3
    exact Or.inr ⟨q, (T.setVm vm₁).calling g' mk As.toArray, t, U', L, E, ce, hT, X', hL, e1, e2, hq, hce, hcv, vx_cls hW₁ hcl, st⟩
end
end VXH
theorem vx_ofWH {l : Launch} {y : MethodName} {ws ws' : List Cond} {rm : Room} {Pc : Array Value → State → Prop} {Qc : Array Value → State → Outcome → State → Prop} {XC : String → State → State → Prop} {mc ms : Nat} {free : Addr → Prop} {cc : ByteArray} {maxL : Nat} {ret : Option FieldType} {hh : List (Nat × Nat × Nat × Nat)}
    (hy : plainName y.cls = true) (hw : ws = Cond.codeWith y cc maxL ret hh :: ws')
    (body : ∀ p e s m args below meth c s₁, BodyLoose p l y (headSpec ws rm) cc maxL ret e s m args below meth c s₁ → c.maxLocals = maxL → Pc args s →
      W p l e (headSpec ws rm).room s m args below meth c s.heap [] 0 0 (vx_MQ below Qc XC args s mc ms free) (entryFrame m args maxL)) : vx_Met l y ws rm Pc Qc XC mc ms free := by
  refine MetFree.of_bodyS (code := cc) (maxLocals := maxL) (ret := ret) hy ?_ ?_
  · intro args s m h hn
    obtain ⟨m9, meth, c, hn9, h1, h2, h3, h4, -, h5, h6, -⟩ := Cond.codeWith_spec (atoms_spec (ws := ws) h _ (by rw [hw]; exact List.mem_cons_self))
    cases hn.symm.trans hn9
    exact ⟨meth, c, h1, h2, h3, h4, h5, h6⟩
  · intro p e s m args below meth c s₁ B hml hP _
    have hh0 : s₁.heap = s.heap := by rw [B.state]; rfl
    obtain ⟨t, a1, o, b1, b2, b3⟩ := body p e s m args below meth c s₁ B hml hP s₁ hh0 (Stand.of_body B)
    exact ⟨t, o, a1, b1, b2, b3⟩
/-! ===== END ===== -/
end
section
/-- the words of the tables that every method may have -/
def gw : List Cond := lw_tbl.filter goodWord
theorem gw_t {w : Cond} {i : Nat} (h : tables_1[i]? = some w) (hg : goodWord w = true) : w ∈ gw := List.mem_filter.mpr ⟨List.mem_append_right _ (List.mem_of_getElem? h), hg⟩
theorem gw_s {w : Cond} (h : w ∈ k2_sels lw_privs) (hg : goodWord w = true) : w ∈ gw := List.mem_filter.mpr ⟨List.mem_append_left _ h, hg⟩
theorem gw_ok {w : Cond} (h : w ∈ gw) : w ∈ gw ∧ ((w.onTables && w.keeps) = true ∨ ∃ ty, w = .arrayClass ty) := ⟨h, good_of_word (List.mem_filter.mp h).2⟩
theorem gi_V {own C : String} {idx : Nat} {y : MethodName} {c9 : Cond} (m1 : Cond.methodLink own idx y ∈ gw) (m2 : Cond.instanceMethod y ∈ gw) (m3 : Cond.selects C y y ∈ gw) (m4 : Cond.initialized C ∈ gw) (m5 : c9 ∈ gw) : GoodIn gw (wsV own idx C y (c9 :: gw)) := by
  intro w hw
  apply gw_ok
  unfold wsV at hw
  rcases List.mem_append.mp hw with h | h
  · rcases List.mem_cons.mp h with rfl | h
    · exact m1
    · rcases List.mem_cons.mp h with rfl | h
      · exact m2
      · rcases List.mem_cons.mp h with rfl | h
        · exact m3
        · rcases List.mem_cons.mp h with rfl | h
          · exact m4
          · cases h
  · rcases List.mem_cons.mp h with rfl | h
    · exact m5
    · exact h
theorem gi_S {own : String} {idx : Nat} {y : MethodName} {c9 : Cond} (m1 : Cond.methodLink own idx y ∈ gw) (m2 : Cond.static y ∈ gw) (m4 : Cond.initialized y.cls ∈ gw) (m5 : c9 ∈ gw) : GoodIn gw (va_wsS own idx y (c9 :: gw)) := by
  intro w hw
  apply gw_ok
  unfold va_wsS at hw
  rcases List.mem_append.mp hw with h | h
  · rcases List.mem_cons.mp h with rfl | h
    · exact m1
    · rcases List.mem_cons.mp h with rfl | h
      · exact m2
      · rcases List.mem_cons.mp h with rfl | h
        · exact m4
        · cases h
  · rcases List.mem_cons.mp h with rfl | h
    · exact m5
    · exact h
theorem gi_I {c9 : Cond} (m5 : c9 ∈ gw) : GoodIn gw (c9 :: gw) := by
  intro w hw
  apply gw_ok
  rcases List.mem_cons.mp hw with rfl | h
  · exact m5
  · exact h
abbrev RX0 : String := "StageLayer"
def TX0 : u_T := fun k => match k with
  | 0 => ("StageLayer", "readsOf", "[J", true)
  | 1 => ("StageLayer", "writesOf", "[J", true)
  | 2 => ("StageLayer", "arrayOf", "[I", true)
  | 3 => ("StageLayer", "ifAround", "[I", true)
  | 4 => ("StageLayer", "memoryOf", "[I", true)
  | 5 => ("StageLayer", "wiresOf", "[I", true)
  | 6 => ("StageLayer", "stageOf", "[I", true)
  | 7 => ("StageLayer", "openIfs", "[I", true)
  | 8 => ("StageLayer", "stepsIn", "[I", true)
  | 9 => ("StageLayer", "memoryIn", "[I", true)
  | 10 => ("StageLayer", "wiresIn", "[I", true)
  | 11 => ("StageLayer", "steps", "I", false)
  | 12 => ("StageLayer", "tables", "I", false)
  | 13 => ("StageLayer", "ifsOpen", "I", false)
  | 14 => ("StageLayer", "placesRead", "I", false)
  | 15 => ("StageLayer", "stagesLaid", "I", false)
  | _ => ("StageLayer", "homelessStep", "I", false)
def tyX0 : Nat → FieldType := fun k => match k with
  | 0 => .array .long
  | 1 => .array .long
  | 2 => .array .int
  | 3 => .array .int
  | 4 => .array .int
  | 5 => .array .int
  | 6 => .array .int
  | 7 => .array .int
  | 8 => .array .int
  | 9 => .array .int
  | 10 => .array .int
  | 11 => .int
  | 12 => .int
  | 13 => .int
  | 14 => .int
  | 15 => .int
  | _ => .int
theorem nmX0 : ∀ a, a < 17 → ∀ b, b < 17 → a ≠ b → (TX0 a).2.1 ≠ (TX0 b).2.1 := by decide +kernel
theorem tyX0_ok : ∀ k, k < 17 → parseFieldDescriptor (TX0 k).2.2.1 = some (tyX0 k) := by decide +kernel
set_option maxRecDepth 20000 in
theorem inX0 : ∀ w ∈ u_ws RX0 TX0 17, w ∈ gw := by decide +kernel
abbrev RX1 : String := "StageLayerModel"
def TX1 : u_T := fun k => match k with
  | 0 => ("StageLayerModel", "thrown", "I", false)
  | 1 => ("StageLayerModel", "steps", "I", false)
  | 2 => ("StageLayerModel", "readings", "I", false)
  | 3 => ("StageLayerModel", "tables", "I", false)
  | 4 => ("StageLayerModel", "opened", "I", false)
  | 5 => ("StageLayerModel", "reads", "[Z", true)
  | 6 => ("StageLayerModel", "writes", "[Z", true)
  | 7 => ("StageLayerModel", "arrays", "[I", true)
  | 8 => ("StageLayerModel", "memories", "[I", true)
  | 9 => ("StageLayerModel", "wires", "[I", true)
  | 10 => ("StageLayerModel", "isIf", "[Z", true)
  | 11 => ("StageLayerModel", "within", "[I", true)
  | 12 => ("StageLayerModel", "inner", "I", false)
  | 13 => ("StageLayerModel", "stages", "[I", true)
  | 14 => ("StageLayerModel", "laid", "Z", false)
  | 15 => ("StageLayerModel", "taken", "I", false)
  | _ => ("StageLayerModel", "homeless", "I", false)
def tyX1 : Nat → FieldType := fun k => match k with
  | 0 => .int
  | 1 => .int
  | 2 => .int
  | 3 => .int
  | 4 => .int
  | 5 => .array .boolean
  | 6 => .array .boolean
  | 7 => .array .int
  | 8 => .array .int
  | 9 => .array .int
  | 10 => .array .boolean
  | 11 => .array .int
  | 12 => .int
  | 13 => .array .int
  | 14 => .boolean
  | 15 => .int
  | _ => .int
theorem nmX1 : ∀ a, a < 17 → ∀ b, b < 17 → a ≠ b → (TX1 a).2.1 ≠ (TX1 b).2.1 := by decide +kernel
theorem tyX1_ok : ∀ k, k < 17 → parseFieldDescriptor (TX1 k).2.2.1 = some (tyX1 k) := by decide +kernel
set_option maxRecDepth 20000 in
theorem inX1 : ∀ w ∈ u_ws RX1 TX1 17, w ∈ gw := by decide +kernel
abbrev RL : String := "StageLayerLaw"
abbrev RJ6 : String := "java/lang/Integer"
abbrev vwCl : List vw_C := [(RX0, TX0, 17), (RX1, TX1, 17)]
theorem w_0 : (Cond.initialized "StageLayerLaw") ∈ gw := gw_t (i := 0) (by decide +kernel) (by decide +kernel)
theorem w_1 : (Cond.initialized "StageLayer") ∈ gw := gw_t (i := 1) (by decide +kernel) (by decide +kernel)
theorem w_2 : (Cond.initialized "StageLayerModel") ∈ gw := gw_t (i := 2) (by decide +kernel) (by decide +kernel)
theorem w_3 : (Cond.initialized "java/lang/Throwable") ∈ gw := gw_t (i := 3) (by decide +kernel) (by decide +kernel)
theorem w_4 : (Cond.initialized "java/lang/Exception") ∈ gw := gw_t (i := 4) (by decide +kernel) (by decide +kernel)
theorem w_5 : (Cond.initialized "java/lang/RuntimeException") ∈ gw := gw_t (i := 5) (by decide +kernel) (by decide +kernel)
theorem w_6 : (Cond.initialized "java/lang/IndexOutOfBoundsException") ∈ gw := gw_t (i := 6) (by decide +kernel) (by decide +kernel)
theorem w_7 : (Cond.initialized "java/lang/Integer") ∈ gw := gw_t (i := 7) (by decide +kernel) (by decide +kernel)
theorem w_8 : (Cond.initialized "java/lang/Math") ∈ gw := gw_t (i := 8) (by decide +kernel) (by decide +kernel)
theorem w_9 : (Cond.initialized "java/lang/IllegalStateException") ∈ gw := gw_t (i := 9) (by decide +kernel) (by decide +kernel)
theorem w_10 : (Cond.initialized "java/lang/IllegalArgumentException") ∈ gw := gw_t (i := 10) (by decide +kernel) (by decide +kernel)
theorem w_11 : (Cond.classLink "StageLayerLaw" 8 "StageLayer") ∈ gw := gw_t (i := 11) (by decide +kernel) (by decide +kernel)
theorem w_12 : (Cond.instantiable "StageLayer" 17) ∈ gw := gw_t (i := 12) (by decide +kernel) (by decide +kernel)
theorem w_13 : (Cond.methodLink "StageLayerLaw" 47 ⟨"StageLayer", "<init>", "()V"⟩) ∈ gw := gw_t (i := 13) (by decide +kernel) (by decide +kernel)
theorem w_14 : (Cond.instanceMethod ⟨"StageLayer", "<init>", "()V"⟩) ∈ gw := gw_t (i := 14) (by decide +kernel) (by decide +kernel)
theorem w_15 : (Cond.code ⟨"StageLayer", "<init>", "()V"⟩ prog_1_method_1_code 1 none) ∈ gw := gw_t (i := 15) (by decide +kernel) (by decide +kernel)
theorem w_16 : (Cond.methodLink "StageLayer" 3 ⟨"java/lang/Object", "<init>", "()V"⟩) ∈ gw := gw_t (i := 16) (by decide +kernel) (by decide +kernel)
theorem w_17 : (Cond.instanceMethod ⟨"java/lang/Object", "<init>", "()V"⟩) ∈ gw := gw_t (i := 17) (by decide +kernel) (by decide +kernel)
theorem w_18 : (Cond.code ⟨"java/lang/Object", "<init>", "()V"⟩ object_method_1_code 1 none) ∈ gw := gw_t (i := 18) (by decide +kernel) (by decide +kernel)
theorem w_19 : (Cond.fieldLink "StageLayer" 9 "StageLayer" "readsOf" "[J") ∈ gw := gw_t (i := 19) (by decide +kernel) (by decide +kernel)
theorem w_20 : (Cond.fieldLink "StageLayer" 13 "StageLayer" "writesOf" "[J") ∈ gw := gw_t (i := 20) (by decide +kernel) (by decide +kernel)
theorem w_21 : (Cond.fieldLink "StageLayer" 16 "StageLayer" "arrayOf" "[I") ∈ gw := gw_t (i := 21) (by decide +kernel) (by decide +kernel)
theorem w_22 : (Cond.fieldLink "StageLayer" 20 "StageLayer" "ifAround" "[I") ∈ gw := gw_t (i := 22) (by decide +kernel) (by decide +kernel)
theorem w_23 : (Cond.fieldLink "StageLayer" 23 "StageLayer" "memoryOf" "[I") ∈ gw := gw_t (i := 23) (by decide +kernel) (by decide +kernel)
theorem w_24 : (Cond.fieldLink "StageLayer" 26 "StageLayer" "wiresOf" "[I") ∈ gw := gw_t (i := 24) (by decide +kernel) (by decide +kernel)
theorem w_25 : (Cond.fieldLink "StageLayer" 29 "StageLayer" "stageOf" "[I") ∈ gw := gw_t (i := 25) (by decide +kernel) (by decide +kernel)
theorem w_26 : (Cond.fieldLink "StageLayer" 32 "StageLayer" "openIfs" "[I") ∈ gw := gw_t (i := 26) (by decide +kernel) (by decide +kernel)
theorem w_27 : (Cond.fieldLink "StageLayer" 35 "StageLayer" "stepsIn" "[I") ∈ gw := gw_t (i := 27) (by decide +kernel) (by decide +kernel)
theorem w_28 : (Cond.fieldLink "StageLayer" 38 "StageLayer" "memoryIn" "[I") ∈ gw := gw_t (i := 28) (by decide +kernel) (by decide +kernel)
theorem w_29 : (Cond.fieldLink "StageLayer" 41 "StageLayer" "wiresIn" "[I") ∈ gw := gw_t (i := 29) (by decide +kernel) (by decide +kernel)
theorem w_30 : (Cond.fieldLink "StageLayer" 48 "StageLayer" "steps" "I") ∈ gw := gw_t (i := 30) (by decide +kernel) (by decide +kernel)
theorem w_31 : (Cond.fieldLink "StageLayer" 51 "StageLayer" "tables" "I") ∈ gw := gw_t (i := 31) (by decide +kernel) (by decide +kernel)
theorem w_32 : (Cond.fieldLink "StageLayer" 54 "StageLayer" "ifsOpen" "I") ∈ gw := gw_t (i := 32) (by decide +kernel) (by decide +kernel)
theorem w_33 : (Cond.fieldLink "StageLayer" 57 "StageLayer" "placesRead" "I") ∈ gw := gw_t (i := 33) (by decide +kernel) (by decide +kernel)
theorem w_34 : (Cond.fieldLink "StageLayer" 147 "StageLayer" "stagesLaid" "I") ∈ gw := gw_t (i := 34) (by decide +kernel) (by decide +kernel)
theorem w_35 : (Cond.fieldLink "StageLayer" 44 "StageLayer" "homelessStep" "I") ∈ gw := gw_t (i := 35) (by decide +kernel) (by decide +kernel)
theorem w_71 : (Cond.arrayClass .long) ∈ gw := gw_t (i := 71) (by decide +kernel) (by decide +kernel)
theorem w_72 : (Cond.arrayClass .int) ∈ gw := gw_t (i := 72) (by decide +kernel) (by decide +kernel)
theorem w_73 : (Cond.methodLink "StageLayerLaw" 51 ⟨"StageLayer", "clear", "()V"⟩) ∈ gw := gw_t (i := 73) (by decide +kernel) (by decide +kernel)
theorem w_74 : (Cond.instanceMethod ⟨"StageLayer", "clear", "()V"⟩) ∈ gw := gw_t (i := 74) (by decide +kernel) (by decide +kernel)
theorem w_75 : (Cond.selects "StageLayer" ⟨"StageLayer", "clear", "()V"⟩ ⟨"StageLayer", "clear", "()V"⟩) ∈ gw := gw_t (i := 75) (by decide +kernel) (by decide +kernel)
theorem w_76 : (Cond.code ⟨"StageLayer", "clear", "()V"⟩ prog_1_method_2_code 1 none) ∈ gw := gw_t (i := 76) (by decide +kernel) (by decide +kernel)
theorem w_77 : (Cond.methodLink "StageLayer" 60 ⟨"StageLayer", "forgetStages", "()V"⟩) ∈ gw := gw_t (i := 77) (by decide +kernel) (by decide +kernel)
theorem w_79 : (Cond.instanceMethod ⟨"StageLayer", "forgetStages", "()V"⟩) ∈ gw := gw_t (i := 79) (by decide +kernel) (by decide +kernel)
theorem w_80 : (Cond.code ⟨"StageLayer", "forgetStages", "()V"⟩ prog_1_method_26_code 1 none) ∈ gw := gw_t (i := 80) (by decide +kernel) (by decide +kernel)
theorem w_81 : (Cond.methodLink "StageLayerLaw" 92 ⟨"StageLayer", "homeless", "()I"⟩) ∈ gw := gw_t (i := 81) (by decide +kernel) (by decide +kernel)
theorem w_82 : (Cond.instanceMethod ⟨"StageLayer", "homeless", "()I"⟩) ∈ gw := gw_t (i := 82) (by decide +kernel) (by decide +kernel)
theorem w_83 : (Cond.selects "StageLayer" ⟨"StageLayer", "homeless", "()I"⟩ ⟨"StageLayer", "homeless", "()I"⟩) ∈ gw := gw_t (i := 83) (by decide +kernel) (by decide +kernel)
theorem w_84 : (Cond.code ⟨"StageLayer", "homeless", "()I"⟩ prog_1_method_12_code 1 (some .int)) ∈ gw := gw_t (i := 84) (by decide +kernel) (by decide +kernel)
theorem w_85 : (Cond.methodLink "StageLayerLaw" 96 ⟨"StageLayer", "stage", "(I)I"⟩) ∈ gw := gw_t (i := 85) (by decide +kernel) (by decide +kernel)
theorem w_86 : (Cond.instanceMethod ⟨"StageLayer", "stage", "(I)I"⟩) ∈ gw := gw_t (i := 86) (by decide +kernel) (by decide +kernel)
theorem w_87 : (Cond.selects "StageLayer" ⟨"StageLayer", "stage", "(I)I"⟩ ⟨"StageLayer", "stage", "(I)I"⟩) ∈ gw := gw_t (i := 87) (by decide +kernel) (by decide +kernel)
theorem w_88 : (Cond.code ⟨"StageLayer", "stage", "(I)I"⟩ prog_1_method_13_code 2 (some .int)) ∈ gw := gw_t (i := 88) (by decide +kernel) (by decide +kernel)
theorem w_89 : (Cond.methodLink "StageLayerLaw" 100 ⟨"StageLayer", "used", "(II)I"⟩) ∈ gw := gw_t (i := 89) (by decide +kernel) (by decide +kernel)
theorem w_90 : (Cond.instanceMethod ⟨"StageLayer", "used", "(II)I"⟩) ∈ gw := gw_t (i := 90) (by decide +kernel) (by decide +kernel)
theorem w_91 : (Cond.selects "StageLayer" ⟨"StageLayer", "used", "(II)I"⟩ ⟨"StageLayer", "used", "(II)I"⟩) ∈ gw := gw_t (i := 91) (by decide +kernel) (by decide +kernel)
theorem w_92 : (Cond.code ⟨"StageLayer", "used", "(II)I"⟩ prog_1_method_14_code 3 (some .int)) ∈ gw := gw_t (i := 92) (by decide +kernel) (by decide +kernel)
theorem w_93 : (Cond.methodLink "StageLayerLaw" 104 ⟨"StageLayer", "count", "(I)I"⟩) ∈ gw := gw_t (i := 93) (by decide +kernel) (by decide +kernel)
theorem w_94 : (Cond.instanceMethod ⟨"StageLayer", "count", "(I)I"⟩) ∈ gw := gw_t (i := 94) (by decide +kernel) (by decide +kernel)
theorem w_95 : (Cond.selects "StageLayer" ⟨"StageLayer", "count", "(I)I"⟩ ⟨"StageLayer", "count", "(I)I"⟩) ∈ gw := gw_t (i := 95) (by decide +kernel) (by decide +kernel)
theorem w_96 : (Cond.code ⟨"StageLayer", "count", "(I)I"⟩ prog_1_method_15_code 2 (some .int)) ∈ gw := gw_t (i := 96) (by decide +kernel) (by decide +kernel)
theorem w_97 : (Cond.methodLink "StageLayerLaw" 55 ⟨"StageLayerLaw", "assign", "(LStageLayer;II[J)I"⟩) ∈ gw := gw_t (i := 97) (by decide +kernel) (by decide +kernel)
theorem w_98 : (Cond.static ⟨"StageLayerLaw", "assign", "(LStageLayer;II[J)I"⟩) ∈ gw := gw_t (i := 98) (by decide +kernel) (by decide +kernel)
theorem w_99 : (Cond.codeWith ⟨"StageLayerLaw", "assign", "(LStageLayer;II[J)I"⟩ method_3_code 5 (some .int) [(0, 10, 13, 13), (0, 10, 17, 15)]) ∈ gw := gw_t (i := 99) (by decide +kernel) (by decide +kernel)
theorem w_100 : (Cond.classLink "StageLayerLaw" 13 "java/lang/IndexOutOfBoundsException") ∈ gw := gw_t (i := 100) (by decide +kernel) (by decide +kernel)
theorem w_101 : (Cond.classLink "StageLayerLaw" 15 "java/lang/IllegalStateException") ∈ gw := gw_t (i := 101) (by decide +kernel) (by decide +kernel)
theorem w_102 : (Cond.methodLink "StageLayerLaw" 7 ⟨"StageLayer", "assign", "(II)I"⟩) ∈ gw := gw_t (i := 102) (by decide +kernel) (by decide +kernel)
theorem w_103 : (Cond.instanceMethod ⟨"StageLayer", "assign", "(II)I"⟩) ∈ gw := gw_t (i := 103) (by decide +kernel) (by decide +kernel)
theorem w_104 : (Cond.selects "StageLayer" ⟨"StageLayer", "assign", "(II)I"⟩ ⟨"StageLayer", "assign", "(II)I"⟩) ∈ gw := gw_t (i := 104) (by decide +kernel) (by decide +kernel)
theorem w_105 : (Cond.code ⟨"StageLayer", "assign", "(II)I"⟩ prog_1_method_3_code 3 (some .int)) ∈ gw := gw_t (i := 105) (by decide +kernel) (by decide +kernel)
theorem w_106 : (Cond.methodLink "StageLayer" 63 ⟨"StageLayer", "requirePlace", "(I)V"⟩) ∈ gw := gw_t (i := 106) (by decide +kernel) (by decide +kernel)
theorem w_107 : (Cond.static ⟨"StageLayer", "requirePlace", "(I)V"⟩) ∈ gw := gw_t (i := 107) (by decide +kernel) (by decide +kernel)
theorem w_108 : (Cond.code ⟨"StageLayer", "requirePlace", "(I)V"⟩ prog_1_method_16_code 1 none) ∈ gw := gw_t (i := 108) (by decide +kernel) (by decide +kernel)
theorem w_109 : (Cond.classLink "StageLayer" 89 "java/lang/IndexOutOfBoundsException") ∈ gw := gw_t (i := 109) (by decide +kernel) (by decide +kernel)
theorem w_110 : (Cond.instantiable "java/lang/IndexOutOfBoundsException" 6) ∈ gw := gw_t (i := 110) (by decide +kernel) (by decide +kernel)
theorem w_118 : (Cond.selects "java/lang/IndexOutOfBoundsException" ⟨"java/lang/Throwable", "fillInStackTrace", "(I)Ljava/lang/Throwable;"⟩ ⟨"java/lang/Throwable", "fillInStackTrace", "(I)Ljava/lang/Throwable;"⟩) ∈ gw := gw_t (i := 118) (by decide +kernel) (by decide +kernel)
theorem w_119 : (Cond.selects "java/lang/IndexOutOfBoundsException" ⟨"java/lang/Throwable", "fillInStackTrace", "()Ljava/lang/Throwable;"⟩ ⟨"java/lang/Throwable", "fillInStackTrace", "()Ljava/lang/Throwable;"⟩) ∈ gw := gw_t (i := 119) (by decide +kernel) (by decide +kernel)
theorem w_130 : (Cond.fieldLink "java/lang/Throwable" 198 "java/lang/Throwable" "backtrace" "Ljava/lang/Object;") ∈ gw := gw_t (i := 130) (by decide +kernel) (by decide +kernel)
theorem w_132 : (Cond.instanceMethod ⟨"java/lang/Throwable", "<init>", "()V"⟩) ∈ gw := gw_t (i := 132) (by decide +kernel) (by decide +kernel)
theorem w_133 : (Cond.code ⟨"java/lang/Throwable", "<init>", "()V"⟩ prog_12_method_1_code 1 none) ∈ gw := gw_t (i := 133) (by decide +kernel) (by decide +kernel)
theorem w_134 : (Cond.methodLink "java/lang/Throwable" 1 ⟨"java/lang/Object", "<init>", "()V"⟩) ∈ gw := gw_t (i := 134) (by decide +kernel) (by decide +kernel)
theorem w_135 : (Cond.fieldLink "java/lang/Throwable" 13 "java/lang/Throwable" "UNASSIGNED_STACK" "[Ljava/lang/StackTraceElement;") ∈ gw := gw_t (i := 135) (by decide +kernel) (by decide +kernel)
theorem w_137 : (Cond.fieldLink "java/lang/Throwable" 20 "java/lang/Throwable" "SUPPRESSED_SENTINEL" "Ljava/util/List;") ∈ gw := gw_t (i := 137) (by decide +kernel) (by decide +kernel)
theorem w_139 : (Cond.methodLink "java/lang/Throwable" 27 ⟨"java/lang/Throwable", "fillInStackTrace", "()Ljava/lang/Throwable;"⟩) ∈ gw := gw_t (i := 139) (by decide +kernel) (by decide +kernel)
theorem w_140 : (Cond.instanceMethod ⟨"java/lang/Throwable", "fillInStackTrace", "()Ljava/lang/Throwable;"⟩) ∈ gw := gw_t (i := 140) (by decide +kernel) (by decide +kernel)
theorem w_142 : (Cond.selects "java/lang/IllegalArgumentException" ⟨"java/lang/Throwable", "fillInStackTrace", "()Ljava/lang/Throwable;"⟩ ⟨"java/lang/Throwable", "fillInStackTrace", "()Ljava/lang/Throwable;"⟩) ∈ gw := gw_t (i := 142) (by decide +kernel) (by decide +kernel)
theorem w_143 : (Cond.selects "java/lang/IllegalStateException" ⟨"java/lang/Throwable", "fillInStackTrace", "()Ljava/lang/Throwable;"⟩ ⟨"java/lang/Throwable", "fillInStackTrace", "()Ljava/lang/Throwable;"⟩) ∈ gw := gw_t (i := 143) (by decide +kernel) (by decide +kernel)
theorem w_145 : (Cond.methodLink "java/lang/Throwable" 202 ⟨"java/lang/Throwable", "fillInStackTrace", "(I)Ljava/lang/Throwable;"⟩) ∈ gw := gw_t (i := 145) (by decide +kernel) (by decide +kernel)
theorem w_147 : (Cond.instanceMethod ⟨"java/lang/Throwable", "fillInStackTrace", "(I)Ljava/lang/Throwable;"⟩) ∈ gw := gw_t (i := 147) (by decide +kernel) (by decide +kernel)
theorem w_148 : (Cond.instantiable "java/lang/Throwable" 6) ∈ gw := gw_t (i := 148) (by decide +kernel) (by decide +kernel)
theorem w_151 : (Cond.methodLink "StageLayer" 93 ⟨"java/lang/IndexOutOfBoundsException", "<init>", "(Ljava/lang/String;)V"⟩) ∈ gw := gw_t (i := 151) (by decide +kernel) (by decide +kernel)
theorem w_152 : (Cond.instanceMethod ⟨"java/lang/IndexOutOfBoundsException", "<init>", "(Ljava/lang/String;)V"⟩) ∈ gw := gw_t (i := 152) (by decide +kernel) (by decide +kernel)
theorem w_153 : (Cond.code ⟨"java/lang/IndexOutOfBoundsException", "<init>", "(Ljava/lang/String;)V"⟩ prog_7_method_2_code 2 none) ∈ gw := gw_t (i := 153) (by decide +kernel) (by decide +kernel)
theorem w_154 : (Cond.methodLink "java/lang/IndexOutOfBoundsException" 7 ⟨"java/lang/RuntimeException", "<init>", "(Ljava/lang/String;)V"⟩) ∈ gw := gw_t (i := 154) (by decide +kernel) (by decide +kernel)
theorem w_155 : (Cond.instanceMethod ⟨"java/lang/RuntimeException", "<init>", "(Ljava/lang/String;)V"⟩) ∈ gw := gw_t (i := 155) (by decide +kernel) (by decide +kernel)
theorem w_156 : (Cond.code ⟨"java/lang/RuntimeException", "<init>", "(Ljava/lang/String;)V"⟩ prog_10_method_2_code 2 none) ∈ gw := gw_t (i := 156) (by decide +kernel) (by decide +kernel)
theorem w_157 : (Cond.methodLink "java/lang/RuntimeException" 7 ⟨"java/lang/Exception", "<init>", "(Ljava/lang/String;)V"⟩) ∈ gw := gw_t (i := 157) (by decide +kernel) (by decide +kernel)
theorem w_158 : (Cond.instanceMethod ⟨"java/lang/Exception", "<init>", "(Ljava/lang/String;)V"⟩) ∈ gw := gw_t (i := 158) (by decide +kernel) (by decide +kernel)
theorem w_159 : (Cond.code ⟨"java/lang/Exception", "<init>", "(Ljava/lang/String;)V"⟩ prog_4_method_2_code 2 none) ∈ gw := gw_t (i := 159) (by decide +kernel) (by decide +kernel)
theorem w_160 : (Cond.methodLink "java/lang/Exception" 7 ⟨"java/lang/Throwable", "<init>", "(Ljava/lang/String;)V"⟩) ∈ gw := gw_t (i := 160) (by decide +kernel) (by decide +kernel)
theorem w_161 : (Cond.instanceMethod ⟨"java/lang/Throwable", "<init>", "(Ljava/lang/String;)V"⟩) ∈ gw := gw_t (i := 161) (by decide +kernel) (by decide +kernel)
theorem w_162 : (Cond.code ⟨"java/lang/Throwable", "<init>", "(Ljava/lang/String;)V"⟩ prog_12_method_2_code 2 none) ∈ gw := gw_t (i := 162) (by decide +kernel) (by decide +kernel)
theorem w_164 : (Cond.fieldLink "java/lang/Throwable" 31 "java/lang/Throwable" "detailMessage" "Ljava/lang/String;") ∈ gw := gw_t (i := 164) (by decide +kernel) (by decide +kernel)
theorem w_165 : (Cond.fieldLink "java/lang/Throwable" 7 "java/lang/Throwable" "cause" "Ljava/lang/Throwable;") ∈ gw := gw_t (i := 165) (by decide +kernel) (by decide +kernel)
theorem w_166 : (Cond.fieldLink "java/lang/Throwable" 17 "java/lang/Throwable" "stackTrace" "[Ljava/lang/StackTraceElement;") ∈ gw := gw_t (i := 166) (by decide +kernel) (by decide +kernel)
theorem w_167 : (Cond.fieldLink "java/lang/Throwable" 24 "java/lang/Throwable" "suppressedExceptions" "Ljava/util/List;") ∈ gw := gw_t (i := 167) (by decide +kernel) (by decide +kernel)
theorem w_176 : (Cond.arrayClass .byte) ∈ gw := gw_t (i := 176) (by decide +kernel) (by decide +kernel)
theorem w_177 : (Cond.methodLink "StageLayer" 67 ⟨"StageLayer", "requireReadable", "(I)V"⟩) ∈ gw := gw_t (i := 177) (by decide +kernel) (by decide +kernel)
theorem w_178 : (Cond.static ⟨"StageLayer", "requireReadable", "(I)V"⟩) ∈ gw := gw_t (i := 178) (by decide +kernel) (by decide +kernel)
theorem w_179 : (Cond.code ⟨"StageLayer", "requireReadable", "(I)V"⟩ prog_1_method_18_code 1 none) ∈ gw := gw_t (i := 179) (by decide +kernel) (by decide +kernel)
theorem w_181 : (Cond.methodLink "StageLayer" 70 ⟨"StageLayer", "readingAndWriting", "(II)J"⟩) ∈ gw := gw_t (i := 181) (by decide +kernel) (by decide +kernel)
theorem w_182 : (Cond.static ⟨"StageLayer", "readingAndWriting", "(II)J"⟩) ∈ gw := gw_t (i := 182) (by decide +kernel) (by decide +kernel)
theorem w_183 : (Cond.code ⟨"StageLayer", "readingAndWriting", "(II)J"⟩ prog_1_method_21_code 2 (some .long)) ∈ gw := gw_t (i := 183) (by decide +kernel) (by decide +kernel)
theorem w_184 : (Cond.methodLink "StageLayer" 85 ⟨"StageLayer", "reading", "(I)J"⟩) ∈ gw := gw_t (i := 184) (by decide +kernel) (by decide +kernel)
theorem w_185 : (Cond.static ⟨"StageLayer", "reading", "(I)J"⟩) ∈ gw := gw_t (i := 185) (by decide +kernel) (by decide +kernel)
theorem w_186 : (Cond.code ⟨"StageLayer", "reading", "(I)J"⟩ prog_1_method_20_code 1 (some .long)) ∈ gw := gw_t (i := 186) (by decide +kernel) (by decide +kernel)
theorem w_187 : (Cond.methodLink "StageLayer" 96 ⟨"StageLayer", "validitiesOf", "(I)J"⟩) ∈ gw := gw_t (i := 187) (by decide +kernel) (by decide +kernel)
theorem w_188 : (Cond.static ⟨"StageLayer", "validitiesOf", "(I)J"⟩) ∈ gw := gw_t (i := 188) (by decide +kernel) (by decide +kernel)
theorem w_189 : (Cond.code ⟨"StageLayer", "validitiesOf", "(I)J"⟩ prog_1_method_19_code 1 (some .long)) ∈ gw := gw_t (i := 189) (by decide +kernel) (by decide +kernel)
theorem w_190 : (Cond.methodLink "StageLayer" 74 ⟨"StageLayer", "costOf", "(I)I"⟩) ∈ gw := gw_t (i := 190) (by decide +kernel) (by decide +kernel)
theorem w_191 : (Cond.static ⟨"StageLayer", "costOf", "(I)I"⟩) ∈ gw := gw_t (i := 191) (by decide +kernel) (by decide +kernel)
theorem w_192 : (Cond.code ⟨"StageLayer", "costOf", "(I)I"⟩ prog_1_method_22_code 1 (some .int)) ∈ gw := gw_t (i := 192) (by decide +kernel) (by decide +kernel)
theorem w_193 : (Cond.methodLink "StageLayer" 108 ⟨"java/lang/Integer", "bitCount", "(I)I"⟩) ∈ gw := gw_t (i := 193) (by decide +kernel) (by decide +kernel)
theorem w_194 : (Cond.static ⟨"java/lang/Integer", "bitCount", "(I)I"⟩) ∈ gw := gw_t (i := 194) (by decide +kernel) (by decide +kernel)
theorem w_195 : (Cond.code ⟨"java/lang/Integer", "bitCount", "(I)I"⟩ prog_8_method_49_code 1 (some .int)) ∈ gw := gw_t (i := 195) (by decide +kernel) (by decide +kernel)
theorem w_196 : (Cond.constant "java/lang/Integer" 265 1431655765) ∈ gw := gw_t (i := 196) (by decide +kernel) (by decide +kernel)
theorem w_197 : (Cond.constant "java/lang/Integer" 266 858993459) ∈ gw := gw_t (i := 197) (by decide +kernel) (by decide +kernel)
theorem w_198 : (Cond.constant "java/lang/Integer" 267 252645135) ∈ gw := gw_t (i := 198) (by decide +kernel) (by decide +kernel)
theorem w_199 : (Cond.methodLink "StageLayer" 141 ⟨"java/lang/Math", "max", "(II)I"⟩) ∈ gw := gw_t (i := 199) (by decide +kernel) (by decide +kernel)
theorem w_200 : (Cond.static ⟨"java/lang/Math", "max", "(II)I"⟩) ∈ gw := gw_t (i := 200) (by decide +kernel) (by decide +kernel)
theorem w_201 : (Cond.code ⟨"java/lang/Math", "max", "(II)I"⟩ prog_9_method_65_code 2 (some .int)) ∈ gw := gw_t (i := 201) (by decide +kernel) (by decide +kernel)
theorem w_202 : (Cond.methodLink "StageLayer" 78 ⟨"StageLayer", "addStep", "(JJII)I"⟩) ∈ gw := gw_t (i := 202) (by decide +kernel) (by decide +kernel)
theorem w_204 : (Cond.instanceMethod ⟨"StageLayer", "addStep", "(JJII)I"⟩) ∈ gw := gw_t (i := 204) (by decide +kernel) (by decide +kernel)
theorem w_205 : (Cond.code ⟨"StageLayer", "addStep", "(JJII)I"⟩ prog_1_method_23_code 8 (some .int)) ∈ gw := gw_t (i := 205) (by decide +kernel) (by decide +kernel)
theorem w_206 : (Cond.classLink "StageLayer" 101 "java/lang/IllegalStateException") ∈ gw := gw_t (i := 206) (by decide +kernel) (by decide +kernel)
theorem w_207 : (Cond.instantiable "java/lang/IllegalStateException" 6) ∈ gw := gw_t (i := 207) (by decide +kernel) (by decide +kernel)
theorem w_209 : (Cond.selects "java/lang/IllegalStateException" ⟨"java/lang/Throwable", "fillInStackTrace", "(I)Ljava/lang/Throwable;"⟩ ⟨"java/lang/Throwable", "fillInStackTrace", "(I)Ljava/lang/Throwable;"⟩) ∈ gw := gw_t (i := 209) (by decide +kernel) (by decide +kernel)
theorem w_216 : (Cond.methodLink "StageLayer" 105 ⟨"java/lang/IllegalStateException", "<init>", "(Ljava/lang/String;)V"⟩) ∈ gw := gw_t (i := 216) (by decide +kernel) (by decide +kernel)
theorem w_217 : (Cond.instanceMethod ⟨"java/lang/IllegalStateException", "<init>", "(Ljava/lang/String;)V"⟩) ∈ gw := gw_t (i := 217) (by decide +kernel) (by decide +kernel)
theorem w_218 : (Cond.code ⟨"java/lang/IllegalStateException", "<init>", "(Ljava/lang/String;)V"⟩ prog_6_method_2_code 2 none) ∈ gw := gw_t (i := 218) (by decide +kernel) (by decide +kernel)
theorem w_219 : (Cond.methodLink "java/lang/IllegalStateException" 7 ⟨"java/lang/RuntimeException", "<init>", "(Ljava/lang/String;)V"⟩) ∈ gw := gw_t (i := 219) (by decide +kernel) (by decide +kernel)
theorem w_223 : (Cond.methodLink "StageLayer" 160 ⟨"StageLayer", "innermostIf", "()I"⟩) ∈ gw := gw_t (i := 223) (by decide +kernel) (by decide +kernel)
theorem w_225 : (Cond.instanceMethod ⟨"StageLayer", "innermostIf", "()I"⟩) ∈ gw := gw_t (i := 225) (by decide +kernel) (by decide +kernel)
theorem w_226 : (Cond.code ⟨"StageLayer", "innermostIf", "()I"⟩ prog_1_method_25_code 1 (some .int)) ∈ gw := gw_t (i := 226) (by decide +kernel) (by decide +kernel)
theorem w_227 : (Cond.methodLink "StageLayer" 122 ⟨"StageLayer", "need", "(III)V"⟩) ∈ gw := gw_t (i := 227) (by decide +kernel) (by decide +kernel)
theorem w_229 : (Cond.instanceMethod ⟨"StageLayer", "need", "(III)V"⟩) ∈ gw := gw_t (i := 229) (by decide +kernel) (by decide +kernel)
theorem w_230 : (Cond.code ⟨"StageLayer", "need", "(III)V"⟩ prog_1_method_24_code 4 none) ∈ gw := gw_t (i := 230) (by decide +kernel) (by decide +kernel)
theorem w_231 : (Cond.methodLink "StageLayerLaw" 64 ⟨"StageLayerLaw", "load", "(LStageLayer;III[J)I"⟩) ∈ gw := gw_t (i := 231) (by decide +kernel) (by decide +kernel)
theorem w_232 : (Cond.static ⟨"StageLayerLaw", "load", "(LStageLayer;III[J)I"⟩) ∈ gw := gw_t (i := 232) (by decide +kernel) (by decide +kernel)
theorem w_233 : (Cond.codeWith ⟨"StageLayerLaw", "load", "(LStageLayer;III[J)I"⟩ method_4_code 6 (some .int) [(0, 12, 15, 13), (0, 12, 19, 15)]) ∈ gw := gw_t (i := 233) (by decide +kernel) (by decide +kernel)
theorem w_234 : (Cond.methodLink "StageLayerLaw" 17 ⟨"StageLayer", "load", "(III)I"⟩) ∈ gw := gw_t (i := 234) (by decide +kernel) (by decide +kernel)
theorem w_235 : (Cond.instanceMethod ⟨"StageLayer", "load", "(III)I"⟩) ∈ gw := gw_t (i := 235) (by decide +kernel) (by decide +kernel)
theorem w_236 : (Cond.selects "StageLayer" ⟨"StageLayer", "load", "(III)I"⟩ ⟨"StageLayer", "load", "(III)I"⟩) ∈ gw := gw_t (i := 236) (by decide +kernel) (by decide +kernel)
theorem w_237 : (Cond.code ⟨"StageLayer", "load", "(III)I"⟩ prog_1_method_4_code 4 (some .int)) ∈ gw := gw_t (i := 237) (by decide +kernel) (by decide +kernel)
theorem w_238 : (Cond.methodLink "StageLayer" 82 ⟨"StageLayer", "requireArray", "(I)V"⟩) ∈ gw := gw_t (i := 238) (by decide +kernel) (by decide +kernel)
theorem w_239 : (Cond.static ⟨"StageLayer", "requireArray", "(I)V"⟩) ∈ gw := gw_t (i := 239) (by decide +kernel) (by decide +kernel)
theorem w_240 : (Cond.code ⟨"StageLayer", "requireArray", "(I)V"⟩ prog_1_method_17_code 1 none) ∈ gw := gw_t (i := 240) (by decide +kernel) (by decide +kernel)
theorem w_242 : (Cond.methodLink "StageLayerLaw" 68 ⟨"StageLayerLaw", "store", "(LStageLayer;III[J)I"⟩) ∈ gw := gw_t (i := 242) (by decide +kernel) (by decide +kernel)
theorem w_243 : (Cond.static ⟨"StageLayerLaw", "store", "(LStageLayer;III[J)I"⟩) ∈ gw := gw_t (i := 243) (by decide +kernel) (by decide +kernel)
theorem w_244 : (Cond.codeWith ⟨"StageLayerLaw", "store", "(LStageLayer;III[J)I"⟩ method_5_code 6 (some .int) [(0, 12, 15, 13), (0, 12, 19, 15)]) ∈ gw := gw_t (i := 244) (by decide +kernel) (by decide +kernel)
theorem w_245 : (Cond.methodLink "StageLayerLaw" 21 ⟨"StageLayer", "store", "(III)I"⟩) ∈ gw := gw_t (i := 245) (by decide +kernel) (by decide +kernel)
theorem w_246 : (Cond.instanceMethod ⟨"StageLayer", "store", "(III)I"⟩) ∈ gw := gw_t (i := 246) (by decide +kernel) (by decide +kernel)
theorem w_247 : (Cond.selects "StageLayer" ⟨"StageLayer", "store", "(III)I"⟩ ⟨"StageLayer", "store", "(III)I"⟩) ∈ gw := gw_t (i := 247) (by decide +kernel) (by decide +kernel)
theorem w_248 : (Cond.code ⟨"StageLayer", "store", "(III)I"⟩ prog_1_method_5_code 4 (some .int)) ∈ gw := gw_t (i := 248) (by decide +kernel) (by decide +kernel)
theorem w_249 : (Cond.methodLink "StageLayerLaw" 71 ⟨"StageLayerLaw", "valid", "(LStageLayer;IZ[J)I"⟩) ∈ gw := gw_t (i := 249) (by decide +kernel) (by decide +kernel)
theorem w_250 : (Cond.static ⟨"StageLayerLaw", "valid", "(LStageLayer;IZ[J)I"⟩) ∈ gw := gw_t (i := 250) (by decide +kernel) (by decide +kernel)
theorem w_251 : (Cond.codeWith ⟨"StageLayerLaw", "valid", "(LStageLayer;IZ[J)I"⟩ method_6_code 5 (some .int) [(0, 10, 13, 13), (0, 10, 17, 15)]) ∈ gw := gw_t (i := 251) (by decide +kernel) (by decide +kernel)
theorem w_252 : (Cond.methodLink "StageLayerLaw" 24 ⟨"StageLayer", "valid", "(IZ)I"⟩) ∈ gw := gw_t (i := 252) (by decide +kernel) (by decide +kernel)
theorem w_253 : (Cond.instanceMethod ⟨"StageLayer", "valid", "(IZ)I"⟩) ∈ gw := gw_t (i := 253) (by decide +kernel) (by decide +kernel)
theorem w_254 : (Cond.selects "StageLayer" ⟨"StageLayer", "valid", "(IZ)I"⟩ ⟨"StageLayer", "valid", "(IZ)I"⟩) ∈ gw := gw_t (i := 254) (by decide +kernel) (by decide +kernel)
theorem w_255 : (Cond.code ⟨"StageLayer", "valid", "(IZ)I"⟩ prog_1_method_6_code 4 (some .int)) ∈ gw := gw_t (i := 255) (by decide +kernel) (by decide +kernel)
theorem w_257 : (Cond.methodLink "StageLayerLaw" 75 ⟨"StageLayerLaw", "drop", "(LStageLayer;[J)I"⟩) ∈ gw := gw_t (i := 257) (by decide +kernel) (by decide +kernel)
theorem w_258 : (Cond.static ⟨"StageLayerLaw", "drop", "(LStageLayer;[J)I"⟩) ∈ gw := gw_t (i := 258) (by decide +kernel) (by decide +kernel)
theorem w_259 : (Cond.codeWith ⟨"StageLayerLaw", "drop", "(LStageLayer;[J)I"⟩ method_7_code 3 (some .int) [(0, 8, 11, 15)]) ∈ gw := gw_t (i := 259) (by decide +kernel) (by decide +kernel)
theorem w_260 : (Cond.methodLink "StageLayerLaw" 28 ⟨"StageLayer", "drop", "()I"⟩) ∈ gw := gw_t (i := 260) (by decide +kernel) (by decide +kernel)
theorem w_261 : (Cond.instanceMethod ⟨"StageLayer", "drop", "()I"⟩) ∈ gw := gw_t (i := 261) (by decide +kernel) (by decide +kernel)
theorem w_262 : (Cond.selects "StageLayer" ⟨"StageLayer", "drop", "()I"⟩ ⟨"StageLayer", "drop", "()I"⟩) ∈ gw := gw_t (i := 262) (by decide +kernel) (by decide +kernel)
theorem w_263 : (Cond.code ⟨"StageLayer", "drop", "()I"⟩ prog_1_method_7_code 1 (some .int)) ∈ gw := gw_t (i := 263) (by decide +kernel) (by decide +kernel)
theorem w_264 : (Cond.constantLong "StageLayer" 99 1099511627776) ∈ gw := gw_t (i := 264) (by decide +kernel) (by decide +kernel)
theorem w_265 : (Cond.methodLink "StageLayerLaw" 79 ⟨"StageLayerLaw", "open", "(LStageLayer;I[J)I"⟩) ∈ gw := gw_t (i := 265) (by decide +kernel) (by decide +kernel)
theorem w_266 : (Cond.static ⟨"StageLayerLaw", "open", "(LStageLayer;I[J)I"⟩) ∈ gw := gw_t (i := 266) (by decide +kernel) (by decide +kernel)
theorem w_267 : (Cond.codeWith ⟨"StageLayerLaw", "open", "(LStageLayer;I[J)I"⟩ method_8_code 4 (some .int) [(0, 9, 12, 13), (0, 9, 15, 15)]) ∈ gw := gw_t (i := 267) (by decide +kernel) (by decide +kernel)
theorem w_268 : (Cond.methodLink "StageLayerLaw" 32 ⟨"StageLayer", "open", "(I)I"⟩) ∈ gw := gw_t (i := 268) (by decide +kernel) (by decide +kernel)
theorem w_269 : (Cond.instanceMethod ⟨"StageLayer", "open", "(I)I"⟩) ∈ gw := gw_t (i := 269) (by decide +kernel) (by decide +kernel)
theorem w_270 : (Cond.selects "StageLayer" ⟨"StageLayer", "open", "(I)I"⟩ ⟨"StageLayer", "open", "(I)I"⟩) ∈ gw := gw_t (i := 270) (by decide +kernel) (by decide +kernel)
theorem w_271 : (Cond.code ⟨"StageLayer", "open", "(I)I"⟩ prog_1_method_8_code 3 (some .int)) ∈ gw := gw_t (i := 271) (by decide +kernel) (by decide +kernel)
theorem w_273 : (Cond.methodLink "StageLayerLaw" 83 ⟨"StageLayerLaw", "close", "(LStageLayer;[J)I"⟩) ∈ gw := gw_t (i := 273) (by decide +kernel) (by decide +kernel)
theorem w_274 : (Cond.static ⟨"StageLayerLaw", "close", "(LStageLayer;[J)I"⟩) ∈ gw := gw_t (i := 274) (by decide +kernel) (by decide +kernel)
theorem w_275 : (Cond.codeWith ⟨"StageLayerLaw", "close", "(LStageLayer;[J)I"⟩ method_9_code 3 (some .int) [(0, 8, 11, 15)]) ∈ gw := gw_t (i := 275) (by decide +kernel) (by decide +kernel)
theorem w_276 : (Cond.methodLink "StageLayerLaw" 36 ⟨"StageLayer", "close", "()I"⟩) ∈ gw := gw_t (i := 276) (by decide +kernel) (by decide +kernel)
theorem w_277 : (Cond.instanceMethod ⟨"StageLayer", "close", "()I"⟩) ∈ gw := gw_t (i := 277) (by decide +kernel) (by decide +kernel)
theorem w_278 : (Cond.selects "StageLayer" ⟨"StageLayer", "close", "()I"⟩ ⟨"StageLayer", "close", "()I"⟩) ∈ gw := gw_t (i := 278) (by decide +kernel) (by decide +kernel)
theorem w_279 : (Cond.code ⟨"StageLayer", "close", "()I"⟩ prog_1_method_9_code 1 (some .int)) ∈ gw := gw_t (i := 279) (by decide +kernel) (by decide +kernel)
theorem w_281 : (Cond.methodLink "StageLayerLaw" 86 ⟨"StageLayerLaw", "apply", "(LStageLayer;III[J)I"⟩) ∈ gw := gw_t (i := 281) (by decide +kernel) (by decide +kernel)
theorem w_282 : (Cond.static ⟨"StageLayerLaw", "apply", "(LStageLayer;III[J)I"⟩) ∈ gw := gw_t (i := 282) (by decide +kernel) (by decide +kernel)
theorem w_283 : (Cond.codeWith ⟨"StageLayerLaw", "apply", "(LStageLayer;III[J)I"⟩ method_10_code 6 (some .int) [(0, 12, 15, 13), (0, 12, 19, 42), (0, 12, 23, 15)]) ∈ gw := gw_t (i := 283) (by decide +kernel) (by decide +kernel)
theorem w_284 : (Cond.classLink "StageLayerLaw" 42 "java/lang/IllegalArgumentException") ∈ gw := gw_t (i := 284) (by decide +kernel) (by decide +kernel)
theorem w_285 : (Cond.methodLink "StageLayerLaw" 39 ⟨"StageLayer", "apply", "(III)I"⟩) ∈ gw := gw_t (i := 285) (by decide +kernel) (by decide +kernel)
theorem w_286 : (Cond.instanceMethod ⟨"StageLayer", "apply", "(III)I"⟩) ∈ gw := gw_t (i := 286) (by decide +kernel) (by decide +kernel)
theorem w_287 : (Cond.selects "StageLayer" ⟨"StageLayer", "apply", "(III)I"⟩ ⟨"StageLayer", "apply", "(III)I"⟩) ∈ gw := gw_t (i := 287) (by decide +kernel) (by decide +kernel)
theorem w_288 : (Cond.code ⟨"StageLayer", "apply", "(III)I"⟩ prog_1_method_10_code 7 (some .int)) ∈ gw := gw_t (i := 288) (by decide +kernel) (by decide +kernel)
theorem w_289 : (Cond.classLink "StageLayer" 113 "java/lang/IllegalArgumentException") ∈ gw := gw_t (i := 289) (by decide +kernel) (by decide +kernel)
theorem w_290 : (Cond.instantiable "java/lang/IllegalArgumentException" 6) ∈ gw := gw_t (i := 290) (by decide +kernel) (by decide +kernel)
theorem w_292 : (Cond.selects "java/lang/IllegalArgumentException" ⟨"java/lang/Throwable", "fillInStackTrace", "(I)Ljava/lang/Throwable;"⟩ ⟨"java/lang/Throwable", "fillInStackTrace", "(I)Ljava/lang/Throwable;"⟩) ∈ gw := gw_t (i := 292) (by decide +kernel) (by decide +kernel)
theorem w_299 : (Cond.methodLink "StageLayer" 117 ⟨"java/lang/IllegalArgumentException", "<init>", "(Ljava/lang/String;)V"⟩) ∈ gw := gw_t (i := 299) (by decide +kernel) (by decide +kernel)
theorem w_300 : (Cond.instanceMethod ⟨"java/lang/IllegalArgumentException", "<init>", "(Ljava/lang/String;)V"⟩) ∈ gw := gw_t (i := 300) (by decide +kernel) (by decide +kernel)
theorem w_301 : (Cond.code ⟨"java/lang/IllegalArgumentException", "<init>", "(Ljava/lang/String;)V"⟩ prog_5_method_2_code 2 none) ∈ gw := gw_t (i := 301) (by decide +kernel) (by decide +kernel)
theorem w_302 : (Cond.methodLink "java/lang/IllegalArgumentException" 7 ⟨"java/lang/RuntimeException", "<init>", "(Ljava/lang/String;)V"⟩) ∈ gw := gw_t (i := 302) (by decide +kernel) (by decide +kernel)
theorem w_307 : (Cond.methodLink "StageLayerLaw" 89 ⟨"StageLayerLaw", "lay", "(LStageLayer;III[J)I"⟩) ∈ gw := gw_t (i := 307) (by decide +kernel) (by decide +kernel)
theorem w_308 : (Cond.static ⟨"StageLayerLaw", "lay", "(LStageLayer;III[J)I"⟩) ∈ gw := gw_t (i := 308) (by decide +kernel) (by decide +kernel)
theorem w_309 : (Cond.codeWith ⟨"StageLayerLaw", "lay", "(LStageLayer;III[J)I"⟩ method_11_code 6 (some .int) [(0, 12, 15, 42)]) ∈ gw := gw_t (i := 309) (by decide +kernel) (by decide +kernel)
theorem w_310 : (Cond.methodLink "StageLayerLaw" 44 ⟨"StageLayer", "lay", "(III)I"⟩) ∈ gw := gw_t (i := 310) (by decide +kernel) (by decide +kernel)
theorem w_311 : (Cond.instanceMethod ⟨"StageLayer", "lay", "(III)I"⟩) ∈ gw := gw_t (i := 311) (by decide +kernel) (by decide +kernel)
theorem w_312 : (Cond.selects "StageLayer" ⟨"StageLayer", "lay", "(III)I"⟩ ⟨"StageLayer", "lay", "(III)I"⟩) ∈ gw := gw_t (i := 312) (by decide +kernel) (by decide +kernel)
theorem w_313 : (Cond.code ⟨"StageLayer", "lay", "(III)I"⟩ prog_1_method_11_code 7 (some .int)) ∈ gw := gw_t (i := 313) (by decide +kernel) (by decide +kernel)
theorem w_316 : (Cond.methodLink "StageLayer" 130 ⟨"StageLayer", "emptyStages", "()V"⟩) ∈ gw := gw_t (i := 316) (by decide +kernel) (by decide +kernel)
theorem w_318 : (Cond.instanceMethod ⟨"StageLayer", "emptyStages", "()V"⟩) ∈ gw := gw_t (i := 318) (by decide +kernel) (by decide +kernel)
theorem w_319 : (Cond.code ⟨"StageLayer", "emptyStages", "()V"⟩ prog_1_method_27_code 2 none) ∈ gw := gw_t (i := 319) (by decide +kernel) (by decide +kernel)
theorem w_320 : (Cond.methodLink "StageLayer" 133 ⟨"StageLayer", "findStage", "(IIII)I"⟩) ∈ gw := gw_t (i := 320) (by decide +kernel) (by decide +kernel)
theorem w_322 : (Cond.instanceMethod ⟨"StageLayer", "findStage", "(IIII)I"⟩) ∈ gw := gw_t (i := 322) (by decide +kernel) (by decide +kernel)
theorem w_323 : (Cond.code ⟨"StageLayer", "findStage", "(IIII)I"⟩ prog_1_method_28_code 9 (some .int)) ∈ gw := gw_t (i := 323) (by decide +kernel) (by decide +kernel)
theorem w_324 : (Cond.methodLink "StageLayer" 164 ⟨"StageLayer", "earliestStage", "(I)I"⟩) ∈ gw := gw_t (i := 324) (by decide +kernel) (by decide +kernel)
theorem w_326 : (Cond.instanceMethod ⟨"StageLayer", "earliestStage", "(I)I"⟩) ∈ gw := gw_t (i := 326) (by decide +kernel) (by decide +kernel)
theorem w_327 : (Cond.code ⟨"StageLayer", "earliestStage", "(I)I"⟩ prog_1_method_29_code 9 (some .int)) ∈ gw := gw_t (i := 327) (by decide +kernel) (by decide +kernel)
theorem w_328 : (Cond.methodLink "StageLayer" 167 ⟨"StageLayer", "stageOfSharedArray", "(I)I"⟩) ∈ gw := gw_t (i := 328) (by decide +kernel) (by decide +kernel)
theorem w_330 : (Cond.instanceMethod ⟨"StageLayer", "stageOfSharedArray", "(I)I"⟩) ∈ gw := gw_t (i := 330) (by decide +kernel) (by decide +kernel)
theorem w_331 : (Cond.code ⟨"StageLayer", "stageOfSharedArray", "(I)I"⟩ prog_1_method_30_code 3 (some .int)) ∈ gw := gw_t (i := 331) (by decide +kernel) (by decide +kernel)
theorem w_332 : (Cond.methodLink "StageLayer" 170 ⟨"StageLayer", "hasRoom", "(IIII)Z"⟩) ∈ gw := gw_t (i := 332) (by decide +kernel) (by decide +kernel)
theorem w_334 : (Cond.instanceMethod ⟨"StageLayer", "hasRoom", "(IIII)Z"⟩) ∈ gw := gw_t (i := 334) (by decide +kernel) (by decide +kernel)
theorem w_335 : (Cond.code ⟨"StageLayer", "hasRoom", "(IIII)Z"⟩ prog_1_method_31_code 5 (some .boolean)) ∈ gw := gw_t (i := 335) (by decide +kernel) (by decide +kernel)
theorem w_336 : (Cond.methodLink "StageLayer" 137 ⟨"StageLayer", "settle", "(II)V"⟩) ∈ gw := gw_t (i := 336) (by decide +kernel) (by decide +kernel)
theorem w_338 : (Cond.instanceMethod ⟨"StageLayer", "settle", "(II)V"⟩) ∈ gw := gw_t (i := 338) (by decide +kernel) (by decide +kernel)
theorem w_339 : (Cond.code ⟨"StageLayer", "settle", "(II)V"⟩ prog_1_method_32_code 3 none) ∈ gw := gw_t (i := 339) (by decide +kernel) (by decide +kernel)
theorem w_340 : (Cond.classLink "StageLayerLaw" 48 "StageLayerModel") ∈ gw := gw_t (i := 340) (by decide +kernel) (by decide +kernel)
theorem w_341 : (Cond.instantiable "StageLayerModel" 17) ∈ gw := gw_t (i := 341) (by decide +kernel) (by decide +kernel)
theorem w_342 : (Cond.methodLink "StageLayerLaw" 50 ⟨"StageLayerModel", "<init>", "()V"⟩) ∈ gw := gw_t (i := 342) (by decide +kernel) (by decide +kernel)
theorem w_343 : (Cond.instanceMethod ⟨"StageLayerModel", "<init>", "()V"⟩) ∈ gw := gw_t (i := 343) (by decide +kernel) (by decide +kernel)
theorem w_344 : (Cond.code ⟨"StageLayerModel", "<init>", "()V"⟩ prog_3_method_1_code 1 none) ∈ gw := gw_t (i := 344) (by decide +kernel) (by decide +kernel)
theorem w_345 : (Cond.methodLink "StageLayerModel" 1 ⟨"java/lang/Object", "<init>", "()V"⟩) ∈ gw := gw_t (i := 345) (by decide +kernel) (by decide +kernel)
theorem w_346 : (Cond.fieldLink "StageLayerModel" 42 "StageLayerModel" "thrown" "I") ∈ gw := gw_t (i := 346) (by decide +kernel) (by decide +kernel)
theorem w_347 : (Cond.fieldLink "StageLayerModel" 45 "StageLayerModel" "steps" "I") ∈ gw := gw_t (i := 347) (by decide +kernel) (by decide +kernel)
theorem w_348 : (Cond.fieldLink "StageLayerModel" 48 "StageLayerModel" "readings" "I") ∈ gw := gw_t (i := 348) (by decide +kernel) (by decide +kernel)
theorem w_349 : (Cond.fieldLink "StageLayerModel" 51 "StageLayerModel" "tables" "I") ∈ gw := gw_t (i := 349) (by decide +kernel) (by decide +kernel)
theorem w_350 : (Cond.fieldLink "StageLayerModel" 54 "StageLayerModel" "opened" "I") ∈ gw := gw_t (i := 350) (by decide +kernel) (by decide +kernel)
theorem w_351 : (Cond.fieldLink "StageLayerModel" 7 "StageLayerModel" "reads" "[Z") ∈ gw := gw_t (i := 351) (by decide +kernel) (by decide +kernel)
theorem w_352 : (Cond.fieldLink "StageLayerModel" 13 "StageLayerModel" "writes" "[Z") ∈ gw := gw_t (i := 352) (by decide +kernel) (by decide +kernel)
theorem w_353 : (Cond.fieldLink "StageLayerModel" 16 "StageLayerModel" "arrays" "[I") ∈ gw := gw_t (i := 353) (by decide +kernel) (by decide +kernel)
theorem w_354 : (Cond.fieldLink "StageLayerModel" 20 "StageLayerModel" "memories" "[I") ∈ gw := gw_t (i := 354) (by decide +kernel) (by decide +kernel)
theorem w_355 : (Cond.fieldLink "StageLayerModel" 23 "StageLayerModel" "wires" "[I") ∈ gw := gw_t (i := 355) (by decide +kernel) (by decide +kernel)
theorem w_356 : (Cond.fieldLink "StageLayerModel" 26 "StageLayerModel" "isIf" "[Z") ∈ gw := gw_t (i := 356) (by decide +kernel) (by decide +kernel)
theorem w_357 : (Cond.fieldLink "StageLayerModel" 29 "StageLayerModel" "within" "[I") ∈ gw := gw_t (i := 357) (by decide +kernel) (by decide +kernel)
theorem w_358 : (Cond.fieldLink "StageLayerModel" 32 "StageLayerModel" "inner" "I") ∈ gw := gw_t (i := 358) (by decide +kernel) (by decide +kernel)
theorem w_359 : (Cond.fieldLink "StageLayerModel" 36 "StageLayerModel" "stages" "[I") ∈ gw := gw_t (i := 359) (by decide +kernel) (by decide +kernel)
theorem w_360 : (Cond.fieldLink "StageLayerModel" 57 "StageLayerModel" "laid" "Z") ∈ gw := gw_t (i := 360) (by decide +kernel) (by decide +kernel)
theorem w_361 : (Cond.fieldLink "StageLayerModel" 103 "StageLayerModel" "taken" "I") ∈ gw := gw_t (i := 361) (by decide +kernel) (by decide +kernel)
theorem w_362 : (Cond.fieldLink "StageLayerModel" 39 "StageLayerModel" "homeless" "I") ∈ gw := gw_t (i := 362) (by decide +kernel) (by decide +kernel)
theorem w_398 : (Cond.arrayClass .boolean) ∈ gw := gw_t (i := 398) (by decide +kernel) (by decide +kernel)
theorem w_399 : (Cond.methodLink "StageLayerLaw" 61 ⟨"StageLayerModel", "thrown", "()I"⟩) ∈ gw := gw_t (i := 399) (by decide +kernel) (by decide +kernel)
theorem w_400 : (Cond.instanceMethod ⟨"StageLayerModel", "thrown", "()I"⟩) ∈ gw := gw_t (i := 400) (by decide +kernel) (by decide +kernel)
theorem w_401 : (Cond.selects "StageLayerModel" ⟨"StageLayerModel", "thrown", "()I"⟩ ⟨"StageLayerModel", "thrown", "()I"⟩) ∈ gw := gw_t (i := 401) (by decide +kernel) (by decide +kernel)
theorem w_402 : (Cond.code ⟨"StageLayerModel", "thrown", "()I"⟩ prog_3_method_2_code 1 (some .int)) ∈ gw := gw_t (i := 402) (by decide +kernel) (by decide +kernel)
theorem w_403 : (Cond.methodLink "StageLayerLaw" 54 ⟨"StageLayerModel", "clear", "()V"⟩) ∈ gw := gw_t (i := 403) (by decide +kernel) (by decide +kernel)
theorem w_404 : (Cond.instanceMethod ⟨"StageLayerModel", "clear", "()V"⟩) ∈ gw := gw_t (i := 404) (by decide +kernel) (by decide +kernel)
theorem w_405 : (Cond.selects "StageLayerModel" ⟨"StageLayerModel", "clear", "()V"⟩ ⟨"StageLayerModel", "clear", "()V"⟩) ∈ gw := gw_t (i := 405) (by decide +kernel) (by decide +kernel)
theorem w_406 : (Cond.code ⟨"StageLayerModel", "clear", "()V"⟩ prog_3_method_3_code 1 none) ∈ gw := gw_t (i := 406) (by decide +kernel) (by decide +kernel)
theorem w_407 : (Cond.methodLink "StageLayerLaw" 60 ⟨"StageLayerModel", "assign", "(II)I"⟩) ∈ gw := gw_t (i := 407) (by decide +kernel) (by decide +kernel)
theorem w_408 : (Cond.instanceMethod ⟨"StageLayerModel", "assign", "(II)I"⟩) ∈ gw := gw_t (i := 408) (by decide +kernel) (by decide +kernel)
theorem w_409 : (Cond.selects "StageLayerModel" ⟨"StageLayerModel", "assign", "(II)I"⟩ ⟨"StageLayerModel", "assign", "(II)I"⟩) ∈ gw := gw_t (i := 409) (by decide +kernel) (by decide +kernel)
theorem w_410 : (Cond.code ⟨"StageLayerModel", "assign", "(II)I"⟩ prog_3_method_12_code 4 (some .int)) ∈ gw := gw_t (i := 410) (by decide +kernel) (by decide +kernel)
theorem w_411 : (Cond.methodLink "StageLayerModel" 66 ⟨"StageLayerModel", "isPlace", "(I)Z"⟩) ∈ gw := gw_t (i := 411) (by decide +kernel) (by decide +kernel)
theorem w_412 : (Cond.static ⟨"StageLayerModel", "isPlace", "(I)Z"⟩) ∈ gw := gw_t (i := 412) (by decide +kernel) (by decide +kernel)
theorem w_413 : (Cond.code ⟨"StageLayerModel", "isPlace", "(I)Z"⟩ prog_3_method_7_code 1 (some .boolean)) ∈ gw := gw_t (i := 413) (by decide +kernel) (by decide +kernel)
theorem w_414 : (Cond.methodLink "StageLayerModel" 70 ⟨"StageLayerModel", "isSet", "(I)Z"⟩) ∈ gw := gw_t (i := 414) (by decide +kernel) (by decide +kernel)
theorem w_415 : (Cond.static ⟨"StageLayerModel", "isSet", "(I)Z"⟩) ∈ gw := gw_t (i := 415) (by decide +kernel) (by decide +kernel)
theorem w_416 : (Cond.code ⟨"StageLayerModel", "isSet", "(I)Z"⟩ prog_3_method_4_code 1 (some .boolean)) ∈ gw := gw_t (i := 416) (by decide +kernel) (by decide +kernel)
theorem w_417 : (Cond.constant "StageLayerModel" 61 268435456) ∈ gw := gw_t (i := 417) (by decide +kernel) (by decide +kernel)
theorem w_418 : (Cond.methodLink "StageLayerModel" 73 ⟨"StageLayerModel", "counts", "(I)I"⟩) ∈ gw := gw_t (i := 418) (by decide +kernel) (by decide +kernel)
theorem w_419 : (Cond.static ⟨"StageLayerModel", "counts", "(I)I"⟩) ∈ gw := gw_t (i := 419) (by decide +kernel) (by decide +kernel)
theorem w_420 : (Cond.code ⟨"StageLayerModel", "counts", "(I)I"⟩ prog_3_method_6_code 1 (some .int)) ∈ gw := gw_t (i := 420) (by decide +kernel) (by decide +kernel)
theorem w_421 : (Cond.methodLink "StageLayerModel" 62 ⟨"StageLayerModel", "ones", "(I)I"⟩) ∈ gw := gw_t (i := 421) (by decide +kernel) (by decide +kernel)
theorem w_422 : (Cond.static ⟨"StageLayerModel", "ones", "(I)I"⟩) ∈ gw := gw_t (i := 422) (by decide +kernel) (by decide +kernel)
theorem w_423 : (Cond.code ⟨"StageLayerModel", "ones", "(I)I"⟩ prog_3_method_5_code 3 (some .int)) ∈ gw := gw_t (i := 423) (by decide +kernel) (by decide +kernel)
theorem w_424 : (Cond.methodLink "StageLayerModel" 76 ⟨"StageLayerModel", "isFull", "(I)Z"⟩) ∈ gw := gw_t (i := 424) (by decide +kernel) (by decide +kernel)
theorem w_426 : (Cond.instanceMethod ⟨"StageLayerModel", "isFull", "(I)Z"⟩) ∈ gw := gw_t (i := 426) (by decide +kernel) (by decide +kernel)
theorem w_427 : (Cond.code ⟨"StageLayerModel", "isFull", "(I)Z"⟩ prog_3_method_8_code 2 (some .boolean)) ∈ gw := gw_t (i := 427) (by decide +kernel) (by decide +kernel)
theorem w_428 : (Cond.methodLink "StageLayerModel" 79 ⟨"StageLayerModel", "comes", "(I)I"⟩) ∈ gw := gw_t (i := 428) (by decide +kernel) (by decide +kernel)
theorem w_430 : (Cond.instanceMethod ⟨"StageLayerModel", "comes", "(I)I"⟩) ∈ gw := gw_t (i := 430) (by decide +kernel) (by decide +kernel)
theorem w_431 : (Cond.code ⟨"StageLayerModel", "comes", "(I)I"⟩ prog_3_method_9_code 4 (some .int)) ∈ gw := gw_t (i := 431) (by decide +kernel) (by decide +kernel)
theorem w_432 : (Cond.methodLink "StageLayerModel" 82 ⟨"StageLayerModel", "reads", "(II)V"⟩) ∈ gw := gw_t (i := 432) (by decide +kernel) (by decide +kernel)
theorem w_434 : (Cond.instanceMethod ⟨"StageLayerModel", "reads", "(II)V"⟩) ∈ gw := gw_t (i := 434) (by decide +kernel) (by decide +kernel)
theorem w_435 : (Cond.code ⟨"StageLayerModel", "reads", "(II)V"⟩ prog_3_method_10_code 4 none) ∈ gw := gw_t (i := 435) (by decide +kernel) (by decide +kernel)
theorem w_436 : (Cond.methodLink "StageLayerModel" 85 ⟨"StageLayerModel", "writes", "(II)V"⟩) ∈ gw := gw_t (i := 436) (by decide +kernel) (by decide +kernel)
theorem w_438 : (Cond.instanceMethod ⟨"StageLayerModel", "writes", "(II)V"⟩) ∈ gw := gw_t (i := 438) (by decide +kernel) (by decide +kernel)
theorem w_439 : (Cond.code ⟨"StageLayerModel", "writes", "(II)V"⟩ prog_3_method_11_code 3 none) ∈ gw := gw_t (i := 439) (by decide +kernel) (by decide +kernel)
theorem w_440 : (Cond.methodLink "StageLayerLaw" 67 ⟨"StageLayerModel", "load", "(III)I"⟩) ∈ gw := gw_t (i := 440) (by decide +kernel) (by decide +kernel)
theorem w_441 : (Cond.instanceMethod ⟨"StageLayerModel", "load", "(III)I"⟩) ∈ gw := gw_t (i := 441) (by decide +kernel) (by decide +kernel)
theorem w_442 : (Cond.selects "StageLayerModel" ⟨"StageLayerModel", "load", "(III)I"⟩ ⟨"StageLayerModel", "load", "(III)I"⟩) ∈ gw := gw_t (i := 442) (by decide +kernel) (by decide +kernel)
theorem w_443 : (Cond.code ⟨"StageLayerModel", "load", "(III)I"⟩ prog_3_method_13_code 5 (some .int)) ∈ gw := gw_t (i := 443) (by decide +kernel) (by decide +kernel)
theorem w_444 : (Cond.methodLink "StageLayerLaw" 70 ⟨"StageLayerModel", "store", "(III)I"⟩) ∈ gw := gw_t (i := 444) (by decide +kernel) (by decide +kernel)
theorem w_445 : (Cond.instanceMethod ⟨"StageLayerModel", "store", "(III)I"⟩) ∈ gw := gw_t (i := 445) (by decide +kernel) (by decide +kernel)
theorem w_446 : (Cond.selects "StageLayerModel" ⟨"StageLayerModel", "store", "(III)I"⟩ ⟨"StageLayerModel", "store", "(III)I"⟩) ∈ gw := gw_t (i := 446) (by decide +kernel) (by decide +kernel)
theorem w_447 : (Cond.code ⟨"StageLayerModel", "store", "(III)I"⟩ prog_3_method_14_code 5 (some .int)) ∈ gw := gw_t (i := 447) (by decide +kernel) (by decide +kernel)
theorem w_448 : (Cond.methodLink "StageLayerLaw" 74 ⟨"StageLayerModel", "valid", "(IZ)I"⟩) ∈ gw := gw_t (i := 448) (by decide +kernel) (by decide +kernel)
theorem w_449 : (Cond.instanceMethod ⟨"StageLayerModel", "valid", "(IZ)I"⟩) ∈ gw := gw_t (i := 449) (by decide +kernel) (by decide +kernel)
theorem w_450 : (Cond.selects "StageLayerModel" ⟨"StageLayerModel", "valid", "(IZ)I"⟩ ⟨"StageLayerModel", "valid", "(IZ)I"⟩) ∈ gw := gw_t (i := 450) (by decide +kernel) (by decide +kernel)
theorem w_451 : (Cond.code ⟨"StageLayerModel", "valid", "(IZ)I"⟩ prog_3_method_15_code 4 (some .int)) ∈ gw := gw_t (i := 451) (by decide +kernel) (by decide +kernel)
theorem w_452 : (Cond.methodLink "StageLayerLaw" 78 ⟨"StageLayerModel", "drop", "()I"⟩) ∈ gw := gw_t (i := 452) (by decide +kernel) (by decide +kernel)
theorem w_453 : (Cond.instanceMethod ⟨"StageLayerModel", "drop", "()I"⟩) ∈ gw := gw_t (i := 453) (by decide +kernel) (by decide +kernel)
theorem w_454 : (Cond.selects "StageLayerModel" ⟨"StageLayerModel", "drop", "()I"⟩ ⟨"StageLayerModel", "drop", "()I"⟩) ∈ gw := gw_t (i := 454) (by decide +kernel) (by decide +kernel)
theorem w_455 : (Cond.code ⟨"StageLayerModel", "drop", "()I"⟩ prog_3_method_16_code 2 (some .int)) ∈ gw := gw_t (i := 455) (by decide +kernel) (by decide +kernel)
theorem w_456 : (Cond.methodLink "StageLayerLaw" 82 ⟨"StageLayerModel", "open", "(I)I"⟩) ∈ gw := gw_t (i := 456) (by decide +kernel) (by decide +kernel)
theorem w_457 : (Cond.instanceMethod ⟨"StageLayerModel", "open", "(I)I"⟩) ∈ gw := gw_t (i := 457) (by decide +kernel) (by decide +kernel)
theorem w_458 : (Cond.selects "StageLayerModel" ⟨"StageLayerModel", "open", "(I)I"⟩ ⟨"StageLayerModel", "open", "(I)I"⟩) ∈ gw := gw_t (i := 458) (by decide +kernel) (by decide +kernel)
theorem w_459 : (Cond.code ⟨"StageLayerModel", "open", "(I)I"⟩ prog_3_method_17_code 3 (some .int)) ∈ gw := gw_t (i := 459) (by decide +kernel) (by decide +kernel)
theorem w_460 : (Cond.methodLink "StageLayerLaw" 85 ⟨"StageLayerModel", "close", "()I"⟩) ∈ gw := gw_t (i := 460) (by decide +kernel) (by decide +kernel)
theorem w_461 : (Cond.instanceMethod ⟨"StageLayerModel", "close", "()I"⟩) ∈ gw := gw_t (i := 461) (by decide +kernel) (by decide +kernel)
theorem w_462 : (Cond.selects "StageLayerModel" ⟨"StageLayerModel", "close", "()I"⟩ ⟨"StageLayerModel", "close", "()I"⟩) ∈ gw := gw_t (i := 462) (by decide +kernel) (by decide +kernel)
theorem w_463 : (Cond.code ⟨"StageLayerModel", "close", "()I"⟩ prog_3_method_18_code 2 (some .int)) ∈ gw := gw_t (i := 463) (by decide +kernel) (by decide +kernel)
theorem w_464 : (Cond.methodLink "StageLayerLaw" 88 ⟨"StageLayerModel", "apply", "(III)I"⟩) ∈ gw := gw_t (i := 464) (by decide +kernel) (by decide +kernel)
theorem w_465 : (Cond.instanceMethod ⟨"StageLayerModel", "apply", "(III)I"⟩) ∈ gw := gw_t (i := 465) (by decide +kernel) (by decide +kernel)
theorem w_466 : (Cond.selects "StageLayerModel" ⟨"StageLayerModel", "apply", "(III)I"⟩ ⟨"StageLayerModel", "apply", "(III)I"⟩) ∈ gw := gw_t (i := 466) (by decide +kernel) (by decide +kernel)
theorem w_467 : (Cond.code ⟨"StageLayerModel", "apply", "(III)I"⟩ prog_3_method_19_code 7 (some .int)) ∈ gw := gw_t (i := 467) (by decide +kernel) (by decide +kernel)
theorem w_468 : (Cond.methodLink "StageLayerLaw" 91 ⟨"StageLayerModel", "lay", "(III)I"⟩) ∈ gw := gw_t (i := 468) (by decide +kernel) (by decide +kernel)
theorem w_469 : (Cond.instanceMethod ⟨"StageLayerModel", "lay", "(III)I"⟩) ∈ gw := gw_t (i := 469) (by decide +kernel) (by decide +kernel)
theorem w_470 : (Cond.selects "StageLayerModel" ⟨"StageLayerModel", "lay", "(III)I"⟩ ⟨"StageLayerModel", "lay", "(III)I"⟩) ∈ gw := gw_t (i := 470) (by decide +kernel) (by decide +kernel)
theorem w_471 : (Cond.code ⟨"StageLayerModel", "lay", "(III)I"⟩ prog_3_method_25_code 5 (some .int)) ∈ gw := gw_t (i := 471) (by decide +kernel) (by decide +kernel)
theorem w_472 : (Cond.methodLink "StageLayerModel" 106 ⟨"StageLayerModel", "place", "(IIII)I"⟩) ∈ gw := gw_t (i := 472) (by decide +kernel) (by decide +kernel)
theorem w_474 : (Cond.instanceMethod ⟨"StageLayerModel", "place", "(IIII)I"⟩) ∈ gw := gw_t (i := 474) (by decide +kernel) (by decide +kernel)
theorem w_475 : (Cond.code ⟨"StageLayerModel", "place", "(IIII)I"⟩ prog_3_method_24_code 8 (some .int)) ∈ gw := gw_t (i := 475) (by decide +kernel) (by decide +kernel)
theorem w_476 : (Cond.methodLink "StageLayerModel" 95 ⟨"StageLayerModel", "hasRoom", "(IIII)Z"⟩) ∈ gw := gw_t (i := 476) (by decide +kernel) (by decide +kernel)
theorem w_478 : (Cond.instanceMethod ⟨"StageLayerModel", "hasRoom", "(IIII)Z"⟩) ∈ gw := gw_t (i := 478) (by decide +kernel) (by decide +kernel)
theorem w_479 : (Cond.code ⟨"StageLayerModel", "hasRoom", "(IIII)Z"⟩ prog_3_method_23_code 5 (some .boolean)) ∈ gw := gw_t (i := 479) (by decide +kernel) (by decide +kernel)
theorem w_480 : (Cond.methodLink "StageLayerModel" 91 ⟨"StageLayerModel", "sum", "(III)I"⟩) ∈ gw := gw_t (i := 480) (by decide +kernel) (by decide +kernel)
theorem w_482 : (Cond.instanceMethod ⟨"StageLayerModel", "sum", "(III)I"⟩) ∈ gw := gw_t (i := 482) (by decide +kernel) (by decide +kernel)
theorem w_483 : (Cond.code ⟨"StageLayerModel", "sum", "(III)I"⟩ prog_3_method_22_code 6 (some .int)) ∈ gw := gw_t (i := 483) (by decide +kernel) (by decide +kernel)
theorem w_484 : (Cond.methodLink "StageLayerModel" 99 ⟨"StageLayerModel", "mayBe", "(III)Z"⟩) ∈ gw := gw_t (i := 484) (by decide +kernel) (by decide +kernel)
theorem w_486 : (Cond.instanceMethod ⟨"StageLayerModel", "mayBe", "(III)Z"⟩) ∈ gw := gw_t (i := 486) (by decide +kernel) (by decide +kernel)
theorem w_487 : (Cond.code ⟨"StageLayerModel", "mayBe", "(III)Z"⟩ prog_3_method_21_code 7 (some .boolean)) ∈ gw := gw_t (i := 487) (by decide +kernel) (by decide +kernel)
theorem w_488 : (Cond.methodLink "StageLayerModel" 87 ⟨"StageLayerModel", "isIn", "(II)Z"⟩) ∈ gw := gw_t (i := 488) (by decide +kernel) (by decide +kernel)
theorem w_490 : (Cond.instanceMethod ⟨"StageLayerModel", "isIn", "(II)Z"⟩) ∈ gw := gw_t (i := 490) (by decide +kernel) (by decide +kernel)
theorem w_491 : (Cond.code ⟨"StageLayerModel", "isIn", "(II)Z"⟩ prog_3_method_20_code 4 (some .boolean)) ∈ gw := gw_t (i := 491) (by decide +kernel) (by decide +kernel)
theorem w_492 : (Cond.methodLink "StageLayerLaw" 95 ⟨"StageLayerModel", "homeless", "()I"⟩) ∈ gw := gw_t (i := 492) (by decide +kernel) (by decide +kernel)
theorem w_493 : (Cond.instanceMethod ⟨"StageLayerModel", "homeless", "()I"⟩) ∈ gw := gw_t (i := 493) (by decide +kernel) (by decide +kernel)
theorem w_494 : (Cond.selects "StageLayerModel" ⟨"StageLayerModel", "homeless", "()I"⟩ ⟨"StageLayerModel", "homeless", "()I"⟩) ∈ gw := gw_t (i := 494) (by decide +kernel) (by decide +kernel)
theorem w_495 : (Cond.code ⟨"StageLayerModel", "homeless", "()I"⟩ prog_3_method_26_code 1 (some .int)) ∈ gw := gw_t (i := 495) (by decide +kernel) (by decide +kernel)
theorem w_496 : (Cond.methodLink "StageLayerLaw" 99 ⟨"StageLayerModel", "stage", "(I)I"⟩) ∈ gw := gw_t (i := 496) (by decide +kernel) (by decide +kernel)
theorem w_497 : (Cond.instanceMethod ⟨"StageLayerModel", "stage", "(I)I"⟩) ∈ gw := gw_t (i := 497) (by decide +kernel) (by decide +kernel)
theorem w_498 : (Cond.selects "StageLayerModel" ⟨"StageLayerModel", "stage", "(I)I"⟩ ⟨"StageLayerModel", "stage", "(I)I"⟩) ∈ gw := gw_t (i := 498) (by decide +kernel) (by decide +kernel)
theorem w_499 : (Cond.code ⟨"StageLayerModel", "stage", "(I)I"⟩ prog_3_method_27_code 2 (some .int)) ∈ gw := gw_t (i := 499) (by decide +kernel) (by decide +kernel)
theorem w_500 : (Cond.methodLink "StageLayerLaw" 103 ⟨"StageLayerModel", "used", "(II)I"⟩) ∈ gw := gw_t (i := 500) (by decide +kernel) (by decide +kernel)
theorem w_501 : (Cond.instanceMethod ⟨"StageLayerModel", "used", "(II)I"⟩) ∈ gw := gw_t (i := 501) (by decide +kernel) (by decide +kernel)
theorem w_502 : (Cond.selects "StageLayerModel" ⟨"StageLayerModel", "used", "(II)I"⟩ ⟨"StageLayerModel", "used", "(II)I"⟩) ∈ gw := gw_t (i := 502) (by decide +kernel) (by decide +kernel)
theorem w_503 : (Cond.code ⟨"StageLayerModel", "used", "(II)I"⟩ prog_3_method_28_code 3 (some .int)) ∈ gw := gw_t (i := 503) (by decide +kernel) (by decide +kernel)
theorem w_504 : (Cond.methodLink "StageLayerLaw" 107 ⟨"StageLayerModel", "count", "(I)I"⟩) ∈ gw := gw_t (i := 504) (by decide +kernel) (by decide +kernel)
theorem w_505 : (Cond.instanceMethod ⟨"StageLayerModel", "count", "(I)I"⟩) ∈ gw := gw_t (i := 505) (by decide +kernel) (by decide +kernel)
theorem w_506 : (Cond.selects "StageLayerModel" ⟨"StageLayerModel", "count", "(I)I"⟩ ⟨"StageLayerModel", "count", "(I)I"⟩) ∈ gw := gw_t (i := 506) (by decide +kernel) (by decide +kernel)
theorem w_507 : (Cond.code ⟨"StageLayerModel", "count", "(I)I"⟩ prog_3_method_29_code 2 (some .int)) ∈ gw := gw_t (i := 507) (by decide +kernel) (by decide +kernel)
theorem s_0 : (Cond.selects "StageLayer" ⟨"StageLayer", "forgetStages", "()V"⟩ ⟨"StageLayer", "forgetStages", "()V"⟩) ∈ gw := gw_s (by decide +kernel) (by decide +kernel)
theorem s_1 : (Cond.selects "java/lang/Throwable" ⟨"java/lang/Throwable", "fillInStackTrace", "(I)Ljava/lang/Throwable;"⟩ ⟨"java/lang/Throwable", "fillInStackTrace", "(I)Ljava/lang/Throwable;"⟩) ∈ gw := gw_s (by decide +kernel) (by decide +kernel)
theorem s_2 : (Cond.selects "StageLayer" ⟨"StageLayer", "addStep", "(JJII)I"⟩ ⟨"StageLayer", "addStep", "(JJII)I"⟩) ∈ gw := gw_s (by decide +kernel) (by decide +kernel)
theorem s_3 : (Cond.selects "StageLayer" ⟨"StageLayer", "innermostIf", "()I"⟩ ⟨"StageLayer", "innermostIf", "()I"⟩) ∈ gw := gw_s (by decide +kernel) (by decide +kernel)
theorem s_4 : (Cond.selects "StageLayer" ⟨"StageLayer", "need", "(III)V"⟩ ⟨"StageLayer", "need", "(III)V"⟩) ∈ gw := gw_s (by decide +kernel) (by decide +kernel)
theorem s_5 : (Cond.selects "StageLayer" ⟨"StageLayer", "emptyStages", "()V"⟩ ⟨"StageLayer", "emptyStages", "()V"⟩) ∈ gw := gw_s (by decide +kernel) (by decide +kernel)
theorem s_6 : (Cond.selects "StageLayer" ⟨"StageLayer", "findStage", "(IIII)I"⟩ ⟨"StageLayer", "findStage", "(IIII)I"⟩) ∈ gw := gw_s (by decide +kernel) (by decide +kernel)
theorem s_7 : (Cond.selects "StageLayer" ⟨"StageLayer", "earliestStage", "(I)I"⟩ ⟨"StageLayer", "earliestStage", "(I)I"⟩) ∈ gw := gw_s (by decide +kernel) (by decide +kernel)
theorem s_8 : (Cond.selects "StageLayer" ⟨"StageLayer", "stageOfSharedArray", "(I)I"⟩ ⟨"StageLayer", "stageOfSharedArray", "(I)I"⟩) ∈ gw := gw_s (by decide +kernel) (by decide +kernel)
theorem s_9 : (Cond.selects "StageLayer" ⟨"StageLayer", "hasRoom", "(IIII)Z"⟩ ⟨"StageLayer", "hasRoom", "(IIII)Z"⟩) ∈ gw := gw_s (by decide +kernel) (by decide +kernel)
theorem s_10 : (Cond.selects "StageLayer" ⟨"StageLayer", "settle", "(II)V"⟩ ⟨"StageLayer", "settle", "(II)V"⟩) ∈ gw := gw_s (by decide +kernel) (by decide +kernel)
theorem s_11 : (Cond.selects "StageLayerModel" ⟨"StageLayerModel", "isFull", "(I)Z"⟩ ⟨"StageLayerModel", "isFull", "(I)Z"⟩) ∈ gw := gw_s (by decide +kernel) (by decide +kernel)
theorem s_12 : (Cond.selects "StageLayerModel" ⟨"StageLayerModel", "comes", "(I)I"⟩ ⟨"StageLayerModel", "comes", "(I)I"⟩) ∈ gw := gw_s (by decide +kernel) (by decide +kernel)
theorem s_13 : (Cond.selects "StageLayerModel" ⟨"StageLayerModel", "reads", "(II)V"⟩ ⟨"StageLayerModel", "reads", "(II)V"⟩) ∈ gw := gw_s (by decide +kernel) (by decide +kernel)
theorem s_14 : (Cond.selects "StageLayerModel" ⟨"StageLayerModel", "writes", "(II)V"⟩ ⟨"StageLayerModel", "writes", "(II)V"⟩) ∈ gw := gw_s (by decide +kernel) (by decide +kernel)
theorem s_15 : (Cond.selects "StageLayerModel" ⟨"StageLayerModel", "place", "(IIII)I"⟩ ⟨"StageLayerModel", "place", "(IIII)I"⟩) ∈ gw := gw_s (by decide +kernel) (by decide +kernel)
theorem s_16 : (Cond.selects "StageLayerModel" ⟨"StageLayerModel", "hasRoom", "(IIII)Z"⟩ ⟨"StageLayerModel", "hasRoom", "(IIII)Z"⟩) ∈ gw := gw_s (by decide +kernel) (by decide +kernel)
theorem s_17 : (Cond.selects "StageLayerModel" ⟨"StageLayerModel", "sum", "(III)I"⟩ ⟨"StageLayerModel", "sum", "(III)I"⟩) ∈ gw := gw_s (by decide +kernel) (by decide +kernel)
theorem s_18 : (Cond.selects "StageLayerModel" ⟨"StageLayerModel", "mayBe", "(III)Z"⟩ ⟨"StageLayerModel", "mayBe", "(III)Z"⟩) ∈ gw := gw_s (by decide +kernel) (by decide +kernel)
theorem s_19 : (Cond.selects "StageLayerModel" ⟨"StageLayerModel", "isIn", "(II)Z"⟩ ⟨"StageLayerModel", "isIn", "(II)Z"⟩) ∈ gw := gw_s (by decide +kernel) (by decide +kernel)
abbrev cX0_init : ByteArray := prog_1_method_1_code
abbrev yX0_init : MethodName := ⟨RX0, "<init>", "()V"⟩
abbrev wsX0_init : List Cond := .code yX0_init cX0_init 1 none :: gw
abbrev cX0_clear : ByteArray := prog_1_method_2_code
abbrev yX0_clear : MethodName := ⟨RX0, "clear", "()V"⟩
abbrev wsX0_clear : List Cond := .code yX0_clear cX0_clear 1 none :: gw
abbrev cX0_forgetStages : ByteArray := prog_1_method_26_code
abbrev yX0_forgetStages : MethodName := ⟨RX0, "forgetStages", "()V"⟩
abbrev wsX0_forgetStages : List Cond := .code yX0_forgetStages cX0_forgetStages 1 none :: gw
abbrev cX0_homeless : ByteArray := prog_1_method_12_code
abbrev yX0_homeless : MethodName := ⟨RX0, "homeless", "()I"⟩
abbrev wsX0_homeless : List Cond := .code yX0_homeless cX0_homeless 1 (some .int) :: gw
abbrev cX0_stage : ByteArray := prog_1_method_13_code
abbrev yX0_stage : MethodName := ⟨RX0, "stage", "(I)I"⟩
abbrev wsX0_stage : List Cond := .code yX0_stage cX0_stage 2 (some .int) :: gw
abbrev cX0_used : ByteArray := prog_1_method_14_code
abbrev yX0_used : MethodName := ⟨RX0, "used", "(II)I"⟩
abbrev wsX0_used : List Cond := .code yX0_used cX0_used 3 (some .int) :: gw
abbrev cX0_count : ByteArray := prog_1_method_15_code
abbrev yX0_count : MethodName := ⟨RX0, "count", "(I)I"⟩
abbrev wsX0_count : List Cond := .code yX0_count cX0_count 2 (some .int) :: gw
abbrev cL_assign : ByteArray := method_3_code
abbrev yL_assign : MethodName := ⟨RL, "assign", "(LStageLayer;II[J)I"⟩
abbrev wsL_assign : List Cond := .codeWith yL_assign cL_assign 5 (some .int) [(0, 10, 13, 13), (0, 10, 17, 15)] :: gw
abbrev cX0_assign : ByteArray := prog_1_method_3_code
abbrev yX0_assign : MethodName := ⟨RX0, "assign", "(II)I"⟩
abbrev wsX0_assign : List Cond := .code yX0_assign cX0_assign 3 (some .int) :: gw
abbrev cX0_requirePlace : ByteArray := prog_1_method_16_code
abbrev yX0_requirePlace : MethodName := ⟨RX0, "requirePlace", "(I)V"⟩
abbrev wsX0_requirePlace : List Cond := .code yX0_requirePlace cX0_requirePlace 1 none :: gw
abbrev cX0_requireReadable : ByteArray := prog_1_method_18_code
abbrev yX0_requireReadable : MethodName := ⟨RX0, "requireReadable", "(I)V"⟩
abbrev wsX0_requireReadable : List Cond := .code yX0_requireReadable cX0_requireReadable 1 none :: gw
abbrev cX0_readingAndWriting : ByteArray := prog_1_method_21_code
abbrev yX0_readingAndWriting : MethodName := ⟨RX0, "readingAndWriting", "(II)J"⟩
abbrev wsX0_readingAndWriting : List Cond := .code yX0_readingAndWriting cX0_readingAndWriting 2 (some .long) :: gw
abbrev cX0_reading : ByteArray := prog_1_method_20_code
abbrev yX0_reading : MethodName := ⟨RX0, "reading", "(I)J"⟩
abbrev wsX0_reading : List Cond := .code yX0_reading cX0_reading 1 (some .long) :: gw
abbrev cX0_validitiesOf : ByteArray := prog_1_method_19_code
abbrev yX0_validitiesOf : MethodName := ⟨RX0, "validitiesOf", "(I)J"⟩
abbrev wsX0_validitiesOf : List Cond := .code yX0_validitiesOf cX0_validitiesOf 1 (some .long) :: gw
abbrev cX0_costOf : ByteArray := prog_1_method_22_code
abbrev yX0_costOf : MethodName := ⟨RX0, "costOf", "(I)I"⟩
abbrev wsX0_costOf : List Cond := .code yX0_costOf cX0_costOf 1 (some .int) :: gw
abbrev cJ6_bitCount : ByteArray := prog_8_method_49_code
abbrev yJ6_bitCount : MethodName := ⟨RJ6, "bitCount", "(I)I"⟩
abbrev wsJ6_bitCount : List Cond := .code yJ6_bitCount cJ6_bitCount 1 (some .int) :: gw
abbrev cX0_addStep : ByteArray := prog_1_method_23_code
abbrev yX0_addStep : MethodName := ⟨RX0, "addStep", "(JJII)I"⟩
abbrev wsX0_addStep : List Cond := .code yX0_addStep cX0_addStep 8 (some .int) :: gw
abbrev cX0_innermostIf : ByteArray := prog_1_method_25_code
abbrev yX0_innermostIf : MethodName := ⟨RX0, "innermostIf", "()I"⟩
abbrev wsX0_innermostIf : List Cond := .code yX0_innermostIf cX0_innermostIf 1 (some .int) :: gw
abbrev cX0_need : ByteArray := prog_1_method_24_code
abbrev yX0_need : MethodName := ⟨RX0, "need", "(III)V"⟩
abbrev wsX0_need : List Cond := .code yX0_need cX0_need 4 none :: gw
abbrev cL_load : ByteArray := method_4_code
abbrev yL_load : MethodName := ⟨RL, "load", "(LStageLayer;III[J)I"⟩
abbrev wsL_load : List Cond := .codeWith yL_load cL_load 6 (some .int) [(0, 12, 15, 13), (0, 12, 19, 15)] :: gw
abbrev cX0_load : ByteArray := prog_1_method_4_code
abbrev yX0_load : MethodName := ⟨RX0, "load", "(III)I"⟩
abbrev wsX0_load : List Cond := .code yX0_load cX0_load 4 (some .int) :: gw
abbrev cX0_requireArray : ByteArray := prog_1_method_17_code
abbrev yX0_requireArray : MethodName := ⟨RX0, "requireArray", "(I)V"⟩
abbrev wsX0_requireArray : List Cond := .code yX0_requireArray cX0_requireArray 1 none :: gw
abbrev cL_store : ByteArray := method_5_code
abbrev yL_store : MethodName := ⟨RL, "store", "(LStageLayer;III[J)I"⟩
abbrev wsL_store : List Cond := .codeWith yL_store cL_store 6 (some .int) [(0, 12, 15, 13), (0, 12, 19, 15)] :: gw
abbrev cX0_store : ByteArray := prog_1_method_5_code
abbrev yX0_store : MethodName := ⟨RX0, "store", "(III)I"⟩
abbrev wsX0_store : List Cond := .code yX0_store cX0_store 4 (some .int) :: gw
abbrev cL_valid : ByteArray := method_6_code
abbrev yL_valid : MethodName := ⟨RL, "valid", "(LStageLayer;IZ[J)I"⟩
abbrev wsL_valid : List Cond := .codeWith yL_valid cL_valid 5 (some .int) [(0, 10, 13, 13), (0, 10, 17, 15)] :: gw
abbrev cX0_valid : ByteArray := prog_1_method_6_code
abbrev yX0_valid : MethodName := ⟨RX0, "valid", "(IZ)I"⟩
abbrev wsX0_valid : List Cond := .code yX0_valid cX0_valid 4 (some .int) :: gw
abbrev cL_drop : ByteArray := method_7_code
abbrev yL_drop : MethodName := ⟨RL, "drop", "(LStageLayer;[J)I"⟩
abbrev wsL_drop : List Cond := .codeWith yL_drop cL_drop 3 (some .int) [(0, 8, 11, 15)] :: gw
abbrev cX0_drop : ByteArray := prog_1_method_7_code
abbrev yX0_drop : MethodName := ⟨RX0, "drop", "()I"⟩
abbrev wsX0_drop : List Cond := .code yX0_drop cX0_drop 1 (some .int) :: gw
abbrev cL_open : ByteArray := method_8_code
abbrev yL_open : MethodName := ⟨RL, "open", "(LStageLayer;I[J)I"⟩
abbrev wsL_open : List Cond := .codeWith yL_open cL_open 4 (some .int) [(0, 9, 12, 13), (0, 9, 15, 15)] :: gw
abbrev cX0_open : ByteArray := prog_1_method_8_code
abbrev yX0_open : MethodName := ⟨RX0, "open", "(I)I"⟩
abbrev wsX0_open : List Cond := .code yX0_open cX0_open 3 (some .int) :: gw
abbrev cL_close : ByteArray := method_9_code
abbrev yL_close : MethodName := ⟨RL, "close", "(LStageLayer;[J)I"⟩
abbrev wsL_close : List Cond := .codeWith yL_close cL_close 3 (some .int) [(0, 8, 11, 15)] :: gw
abbrev cX0_close : ByteArray := prog_1_method_9_code
abbrev yX0_close : MethodName := ⟨RX0, "close", "()I"⟩
abbrev wsX0_close : List Cond := .code yX0_close cX0_close 1 (some .int) :: gw
abbrev cL_apply : ByteArray := method_10_code
abbrev yL_apply : MethodName := ⟨RL, "apply", "(LStageLayer;III[J)I"⟩
abbrev wsL_apply : List Cond := .codeWith yL_apply cL_apply 6 (some .int) [(0, 12, 15, 13), (0, 12, 19, 42), (0, 12, 23, 15)] :: gw
abbrev cX0_apply : ByteArray := prog_1_method_10_code
abbrev yX0_apply : MethodName := ⟨RX0, "apply", "(III)I"⟩
abbrev wsX0_apply : List Cond := .code yX0_apply cX0_apply 7 (some .int) :: gw
abbrev cL_lay : ByteArray := method_11_code
abbrev yL_lay : MethodName := ⟨RL, "lay", "(LStageLayer;III[J)I"⟩
abbrev wsL_lay : List Cond := .codeWith yL_lay cL_lay 6 (some .int) [(0, 12, 15, 42)] :: gw
abbrev cX0_lay : ByteArray := prog_1_method_11_code
abbrev yX0_lay : MethodName := ⟨RX0, "lay", "(III)I"⟩
abbrev wsX0_lay : List Cond := .code yX0_lay cX0_lay 7 (some .int) :: gw
abbrev cX0_emptyStages : ByteArray := prog_1_method_27_code
abbrev yX0_emptyStages : MethodName := ⟨RX0, "emptyStages", "()V"⟩
abbrev wsX0_emptyStages : List Cond := .code yX0_emptyStages cX0_emptyStages 2 none :: gw
abbrev cX0_findStage : ByteArray := prog_1_method_28_code
abbrev yX0_findStage : MethodName := ⟨RX0, "findStage", "(IIII)I"⟩
abbrev wsX0_findStage : List Cond := .code yX0_findStage cX0_findStage 9 (some .int) :: gw
abbrev cX0_earliestStage : ByteArray := prog_1_method_29_code
abbrev yX0_earliestStage : MethodName := ⟨RX0, "earliestStage", "(I)I"⟩
abbrev wsX0_earliestStage : List Cond := .code yX0_earliestStage cX0_earliestStage 9 (some .int) :: gw
abbrev cX0_stageOfSharedArray : ByteArray := prog_1_method_30_code
abbrev yX0_stageOfSharedArray : MethodName := ⟨RX0, "stageOfSharedArray", "(I)I"⟩
abbrev wsX0_stageOfSharedArray : List Cond := .code yX0_stageOfSharedArray cX0_stageOfSharedArray 3 (some .int) :: gw
abbrev cX0_hasRoom : ByteArray := prog_1_method_31_code
abbrev yX0_hasRoom : MethodName := ⟨RX0, "hasRoom", "(IIII)Z"⟩
abbrev wsX0_hasRoom : List Cond := .code yX0_hasRoom cX0_hasRoom 5 (some .boolean) :: gw
abbrev cX0_settle : ByteArray := prog_1_method_32_code
abbrev yX0_settle : MethodName := ⟨RX0, "settle", "(II)V"⟩
abbrev wsX0_settle : List Cond := .code yX0_settle cX0_settle 3 none :: gw
abbrev cX1_init : ByteArray := prog_3_method_1_code
abbrev yX1_init : MethodName := ⟨RX1, "<init>", "()V"⟩
abbrev wsX1_init : List Cond := .code yX1_init cX1_init 1 none :: gw
abbrev cX1_thrown : ByteArray := prog_3_method_2_code
abbrev yX1_thrown : MethodName := ⟨RX1, "thrown", "()I"⟩
abbrev wsX1_thrown : List Cond := .code yX1_thrown cX1_thrown 1 (some .int) :: gw
abbrev cX1_clear : ByteArray := prog_3_method_3_code
abbrev yX1_clear : MethodName := ⟨RX1, "clear", "()V"⟩
abbrev wsX1_clear : List Cond := .code yX1_clear cX1_clear 1 none :: gw
abbrev cX1_assign : ByteArray := prog_3_method_12_code
abbrev yX1_assign : MethodName := ⟨RX1, "assign", "(II)I"⟩
abbrev wsX1_assign : List Cond := .code yX1_assign cX1_assign 4 (some .int) :: gw
abbrev cX1_isPlace : ByteArray := prog_3_method_7_code
abbrev yX1_isPlace : MethodName := ⟨RX1, "isPlace", "(I)Z"⟩
abbrev wsX1_isPlace : List Cond := .code yX1_isPlace cX1_isPlace 1 (some .boolean) :: gw
abbrev cX1_isSet : ByteArray := prog_3_method_4_code
abbrev yX1_isSet : MethodName := ⟨RX1, "isSet", "(I)Z"⟩
abbrev wsX1_isSet : List Cond := .code yX1_isSet cX1_isSet 1 (some .boolean) :: gw
abbrev cX1_counts : ByteArray := prog_3_method_6_code
abbrev yX1_counts : MethodName := ⟨RX1, "counts", "(I)I"⟩
abbrev wsX1_counts : List Cond := .code yX1_counts cX1_counts 1 (some .int) :: gw
abbrev cX1_ones : ByteArray := prog_3_method_5_code
abbrev yX1_ones : MethodName := ⟨RX1, "ones", "(I)I"⟩
abbrev wsX1_ones : List Cond := .code yX1_ones cX1_ones 3 (some .int) :: gw
abbrev cX1_isFull : ByteArray := prog_3_method_8_code
abbrev yX1_isFull : MethodName := ⟨RX1, "isFull", "(I)Z"⟩
abbrev wsX1_isFull : List Cond := .code yX1_isFull cX1_isFull 2 (some .boolean) :: gw
abbrev cX1_comes : ByteArray := prog_3_method_9_code
abbrev yX1_comes : MethodName := ⟨RX1, "comes", "(I)I"⟩
abbrev wsX1_comes : List Cond := .code yX1_comes cX1_comes 4 (some .int) :: gw
abbrev cX1_reads : ByteArray := prog_3_method_10_code
abbrev yX1_reads : MethodName := ⟨RX1, "reads", "(II)V"⟩
abbrev wsX1_reads : List Cond := .code yX1_reads cX1_reads 4 none :: gw
abbrev cX1_writes : ByteArray := prog_3_method_11_code
abbrev yX1_writes : MethodName := ⟨RX1, "writes", "(II)V"⟩
abbrev wsX1_writes : List Cond := .code yX1_writes cX1_writes 3 none :: gw
abbrev cX1_load : ByteArray := prog_3_method_13_code
abbrev yX1_load : MethodName := ⟨RX1, "load", "(III)I"⟩
abbrev wsX1_load : List Cond := .code yX1_load cX1_load 5 (some .int) :: gw
abbrev cX1_store : ByteArray := prog_3_method_14_code
abbrev yX1_store : MethodName := ⟨RX1, "store", "(III)I"⟩
abbrev wsX1_store : List Cond := .code yX1_store cX1_store 5 (some .int) :: gw
abbrev cX1_valid : ByteArray := prog_3_method_15_code
abbrev yX1_valid : MethodName := ⟨RX1, "valid", "(IZ)I"⟩
abbrev wsX1_valid : List Cond := .code yX1_valid cX1_valid 4 (some .int) :: gw
abbrev cX1_drop : ByteArray := prog_3_method_16_code
abbrev yX1_drop : MethodName := ⟨RX1, "drop", "()I"⟩
abbrev wsX1_drop : List Cond := .code yX1_drop cX1_drop 2 (some .int) :: gw
abbrev cX1_open : ByteArray := prog_3_method_17_code
abbrev yX1_open : MethodName := ⟨RX1, "open", "(I)I"⟩
abbrev wsX1_open : List Cond := .code yX1_open cX1_open 3 (some .int) :: gw
abbrev cX1_close : ByteArray := prog_3_method_18_code
abbrev yX1_close : MethodName := ⟨RX1, "close", "()I"⟩
abbrev wsX1_close : List Cond := .code yX1_close cX1_close 2 (some .int) :: gw
abbrev cX1_apply : ByteArray := prog_3_method_19_code
abbrev yX1_apply : MethodName := ⟨RX1, "apply", "(III)I"⟩
abbrev wsX1_apply : List Cond := .code yX1_apply cX1_apply 7 (some .int) :: gw
abbrev cX1_lay : ByteArray := prog_3_method_25_code
abbrev yX1_lay : MethodName := ⟨RX1, "lay", "(III)I"⟩
abbrev wsX1_lay : List Cond := .code yX1_lay cX1_lay 5 (some .int) :: gw
abbrev cX1_place : ByteArray := prog_3_method_24_code
abbrev yX1_place : MethodName := ⟨RX1, "place", "(IIII)I"⟩
abbrev wsX1_place : List Cond := .code yX1_place cX1_place 8 (some .int) :: gw
abbrev cX1_hasRoom : ByteArray := prog_3_method_23_code
abbrev yX1_hasRoom : MethodName := ⟨RX1, "hasRoom", "(IIII)Z"⟩
abbrev wsX1_hasRoom : List Cond := .code yX1_hasRoom cX1_hasRoom 5 (some .boolean) :: gw
abbrev cX1_sum : ByteArray := prog_3_method_22_code
abbrev yX1_sum : MethodName := ⟨RX1, "sum", "(III)I"⟩
abbrev wsX1_sum : List Cond := .code yX1_sum cX1_sum 6 (some .int) :: gw
abbrev cX1_mayBe : ByteArray := prog_3_method_21_code
abbrev yX1_mayBe : MethodName := ⟨RX1, "mayBe", "(III)Z"⟩
abbrev wsX1_mayBe : List Cond := .code yX1_mayBe cX1_mayBe 7 (some .boolean) :: gw
abbrev cX1_isIn : ByteArray := prog_3_method_20_code
abbrev yX1_isIn : MethodName := ⟨RX1, "isIn", "(II)Z"⟩
abbrev wsX1_isIn : List Cond := .code yX1_isIn cX1_isIn 4 (some .boolean) :: gw
abbrev cX1_homeless : ByteArray := prog_3_method_26_code
abbrev yX1_homeless : MethodName := ⟨RX1, "homeless", "()I"⟩
abbrev wsX1_homeless : List Cond := .code yX1_homeless cX1_homeless 1 (some .int) :: gw
abbrev cX1_stage : ByteArray := prog_3_method_27_code
abbrev yX1_stage : MethodName := ⟨RX1, "stage", "(I)I"⟩
abbrev wsX1_stage : List Cond := .code yX1_stage cX1_stage 2 (some .int) :: gw
abbrev cX1_used : ByteArray := prog_3_method_28_code
abbrev yX1_used : MethodName := ⟨RX1, "used", "(II)I"⟩
abbrev wsX1_used : List Cond := .code yX1_used cX1_used 3 (some .int) :: gw
abbrev cX1_count : ByteArray := prog_3_method_29_code
abbrev yX1_count : MethodName := ⟨RX1, "count", "(I)I"⟩
abbrev wsX1_count : List Cond := .code yX1_count cX1_count 2 (some .int) :: gw
end
section
theorem dX0_init_0 : decode cX0_init 0 = .ok (.aload_n 0, 1) := by decide +kernel
theorem dX0_init_1 : decode cX0_init 1 = .ok (.invokespecial 3, 3) := by decide +kernel
theorem dX0_init_4 : decode cX0_init 4 = .ok (.aload_n 0, 1) := by decide +kernel
theorem dX0_init_5 : decode cX0_init 5 = .ok (.bipush 48, 2) := by decide +kernel
theorem dX0_init_7 : decode cX0_init 7 = .ok (.newarray .long, 2) := by decide +kernel
theorem dX0_init_9 : decode cX0_init 9 = .ok (.putfield 9, 3) := by decide +kernel
theorem dX0_init_12 : decode cX0_init 12 = .ok (.aload_n 0, 1) := by decide +kernel
theorem dX0_init_13 : decode cX0_init 13 = .ok (.bipush 48, 2) := by decide +kernel
theorem dX0_init_15 : decode cX0_init 15 = .ok (.newarray .long, 2) := by decide +kernel
theorem dX0_init_17 : decode cX0_init 17 = .ok (.putfield 13, 3) := by decide +kernel
theorem dX0_init_20 : decode cX0_init 20 = .ok (.aload_n 0, 1) := by decide +kernel
theorem dX0_init_21 : decode cX0_init 21 = .ok (.bipush 48, 2) := by decide +kernel
theorem dX0_init_23 : decode cX0_init 23 = .ok (.newarray .int, 2) := by decide +kernel
theorem dX0_init_25 : decode cX0_init 25 = .ok (.putfield 16, 3) := by decide +kernel
theorem dX0_init_28 : decode cX0_init 28 = .ok (.aload_n 0, 1) := by decide +kernel
theorem dX0_init_29 : decode cX0_init 29 = .ok (.bipush 48, 2) := by decide +kernel
theorem dX0_init_31 : decode cX0_init 31 = .ok (.newarray .int, 2) := by decide +kernel
theorem dX0_init_33 : decode cX0_init 33 = .ok (.putfield 20, 3) := by decide +kernel
theorem dX0_init_36 : decode cX0_init 36 = .ok (.aload_n 0, 1) := by decide +kernel
theorem dX0_init_37 : decode cX0_init 37 = .ok (.bipush 48, 2) := by decide +kernel
theorem dX0_init_39 : decode cX0_init 39 = .ok (.newarray .int, 2) := by decide +kernel
theorem dX0_init_41 : decode cX0_init 41 = .ok (.putfield 23, 3) := by decide +kernel
theorem dX0_init_44 : decode cX0_init 44 = .ok (.aload_n 0, 1) := by decide +kernel
theorem dX0_init_45 : decode cX0_init 45 = .ok (.bipush 48, 2) := by decide +kernel
theorem dX0_init_47 : decode cX0_init 47 = .ok (.newarray .int, 2) := by decide +kernel
theorem dX0_init_49 : decode cX0_init 49 = .ok (.putfield 26, 3) := by decide +kernel
theorem dX0_init_52 : decode cX0_init 52 = .ok (.aload_n 0, 1) := by decide +kernel
theorem dX0_init_53 : decode cX0_init 53 = .ok (.bipush 48, 2) := by decide +kernel
theorem dX0_init_55 : decode cX0_init 55 = .ok (.newarray .int, 2) := by decide +kernel
theorem dX0_init_57 : decode cX0_init 57 = .ok (.putfield 29, 3) := by decide +kernel
theorem dX0_init_60 : decode cX0_init 60 = .ok (.aload_n 0, 1) := by decide +kernel
theorem dX0_init_61 : decode cX0_init 61 = .ok (.bipush 8, 2) := by decide +kernel
theorem dX0_init_63 : decode cX0_init 63 = .ok (.newarray .int, 2) := by decide +kernel
theorem dX0_init_65 : decode cX0_init 65 = .ok (.putfield 32, 3) := by decide +kernel
theorem dX0_init_68 : decode cX0_init 68 = .ok (.aload_n 0, 1) := by decide +kernel
theorem dX0_init_69 : decode cX0_init 69 = .ok (.bipush 12, 2) := by decide +kernel
theorem dX0_init_71 : decode cX0_init 71 = .ok (.newarray .int, 2) := by decide +kernel
theorem dX0_init_73 : decode cX0_init 73 = .ok (.putfield 35, 3) := by decide +kernel
theorem dX0_init_76 : decode cX0_init 76 = .ok (.aload_n 0, 1) := by decide +kernel
theorem dX0_init_77 : decode cX0_init 77 = .ok (.bipush 12, 2) := by decide +kernel
theorem dX0_init_79 : decode cX0_init 79 = .ok (.newarray .int, 2) := by decide +kernel
theorem dX0_init_81 : decode cX0_init 81 = .ok (.putfield 38, 3) := by decide +kernel
theorem dX0_init_84 : decode cX0_init 84 = .ok (.aload_n 0, 1) := by decide +kernel
theorem dX0_init_85 : decode cX0_init 85 = .ok (.bipush 12, 2) := by decide +kernel
theorem dX0_init_87 : decode cX0_init 87 = .ok (.newarray .int, 2) := by decide +kernel
theorem dX0_init_89 : decode cX0_init 89 = .ok (.putfield 41, 3) := by decide +kernel
theorem dX0_init_92 : decode cX0_init 92 = .ok (.aload_n 0, 1) := by decide +kernel
theorem dX0_init_93 : decode cX0_init 93 = .ok (.iconst (-1), 1) := by decide +kernel
theorem dX0_init_94 : decode cX0_init 94 = .ok (.putfield 44, 3) := by decide +kernel
theorem dX0_init_97 : decode cX0_init 97 = .ok (.return_, 1) := by decide +kernel
theorem dX0_clear_0 : decode cX0_clear 0 = .ok (.aload_n 0, 1) := by decide +kernel
theorem dX0_clear_1 : decode cX0_clear 1 = .ok (.iconst 0, 1) := by decide +kernel
theorem dX0_clear_2 : decode cX0_clear 2 = .ok (.putfield 48, 3) := by decide +kernel
theorem dX0_clear_5 : decode cX0_clear 5 = .ok (.aload_n 0, 1) := by decide +kernel
theorem dX0_clear_6 : decode cX0_clear 6 = .ok (.iconst 0, 1) := by decide +kernel
theorem dX0_clear_7 : decode cX0_clear 7 = .ok (.putfield 51, 3) := by decide +kernel
theorem dX0_clear_10 : decode cX0_clear 10 = .ok (.aload_n 0, 1) := by decide +kernel
theorem dX0_clear_11 : decode cX0_clear 11 = .ok (.iconst 0, 1) := by decide +kernel
theorem dX0_clear_12 : decode cX0_clear 12 = .ok (.putfield 54, 3) := by decide +kernel
theorem dX0_clear_15 : decode cX0_clear 15 = .ok (.aload_n 0, 1) := by decide +kernel
theorem dX0_clear_16 : decode cX0_clear 16 = .ok (.iconst 0, 1) := by decide +kernel
theorem dX0_clear_17 : decode cX0_clear 17 = .ok (.putfield 57, 3) := by decide +kernel
theorem dX0_clear_20 : decode cX0_clear 20 = .ok (.aload_n 0, 1) := by decide +kernel
theorem dX0_clear_21 : decode cX0_clear 21 = .ok (.invokevirtual 60, 3) := by decide +kernel
theorem dX0_clear_24 : decode cX0_clear 24 = .ok (.return_, 1) := by decide +kernel
theorem dX0_assign_0 : decode cX0_assign 0 = .ok (.iload_n 1, 1) := by decide +kernel
theorem dX0_assign_1 : decode cX0_assign 1 = .ok (.invokestatic 63, 3) := by decide +kernel
theorem dX0_assign_4 : decode cX0_assign 4 = .ok (.iload_n 2, 1) := by decide +kernel
theorem dX0_assign_5 : decode cX0_assign 5 = .ok (.invokestatic 67, 3) := by decide +kernel
theorem dX0_assign_8 : decode cX0_assign 8 = .ok (.aload_n 0, 1) := by decide +kernel
theorem dX0_assign_9 : decode cX0_assign 9 = .ok (.iload_n 2, 1) := by decide +kernel
theorem dX0_assign_10 : decode cX0_assign 10 = .ok (.iload_n 1, 1) := by decide +kernel
theorem dX0_assign_11 : decode cX0_assign 11 = .ok (.invokestatic 70, 3) := by decide +kernel
theorem dX0_assign_14 : decode cX0_assign 14 = .ok (.lconst 1, 1) := by decide +kernel
theorem dX0_assign_15 : decode cX0_assign 15 = .ok (.iload_n 1, 1) := by decide +kernel
theorem dX0_assign_16 : decode cX0_assign 16 = .ok (.lshl, 1) := by decide +kernel
theorem dX0_assign_17 : decode cX0_assign 17 = .ok (.iconst (-1), 1) := by decide +kernel
theorem dX0_assign_18 : decode cX0_assign 18 = .ok (.iload_n 2, 1) := by decide +kernel
theorem dX0_assign_19 : decode cX0_assign 19 = .ok (.invokestatic 74, 3) := by decide +kernel
theorem dX0_assign_22 : decode cX0_assign 22 = .ok (.invokevirtual 78, 3) := by decide +kernel
theorem dX0_assign_25 : decode cX0_assign 25 = .ok (.ireturn, 1) := by decide +kernel
theorem dX0_load_0 : decode cX0_load 0 = .ok (.iload_n 1, 1) := by decide +kernel
theorem dX0_load_1 : decode cX0_load 1 = .ok (.invokestatic 63, 3) := by decide +kernel
theorem dX0_load_4 : decode cX0_load 4 = .ok (.iload_n 2, 1) := by decide +kernel
theorem dX0_load_5 : decode cX0_load 5 = .ok (.invokestatic 82, 3) := by decide +kernel
theorem dX0_load_8 : decode cX0_load 8 = .ok (.iload_n 3, 1) := by decide +kernel
theorem dX0_load_9 : decode cX0_load 9 = .ok (.invokestatic 67, 3) := by decide +kernel
theorem dX0_load_12 : decode cX0_load 12 = .ok (.aload_n 0, 1) := by decide +kernel
theorem dX0_load_13 : decode cX0_load 13 = .ok (.iload_n 3, 1) := by decide +kernel
theorem dX0_load_14 : decode cX0_load 14 = .ok (.iload_n 1, 1) := by decide +kernel
theorem dX0_load_15 : decode cX0_load 15 = .ok (.invokestatic 70, 3) := by decide +kernel
theorem dX0_load_18 : decode cX0_load 18 = .ok (.lconst 1, 1) := by decide +kernel
theorem dX0_load_19 : decode cX0_load 19 = .ok (.iload_n 1, 1) := by decide +kernel
theorem dX0_load_20 : decode cX0_load 20 = .ok (.lshl, 1) := by decide +kernel
theorem dX0_load_21 : decode cX0_load 21 = .ok (.iload_n 2, 1) := by decide +kernel
theorem dX0_load_22 : decode cX0_load 22 = .ok (.iload_n 3, 1) := by decide +kernel
theorem dX0_load_23 : decode cX0_load 23 = .ok (.invokestatic 74, 3) := by decide +kernel
theorem dX0_load_26 : decode cX0_load 26 = .ok (.invokevirtual 78, 3) := by decide +kernel
theorem dX0_load_29 : decode cX0_load 29 = .ok (.ireturn, 1) := by decide +kernel
theorem dX0_store_0 : decode cX0_store 0 = .ok (.iload_n 1, 1) := by decide +kernel
theorem dX0_store_1 : decode cX0_store 1 = .ok (.invokestatic 82, 3) := by decide +kernel
theorem dX0_store_4 : decode cX0_store 4 = .ok (.iload_n 2, 1) := by decide +kernel
theorem dX0_store_5 : decode cX0_store 5 = .ok (.invokestatic 67, 3) := by decide +kernel
theorem dX0_store_8 : decode cX0_store 8 = .ok (.iload_n 3, 1) := by decide +kernel
theorem dX0_store_9 : decode cX0_store 9 = .ok (.invokestatic 67, 3) := by decide +kernel
theorem dX0_store_12 : decode cX0_store 12 = .ok (.aload_n 0, 1) := by decide +kernel
theorem dX0_store_13 : decode cX0_store 13 = .ok (.iload_n 2, 1) := by decide +kernel
theorem dX0_store_14 : decode cX0_store 14 = .ok (.iload_n 3, 1) := by decide +kernel
theorem dX0_store_15 : decode cX0_store 15 = .ok (.ior, 1) := by decide +kernel
theorem dX0_store_16 : decode cX0_store 16 = .ok (.invokestatic 85, 3) := by decide +kernel
theorem dX0_store_19 : decode cX0_store 19 = .ok (.lconst 0, 1) := by decide +kernel
theorem dX0_store_20 : decode cX0_store 20 = .ok (.iload_n 1, 1) := by decide +kernel
theorem dX0_store_21 : decode cX0_store 21 = .ok (.iload_n 2, 1) := by decide +kernel
theorem dX0_store_22 : decode cX0_store 22 = .ok (.invokestatic 74, 3) := by decide +kernel
theorem dX0_store_25 : decode cX0_store 25 = .ok (.iload_n 3, 1) := by decide +kernel
theorem dX0_store_26 : decode cX0_store 26 = .ok (.invokestatic 74, 3) := by decide +kernel
theorem dX0_store_29 : decode cX0_store 29 = .ok (.iadd, 1) := by decide +kernel
theorem dX0_store_30 : decode cX0_store 30 = .ok (.invokevirtual 78, 3) := by decide +kernel
theorem dX0_store_33 : decode cX0_store 33 = .ok (.ireturn, 1) := by decide +kernel
theorem dX0_valid_0 : decode cX0_valid 0 = .ok (.iload_n 1, 1) := by decide +kernel
theorem dX0_valid_1 : decode cX0_valid 1 = .ok (.ifCond .lt 9, 3) := by decide +kernel
theorem dX0_valid_4 : decode cX0_valid 4 = .ok (.iload_n 1, 1) := by decide +kernel
theorem dX0_valid_5 : decode cX0_valid 5 = .ok (.bipush 12, 2) := by decide +kernel
theorem dX0_valid_7 : decode cX0_valid 7 = .ok (.if_icmp .lt 13, 3) := by decide +kernel
theorem dX0_valid_10 : decode cX0_valid 10 = .ok (.new 89, 3) := by decide +kernel
theorem dX0_valid_13 : decode cX0_valid 13 = .ok (.dup, 1) := by decide +kernel
theorem dX0_valid_14 : decode cX0_valid 14 = .ok (.ldc 91, 2) := by decide +kernel
theorem dX0_valid_16 : decode cX0_valid 16 = .ok (.invokespecial 93, 3) := by decide +kernel
theorem dX0_valid_19 : decode cX0_valid 19 = .ok (.athrow, 1) := by decide +kernel
theorem dX0_valid_20 : decode cX0_valid 20 = .ok (.iconst 1, 1) := by decide +kernel
theorem dX0_valid_21 : decode cX0_valid 21 = .ok (.bipush 16, 2) := by decide +kernel
theorem dX0_valid_23 : decode cX0_valid 23 = .ok (.iload_n 1, 1) := by decide +kernel
theorem dX0_valid_24 : decode cX0_valid 24 = .ok (.iadd, 1) := by decide +kernel
theorem dX0_valid_25 : decode cX0_valid 25 = .ok (.ishl, 1) := by decide +kernel
theorem dX0_valid_26 : decode cX0_valid 26 = .ok (.istore_n 3, 1) := by decide +kernel
theorem dX0_valid_27 : decode cX0_valid 27 = .ok (.aload_n 0, 1) := by decide +kernel
theorem dX0_valid_28 : decode cX0_valid 28 = .ok (.iload_n 3, 1) := by decide +kernel
theorem dX0_valid_29 : decode cX0_valid 29 = .ok (.invokestatic 96, 3) := by decide +kernel
theorem dX0_valid_32 : decode cX0_valid 32 = .ok (.iload_n 3, 1) := by decide +kernel
theorem dX0_valid_33 : decode cX0_valid 33 = .ok (.i2l, 1) := by decide +kernel
theorem dX0_valid_34 : decode cX0_valid 34 = .ok (.iload_n 3, 1) := by decide +kernel
theorem dX0_valid_35 : decode cX0_valid 35 = .ok (.invokestatic 96, 3) := by decide +kernel
theorem dX0_valid_38 : decode cX0_valid 38 = .ok (.lor, 1) := by decide +kernel
theorem dX0_valid_39 : decode cX0_valid 39 = .ok (.iconst (-1), 1) := by decide +kernel
theorem dX0_valid_40 : decode cX0_valid 40 = .ok (.iconst 0, 1) := by decide +kernel
theorem dX0_valid_41 : decode cX0_valid 41 = .ok (.invokevirtual 78, 3) := by decide +kernel
theorem dX0_valid_44 : decode cX0_valid 44 = .ok (.ireturn, 1) := by decide +kernel
theorem dX0_drop_0 : decode cX0_drop 0 = .ok (.aload_n 0, 1) := by decide +kernel
theorem dX0_drop_1 : decode cX0_drop 1 = .ok (.lconst 0, 1) := by decide +kernel
theorem dX0_drop_2 : decode cX0_drop 2 = .ok (.ldc2_w 99, 3) := by decide +kernel
theorem dX0_drop_5 : decode cX0_drop 5 = .ok (.iconst (-1), 1) := by decide +kernel
theorem dX0_drop_6 : decode cX0_drop 6 = .ok (.iconst 0, 1) := by decide +kernel
theorem dX0_drop_7 : decode cX0_drop 7 = .ok (.invokevirtual 78, 3) := by decide +kernel
theorem dX0_drop_10 : decode cX0_drop 10 = .ok (.ireturn, 1) := by decide +kernel
theorem dX0_open_0 : decode cX0_open 0 = .ok (.iload_n 1, 1) := by decide +kernel
theorem dX0_open_1 : decode cX0_open 1 = .ok (.invokestatic 67, 3) := by decide +kernel
theorem dX0_open_4 : decode cX0_open 4 = .ok (.aload_n 0, 1) := by decide +kernel
theorem dX0_open_5 : decode cX0_open 5 = .ok (.getfield 54, 3) := by decide +kernel
theorem dX0_open_8 : decode cX0_open 8 = .ok (.ifCond .lt 12, 3) := by decide +kernel
theorem dX0_open_11 : decode cX0_open 11 = .ok (.aload_n 0, 1) := by decide +kernel
theorem dX0_open_12 : decode cX0_open 12 = .ok (.getfield 54, 3) := by decide +kernel
theorem dX0_open_15 : decode cX0_open 15 = .ok (.bipush 8, 2) := by decide +kernel
theorem dX0_open_17 : decode cX0_open 17 = .ok (.if_icmp .lt 13, 3) := by decide +kernel
theorem dX0_open_20 : decode cX0_open 20 = .ok (.new 101, 3) := by decide +kernel
theorem dX0_open_23 : decode cX0_open 23 = .ok (.dup, 1) := by decide +kernel
theorem dX0_open_24 : decode cX0_open 24 = .ok (.ldc 103, 2) := by decide +kernel
theorem dX0_open_26 : decode cX0_open 26 = .ok (.invokespecial 105, 3) := by decide +kernel
theorem dX0_open_29 : decode cX0_open 29 = .ok (.athrow, 1) := by decide +kernel
theorem dX0_open_30 : decode cX0_open 30 = .ok (.aload_n 0, 1) := by decide +kernel
theorem dX0_open_31 : decode cX0_open 31 = .ok (.iload_n 1, 1) := by decide +kernel
theorem dX0_open_32 : decode cX0_open 32 = .ok (.invokestatic 85, 3) := by decide +kernel
theorem dX0_open_35 : decode cX0_open 35 = .ok (.lconst 0, 1) := by decide +kernel
theorem dX0_open_36 : decode cX0_open 36 = .ok (.iconst (-1), 1) := by decide +kernel
theorem dX0_open_37 : decode cX0_open 37 = .ok (.iload_n 1, 1) := by decide +kernel
theorem dX0_open_38 : decode cX0_open 38 = .ok (.invokestatic 74, 3) := by decide +kernel
theorem dX0_open_41 : decode cX0_open 41 = .ok (.invokevirtual 78, 3) := by decide +kernel
theorem dX0_open_44 : decode cX0_open 44 = .ok (.istore_n 2, 1) := by decide +kernel
theorem dX0_open_45 : decode cX0_open 45 = .ok (.aload_n 0, 1) := by decide +kernel
theorem dX0_open_46 : decode cX0_open 46 = .ok (.getfield 32, 3) := by decide +kernel
theorem dX0_open_49 : decode cX0_open 49 = .ok (.aload_n 0, 1) := by decide +kernel
theorem dX0_open_50 : decode cX0_open 50 = .ok (.getfield 54, 3) := by decide +kernel
theorem dX0_open_53 : decode cX0_open 53 = .ok (.iload_n 2, 1) := by decide +kernel
theorem dX0_open_54 : decode cX0_open 54 = .ok (.iastore, 1) := by decide +kernel
theorem dX0_open_55 : decode cX0_open 55 = .ok (.aload_n 0, 1) := by decide +kernel
theorem dX0_open_56 : decode cX0_open 56 = .ok (.dup, 1) := by decide +kernel
theorem dX0_open_57 : decode cX0_open 57 = .ok (.getfield 54, 3) := by decide +kernel
theorem dX0_open_60 : decode cX0_open 60 = .ok (.iconst 1, 1) := by decide +kernel
theorem dX0_open_61 : decode cX0_open 61 = .ok (.iadd, 1) := by decide +kernel
theorem dX0_open_62 : decode cX0_open 62 = .ok (.putfield 54, 3) := by decide +kernel
theorem dX0_open_65 : decode cX0_open 65 = .ok (.iload_n 2, 1) := by decide +kernel
theorem dX0_open_66 : decode cX0_open 66 = .ok (.ireturn, 1) := by decide +kernel
theorem dX0_close_0 : decode cX0_close 0 = .ok (.aload_n 0, 1) := by decide +kernel
theorem dX0_close_1 : decode cX0_close 1 = .ok (.getfield 54, 3) := by decide +kernel
theorem dX0_close_4 : decode cX0_close 4 = .ok (.iconst 1, 1) := by decide +kernel
theorem dX0_close_5 : decode cX0_close 5 = .ok (.if_icmp .lt 12, 3) := by decide +kernel
theorem dX0_close_8 : decode cX0_close 8 = .ok (.aload_n 0, 1) := by decide +kernel
theorem dX0_close_9 : decode cX0_close 9 = .ok (.getfield 54, 3) := by decide +kernel
theorem dX0_close_12 : decode cX0_close 12 = .ok (.bipush 8, 2) := by decide +kernel
theorem dX0_close_14 : decode cX0_close 14 = .ok (.if_icmp .le 13, 3) := by decide +kernel
theorem dX0_close_17 : decode cX0_close 17 = .ok (.new 101, 3) := by decide +kernel
theorem dX0_close_20 : decode cX0_close 20 = .ok (.dup, 1) := by decide +kernel
theorem dX0_close_21 : decode cX0_close 21 = .ok (.ldc 106, 2) := by decide +kernel
theorem dX0_close_23 : decode cX0_close 23 = .ok (.invokespecial 105, 3) := by decide +kernel
theorem dX0_close_26 : decode cX0_close 26 = .ok (.athrow, 1) := by decide +kernel
theorem dX0_close_27 : decode cX0_close 27 = .ok (.aload_n 0, 1) := by decide +kernel
theorem dX0_close_28 : decode cX0_close 28 = .ok (.dup, 1) := by decide +kernel
theorem dX0_close_29 : decode cX0_close 29 = .ok (.getfield 54, 3) := by decide +kernel
theorem dX0_close_32 : decode cX0_close 32 = .ok (.iconst 1, 1) := by decide +kernel
theorem dX0_close_33 : decode cX0_close 33 = .ok (.isub, 1) := by decide +kernel
theorem dX0_close_34 : decode cX0_close 34 = .ok (.putfield 54, 3) := by decide +kernel
theorem dX0_close_37 : decode cX0_close 37 = .ok (.aload_n 0, 1) := by decide +kernel
theorem dX0_close_38 : decode cX0_close 38 = .ok (.getfield 32, 3) := by decide +kernel
theorem dX0_close_41 : decode cX0_close 41 = .ok (.aload_n 0, 1) := by decide +kernel
theorem dX0_close_42 : decode cX0_close 42 = .ok (.getfield 54, 3) := by decide +kernel
theorem dX0_close_45 : decode cX0_close 45 = .ok (.iaload, 1) := by decide +kernel
theorem dX0_close_46 : decode cX0_close 46 = .ok (.ireturn, 1) := by decide +kernel
theorem dX0_apply_0 : decode cX0_apply 0 = .ok (.iload_n 3, 1) := by decide +kernel
theorem dX0_apply_1 : decode cX0_apply 1 = .ok (.invokestatic 63, 3) := by decide +kernel
theorem dX0_apply_4 : decode cX0_apply 4 = .ok (.iload_n 1, 1) := by decide +kernel
theorem dX0_apply_5 : decode cX0_apply 5 = .ok (.invokestatic 67, 3) := by decide +kernel
theorem dX0_apply_8 : decode cX0_apply 8 = .ok (.iload_n 1, 1) := by decide +kernel
theorem dX0_apply_9 : decode cX0_apply 9 = .ok (.invokestatic 108, 3) := by decide +kernel
theorem dX0_apply_12 : decode cX0_apply 12 = .ok (.istore 4, 2) := by decide +kernel
theorem dX0_apply_14 : decode cX0_apply 14 = .ok (.iload_n 2, 1) := by decide +kernel
theorem dX0_apply_15 : decode cX0_apply 15 = .ok (.iconst 1, 1) := by decide +kernel
theorem dX0_apply_16 : decode cX0_apply 16 = .ok (.if_icmp .lt 9, 3) := by decide +kernel
theorem dX0_apply_19 : decode cX0_apply 19 = .ok (.iload_n 2, 1) := by decide +kernel
theorem dX0_apply_20 : decode cX0_apply 20 = .ok (.bipush 32, 2) := by decide +kernel
theorem dX0_apply_22 : decode cX0_apply 22 = .ok (.if_icmp .le 13, 3) := by decide +kernel
theorem dX0_apply_25 : decode cX0_apply 25 = .ok (.new 113, 3) := by decide +kernel
theorem dX0_apply_28 : decode cX0_apply 28 = .ok (.dup, 1) := by decide +kernel
theorem dX0_apply_29 : decode cX0_apply 29 = .ok (.ldc 115, 2) := by decide +kernel
theorem dX0_apply_31 : decode cX0_apply 31 = .ok (.invokespecial 117, 3) := by decide +kernel
theorem dX0_apply_34 : decode cX0_apply 34 = .ok (.athrow, 1) := by decide +kernel
theorem dX0_apply_35 : decode cX0_apply 35 = .ok (.iload 4, 2) := by decide +kernel
theorem dX0_apply_37 : decode cX0_apply 37 = .ok (.iconst 1, 1) := by decide +kernel
theorem dX0_apply_38 : decode cX0_apply 38 = .ok (.if_icmp .lt 9, 3) := by decide +kernel
theorem dX0_apply_41 : decode cX0_apply 41 = .ok (.iload 4, 2) := by decide +kernel
theorem dX0_apply_43 : decode cX0_apply 43 = .ok (.iconst 4, 1) := by decide +kernel
theorem dX0_apply_44 : decode cX0_apply 44 = .ok (.if_icmp .le 13, 3) := by decide +kernel
theorem dX0_apply_47 : decode cX0_apply 47 = .ok (.new 113, 3) := by decide +kernel
theorem dX0_apply_50 : decode cX0_apply 50 = .ok (.dup, 1) := by decide +kernel
theorem dX0_apply_51 : decode cX0_apply 51 = .ok (.ldc 118, 2) := by decide +kernel
theorem dX0_apply_53 : decode cX0_apply 53 = .ok (.invokespecial 117, 3) := by decide +kernel
theorem dX0_apply_56 : decode cX0_apply 56 = .ok (.athrow, 1) := by decide +kernel
theorem dX0_apply_57 : decode cX0_apply 57 = .ok (.aload_n 0, 1) := by decide +kernel
theorem dX0_apply_58 : decode cX0_apply 58 = .ok (.getfield 51, 3) := by decide +kernel
theorem dX0_apply_61 : decode cX0_apply 61 = .ok (.bipush 8, 2) := by decide +kernel
theorem dX0_apply_63 : decode cX0_apply 63 = .ok (.if_icmp .lt 13, 3) := by decide +kernel
theorem dX0_apply_66 : decode cX0_apply 66 = .ok (.new 101, 3) := by decide +kernel
theorem dX0_apply_69 : decode cX0_apply 69 = .ok (.dup, 1) := by decide +kernel
theorem dX0_apply_70 : decode cX0_apply 70 = .ok (.ldc 120, 2) := by decide +kernel
theorem dX0_apply_72 : decode cX0_apply 72 = .ok (.invokespecial 105, 3) := by decide +kernel
theorem dX0_apply_75 : decode cX0_apply 75 = .ok (.athrow, 1) := by decide +kernel
theorem dX0_apply_76 : decode cX0_apply 76 = .ok (.iload_n 1, 1) := by decide +kernel
theorem dX0_apply_77 : decode cX0_apply 77 = .ok (.invokestatic 74, 3) := by decide +kernel
theorem dX0_apply_80 : decode cX0_apply 80 = .ok (.iconst 0, 1) := by decide +kernel
theorem dX0_apply_81 : decode cX0_apply 81 = .ok (.invokestatic 74, 3) := by decide +kernel
theorem dX0_apply_84 : decode cX0_apply 84 = .ok (.iadd, 1) := by decide +kernel
theorem dX0_apply_85 : decode cX0_apply 85 = .ok (.istore 5, 2) := by decide +kernel
theorem dX0_apply_87 : decode cX0_apply 87 = .ok (.aload_n 0, 1) := by decide +kernel
theorem dX0_apply_88 : decode cX0_apply 88 = .ok (.iload_n 1, 1) := by decide +kernel
theorem dX0_apply_89 : decode cX0_apply 89 = .ok (.iload_n 3, 1) := by decide +kernel
theorem dX0_apply_90 : decode cX0_apply 90 = .ok (.invokestatic 70, 3) := by decide +kernel
theorem dX0_apply_93 : decode cX0_apply 93 = .ok (.lconst 1, 1) := by decide +kernel
theorem dX0_apply_94 : decode cX0_apply 94 = .ok (.iload_n 3, 1) := by decide +kernel
theorem dX0_apply_95 : decode cX0_apply 95 = .ok (.lshl, 1) := by decide +kernel
theorem dX0_apply_96 : decode cX0_apply 96 = .ok (.iconst (-1), 1) := by decide +kernel
theorem dX0_apply_97 : decode cX0_apply 97 = .ok (.iload 5, 2) := by decide +kernel
theorem dX0_apply_99 : decode cX0_apply 99 = .ok (.invokevirtual 78, 3) := by decide +kernel
theorem dX0_apply_102 : decode cX0_apply 102 = .ok (.istore 6, 2) := by decide +kernel
theorem dX0_apply_104 : decode cX0_apply 104 = .ok (.aload_n 0, 1) := by decide +kernel
theorem dX0_apply_105 : decode cX0_apply 105 = .ok (.iload 6, 2) := by decide +kernel
theorem dX0_apply_107 : decode cX0_apply 107 = .ok (.iload_n 2, 1) := by decide +kernel
theorem dX0_apply_108 : decode cX0_apply 108 = .ok (.bipush 16, 2) := by decide +kernel
theorem dX0_apply_110 : decode cX0_apply 110 = .ok (.iload 4, 2) := by decide +kernel
theorem dX0_apply_112 : decode cX0_apply 112 = .ok (.imul, 1) := by decide +kernel
theorem dX0_apply_113 : decode cX0_apply 113 = .ok (.bipush 8, 2) := by decide +kernel
theorem dX0_apply_115 : decode cX0_apply 115 = .ok (.iadd, 1) := by decide +kernel
theorem dX0_apply_116 : decode cX0_apply 116 = .ok (.imul, 1) := by decide +kernel
theorem dX0_apply_117 : decode cX0_apply 117 = .ok (.bipush 8, 2) := by decide +kernel
theorem dX0_apply_119 : decode cX0_apply 119 = .ok (.iload 4, 2) := by decide +kernel
theorem dX0_apply_121 : decode cX0_apply 121 = .ok (.imul, 1) := by decide +kernel
theorem dX0_apply_122 : decode cX0_apply 122 = .ok (.invokevirtual 122, 3) := by decide +kernel
theorem dX0_apply_125 : decode cX0_apply 125 = .ok (.aload_n 0, 1) := by decide +kernel
theorem dX0_apply_126 : decode cX0_apply 126 = .ok (.dup, 1) := by decide +kernel
theorem dX0_apply_127 : decode cX0_apply 127 = .ok (.getfield 51, 3) := by decide +kernel
theorem dX0_apply_130 : decode cX0_apply 130 = .ok (.iconst 1, 1) := by decide +kernel
theorem dX0_apply_131 : decode cX0_apply 131 = .ok (.iadd, 1) := by decide +kernel
theorem dX0_apply_132 : decode cX0_apply 132 = .ok (.putfield 51, 3) := by decide +kernel
theorem dX0_apply_135 : decode cX0_apply 135 = .ok (.iload 6, 2) := by decide +kernel
theorem dX0_apply_137 : decode cX0_apply 137 = .ok (.ireturn, 1) := by decide +kernel
theorem dX0_lay_0 : decode cX0_lay 0 = .ok (.iload_n 1, 1) := by decide +kernel
theorem dX0_lay_1 : decode cX0_lay 1 = .ok (.iconst 1, 1) := by decide +kernel
theorem dX0_lay_2 : decode cX0_lay 2 = .ok (.if_icmp .lt 9, 3) := by decide +kernel
theorem dX0_lay_5 : decode cX0_lay 5 = .ok (.iload_n 1, 1) := by decide +kernel
theorem dX0_lay_6 : decode cX0_lay 6 = .ok (.bipush 12, 2) := by decide +kernel
theorem dX0_lay_8 : decode cX0_lay 8 = .ok (.if_icmp .le 13, 3) := by decide +kernel
theorem dX0_lay_11 : decode cX0_lay 11 = .ok (.new 113, 3) := by decide +kernel
theorem dX0_lay_14 : decode cX0_lay 14 = .ok (.dup, 1) := by decide +kernel
theorem dX0_lay_15 : decode cX0_lay 15 = .ok (.ldc 126, 2) := by decide +kernel
theorem dX0_lay_17 : decode cX0_lay 17 = .ok (.invokespecial 117, 3) := by decide +kernel
theorem dX0_lay_20 : decode cX0_lay 20 = .ok (.athrow, 1) := by decide +kernel
theorem dX0_lay_21 : decode cX0_lay 21 = .ok (.iload_n 2, 1) := by decide +kernel
theorem dX0_lay_22 : decode cX0_lay 22 = .ok (.ifCond .lt 7, 3) := by decide +kernel
theorem dX0_lay_25 : decode cX0_lay 25 = .ok (.iload_n 3, 1) := by decide +kernel
theorem dX0_lay_26 : decode cX0_lay 26 = .ok (.ifCond .ge 13, 3) := by decide +kernel
theorem dX0_lay_29 : decode cX0_lay 29 = .ok (.new 113, 3) := by decide +kernel
theorem dX0_lay_32 : decode cX0_lay 32 = .ok (.dup, 1) := by decide +kernel
theorem dX0_lay_33 : decode cX0_lay 33 = .ok (.ldc 128, 2) := by decide +kernel
theorem dX0_lay_35 : decode cX0_lay 35 = .ok (.invokespecial 117, 3) := by decide +kernel
theorem dX0_lay_38 : decode cX0_lay 38 = .ok (.athrow, 1) := by decide +kernel
theorem dX0_lay_39 : decode cX0_lay 39 = .ok (.aload_n 0, 1) := by decide +kernel
theorem dX0_lay_40 : decode cX0_lay 40 = .ok (.invokevirtual 60, 3) := by decide +kernel
theorem dX0_lay_43 : decode cX0_lay 43 = .ok (.aload_n 0, 1) := by decide +kernel
theorem dX0_lay_44 : decode cX0_lay 44 = .ok (.invokevirtual 130, 3) := by decide +kernel
theorem dX0_lay_47 : decode cX0_lay 47 = .ok (.iconst 1, 1) := by decide +kernel
theorem dX0_lay_48 : decode cX0_lay 48 = .ok (.istore 4, 2) := by decide +kernel
theorem dX0_lay_50 : decode cX0_lay 50 = .ok (.iconst 0, 1) := by decide +kernel
theorem dX0_lay_51 : decode cX0_lay 51 = .ok (.istore 5, 2) := by decide +kernel
theorem dX0_lay_53 : decode cX0_lay 53 = .ok (.iload 5, 2) := by decide +kernel
theorem dX0_lay_55 : decode cX0_lay 55 = .ok (.aload_n 0, 1) := by decide +kernel
theorem dX0_lay_56 : decode cX0_lay 56 = .ok (.getfield 48, 3) := by decide +kernel
theorem dX0_lay_59 : decode cX0_lay 59 = .ok (.if_icmp .ge 53, 3) := by decide +kernel
theorem dX0_lay_62 : decode cX0_lay 62 = .ok (.aload_n 0, 1) := by decide +kernel
theorem dX0_lay_63 : decode cX0_lay 63 = .ok (.iload 5, 2) := by decide +kernel
theorem dX0_lay_65 : decode cX0_lay 65 = .ok (.iload_n 1, 1) := by decide +kernel
theorem dX0_lay_66 : decode cX0_lay 66 = .ok (.iload_n 2, 1) := by decide +kernel
theorem dX0_lay_67 : decode cX0_lay 67 = .ok (.iload_n 3, 1) := by decide +kernel
theorem dX0_lay_68 : decode cX0_lay 68 = .ok (.invokevirtual 133, 3) := by decide +kernel
theorem dX0_lay_71 : decode cX0_lay 71 = .ok (.istore 6, 2) := by decide +kernel
theorem dX0_lay_73 : decode cX0_lay 73 = .ok (.iload 6, 2) := by decide +kernel
theorem dX0_lay_75 : decode cX0_lay 75 = .ok (.iconst (-1), 1) := by decide +kernel
theorem dX0_lay_76 : decode cX0_lay 76 = .ok (.if_icmp .ne 11, 3) := by decide +kernel
theorem dX0_lay_79 : decode cX0_lay 79 = .ok (.aload_n 0, 1) := by decide +kernel
theorem dX0_lay_80 : decode cX0_lay 80 = .ok (.iload 5, 2) := by decide +kernel
theorem dX0_lay_82 : decode cX0_lay 82 = .ok (.putfield 44, 3) := by decide +kernel
theorem dX0_lay_85 : decode cX0_lay 85 = .ok (.iconst (-1), 1) := by decide +kernel
theorem dX0_lay_86 : decode cX0_lay 86 = .ok (.ireturn, 1) := by decide +kernel
theorem dX0_lay_87 : decode cX0_lay 87 = .ok (.aload_n 0, 1) := by decide +kernel
theorem dX0_lay_88 : decode cX0_lay 88 = .ok (.iload 5, 2) := by decide +kernel
theorem dX0_lay_90 : decode cX0_lay 90 = .ok (.iload 6, 2) := by decide +kernel
theorem dX0_lay_92 : decode cX0_lay 92 = .ok (.invokevirtual 137, 3) := by decide +kernel
theorem dX0_lay_95 : decode cX0_lay 95 = .ok (.iload 4, 2) := by decide +kernel
theorem dX0_lay_97 : decode cX0_lay 97 = .ok (.iload 6, 2) := by decide +kernel
theorem dX0_lay_99 : decode cX0_lay 99 = .ok (.iconst 1, 1) := by decide +kernel
theorem dX0_lay_100 : decode cX0_lay 100 = .ok (.iadd, 1) := by decide +kernel
theorem dX0_lay_101 : decode cX0_lay 101 = .ok (.invokestatic 141, 3) := by decide +kernel
theorem dX0_lay_104 : decode cX0_lay 104 = .ok (.istore 4, 2) := by decide +kernel
theorem dX0_lay_106 : decode cX0_lay 106 = .ok (.iinc 5 1, 3) := by decide +kernel
theorem dX0_lay_109 : decode cX0_lay 109 = .ok (.goto (-56), 3) := by decide +kernel
theorem dX0_lay_112 : decode cX0_lay 112 = .ok (.aload_n 0, 1) := by decide +kernel
theorem dX0_lay_113 : decode cX0_lay 113 = .ok (.iload 4, 2) := by decide +kernel
theorem dX0_lay_115 : decode cX0_lay 115 = .ok (.putfield 147, 3) := by decide +kernel
theorem dX0_lay_118 : decode cX0_lay 118 = .ok (.iload 4, 2) := by decide +kernel
theorem dX0_lay_120 : decode cX0_lay 120 = .ok (.ireturn, 1) := by decide +kernel
theorem dX0_homeless_0 : decode cX0_homeless 0 = .ok (.aload_n 0, 1) := by decide +kernel
theorem dX0_homeless_1 : decode cX0_homeless 1 = .ok (.getfield 44, 3) := by decide +kernel
theorem dX0_homeless_4 : decode cX0_homeless 4 = .ok (.ireturn, 1) := by decide +kernel
theorem dX0_stage_0 : decode cX0_stage 0 = .ok (.aload_n 0, 1) := by decide +kernel
theorem dX0_stage_1 : decode cX0_stage 1 = .ok (.getfield 147, 3) := by decide +kernel
theorem dX0_stage_4 : decode cX0_stage 4 = .ok (.ifCond .eq 21, 3) := by decide +kernel
theorem dX0_stage_7 : decode cX0_stage 7 = .ok (.iload_n 1, 1) := by decide +kernel
theorem dX0_stage_8 : decode cX0_stage 8 = .ok (.ifCond .lt 17, 3) := by decide +kernel
theorem dX0_stage_11 : decode cX0_stage 11 = .ok (.iload_n 1, 1) := by decide +kernel
theorem dX0_stage_12 : decode cX0_stage 12 = .ok (.aload_n 0, 1) := by decide +kernel
theorem dX0_stage_13 : decode cX0_stage 13 = .ok (.getfield 48, 3) := by decide +kernel
theorem dX0_stage_16 : decode cX0_stage 16 = .ok (.if_icmp .ge 9, 3) := by decide +kernel
theorem dX0_stage_19 : decode cX0_stage 19 = .ok (.iload_n 1, 1) := by decide +kernel
theorem dX0_stage_20 : decode cX0_stage 20 = .ok (.bipush 48, 2) := by decide +kernel
theorem dX0_stage_22 : decode cX0_stage 22 = .ok (.if_icmp .lt 5, 3) := by decide +kernel
theorem dX0_stage_25 : decode cX0_stage 25 = .ok (.iconst (-1), 1) := by decide +kernel
theorem dX0_stage_26 : decode cX0_stage 26 = .ok (.ireturn, 1) := by decide +kernel
theorem dX0_stage_27 : decode cX0_stage 27 = .ok (.aload_n 0, 1) := by decide +kernel
theorem dX0_stage_28 : decode cX0_stage 28 = .ok (.getfield 29, 3) := by decide +kernel
theorem dX0_stage_31 : decode cX0_stage 31 = .ok (.iload_n 1, 1) := by decide +kernel
theorem dX0_stage_32 : decode cX0_stage 32 = .ok (.iaload, 1) := by decide +kernel
theorem dX0_stage_33 : decode cX0_stage 33 = .ok (.ireturn, 1) := by decide +kernel
theorem dX0_used_0 : decode cX0_used 0 = .ok (.iload_n 1, 1) := by decide +kernel
theorem dX0_used_1 : decode cX0_used 1 = .ok (.ifCond .lt 17, 3) := by decide +kernel
theorem dX0_used_4 : decode cX0_used 4 = .ok (.iload_n 1, 1) := by decide +kernel
theorem dX0_used_5 : decode cX0_used 5 = .ok (.aload_n 0, 1) := by decide +kernel
theorem dX0_used_6 : decode cX0_used 6 = .ok (.getfield 147, 3) := by decide +kernel
theorem dX0_used_9 : decode cX0_used 9 = .ok (.if_icmp .ge 9, 3) := by decide +kernel
theorem dX0_used_12 : decode cX0_used 12 = .ok (.iload_n 1, 1) := by decide +kernel
theorem dX0_used_13 : decode cX0_used 13 = .ok (.bipush 12, 2) := by decide +kernel
theorem dX0_used_15 : decode cX0_used 15 = .ok (.if_icmp .lt 5, 3) := by decide +kernel
theorem dX0_used_18 : decode cX0_used 18 = .ok (.iconst (-1), 1) := by decide +kernel
theorem dX0_used_19 : decode cX0_used 19 = .ok (.ireturn, 1) := by decide +kernel
theorem dX0_used_20 : decode cX0_used 20 = .ok (.iload_n 2, 1) := by decide +kernel
theorem dX0_used_21 : decode cX0_used 21 = .ok (.tableswitch 48 0 2 #[27, 34, 41], 27) := by decide +kernel
theorem dX0_used_48 : decode cX0_used 48 = .ok (.aload_n 0, 1) := by decide +kernel
theorem dX0_used_49 : decode cX0_used 49 = .ok (.getfield 35, 3) := by decide +kernel
theorem dX0_used_52 : decode cX0_used 52 = .ok (.iload_n 1, 1) := by decide +kernel
theorem dX0_used_53 : decode cX0_used 53 = .ok (.iaload, 1) := by decide +kernel
theorem dX0_used_54 : decode cX0_used 54 = .ok (.ireturn, 1) := by decide +kernel
theorem dX0_used_55 : decode cX0_used 55 = .ok (.aload_n 0, 1) := by decide +kernel
theorem dX0_used_56 : decode cX0_used 56 = .ok (.getfield 38, 3) := by decide +kernel
theorem dX0_used_59 : decode cX0_used 59 = .ok (.iload_n 1, 1) := by decide +kernel
theorem dX0_used_60 : decode cX0_used 60 = .ok (.iaload, 1) := by decide +kernel
theorem dX0_used_61 : decode cX0_used 61 = .ok (.ireturn, 1) := by decide +kernel
theorem dX0_used_62 : decode cX0_used 62 = .ok (.aload_n 0, 1) := by decide +kernel
theorem dX0_used_63 : decode cX0_used 63 = .ok (.getfield 41, 3) := by decide +kernel
theorem dX0_used_66 : decode cX0_used 66 = .ok (.iload_n 1, 1) := by decide +kernel
theorem dX0_used_67 : decode cX0_used 67 = .ok (.iaload, 1) := by decide +kernel
theorem dX0_used_68 : decode cX0_used 68 = .ok (.ireturn, 1) := by decide +kernel
theorem dX0_used_69 : decode cX0_used 69 = .ok (.iconst (-1), 1) := by decide +kernel
theorem dX0_used_70 : decode cX0_used 70 = .ok (.ireturn, 1) := by decide +kernel
theorem dX0_count_0 : decode cX0_count 0 = .ok (.iload_n 1, 1) := by decide +kernel
theorem dX0_count_1 : decode cX0_count 1 = .ok (.tableswitch 42 0 2 #[27, 32, 37], 27) := by decide +kernel
theorem dX0_count_28 : decode cX0_count 28 = .ok (.aload_n 0, 1) := by decide +kernel
theorem dX0_count_29 : decode cX0_count 29 = .ok (.getfield 48, 3) := by decide +kernel
theorem dX0_count_32 : decode cX0_count 32 = .ok (.ireturn, 1) := by decide +kernel
theorem dX0_count_33 : decode cX0_count 33 = .ok (.aload_n 0, 1) := by decide +kernel
theorem dX0_count_34 : decode cX0_count 34 = .ok (.getfield 51, 3) := by decide +kernel
theorem dX0_count_37 : decode cX0_count 37 = .ok (.ireturn, 1) := by decide +kernel
theorem dX0_count_38 : decode cX0_count 38 = .ok (.aload_n 0, 1) := by decide +kernel
theorem dX0_count_39 : decode cX0_count 39 = .ok (.getfield 54, 3) := by decide +kernel
theorem dX0_count_42 : decode cX0_count 42 = .ok (.ireturn, 1) := by decide +kernel
theorem dX0_count_43 : decode cX0_count 43 = .ok (.iconst (-1), 1) := by decide +kernel
theorem dX0_count_44 : decode cX0_count 44 = .ok (.ireturn, 1) := by decide +kernel
theorem dX0_requirePlace_0 : decode cX0_requirePlace 0 = .ok (.iload_n 0, 1) := by decide +kernel
theorem dX0_requirePlace_1 : decode cX0_requirePlace 1 = .ok (.ifCond .lt 9, 3) := by decide +kernel
theorem dX0_requirePlace_4 : decode cX0_requirePlace 4 = .ok (.iload_n 0, 1) := by decide +kernel
theorem dX0_requirePlace_5 : decode cX0_requirePlace 5 = .ok (.bipush 28, 2) := by decide +kernel
theorem dX0_requirePlace_7 : decode cX0_requirePlace 7 = .ok (.if_icmp .lt 13, 3) := by decide +kernel
theorem dX0_requirePlace_10 : decode cX0_requirePlace 10 = .ok (.new 89, 3) := by decide +kernel
theorem dX0_requirePlace_13 : decode cX0_requirePlace 13 = .ok (.dup, 1) := by decide +kernel
theorem dX0_requirePlace_14 : decode cX0_requirePlace 14 = .ok (.ldc 150, 2) := by decide +kernel
theorem dX0_requirePlace_16 : decode cX0_requirePlace 16 = .ok (.invokespecial 93, 3) := by decide +kernel
theorem dX0_requirePlace_19 : decode cX0_requirePlace 19 = .ok (.athrow, 1) := by decide +kernel
theorem dX0_requirePlace_20 : decode cX0_requirePlace 20 = .ok (.return_, 1) := by decide +kernel
theorem dX0_requireArray_0 : decode cX0_requireArray 0 = .ok (.iload_n 0, 1) := by decide +kernel
theorem dX0_requireArray_1 : decode cX0_requireArray 1 = .ok (.ifCond .lt 9, 3) := by decide +kernel
theorem dX0_requireArray_4 : decode cX0_requireArray 4 = .ok (.iload_n 0, 1) := by decide +kernel
theorem dX0_requireArray_5 : decode cX0_requireArray 5 = .ok (.bipush 8, 2) := by decide +kernel
theorem dX0_requireArray_7 : decode cX0_requireArray 7 = .ok (.if_icmp .lt 13, 3) := by decide +kernel
theorem dX0_requireArray_10 : decode cX0_requireArray 10 = .ok (.new 89, 3) := by decide +kernel
theorem dX0_requireArray_13 : decode cX0_requireArray 13 = .ok (.dup, 1) := by decide +kernel
theorem dX0_requireArray_14 : decode cX0_requireArray 14 = .ok (.ldc 152, 2) := by decide +kernel
theorem dX0_requireArray_16 : decode cX0_requireArray 16 = .ok (.invokespecial 93, 3) := by decide +kernel
theorem dX0_requireArray_19 : decode cX0_requireArray 19 = .ok (.athrow, 1) := by decide +kernel
theorem dX0_requireArray_20 : decode cX0_requireArray 20 = .ok (.return_, 1) := by decide +kernel
theorem dX0_requireReadable_0 : decode cX0_requireReadable 0 = .ok (.iload_n 0, 1) := by decide +kernel
theorem dX0_requireReadable_1 : decode cX0_requireReadable 1 = .ok (.bipush 28, 2) := by decide +kernel
theorem dX0_requireReadable_3 : decode cX0_requireReadable 3 = .ok (.iushr, 1) := by decide +kernel
theorem dX0_requireReadable_4 : decode cX0_requireReadable 4 = .ok (.ifCond .eq 13, 3) := by decide +kernel
theorem dX0_requireReadable_7 : decode cX0_requireReadable 7 = .ok (.new 89, 3) := by decide +kernel
theorem dX0_requireReadable_10 : decode cX0_requireReadable 10 = .ok (.dup, 1) := by decide +kernel
theorem dX0_requireReadable_11 : decode cX0_requireReadable 11 = .ok (.ldc 154, 2) := by decide +kernel
theorem dX0_requireReadable_13 : decode cX0_requireReadable 13 = .ok (.invokespecial 93, 3) := by decide +kernel
theorem dX0_requireReadable_16 : decode cX0_requireReadable 16 = .ok (.athrow, 1) := by decide +kernel
theorem dX0_requireReadable_17 : decode cX0_requireReadable 17 = .ok (.return_, 1) := by decide +kernel
theorem dX0_validitiesOf_0 : decode cX0_validitiesOf 0 = .ok (.iload_n 0, 1) := by decide +kernel
theorem dX0_validitiesOf_1 : decode cX0_validitiesOf 1 = .ok (.bipush 16, 2) := by decide +kernel
theorem dX0_validitiesOf_3 : decode cX0_validitiesOf 3 = .ok (.iushr, 1) := by decide +kernel
theorem dX0_validitiesOf_4 : decode cX0_validitiesOf 4 = .ok (.i2l, 1) := by decide +kernel
theorem dX0_validitiesOf_5 : decode cX0_validitiesOf 5 = .ok (.bipush 28, 2) := by decide +kernel
theorem dX0_validitiesOf_7 : decode cX0_validitiesOf 7 = .ok (.lshl, 1) := by decide +kernel
theorem dX0_validitiesOf_8 : decode cX0_validitiesOf 8 = .ok (.lreturn, 1) := by decide +kernel
theorem dX0_reading_0 : decode cX0_reading 0 = .ok (.iload_n 0, 1) := by decide +kernel
theorem dX0_reading_1 : decode cX0_reading 1 = .ok (.i2l, 1) := by decide +kernel
theorem dX0_reading_2 : decode cX0_reading 2 = .ok (.iload_n 0, 1) := by decide +kernel
theorem dX0_reading_3 : decode cX0_reading 3 = .ok (.invokestatic 96, 3) := by decide +kernel
theorem dX0_reading_6 : decode cX0_reading 6 = .ok (.lor, 1) := by decide +kernel
theorem dX0_reading_7 : decode cX0_reading 7 = .ok (.lreturn, 1) := by decide +kernel
theorem dX0_readingAndWriting_0 : decode cX0_readingAndWriting 0 = .ok (.iload_n 0, 1) := by decide +kernel
theorem dX0_readingAndWriting_1 : decode cX0_readingAndWriting 1 = .ok (.invokestatic 85, 3) := by decide +kernel
theorem dX0_readingAndWriting_4 : decode cX0_readingAndWriting 4 = .ok (.iconst 1, 1) := by decide +kernel
theorem dX0_readingAndWriting_5 : decode cX0_readingAndWriting 5 = .ok (.iload_n 1, 1) := by decide +kernel
theorem dX0_readingAndWriting_6 : decode cX0_readingAndWriting 6 = .ok (.ishl, 1) := by decide +kernel
theorem dX0_readingAndWriting_7 : decode cX0_readingAndWriting 7 = .ok (.invokestatic 96, 3) := by decide +kernel
theorem dX0_readingAndWriting_10 : decode cX0_readingAndWriting 10 = .ok (.lor, 1) := by decide +kernel
theorem dX0_readingAndWriting_11 : decode cX0_readingAndWriting 11 = .ok (.lreturn, 1) := by decide +kernel
theorem dX0_costOf_0 : decode cX0_costOf 0 = .ok (.iconst 1, 1) := by decide +kernel
theorem dX0_costOf_1 : decode cX0_costOf 1 = .ok (.iload_n 0, 1) := by decide +kernel
theorem dX0_costOf_2 : decode cX0_costOf 2 = .ok (.invokestatic 108, 3) := by decide +kernel
theorem dX0_costOf_5 : decode cX0_costOf 5 = .ok (.invokestatic 141, 3) := by decide +kernel
theorem dX0_costOf_8 : decode cX0_costOf 8 = .ok (.ireturn, 1) := by decide +kernel
theorem dX0_addStep_0 : decode cX0_addStep 0 = .ok (.aload_n 0, 1) := by decide +kernel
theorem dX0_addStep_1 : decode cX0_addStep 1 = .ok (.getfield 48, 3) := by decide +kernel
theorem dX0_addStep_4 : decode cX0_addStep 4 = .ok (.ifCond .lt 12, 3) := by decide +kernel
theorem dX0_addStep_7 : decode cX0_addStep 7 = .ok (.aload_n 0, 1) := by decide +kernel
theorem dX0_addStep_8 : decode cX0_addStep 8 = .ok (.getfield 48, 3) := by decide +kernel
theorem dX0_addStep_11 : decode cX0_addStep 11 = .ok (.bipush 48, 2) := by decide +kernel
theorem dX0_addStep_13 : decode cX0_addStep 13 = .ok (.if_icmp .lt 13, 3) := by decide +kernel
theorem dX0_addStep_16 : decode cX0_addStep 16 = .ok (.new 101, 3) := by decide +kernel
theorem dX0_addStep_19 : decode cX0_addStep 19 = .ok (.dup, 1) := by decide +kernel
theorem dX0_addStep_20 : decode cX0_addStep 20 = .ok (.ldc 156, 2) := by decide +kernel
theorem dX0_addStep_22 : decode cX0_addStep 22 = .ok (.invokespecial 105, 3) := by decide +kernel
theorem dX0_addStep_25 : decode cX0_addStep 25 = .ok (.athrow, 1) := by decide +kernel
theorem dX0_addStep_26 : decode cX0_addStep 26 = .ok (.aload_n 0, 1) := by decide +kernel
theorem dX0_addStep_27 : decode cX0_addStep 27 = .ok (.getfield 57, 3) := by decide +kernel
theorem dX0_addStep_30 : decode cX0_addStep 30 = .ok (.iload 6, 2) := by decide +kernel
theorem dX0_addStep_32 : decode cX0_addStep 32 = .ok (.iadd, 1) := by decide +kernel
theorem dX0_addStep_33 : decode cX0_addStep 33 = .ok (.sipush 800, 3) := by decide +kernel
theorem dX0_addStep_36 : decode cX0_addStep 36 = .ok (.if_icmp .le 13, 3) := by decide +kernel
theorem dX0_addStep_39 : decode cX0_addStep 39 = .ok (.new 101, 3) := by decide +kernel
theorem dX0_addStep_42 : decode cX0_addStep 42 = .ok (.dup, 1) := by decide +kernel
theorem dX0_addStep_43 : decode cX0_addStep 43 = .ok (.ldc 158, 2) := by decide +kernel
theorem dX0_addStep_45 : decode cX0_addStep 45 = .ok (.invokespecial 105, 3) := by decide +kernel
theorem dX0_addStep_48 : decode cX0_addStep 48 = .ok (.athrow, 1) := by decide +kernel
theorem dX0_addStep_49 : decode cX0_addStep 49 = .ok (.aload_n 0, 1) := by decide +kernel
theorem dX0_addStep_50 : decode cX0_addStep 50 = .ok (.getfield 48, 3) := by decide +kernel
theorem dX0_addStep_53 : decode cX0_addStep 53 = .ok (.istore 7, 2) := by decide +kernel
theorem dX0_addStep_55 : decode cX0_addStep 55 = .ok (.aload_n 0, 1) := by decide +kernel
theorem dX0_addStep_56 : decode cX0_addStep 56 = .ok (.getfield 9, 3) := by decide +kernel
theorem dX0_addStep_59 : decode cX0_addStep 59 = .ok (.iload 7, 2) := by decide +kernel
theorem dX0_addStep_61 : decode cX0_addStep 61 = .ok (.lload_n 1, 1) := by decide +kernel
theorem dX0_addStep_62 : decode cX0_addStep 62 = .ok (.lastore, 1) := by decide +kernel
theorem dX0_addStep_63 : decode cX0_addStep 63 = .ok (.aload_n 0, 1) := by decide +kernel
theorem dX0_addStep_64 : decode cX0_addStep 64 = .ok (.getfield 13, 3) := by decide +kernel
theorem dX0_addStep_67 : decode cX0_addStep 67 = .ok (.iload 7, 2) := by decide +kernel
theorem dX0_addStep_69 : decode cX0_addStep 69 = .ok (.lload_n 3, 1) := by decide +kernel
theorem dX0_addStep_70 : decode cX0_addStep 70 = .ok (.lastore, 1) := by decide +kernel
theorem dX0_addStep_71 : decode cX0_addStep 71 = .ok (.aload_n 0, 1) := by decide +kernel
theorem dX0_addStep_72 : decode cX0_addStep 72 = .ok (.getfield 16, 3) := by decide +kernel
theorem dX0_addStep_75 : decode cX0_addStep 75 = .ok (.iload 7, 2) := by decide +kernel
theorem dX0_addStep_77 : decode cX0_addStep 77 = .ok (.iload 5, 2) := by decide +kernel
theorem dX0_addStep_79 : decode cX0_addStep 79 = .ok (.iastore, 1) := by decide +kernel
theorem dX0_addStep_80 : decode cX0_addStep 80 = .ok (.aload_n 0, 1) := by decide +kernel
theorem dX0_addStep_81 : decode cX0_addStep 81 = .ok (.getfield 20, 3) := by decide +kernel
theorem dX0_addStep_84 : decode cX0_addStep 84 = .ok (.iload 7, 2) := by decide +kernel
theorem dX0_addStep_86 : decode cX0_addStep 86 = .ok (.aload_n 0, 1) := by decide +kernel
theorem dX0_addStep_87 : decode cX0_addStep 87 = .ok (.invokevirtual 160, 3) := by decide +kernel
theorem dX0_addStep_90 : decode cX0_addStep 90 = .ok (.iastore, 1) := by decide +kernel
theorem dX0_addStep_91 : decode cX0_addStep 91 = .ok (.aload_n 0, 1) := by decide +kernel
theorem dX0_addStep_92 : decode cX0_addStep 92 = .ok (.iload 7, 2) := by decide +kernel
theorem dX0_addStep_94 : decode cX0_addStep 94 = .ok (.iconst 0, 1) := by decide +kernel
theorem dX0_addStep_95 : decode cX0_addStep 95 = .ok (.iconst 0, 1) := by decide +kernel
theorem dX0_addStep_96 : decode cX0_addStep 96 = .ok (.invokevirtual 122, 3) := by decide +kernel
theorem dX0_addStep_99 : decode cX0_addStep 99 = .ok (.aload_n 0, 1) := by decide +kernel
theorem dX0_addStep_100 : decode cX0_addStep 100 = .ok (.dup, 1) := by decide +kernel
theorem dX0_addStep_101 : decode cX0_addStep 101 = .ok (.getfield 48, 3) := by decide +kernel
theorem dX0_addStep_104 : decode cX0_addStep 104 = .ok (.iconst 1, 1) := by decide +kernel
theorem dX0_addStep_105 : decode cX0_addStep 105 = .ok (.iadd, 1) := by decide +kernel
theorem dX0_addStep_106 : decode cX0_addStep 106 = .ok (.putfield 48, 3) := by decide +kernel
theorem dX0_addStep_109 : decode cX0_addStep 109 = .ok (.aload_n 0, 1) := by decide +kernel
theorem dX0_addStep_110 : decode cX0_addStep 110 = .ok (.dup, 1) := by decide +kernel
theorem dX0_addStep_111 : decode cX0_addStep 111 = .ok (.getfield 57, 3) := by decide +kernel
theorem dX0_addStep_114 : decode cX0_addStep 114 = .ok (.iload 6, 2) := by decide +kernel
theorem dX0_addStep_116 : decode cX0_addStep 116 = .ok (.iadd, 1) := by decide +kernel
theorem dX0_addStep_117 : decode cX0_addStep 117 = .ok (.putfield 57, 3) := by decide +kernel
theorem dX0_addStep_120 : decode cX0_addStep 120 = .ok (.aload_n 0, 1) := by decide +kernel
theorem dX0_addStep_121 : decode cX0_addStep 121 = .ok (.invokevirtual 60, 3) := by decide +kernel
theorem dX0_addStep_124 : decode cX0_addStep 124 = .ok (.iload 7, 2) := by decide +kernel
theorem dX0_addStep_126 : decode cX0_addStep 126 = .ok (.ireturn, 1) := by decide +kernel
theorem dX0_need_0 : decode cX0_need 0 = .ok (.iload_n 1, 1) := by decide +kernel
theorem dX0_need_1 : decode cX0_need 1 = .ok (.ifCond .lt 23, 3) := by decide +kernel
theorem dX0_need_4 : decode cX0_need 4 = .ok (.iload_n 1, 1) := by decide +kernel
theorem dX0_need_5 : decode cX0_need 5 = .ok (.bipush 48, 2) := by decide +kernel
theorem dX0_need_7 : decode cX0_need 7 = .ok (.if_icmp .ge 17, 3) := by decide +kernel
theorem dX0_need_10 : decode cX0_need 10 = .ok (.aload_n 0, 1) := by decide +kernel
theorem dX0_need_11 : decode cX0_need 11 = .ok (.getfield 23, 3) := by decide +kernel
theorem dX0_need_14 : decode cX0_need 14 = .ok (.iload_n 1, 1) := by decide +kernel
theorem dX0_need_15 : decode cX0_need 15 = .ok (.iload_n 2, 1) := by decide +kernel
theorem dX0_need_16 : decode cX0_need 16 = .ok (.iastore, 1) := by decide +kernel
theorem dX0_need_17 : decode cX0_need 17 = .ok (.aload_n 0, 1) := by decide +kernel
theorem dX0_need_18 : decode cX0_need 18 = .ok (.getfield 26, 3) := by decide +kernel
theorem dX0_need_21 : decode cX0_need 21 = .ok (.iload_n 1, 1) := by decide +kernel
theorem dX0_need_22 : decode cX0_need 22 = .ok (.iload_n 3, 1) := by decide +kernel
theorem dX0_need_23 : decode cX0_need 23 = .ok (.iastore, 1) := by decide +kernel
theorem dX0_need_24 : decode cX0_need 24 = .ok (.return_, 1) := by decide +kernel
theorem dX0_innermostIf_0 : decode cX0_innermostIf 0 = .ok (.aload_n 0, 1) := by decide +kernel
theorem dX0_innermostIf_1 : decode cX0_innermostIf 1 = .ok (.getfield 54, 3) := by decide +kernel
theorem dX0_innermostIf_4 : decode cX0_innermostIf 4 = .ok (.iconst 1, 1) := by decide +kernel
theorem dX0_innermostIf_5 : decode cX0_innermostIf 5 = .ok (.if_icmp .lt 26, 3) := by decide +kernel
theorem dX0_innermostIf_8 : decode cX0_innermostIf 8 = .ok (.aload_n 0, 1) := by decide +kernel
theorem dX0_innermostIf_9 : decode cX0_innermostIf 9 = .ok (.getfield 54, 3) := by decide +kernel
theorem dX0_innermostIf_12 : decode cX0_innermostIf 12 = .ok (.bipush 8, 2) := by decide +kernel
theorem dX0_innermostIf_14 : decode cX0_innermostIf 14 = .ok (.if_icmp .gt 17, 3) := by decide +kernel
theorem dX0_innermostIf_17 : decode cX0_innermostIf 17 = .ok (.aload_n 0, 1) := by decide +kernel
theorem dX0_innermostIf_18 : decode cX0_innermostIf 18 = .ok (.getfield 32, 3) := by decide +kernel
theorem dX0_innermostIf_21 : decode cX0_innermostIf 21 = .ok (.aload_n 0, 1) := by decide +kernel
theorem dX0_innermostIf_22 : decode cX0_innermostIf 22 = .ok (.getfield 54, 3) := by decide +kernel
theorem dX0_innermostIf_25 : decode cX0_innermostIf 25 = .ok (.iconst 1, 1) := by decide +kernel
theorem dX0_innermostIf_26 : decode cX0_innermostIf 26 = .ok (.isub, 1) := by decide +kernel
theorem dX0_innermostIf_27 : decode cX0_innermostIf 27 = .ok (.iaload, 1) := by decide +kernel
theorem dX0_innermostIf_28 : decode cX0_innermostIf 28 = .ok (.goto 4, 3) := by decide +kernel
theorem dX0_innermostIf_31 : decode cX0_innermostIf 31 = .ok (.iconst (-1), 1) := by decide +kernel
theorem dX0_innermostIf_32 : decode cX0_innermostIf 32 = .ok (.ireturn, 1) := by decide +kernel
theorem dX0_forgetStages_0 : decode cX0_forgetStages 0 = .ok (.aload_n 0, 1) := by decide +kernel
theorem dX0_forgetStages_1 : decode cX0_forgetStages 1 = .ok (.iconst 0, 1) := by decide +kernel
theorem dX0_forgetStages_2 : decode cX0_forgetStages 2 = .ok (.putfield 147, 3) := by decide +kernel
theorem dX0_forgetStages_5 : decode cX0_forgetStages 5 = .ok (.aload_n 0, 1) := by decide +kernel
theorem dX0_forgetStages_6 : decode cX0_forgetStages 6 = .ok (.iconst (-1), 1) := by decide +kernel
theorem dX0_forgetStages_7 : decode cX0_forgetStages 7 = .ok (.putfield 44, 3) := by decide +kernel
theorem dX0_forgetStages_10 : decode cX0_forgetStages 10 = .ok (.return_, 1) := by decide +kernel
theorem dX0_emptyStages_0 : decode cX0_emptyStages 0 = .ok (.iconst 0, 1) := by decide +kernel
theorem dX0_emptyStages_1 : decode cX0_emptyStages 1 = .ok (.istore_n 1, 1) := by decide +kernel
theorem dX0_emptyStages_2 : decode cX0_emptyStages 2 = .ok (.iload_n 1, 1) := by decide +kernel
theorem dX0_emptyStages_3 : decode cX0_emptyStages 3 = .ok (.bipush 12, 2) := by decide +kernel
theorem dX0_emptyStages_5 : decode cX0_emptyStages 5 = .ok (.if_icmp .ge 30, 3) := by decide +kernel
theorem dX0_emptyStages_8 : decode cX0_emptyStages 8 = .ok (.aload_n 0, 1) := by decide +kernel
theorem dX0_emptyStages_9 : decode cX0_emptyStages 9 = .ok (.getfield 35, 3) := by decide +kernel
theorem dX0_emptyStages_12 : decode cX0_emptyStages 12 = .ok (.iload_n 1, 1) := by decide +kernel
theorem dX0_emptyStages_13 : decode cX0_emptyStages 13 = .ok (.iconst 0, 1) := by decide +kernel
theorem dX0_emptyStages_14 : decode cX0_emptyStages 14 = .ok (.iastore, 1) := by decide +kernel
theorem dX0_emptyStages_15 : decode cX0_emptyStages 15 = .ok (.aload_n 0, 1) := by decide +kernel
theorem dX0_emptyStages_16 : decode cX0_emptyStages 16 = .ok (.getfield 38, 3) := by decide +kernel
theorem dX0_emptyStages_19 : decode cX0_emptyStages 19 = .ok (.iload_n 1, 1) := by decide +kernel
theorem dX0_emptyStages_20 : decode cX0_emptyStages 20 = .ok (.iconst 0, 1) := by decide +kernel
theorem dX0_emptyStages_21 : decode cX0_emptyStages 21 = .ok (.iastore, 1) := by decide +kernel
theorem dX0_emptyStages_22 : decode cX0_emptyStages 22 = .ok (.aload_n 0, 1) := by decide +kernel
theorem dX0_emptyStages_23 : decode cX0_emptyStages 23 = .ok (.getfield 41, 3) := by decide +kernel
theorem dX0_emptyStages_26 : decode cX0_emptyStages 26 = .ok (.iload_n 1, 1) := by decide +kernel
theorem dX0_emptyStages_27 : decode cX0_emptyStages 27 = .ok (.iconst 0, 1) := by decide +kernel
theorem dX0_emptyStages_28 : decode cX0_emptyStages 28 = .ok (.iastore, 1) := by decide +kernel
theorem dX0_emptyStages_29 : decode cX0_emptyStages 29 = .ok (.iinc 1 1, 3) := by decide +kernel
theorem dX0_emptyStages_32 : decode cX0_emptyStages 32 = .ok (.goto (-30), 3) := by decide +kernel
theorem dX0_emptyStages_35 : decode cX0_emptyStages 35 = .ok (.return_, 1) := by decide +kernel
theorem dX0_findStage_0 : decode cX0_findStage 0 = .ok (.aload_n 0, 1) := by decide +kernel
theorem dX0_findStage_1 : decode cX0_findStage 1 = .ok (.iload_n 1, 1) := by decide +kernel
theorem dX0_findStage_2 : decode cX0_findStage 2 = .ok (.invokevirtual 164, 3) := by decide +kernel
theorem dX0_findStage_5 : decode cX0_findStage 5 = .ok (.istore 5, 2) := by decide +kernel
theorem dX0_findStage_7 : decode cX0_findStage 7 = .ok (.iload_n 2, 1) := by decide +kernel
theorem dX0_findStage_8 : decode cX0_findStage 8 = .ok (.iconst 1, 1) := by decide +kernel
theorem dX0_findStage_9 : decode cX0_findStage 9 = .ok (.isub, 1) := by decide +kernel
theorem dX0_findStage_10 : decode cX0_findStage 10 = .ok (.istore 6, 2) := by decide +kernel
theorem dX0_findStage_12 : decode cX0_findStage 12 = .ok (.aload_n 0, 1) := by decide +kernel
theorem dX0_findStage_13 : decode cX0_findStage 13 = .ok (.iload_n 1, 1) := by decide +kernel
theorem dX0_findStage_14 : decode cX0_findStage 14 = .ok (.invokevirtual 167, 3) := by decide +kernel
theorem dX0_findStage_17 : decode cX0_findStage 17 = .ok (.istore 7, 2) := by decide +kernel
theorem dX0_findStage_19 : decode cX0_findStage 19 = .ok (.iload 7, 2) := by decide +kernel
theorem dX0_findStage_21 : decode cX0_findStage 21 = .ok (.iconst (-1), 1) := by decide +kernel
theorem dX0_findStage_22 : decode cX0_findStage 22 = .ok (.if_icmp .eq 20, 3) := by decide +kernel
theorem dX0_findStage_25 : decode cX0_findStage 25 = .ok (.iload 7, 2) := by decide +kernel
theorem dX0_findStage_27 : decode cX0_findStage 27 = .ok (.iload 5, 2) := by decide +kernel
theorem dX0_findStage_29 : decode cX0_findStage 29 = .ok (.if_icmp .ge 5, 3) := by decide +kernel
theorem dX0_findStage_32 : decode cX0_findStage 32 = .ok (.iconst (-1), 1) := by decide +kernel
theorem dX0_findStage_33 : decode cX0_findStage 33 = .ok (.ireturn, 1) := by decide +kernel
theorem dX0_findStage_34 : decode cX0_findStage 34 = .ok (.iload 7, 2) := by decide +kernel
theorem dX0_findStage_36 : decode cX0_findStage 36 = .ok (.istore 5, 2) := by decide +kernel
theorem dX0_findStage_38 : decode cX0_findStage 38 = .ok (.iload 7, 2) := by decide +kernel
theorem dX0_findStage_40 : decode cX0_findStage 40 = .ok (.istore 6, 2) := by decide +kernel
theorem dX0_findStage_42 : decode cX0_findStage 42 = .ok (.iload 5, 2) := by decide +kernel
theorem dX0_findStage_44 : decode cX0_findStage 44 = .ok (.istore 8, 2) := by decide +kernel
theorem dX0_findStage_46 : decode cX0_findStage 46 = .ok (.iload 8, 2) := by decide +kernel
theorem dX0_findStage_48 : decode cX0_findStage 48 = .ok (.iload 6, 2) := by decide +kernel
theorem dX0_findStage_50 : decode cX0_findStage 50 = .ok (.if_icmp .gt 25, 3) := by decide +kernel
theorem dX0_findStage_53 : decode cX0_findStage 53 = .ok (.aload_n 0, 1) := by decide +kernel
theorem dX0_findStage_54 : decode cX0_findStage 54 = .ok (.iload_n 1, 1) := by decide +kernel
theorem dX0_findStage_55 : decode cX0_findStage 55 = .ok (.iload 8, 2) := by decide +kernel
theorem dX0_findStage_57 : decode cX0_findStage 57 = .ok (.iload_n 3, 1) := by decide +kernel
theorem dX0_findStage_58 : decode cX0_findStage 58 = .ok (.iload 4, 2) := by decide +kernel
theorem dX0_findStage_60 : decode cX0_findStage 60 = .ok (.invokevirtual 170, 3) := by decide +kernel
theorem dX0_findStage_63 : decode cX0_findStage 63 = .ok (.ifCond .eq 6, 3) := by decide +kernel
theorem dX0_findStage_66 : decode cX0_findStage 66 = .ok (.iload 8, 2) := by decide +kernel
theorem dX0_findStage_68 : decode cX0_findStage 68 = .ok (.ireturn, 1) := by decide +kernel
theorem dX0_findStage_69 : decode cX0_findStage 69 = .ok (.iinc 8 1, 3) := by decide +kernel
theorem dX0_findStage_72 : decode cX0_findStage 72 = .ok (.goto (-26), 3) := by decide +kernel
theorem dX0_findStage_75 : decode cX0_findStage 75 = .ok (.iconst (-1), 1) := by decide +kernel
theorem dX0_findStage_76 : decode cX0_findStage 76 = .ok (.ireturn, 1) := by decide +kernel
theorem dX0_earliestStage_0 : decode cX0_earliestStage 0 = .ok (.iload_n 1, 1) := by decide +kernel
theorem dX0_earliestStage_1 : decode cX0_earliestStage 1 = .ok (.ifCond .lt 9, 3) := by decide +kernel
theorem dX0_earliestStage_4 : decode cX0_earliestStage 4 = .ok (.iload_n 1, 1) := by decide +kernel
theorem dX0_earliestStage_5 : decode cX0_earliestStage 5 = .ok (.bipush 48, 2) := by decide +kernel
theorem dX0_earliestStage_7 : decode cX0_earliestStage 7 = .ok (.if_icmp .lt 5, 3) := by decide +kernel
theorem dX0_earliestStage_10 : decode cX0_earliestStage 10 = .ok (.iconst 0, 1) := by decide +kernel
theorem dX0_earliestStage_11 : decode cX0_earliestStage 11 = .ok (.ireturn, 1) := by decide +kernel
theorem dX0_earliestStage_12 : decode cX0_earliestStage 12 = .ok (.aload_n 0, 1) := by decide +kernel
theorem dX0_earliestStage_13 : decode cX0_earliestStage 13 = .ok (.getfield 20, 3) := by decide +kernel
theorem dX0_earliestStage_16 : decode cX0_earliestStage 16 = .ok (.iload_n 1, 1) := by decide +kernel
theorem dX0_earliestStage_17 : decode cX0_earliestStage 17 = .ok (.iaload, 1) := by decide +kernel
theorem dX0_earliestStage_18 : decode cX0_earliestStage 18 = .ok (.istore_n 2, 1) := by decide +kernel
theorem dX0_earliestStage_19 : decode cX0_earliestStage 19 = .ok (.iload_n 2, 1) := by decide +kernel
theorem dX0_earliestStage_20 : decode cX0_earliestStage 20 = .ok (.ifCond .lt 19, 3) := by decide +kernel
theorem dX0_earliestStage_23 : decode cX0_earliestStage 23 = .ok (.iload_n 2, 1) := by decide +kernel
theorem dX0_earliestStage_24 : decode cX0_earliestStage 24 = .ok (.iload_n 1, 1) := by decide +kernel
theorem dX0_earliestStage_25 : decode cX0_earliestStage 25 = .ok (.if_icmp .ge 14, 3) := by decide +kernel
theorem dX0_earliestStage_28 : decode cX0_earliestStage 28 = .ok (.aload_n 0, 1) := by decide +kernel
theorem dX0_earliestStage_29 : decode cX0_earliestStage 29 = .ok (.getfield 29, 3) := by decide +kernel
theorem dX0_earliestStage_32 : decode cX0_earliestStage 32 = .ok (.iload_n 2, 1) := by decide +kernel
theorem dX0_earliestStage_33 : decode cX0_earliestStage 33 = .ok (.iaload, 1) := by decide +kernel
theorem dX0_earliestStage_34 : decode cX0_earliestStage 34 = .ok (.iconst 1, 1) := by decide +kernel
theorem dX0_earliestStage_35 : decode cX0_earliestStage 35 = .ok (.iadd, 1) := by decide +kernel
theorem dX0_earliestStage_36 : decode cX0_earliestStage 36 = .ok (.goto 4, 3) := by decide +kernel
theorem dX0_earliestStage_39 : decode cX0_earliestStage 39 = .ok (.iconst 0, 1) := by decide +kernel
theorem dX0_earliestStage_40 : decode cX0_earliestStage 40 = .ok (.istore_n 3, 1) := by decide +kernel
theorem dX0_earliestStage_41 : decode cX0_earliestStage 41 = .ok (.aload_n 0, 1) := by decide +kernel
theorem dX0_earliestStage_42 : decode cX0_earliestStage 42 = .ok (.getfield 13, 3) := by decide +kernel
theorem dX0_earliestStage_45 : decode cX0_earliestStage 45 = .ok (.iload_n 1, 1) := by decide +kernel
theorem dX0_earliestStage_46 : decode cX0_earliestStage 46 = .ok (.laload, 1) := by decide +kernel
theorem dX0_earliestStage_47 : decode cX0_earliestStage 47 = .ok (.lstore 4, 2) := by decide +kernel
theorem dX0_earliestStage_49 : decode cX0_earliestStage 49 = .ok (.aload_n 0, 1) := by decide +kernel
theorem dX0_earliestStage_50 : decode cX0_earliestStage 50 = .ok (.getfield 9, 3) := by decide +kernel
theorem dX0_earliestStage_53 : decode cX0_earliestStage 53 = .ok (.iload_n 1, 1) := by decide +kernel
theorem dX0_earliestStage_54 : decode cX0_earliestStage 54 = .ok (.laload, 1) := by decide +kernel
theorem dX0_earliestStage_55 : decode cX0_earliestStage 55 = .ok (.lload 4, 2) := by decide +kernel
theorem dX0_earliestStage_57 : decode cX0_earliestStage 57 = .ok (.lor, 1) := by decide +kernel
theorem dX0_earliestStage_58 : decode cX0_earliestStage 58 = .ok (.lstore 6, 2) := by decide +kernel
theorem dX0_earliestStage_60 : decode cX0_earliestStage 60 = .ok (.iconst 0, 1) := by decide +kernel
theorem dX0_earliestStage_61 : decode cX0_earliestStage 61 = .ok (.istore 8, 2) := by decide +kernel
theorem dX0_earliestStage_63 : decode cX0_earliestStage 63 = .ok (.iload 8, 2) := by decide +kernel
theorem dX0_earliestStage_65 : decode cX0_earliestStage 65 = .ok (.iload_n 1, 1) := by decide +kernel
theorem dX0_earliestStage_66 : decode cX0_earliestStage 66 = .ok (.if_icmp .ge 68, 3) := by decide +kernel
theorem dX0_earliestStage_69 : decode cX0_earliestStage 69 = .ok (.aload_n 0, 1) := by decide +kernel
theorem dX0_earliestStage_70 : decode cX0_earliestStage 70 = .ok (.getfield 13, 3) := by decide +kernel
theorem dX0_earliestStage_73 : decode cX0_earliestStage 73 = .ok (.iload 8, 2) := by decide +kernel
theorem dX0_earliestStage_75 : decode cX0_earliestStage 75 = .ok (.laload, 1) := by decide +kernel
theorem dX0_earliestStage_76 : decode cX0_earliestStage 76 = .ok (.lload 6, 2) := by decide +kernel
theorem dX0_earliestStage_78 : decode cX0_earliestStage 78 = .ok (.land, 1) := by decide +kernel
theorem dX0_earliestStage_79 : decode cX0_earliestStage 79 = .ok (.lconst 0, 1) := by decide +kernel
theorem dX0_earliestStage_80 : decode cX0_earliestStage 80 = .ok (.lcmp, 1) := by decide +kernel
theorem dX0_earliestStage_81 : decode cX0_earliestStage 81 = .ok (.ifCond .eq 20, 3) := by decide +kernel
theorem dX0_earliestStage_84 : decode cX0_earliestStage 84 = .ok (.iload_n 3, 1) := by decide +kernel
theorem dX0_earliestStage_85 : decode cX0_earliestStage 85 = .ok (.aload_n 0, 1) := by decide +kernel
theorem dX0_earliestStage_86 : decode cX0_earliestStage 86 = .ok (.getfield 29, 3) := by decide +kernel
theorem dX0_earliestStage_89 : decode cX0_earliestStage 89 = .ok (.iload 8, 2) := by decide +kernel
theorem dX0_earliestStage_91 : decode cX0_earliestStage 91 = .ok (.iaload, 1) := by decide +kernel
theorem dX0_earliestStage_92 : decode cX0_earliestStage 92 = .ok (.iconst 1, 1) := by decide +kernel
theorem dX0_earliestStage_93 : decode cX0_earliestStage 93 = .ok (.iadd, 1) := by decide +kernel
theorem dX0_earliestStage_94 : decode cX0_earliestStage 94 = .ok (.invokestatic 141, 3) := by decide +kernel
theorem dX0_earliestStage_97 : decode cX0_earliestStage 97 = .ok (.istore_n 3, 1) := by decide +kernel
theorem dX0_earliestStage_98 : decode cX0_earliestStage 98 = .ok (.goto 30, 3) := by decide +kernel
theorem dX0_earliestStage_101 : decode cX0_earliestStage 101 = .ok (.aload_n 0, 1) := by decide +kernel
theorem dX0_earliestStage_102 : decode cX0_earliestStage 102 = .ok (.getfield 9, 3) := by decide +kernel
theorem dX0_earliestStage_105 : decode cX0_earliestStage 105 = .ok (.iload 8, 2) := by decide +kernel
theorem dX0_earliestStage_107 : decode cX0_earliestStage 107 = .ok (.laload, 1) := by decide +kernel
theorem dX0_earliestStage_108 : decode cX0_earliestStage 108 = .ok (.lload 4, 2) := by decide +kernel
theorem dX0_earliestStage_110 : decode cX0_earliestStage 110 = .ok (.land, 1) := by decide +kernel
theorem dX0_earliestStage_111 : decode cX0_earliestStage 111 = .ok (.lconst 0, 1) := by decide +kernel
theorem dX0_earliestStage_112 : decode cX0_earliestStage 112 = .ok (.lcmp, 1) := by decide +kernel
theorem dX0_earliestStage_113 : decode cX0_earliestStage 113 = .ok (.ifCond .eq 15, 3) := by decide +kernel
theorem dX0_earliestStage_116 : decode cX0_earliestStage 116 = .ok (.iload_n 3, 1) := by decide +kernel
theorem dX0_earliestStage_117 : decode cX0_earliestStage 117 = .ok (.aload_n 0, 1) := by decide +kernel
theorem dX0_earliestStage_118 : decode cX0_earliestStage 118 = .ok (.getfield 29, 3) := by decide +kernel
theorem dX0_earliestStage_121 : decode cX0_earliestStage 121 = .ok (.iload 8, 2) := by decide +kernel
theorem dX0_earliestStage_123 : decode cX0_earliestStage 123 = .ok (.iaload, 1) := by decide +kernel
theorem dX0_earliestStage_124 : decode cX0_earliestStage 124 = .ok (.invokestatic 141, 3) := by decide +kernel
theorem dX0_earliestStage_127 : decode cX0_earliestStage 127 = .ok (.istore_n 3, 1) := by decide +kernel
theorem dX0_earliestStage_128 : decode cX0_earliestStage 128 = .ok (.iinc 8 1, 3) := by decide +kernel
theorem dX0_earliestStage_131 : decode cX0_earliestStage 131 = .ok (.goto (-68), 3) := by decide +kernel
theorem dX0_earliestStage_134 : decode cX0_earliestStage 134 = .ok (.iload_n 3, 1) := by decide +kernel
theorem dX0_earliestStage_135 : decode cX0_earliestStage 135 = .ok (.ireturn, 1) := by decide +kernel
theorem dX0_stageOfSharedArray_0 : decode cX0_stageOfSharedArray 0 = .ok (.iload_n 1, 1) := by decide +kernel
theorem dX0_stageOfSharedArray_1 : decode cX0_stageOfSharedArray 1 = .ok (.ifCond .lt 19, 3) := by decide +kernel
theorem dX0_stageOfSharedArray_4 : decode cX0_stageOfSharedArray 4 = .ok (.iload_n 1, 1) := by decide +kernel
theorem dX0_stageOfSharedArray_5 : decode cX0_stageOfSharedArray 5 = .ok (.bipush 48, 2) := by decide +kernel
theorem dX0_stageOfSharedArray_7 : decode cX0_stageOfSharedArray 7 = .ok (.if_icmp .ge 13, 3) := by decide +kernel
theorem dX0_stageOfSharedArray_10 : decode cX0_stageOfSharedArray 10 = .ok (.aload_n 0, 1) := by decide +kernel
theorem dX0_stageOfSharedArray_11 : decode cX0_stageOfSharedArray 11 = .ok (.getfield 16, 3) := by decide +kernel
theorem dX0_stageOfSharedArray_14 : decode cX0_stageOfSharedArray 14 = .ok (.iload_n 1, 1) := by decide +kernel
theorem dX0_stageOfSharedArray_15 : decode cX0_stageOfSharedArray 15 = .ok (.iaload, 1) := by decide +kernel
theorem dX0_stageOfSharedArray_16 : decode cX0_stageOfSharedArray 16 = .ok (.iconst (-1), 1) := by decide +kernel
theorem dX0_stageOfSharedArray_17 : decode cX0_stageOfSharedArray 17 = .ok (.if_icmp .ne 5, 3) := by decide +kernel
theorem dX0_stageOfSharedArray_20 : decode cX0_stageOfSharedArray 20 = .ok (.iconst (-1), 1) := by decide +kernel
theorem dX0_stageOfSharedArray_21 : decode cX0_stageOfSharedArray 21 = .ok (.ireturn, 1) := by decide +kernel
theorem dX0_stageOfSharedArray_22 : decode cX0_stageOfSharedArray 22 = .ok (.iconst 0, 1) := by decide +kernel
theorem dX0_stageOfSharedArray_23 : decode cX0_stageOfSharedArray 23 = .ok (.istore_n 2, 1) := by decide +kernel
theorem dX0_stageOfSharedArray_24 : decode cX0_stageOfSharedArray 24 = .ok (.iload_n 2, 1) := by decide +kernel
theorem dX0_stageOfSharedArray_25 : decode cX0_stageOfSharedArray 25 = .ok (.iload_n 1, 1) := by decide +kernel
theorem dX0_stageOfSharedArray_26 : decode cX0_stageOfSharedArray 26 = .ok (.if_icmp .ge 31, 3) := by decide +kernel
theorem dX0_stageOfSharedArray_29 : decode cX0_stageOfSharedArray 29 = .ok (.aload_n 0, 1) := by decide +kernel
theorem dX0_stageOfSharedArray_30 : decode cX0_stageOfSharedArray 30 = .ok (.getfield 16, 3) := by decide +kernel
theorem dX0_stageOfSharedArray_33 : decode cX0_stageOfSharedArray 33 = .ok (.iload_n 2, 1) := by decide +kernel
theorem dX0_stageOfSharedArray_34 : decode cX0_stageOfSharedArray 34 = .ok (.iaload, 1) := by decide +kernel
theorem dX0_stageOfSharedArray_35 : decode cX0_stageOfSharedArray 35 = .ok (.aload_n 0, 1) := by decide +kernel
theorem dX0_stageOfSharedArray_36 : decode cX0_stageOfSharedArray 36 = .ok (.getfield 16, 3) := by decide +kernel
theorem dX0_stageOfSharedArray_39 : decode cX0_stageOfSharedArray 39 = .ok (.iload_n 1, 1) := by decide +kernel
theorem dX0_stageOfSharedArray_40 : decode cX0_stageOfSharedArray 40 = .ok (.iaload, 1) := by decide +kernel
theorem dX0_stageOfSharedArray_41 : decode cX0_stageOfSharedArray 41 = .ok (.if_icmp .ne 10, 3) := by decide +kernel
theorem dX0_stageOfSharedArray_44 : decode cX0_stageOfSharedArray 44 = .ok (.aload_n 0, 1) := by decide +kernel
theorem dX0_stageOfSharedArray_45 : decode cX0_stageOfSharedArray 45 = .ok (.getfield 29, 3) := by decide +kernel
theorem dX0_stageOfSharedArray_48 : decode cX0_stageOfSharedArray 48 = .ok (.iload_n 2, 1) := by decide +kernel
theorem dX0_stageOfSharedArray_49 : decode cX0_stageOfSharedArray 49 = .ok (.iaload, 1) := by decide +kernel
theorem dX0_stageOfSharedArray_50 : decode cX0_stageOfSharedArray 50 = .ok (.ireturn, 1) := by decide +kernel
theorem dX0_stageOfSharedArray_51 : decode cX0_stageOfSharedArray 51 = .ok (.iinc 2 1, 3) := by decide +kernel
theorem dX0_stageOfSharedArray_54 : decode cX0_stageOfSharedArray 54 = .ok (.goto (-30), 3) := by decide +kernel
theorem dX0_stageOfSharedArray_57 : decode cX0_stageOfSharedArray 57 = .ok (.iconst (-1), 1) := by decide +kernel
theorem dX0_stageOfSharedArray_58 : decode cX0_stageOfSharedArray 58 = .ok (.ireturn, 1) := by decide +kernel
theorem dX0_hasRoom_0 : decode cX0_hasRoom 0 = .ok (.iload_n 1, 1) := by decide +kernel
theorem dX0_hasRoom_1 : decode cX0_hasRoom 1 = .ok (.ifCond .lt 19, 3) := by decide +kernel
theorem dX0_hasRoom_4 : decode cX0_hasRoom 4 = .ok (.iload_n 1, 1) := by decide +kernel
theorem dX0_hasRoom_5 : decode cX0_hasRoom 5 = .ok (.bipush 48, 2) := by decide +kernel
theorem dX0_hasRoom_7 : decode cX0_hasRoom 7 = .ok (.if_icmp .ge 13, 3) := by decide +kernel
theorem dX0_hasRoom_10 : decode cX0_hasRoom 10 = .ok (.iload_n 2, 1) := by decide +kernel
theorem dX0_hasRoom_11 : decode cX0_hasRoom 11 = .ok (.ifCond .lt 9, 3) := by decide +kernel
theorem dX0_hasRoom_14 : decode cX0_hasRoom 14 = .ok (.iload_n 2, 1) := by decide +kernel
theorem dX0_hasRoom_15 : decode cX0_hasRoom 15 = .ok (.bipush 12, 2) := by decide +kernel
theorem dX0_hasRoom_17 : decode cX0_hasRoom 17 = .ok (.if_icmp .lt 5, 3) := by decide +kernel
theorem dX0_hasRoom_20 : decode cX0_hasRoom 20 = .ok (.iconst 0, 1) := by decide +kernel
theorem dX0_hasRoom_21 : decode cX0_hasRoom 21 = .ok (.ireturn, 1) := by decide +kernel
theorem dX0_hasRoom_22 : decode cX0_hasRoom 22 = .ok (.aload_n 0, 1) := by decide +kernel
theorem dX0_hasRoom_23 : decode cX0_hasRoom 23 = .ok (.getfield 35, 3) := by decide +kernel
theorem dX0_hasRoom_26 : decode cX0_hasRoom 26 = .ok (.iload_n 2, 1) := by decide +kernel
theorem dX0_hasRoom_27 : decode cX0_hasRoom 27 = .ok (.iaload, 1) := by decide +kernel
theorem dX0_hasRoom_28 : decode cX0_hasRoom 28 = .ok (.bipush 8, 2) := by decide +kernel
theorem dX0_hasRoom_30 : decode cX0_hasRoom 30 = .ok (.if_icmp .ge 42, 3) := by decide +kernel
theorem dX0_hasRoom_33 : decode cX0_hasRoom 33 = .ok (.aload_n 0, 1) := by decide +kernel
theorem dX0_hasRoom_34 : decode cX0_hasRoom 34 = .ok (.getfield 38, 3) := by decide +kernel
theorem dX0_hasRoom_37 : decode cX0_hasRoom 37 = .ok (.iload_n 2, 1) := by decide +kernel
theorem dX0_hasRoom_38 : decode cX0_hasRoom 38 = .ok (.iaload, 1) := by decide +kernel
theorem dX0_hasRoom_39 : decode cX0_hasRoom 39 = .ok (.aload_n 0, 1) := by decide +kernel
theorem dX0_hasRoom_40 : decode cX0_hasRoom 40 = .ok (.getfield 23, 3) := by decide +kernel
theorem dX0_hasRoom_43 : decode cX0_hasRoom 43 = .ok (.iload_n 1, 1) := by decide +kernel
theorem dX0_hasRoom_44 : decode cX0_hasRoom 44 = .ok (.iaload, 1) := by decide +kernel
theorem dX0_hasRoom_45 : decode cX0_hasRoom 45 = .ok (.iadd, 1) := by decide +kernel
theorem dX0_hasRoom_46 : decode cX0_hasRoom 46 = .ok (.iload_n 3, 1) := by decide +kernel
theorem dX0_hasRoom_47 : decode cX0_hasRoom 47 = .ok (.if_icmp .gt 25, 3) := by decide +kernel
theorem dX0_hasRoom_50 : decode cX0_hasRoom 50 = .ok (.aload_n 0, 1) := by decide +kernel
theorem dX0_hasRoom_51 : decode cX0_hasRoom 51 = .ok (.getfield 41, 3) := by decide +kernel
theorem dX0_hasRoom_54 : decode cX0_hasRoom 54 = .ok (.iload_n 2, 1) := by decide +kernel
theorem dX0_hasRoom_55 : decode cX0_hasRoom 55 = .ok (.iaload, 1) := by decide +kernel
theorem dX0_hasRoom_56 : decode cX0_hasRoom 56 = .ok (.aload_n 0, 1) := by decide +kernel
theorem dX0_hasRoom_57 : decode cX0_hasRoom 57 = .ok (.getfield 26, 3) := by decide +kernel
theorem dX0_hasRoom_60 : decode cX0_hasRoom 60 = .ok (.iload_n 1, 1) := by decide +kernel
theorem dX0_hasRoom_61 : decode cX0_hasRoom 61 = .ok (.iaload, 1) := by decide +kernel
theorem dX0_hasRoom_62 : decode cX0_hasRoom 62 = .ok (.iadd, 1) := by decide +kernel
theorem dX0_hasRoom_63 : decode cX0_hasRoom 63 = .ok (.iload 4, 2) := by decide +kernel
theorem dX0_hasRoom_65 : decode cX0_hasRoom 65 = .ok (.if_icmp .gt 7, 3) := by decide +kernel
theorem dX0_hasRoom_68 : decode cX0_hasRoom 68 = .ok (.iconst 1, 1) := by decide +kernel
theorem dX0_hasRoom_69 : decode cX0_hasRoom 69 = .ok (.goto 4, 3) := by decide +kernel
theorem dX0_hasRoom_72 : decode cX0_hasRoom 72 = .ok (.iconst 0, 1) := by decide +kernel
theorem dX0_hasRoom_73 : decode cX0_hasRoom 73 = .ok (.ireturn, 1) := by decide +kernel
theorem dX0_settle_0 : decode cX0_settle 0 = .ok (.iload_n 1, 1) := by decide +kernel
theorem dX0_settle_1 : decode cX0_settle 1 = .ok (.ifCond .lt 19, 3) := by decide +kernel
theorem dX0_settle_4 : decode cX0_settle 4 = .ok (.iload_n 1, 1) := by decide +kernel
theorem dX0_settle_5 : decode cX0_settle 5 = .ok (.bipush 48, 2) := by decide +kernel
theorem dX0_settle_7 : decode cX0_settle 7 = .ok (.if_icmp .ge 13, 3) := by decide +kernel
theorem dX0_settle_10 : decode cX0_settle 10 = .ok (.iload_n 2, 1) := by decide +kernel
theorem dX0_settle_11 : decode cX0_settle 11 = .ok (.ifCond .lt 9, 3) := by decide +kernel
theorem dX0_settle_14 : decode cX0_settle 14 = .ok (.iload_n 2, 1) := by decide +kernel
theorem dX0_settle_15 : decode cX0_settle 15 = .ok (.bipush 12, 2) := by decide +kernel
theorem dX0_settle_17 : decode cX0_settle 17 = .ok (.if_icmp .lt 4, 3) := by decide +kernel
theorem dX0_settle_20 : decode cX0_settle 20 = .ok (.return_, 1) := by decide +kernel
theorem dX0_settle_21 : decode cX0_settle 21 = .ok (.aload_n 0, 1) := by decide +kernel
theorem dX0_settle_22 : decode cX0_settle 22 = .ok (.getfield 29, 3) := by decide +kernel
theorem dX0_settle_25 : decode cX0_settle 25 = .ok (.iload_n 1, 1) := by decide +kernel
theorem dX0_settle_26 : decode cX0_settle 26 = .ok (.iload_n 2, 1) := by decide +kernel
theorem dX0_settle_27 : decode cX0_settle 27 = .ok (.iastore, 1) := by decide +kernel
theorem dX0_settle_28 : decode cX0_settle 28 = .ok (.aload_n 0, 1) := by decide +kernel
theorem dX0_settle_29 : decode cX0_settle 29 = .ok (.getfield 35, 3) := by decide +kernel
theorem dX0_settle_32 : decode cX0_settle 32 = .ok (.iload_n 2, 1) := by decide +kernel
theorem dX0_settle_33 : decode cX0_settle 33 = .ok (.dup2, 1) := by decide +kernel
theorem dX0_settle_34 : decode cX0_settle 34 = .ok (.iaload, 1) := by decide +kernel
theorem dX0_settle_35 : decode cX0_settle 35 = .ok (.iconst 1, 1) := by decide +kernel
theorem dX0_settle_36 : decode cX0_settle 36 = .ok (.iadd, 1) := by decide +kernel
theorem dX0_settle_37 : decode cX0_settle 37 = .ok (.iastore, 1) := by decide +kernel
theorem dX0_settle_38 : decode cX0_settle 38 = .ok (.aload_n 0, 1) := by decide +kernel
theorem dX0_settle_39 : decode cX0_settle 39 = .ok (.getfield 38, 3) := by decide +kernel
theorem dX0_settle_42 : decode cX0_settle 42 = .ok (.iload_n 2, 1) := by decide +kernel
theorem dX0_settle_43 : decode cX0_settle 43 = .ok (.dup2, 1) := by decide +kernel
theorem dX0_settle_44 : decode cX0_settle 44 = .ok (.iaload, 1) := by decide +kernel
theorem dX0_settle_45 : decode cX0_settle 45 = .ok (.aload_n 0, 1) := by decide +kernel
theorem dX0_settle_46 : decode cX0_settle 46 = .ok (.getfield 23, 3) := by decide +kernel
theorem dX0_settle_49 : decode cX0_settle 49 = .ok (.iload_n 1, 1) := by decide +kernel
theorem dX0_settle_50 : decode cX0_settle 50 = .ok (.iaload, 1) := by decide +kernel
theorem dX0_settle_51 : decode cX0_settle 51 = .ok (.iadd, 1) := by decide +kernel
theorem dX0_settle_52 : decode cX0_settle 52 = .ok (.iastore, 1) := by decide +kernel
theorem dX0_settle_53 : decode cX0_settle 53 = .ok (.aload_n 0, 1) := by decide +kernel
theorem dX0_settle_54 : decode cX0_settle 54 = .ok (.getfield 41, 3) := by decide +kernel
theorem dX0_settle_57 : decode cX0_settle 57 = .ok (.iload_n 2, 1) := by decide +kernel
theorem dX0_settle_58 : decode cX0_settle 58 = .ok (.dup2, 1) := by decide +kernel
theorem dX0_settle_59 : decode cX0_settle 59 = .ok (.iaload, 1) := by decide +kernel
theorem dX0_settle_60 : decode cX0_settle 60 = .ok (.aload_n 0, 1) := by decide +kernel
theorem dX0_settle_61 : decode cX0_settle 61 = .ok (.getfield 26, 3) := by decide +kernel
theorem dX0_settle_64 : decode cX0_settle 64 = .ok (.iload_n 1, 1) := by decide +kernel
theorem dX0_settle_65 : decode cX0_settle 65 = .ok (.iaload, 1) := by decide +kernel
theorem dX0_settle_66 : decode cX0_settle 66 = .ok (.iadd, 1) := by decide +kernel
theorem dX0_settle_67 : decode cX0_settle 67 = .ok (.iastore, 1) := by decide +kernel
theorem dX0_settle_68 : decode cX0_settle 68 = .ok (.return_, 1) := by decide +kernel
theorem dJ6_bitCount_0 : decode cJ6_bitCount 0 = .ok (.iload_n 0, 1) := by decide +kernel
theorem dJ6_bitCount_1 : decode cJ6_bitCount 1 = .ok (.iload_n 0, 1) := by decide +kernel
theorem dJ6_bitCount_2 : decode cJ6_bitCount 2 = .ok (.iconst 1, 1) := by decide +kernel
theorem dJ6_bitCount_3 : decode cJ6_bitCount 3 = .ok (.iushr, 1) := by decide +kernel
theorem dJ6_bitCount_4 : decode cJ6_bitCount 4 = .ok (.ldc_w 265, 3) := by decide +kernel
theorem dJ6_bitCount_7 : decode cJ6_bitCount 7 = .ok (.iand, 1) := by decide +kernel
theorem dJ6_bitCount_8 : decode cJ6_bitCount 8 = .ok (.isub, 1) := by decide +kernel
theorem dJ6_bitCount_9 : decode cJ6_bitCount 9 = .ok (.istore_n 0, 1) := by decide +kernel
theorem dJ6_bitCount_10 : decode cJ6_bitCount 10 = .ok (.iload_n 0, 1) := by decide +kernel
theorem dJ6_bitCount_11 : decode cJ6_bitCount 11 = .ok (.ldc_w 266, 3) := by decide +kernel
theorem dJ6_bitCount_14 : decode cJ6_bitCount 14 = .ok (.iand, 1) := by decide +kernel
theorem dJ6_bitCount_15 : decode cJ6_bitCount 15 = .ok (.iload_n 0, 1) := by decide +kernel
theorem dJ6_bitCount_16 : decode cJ6_bitCount 16 = .ok (.iconst 2, 1) := by decide +kernel
theorem dJ6_bitCount_17 : decode cJ6_bitCount 17 = .ok (.iushr, 1) := by decide +kernel
theorem dJ6_bitCount_18 : decode cJ6_bitCount 18 = .ok (.ldc_w 266, 3) := by decide +kernel
theorem dJ6_bitCount_21 : decode cJ6_bitCount 21 = .ok (.iand, 1) := by decide +kernel
theorem dJ6_bitCount_22 : decode cJ6_bitCount 22 = .ok (.iadd, 1) := by decide +kernel
theorem dJ6_bitCount_23 : decode cJ6_bitCount 23 = .ok (.istore_n 0, 1) := by decide +kernel
theorem dJ6_bitCount_24 : decode cJ6_bitCount 24 = .ok (.iload_n 0, 1) := by decide +kernel
theorem dJ6_bitCount_25 : decode cJ6_bitCount 25 = .ok (.iload_n 0, 1) := by decide +kernel
theorem dJ6_bitCount_26 : decode cJ6_bitCount 26 = .ok (.iconst 4, 1) := by decide +kernel
theorem dJ6_bitCount_27 : decode cJ6_bitCount 27 = .ok (.iushr, 1) := by decide +kernel
theorem dJ6_bitCount_28 : decode cJ6_bitCount 28 = .ok (.iadd, 1) := by decide +kernel
theorem dJ6_bitCount_29 : decode cJ6_bitCount 29 = .ok (.ldc_w 267, 3) := by decide +kernel
theorem dJ6_bitCount_32 : decode cJ6_bitCount 32 = .ok (.iand, 1) := by decide +kernel
theorem dJ6_bitCount_33 : decode cJ6_bitCount 33 = .ok (.istore_n 0, 1) := by decide +kernel
theorem dJ6_bitCount_34 : decode cJ6_bitCount 34 = .ok (.iload_n 0, 1) := by decide +kernel
theorem dJ6_bitCount_35 : decode cJ6_bitCount 35 = .ok (.iload_n 0, 1) := by decide +kernel
theorem dJ6_bitCount_36 : decode cJ6_bitCount 36 = .ok (.bipush 8, 2) := by decide +kernel
theorem dJ6_bitCount_38 : decode cJ6_bitCount 38 = .ok (.iushr, 1) := by decide +kernel
theorem dJ6_bitCount_39 : decode cJ6_bitCount 39 = .ok (.iadd, 1) := by decide +kernel
theorem dJ6_bitCount_40 : decode cJ6_bitCount 40 = .ok (.istore_n 0, 1) := by decide +kernel
theorem dJ6_bitCount_41 : decode cJ6_bitCount 41 = .ok (.iload_n 0, 1) := by decide +kernel
theorem dJ6_bitCount_42 : decode cJ6_bitCount 42 = .ok (.iload_n 0, 1) := by decide +kernel
theorem dJ6_bitCount_43 : decode cJ6_bitCount 43 = .ok (.bipush 16, 2) := by decide +kernel
theorem dJ6_bitCount_45 : decode cJ6_bitCount 45 = .ok (.iushr, 1) := by decide +kernel
theorem dJ6_bitCount_46 : decode cJ6_bitCount 46 = .ok (.iadd, 1) := by decide +kernel
theorem dJ6_bitCount_47 : decode cJ6_bitCount 47 = .ok (.istore_n 0, 1) := by decide +kernel
theorem dJ6_bitCount_48 : decode cJ6_bitCount 48 = .ok (.iload_n 0, 1) := by decide +kernel
theorem dJ6_bitCount_49 : decode cJ6_bitCount 49 = .ok (.bipush 63, 2) := by decide +kernel
theorem dJ6_bitCount_51 : decode cJ6_bitCount 51 = .ok (.iand, 1) := by decide +kernel
theorem dJ6_bitCount_52 : decode cJ6_bitCount 52 = .ok (.ireturn, 1) := by decide +kernel
end
section
def xf_st : List (Nat × String) := [(91, "no such instance"), (103, "too many IFs are open"), (106, "no IF is open"), (115, "room is not 1 to 32"), (118, "not 1 to 4 keys"), (120, "there are 8 tables"), (126, "stages are not 1 to 12"), (128, "memory or wires below 0"), (150, "no such place"), (152, "no such array"), (154, "bits that are no place"), (156, "there are 48 steps"), (158, "more than 800 places were read")]
/-! words of mine: worlds before and behind a method, what a throw needs, small numbers -/
def iu (x y : Int32) : Int32 := (x.toUInt32 >>> (y.toUInt32 &&& Int32.toUInt32 31)).toInt32
def jl (x : Int64) (y : Int32) : Int64 := x <<< (y.toInt64 &&& 63)
def ju (x : Int64) (y : Int32) : Int64 := (x.toUInt64 >>> (y.toInt64.toUInt64 &&& Int64.toUInt64 63)).toInt64
def js (x : Int64) (y : Int32) : Int64 := x >>> (y.toInt64 &&& 63)
abbrev xIO : String := "java/lang/IndexOutOfBoundsException"
abbrev xIA : String := "java/lang/IllegalArgumentException"
abbrev xIS : String := "java/lang/IllegalStateException"
abbrev pr (D : va_G) (ws : va_W) (ty : List (ClassId × FieldType)) (sz : Nat) (U : State) : Prop := U.heap.size = sz ∧ va_P D vwCl ws U.heap ∧ va_K D vwCl ty U ∧ va_D (fun _ => True) ws
abbrev po (D : va_G) (ws : va_W) (ty : List (ClassId × FieldType)) (A : Nat → Prop) (t : State) : Prop := va_P D vwCl ws t.heap ∧ va_K D vwCl ty t ∧ va_D A ws
def xf_ca : List (String × String) := [(xIO, xIO), (xIA, xIA), (xIS, xIS)]
def xf_de : List MethodName := ["java/lang/RuntimeException", "java/lang/Exception", "java/lang/Throwable"].map (fun y => ⟨y, "<init>", "(Ljava/lang/String;)V"⟩)
def xf_nc : List (String × String) := [(xIO, xIA), (xIO, xIS), (xIA, xIO), (xIA, xIS), (xIS, xIO), (xIS, xIA)]
/-- what a throw of the class asks of the start: two statics of Throwable, its texts, what is castable -/
abbrev xf (sx : Nat → Nat) (A : Nat → Prop) (U : State) (H : Heap) : Prop :=
  vx_Zq "java/lang/Throwable" "UNASSIGNED_STACK" "[Ljava/lang/StackTraceElement;" A U H ∧ vx_Zq "java/lang/Throwable" "SUPPRESSED_SENTINEL" "Ljava/util/List;" A U H ∧ (∀ q ∈ xf_st, vk_R RX0 q.1 q.2 (sx q.1) U) ∧ (∀ q ∈ xf_ca, va_Nw (.castable q.1 q.2) U) ∧ (∀ y ∈ xf_de, va_Nw (.declares y) U) ∧ (∀ q ∈ xf_nc, va_Nc q.1 q.2 U)
abbrev prx (D : va_G) (ws : va_W) (ty : List (ClassId × FieldType)) (sz : Nat) (sx : Nat → Nat) (U : State) : Prop := pr D ws ty sz U ∧ xf sx (va_A ws sz) U U.heap
abbrev prx0 (sz : Nat) (sx : Nat → Nat) (U : State) : Prop := U.heap.size = sz ∧ xf sx (va_A ([] : va_W) sz) U U.heap
theorem xf_mv {sx : Nat → Nat} {A B : Nat → Prop} {s U : State} {H : Heap} {locs : List Loc} (h : xf sx A s s.heap) (hS : va_S A s.heap H locs) (hF : ∀ q, B q → A q) (hU : U.heap = H) (hW : s.WarmedH U.vm) : xf sx B U U.heap := by
  obtain ⟨h1, h2, h3, h4, h5, h6⟩ := h
  refine ⟨?_, ?_, fun q hq => vk_R.warm hW (h3 q hq), fun q hq => va_Nw.warmC hW (h4 q hq), fun y hy => va_Nw.warmD hW (h5 y hy), fun q hq => va_Nc.moved hW.alike (h6 q hq)⟩
  · rw [hU]; exact (vx_Zq.moved hW.alike (h1.kept hS.2.1)).narrow hF
  · rw [hU]; exact (vx_Zq.moved hW.alike (h2.kept hS.2.1)).narrow hF
theorem xf_cl {sx : Nat → Nat} {A : Nat → Prop} {U : State} {a : Array Value} {g : JFrame} {mk : MethodId} (h : xf sx A U U.heap) : xf sx A (U.calling g mk a) (U.calling g mk a).heap := by
  obtain ⟨h1, h2, h3, h4, h5, h6⟩ := h
  have hv : (U.calling g mk a).vm = U.vm := rfl
  refine ⟨vx_Zq.moved (u := U) (U := U.calling g mk a) (Vm.Alike.refl U.vm) h1, vx_Zq.moved (u := U) (U := U.calling g mk a) (Vm.Alike.refl U.vm) h2, fun q hq => vk_R.same hv (h3 q hq), fun q hq => va_Nw.same rfl hv.symm (h4 q hq), fun y hy => va_Nw.same rfl hv.symm (h5 y hy), fun q hq => va_Nc.moved (u := U) (U := U.calling g mk a) (Vm.Alike.refl U.vm) (h6 q hq)⟩
theorem pr_bl {av : List Value} {D : va_G} {ws : va_W} {ty : List (ClassId × FieldType)} {sz : Nat} : FrameBlind (va_Pc av (pr D ws ty sz)) := fun a U g mk q => by
  obtain ⟨q0, q1, qP, qK, qD⟩ := q
  exact ⟨q0, q1, qP, va_K.moved (u := U) (U := U.calling g mk a) (Vm.Alike.refl U.vm) qK, qD⟩
theorem prx_bl {av : List Value} {D : va_G} {ws : va_W} {ty : List (ClassId × FieldType)} {sz : Nat} {sx : Nat → Nat} : FrameBlind (va_Pc av (prx D ws ty sz sx)) := fun a U g mk q => by
  obtain ⟨q0, ⟨q1, qP, qK, qD⟩, qx⟩ := q
  exact ⟨q0, ⟨q1, qP, va_K.moved (u := U) (U := U.calling g mk a) (Vm.Alike.refl U.vm) qK, qD⟩, xf_cl qx⟩
theorem prx0_bl {av : List Value} {sz : Nat} {sx : Nat → Nat} : FrameBlind (va_Pc av (prx0 sz sx)) := fun a U g mk q => by
  obtain ⟨q0, q1, qx⟩ := q
  exact ⟨q0, q1, xf_cl qx⟩
theorem pr_ok {av : List Value} {D : va_G} {ws : va_W} {ty : List (ClassId × FieldType)} {s : State} {H : Heap} {A : Nat → Prop} (hK : va_K D vwCl ty s) (hP : va_P D vwCl ws H) (hD : va_D A ws) : ∀ U : State, U.heap = H → s.WarmedH U.vm → va_Pc av (pr D ws ty H.size) av.toArray U :=
  fun U hU hW => ⟨rfl, by rw [hU], by rw [hU]; exact hP, va_K.moved hW.alike hK, hD.weaken (fun _ _ _ _ => trivial)⟩
theorem prx_ok {av : List Value} {D : va_G} {ws : va_W} {ty : List (ClassId × FieldType)} {s : State} {H : Heap} {A : Nat → Prop} {sx : Nat → Nat} {locs : List Loc} (hK : va_K D vwCl ty s) (hP : va_P D vwCl ws H) (hD : va_D A ws) (hX : xf sx A s s.heap) (hS : va_S A s.heap H locs) (hF : ∀ q, va_A ws H.size q → A q) : ∀ U : State, U.heap = H → s.WarmedH U.vm → va_Pc av (prx D ws ty H.size sx) av.toArray U :=
  fun U hU hW => ⟨rfl, ⟨by rw [hU], by rw [hU]; exact hP, va_K.moved hW.alike hK, hD.weaken (fun _ _ _ _ => trivial)⟩, xf_mv hX hS hF hU hW⟩
theorem prx_ok0 {av : List Value} {s : State} {H : Heap} {A : Nat → Prop} {sx : Nat → Nat} {locs : List Loc} (hX : xf sx A s s.heap) (hS : va_S A s.heap H locs) (hF : ∀ q, va_A ([] : va_W) H.size q → A q) : ∀ U : State, U.heap = H → s.WarmedH U.vm → va_Pc av (prx0 H.size sx) av.toArray U :=
  fun U hU hW => ⟨rfl, by rw [hU], xf_mv hX hS hF hU hW⟩
theorem nA {q n : Nat} (h : q < n) : ¬ va_A ([] : va_W) n q := by
  intro h2
  rcases h2 with ⟨k, e, h3⟩ | h3
  · simp at h3
  · omega
section
variable {p : Program} {l : Launch} {e : Env} {R : Room} {s : State} {m : MethodId} {args : Array Value} {below : List Frame} {meth : Method} {c : Code} {cells slots : Nat} {Q : State → Prop} {g : JFrame}
theorem w_in (k : ∀ (H : Heap) (locs : List Loc), H = s.heap → locs = [] → W p l e R s m args below meth c H locs cells slots Q g) : W p l e R s m args below meth c s.heap [] cells slots Q g := k _ _ rfl rfl
end
-- ints in a range
theorem i_lt {x y : Int32} : x < y ↔ x.toInt < y.toInt := Int32.lt_iff_toInt_lt
theorem i_le {x y : Int32} : x ≤ y ↔ x.toInt ≤ y.toInt := Int32.le_iff_toInt_le
theorem i_0 : (0 : Int32).toInt = 0 := rfl
theorem nn_of {x : Int32} (h : ¬ x < 0) : 0 ≤ x.toInt := by rw [i_lt, i_0] at h; omega
theorem lt_of {x b : Int32} {n : Nat} (h : x < b) (hb : b.toInt < n) : x.toInt < n := by rw [i_lt] at h; omega
theorem lt_of2 {x b : Int32} {n : Nat} (h : ¬ b ≤ x) (hb : b.toInt < n) : x.toInt < n := by rw [i_le] at h; omega
theorem le_of {x b : Int32} {n : Int} (h : x < b) (hb : b.toInt ≤ n) : x.toInt ≤ n := by rw [i_lt] at h; omega
theorem le_ofle {x b : Int32} {n : Int} (h : x ≤ b) (hb : b.toInt ≤ n) : x.toInt ≤ n := by rw [i_le] at h; omega
theorem lt_ge {x b : Int32} (h : ¬ b ≤ x) : x < b := by rw [i_le] at h; rw [i_lt]; omega
theorem ix_lt {x b : Int32} {N : Nat} (h0 : ¬ x < 0) (h1 : x < b) (hb : b.toInt ≤ N) : vp_in x N := vp_in_iff.mpr ⟨nn_of h0, by rw [i_lt] at h1; omega⟩
theorem ix_le {x b : Int32} {N : Nat} (h0 : ¬ x < 0) (h1 : ¬ b ≤ x) (hb : b.toInt ≤ N) : vp_in x N := ix_lt h0 (lt_ge h1) hb
theorem ix_tr {x y b : Int32} {N : Nat} (h0 : ¬ x < 0) (h1 : ¬ y ≤ x) (h2 : y < b) (hb : b.toInt ≤ N := by decide) : vp_in x N := vp_in_iff.mpr ⟨nn_of h0, by rw [i_le] at h1; rw [i_lt] at h2; omega⟩
theorem i_p1 {x : Int32} (h : x.toInt < 2147483647) : (x + 1).toInt = x.toInt + 1 := by
  have h2 := x.minValue_le_toInt
  have h3 : (1 : Int32).toInt = 1 := rfl
  rw [Int32.toInt_add, h3]
  have h4 : Int32.minValue.toInt = -2147483648 := rfl
  rw [Int.bmod_def]; split <;> omega
theorem i_m1 {x : Int32} (h : -2147483648 < x.toInt) : (x - 1).toInt = x.toInt - 1 := by
  have h2 := Int32.toInt_lt x
  have h3 : (1 : Int32).toInt = 1 := rfl
  rw [Int32.toInt_sub, h3]
  rw [Int.bmod_def]; split <;> omega
theorem ix_m1 {x : Int32} (h1 : ¬ x < 1) (h2 : ¬ 8 < x) : vp_in (x - 1) 8 := by
  rw [i_lt] at h1 h2
  have e1 : (1 : Int32).toInt = 1 := rfl
  have e8 : (8 : Int32).toInt = 8 := rfl
  rw [vp_in_iff, i_m1 (by omega)]
  omega
theorem ix_m2 {x : Int32} (h1 : ¬ x < 1) (h2 : x ≤ 8) : vp_in (x - 1) 8 := by
  apply ix_m1 h1
  rw [i_lt]; rw [i_le] at h2; omega
-- counters: x up to b with n to spare
def cnt (b x : Int32) (n : Nat) : Prop := 0 ≤ x.toInt ∧ x.toInt ≤ b.toInt ∧ b.toInt < x.toInt + n
theorem cnt_z {b x : Int32} : ¬ cnt b x 0 := fun h => by obtain ⟨h1, h2, h3⟩ := h; omega
theorem cnt_s {b x : Int32} {n : Nat} (h : cnt b x (n + 1)) (c : ¬ b ≤ x) : cnt b (x + 1) n := by
  obtain ⟨h1, h2, h3⟩ := h
  rw [i_le] at c
  have hb := Int32.toInt_lt b
  have e : (x + 1).toInt = x.toInt + 1 := i_p1 (by omega)
  refine ⟨?_, ?_, ?_⟩ <;> rw [e] <;> omega
theorem cnt_in {b x : Int32} {n N : Nat} (h : cnt b x n) (c : ¬ b ≤ x) (hb : b.toInt ≤ N) : vp_in x N := by
  obtain ⟨h1, h2, h3⟩ := h
  rw [i_le] at c
  exact vp_in_iff.mpr ⟨h1, by omega⟩
theorem cnt_0 {b : Int32} {n : Nat} (h : 0 ≤ b.toInt) (h2 : b.toInt < n) : cnt b 0 n := ⟨Int.le_refl 0, h, by rw [i_0]; omega⟩
def cnl (b x : Int32) (n : Nat) : Prop := b.toInt ≤ 1000 ∧ 1 ≤ n ∧ b.toInt + 1 < x.toInt + n
theorem cnl_z {b x : Int32} : ¬ cnl b x 0 := fun h => by obtain ⟨h1, h2, h3⟩ := h; omega
theorem cnl_s {b x : Int32} {n : Nat} (h : cnl b x (n + 1)) (c : ¬ b < x) : cnl b (x + 1) n := by
  obtain ⟨h1, h2, h3⟩ := h
  rw [i_lt] at c
  have e : (x + 1).toInt = x.toInt + 1 := i_p1 (by omega)
  refine ⟨h1, ?_, ?_⟩
  · omega
  · rw [e]; omega
theorem ge1 {x : Int32} (h : ¬ x < 1) : 1 ≤ x.toInt := by
  rw [i_lt] at h
  have e : (1 : Int32).toInt = 1 := rfl
  omega
theorem ix_k {x : Int32} {n : Nat} (h : 0 ≤ x.toInt ∧ x.toInt < n) : vp_in x n := vp_in_iff.mpr h
theorem hin_xIA_117 : ∀ w ∈ (vx_atS RX0 117 "java/lang/IllegalArgumentException" ["java/lang/RuntimeException", "java/lang/Exception"]).filter goodWord, w ∈ gw := by decide +kernel
theorem hat_xIA_117 {args : Array Value} {s : State} {sx : Nat → Nat} {A : Nat → Prop} {H : Heap} (hg : ∀ w ∈ gw, w.before args s = true) (hX9 : xf sx A s H) : ∀ w ∈ vx_atS RX0 117 "java/lang/IllegalArgumentException" ["java/lang/RuntimeException", "java/lang/Exception"], w.before args s = true :=
  vx_hat (L := vx_atS RX0 117 "java/lang/IllegalArgumentException" ["java/lang/RuntimeException", "java/lang/Exception"]) (B := [.castable "java/lang/IllegalArgumentException" "java/lang/IllegalArgumentException", .declares ⟨"java/lang/RuntimeException", "<init>", "(Ljava/lang/String;)V"⟩, .declares ⟨"java/lang/Exception", "<init>", "(Ljava/lang/String;)V"⟩, .declares ⟨"java/lang/Throwable", "<init>", "(Ljava/lang/String;)V"⟩]) (fun w hw => hg w (hin_xIA_117 w hw)) (by decide +kernel) (vx_c (va_Nw.use rfl (hX9.2.2.2.1 ("java/lang/IllegalArgumentException", "java/lang/IllegalArgumentException") (by decide +kernel))) (vx_c (va_Nw.use rfl (hX9.2.2.2.2.1 ⟨"java/lang/RuntimeException", "<init>", "(Ljava/lang/String;)V"⟩ (by decide +kernel))) (vx_c (va_Nw.use rfl (hX9.2.2.2.2.1 ⟨"java/lang/Exception", "<init>", "(Ljava/lang/String;)V"⟩ (by decide +kernel))) (vx_c (va_Nw.use rfl (hX9.2.2.2.2.1 ⟨"java/lang/Throwable", "<init>", "(Ljava/lang/String;)V"⟩ (by decide +kernel))) (vx_n)))))
theorem hin_xIS_105 : ∀ w ∈ (vx_atS RX0 105 "java/lang/IllegalStateException" ["java/lang/RuntimeException", "java/lang/Exception"]).filter goodWord, w ∈ gw := by decide +kernel
theorem hat_xIS_105 {args : Array Value} {s : State} {sx : Nat → Nat} {A : Nat → Prop} {H : Heap} (hg : ∀ w ∈ gw, w.before args s = true) (hX9 : xf sx A s H) : ∀ w ∈ vx_atS RX0 105 "java/lang/IllegalStateException" ["java/lang/RuntimeException", "java/lang/Exception"], w.before args s = true :=
  vx_hat (L := vx_atS RX0 105 "java/lang/IllegalStateException" ["java/lang/RuntimeException", "java/lang/Exception"]) (B := [.castable "java/lang/IllegalStateException" "java/lang/IllegalStateException", .declares ⟨"java/lang/RuntimeException", "<init>", "(Ljava/lang/String;)V"⟩, .declares ⟨"java/lang/Exception", "<init>", "(Ljava/lang/String;)V"⟩, .declares ⟨"java/lang/Throwable", "<init>", "(Ljava/lang/String;)V"⟩]) (fun w hw => hg w (hin_xIS_105 w hw)) (by decide +kernel) (vx_c (va_Nw.use rfl (hX9.2.2.2.1 ("java/lang/IllegalStateException", "java/lang/IllegalStateException") (by decide +kernel))) (vx_c (va_Nw.use rfl (hX9.2.2.2.2.1 ⟨"java/lang/RuntimeException", "<init>", "(Ljava/lang/String;)V"⟩ (by decide +kernel))) (vx_c (va_Nw.use rfl (hX9.2.2.2.2.1 ⟨"java/lang/Exception", "<init>", "(Ljava/lang/String;)V"⟩ (by decide +kernel))) (vx_c (va_Nw.use rfl (hX9.2.2.2.2.1 ⟨"java/lang/Throwable", "<init>", "(Ljava/lang/String;)V"⟩ (by decide +kernel))) (vx_n)))))
theorem hin_xIO_93 : ∀ w ∈ (vx_atS RX0 93 "java/lang/IndexOutOfBoundsException" ["java/lang/RuntimeException", "java/lang/Exception"]).filter goodWord, w ∈ gw := by decide +kernel
theorem hat_xIO_93 {args : Array Value} {s : State} {sx : Nat → Nat} {A : Nat → Prop} {H : Heap} (hg : ∀ w ∈ gw, w.before args s = true) (hX9 : xf sx A s H) : ∀ w ∈ vx_atS RX0 93 "java/lang/IndexOutOfBoundsException" ["java/lang/RuntimeException", "java/lang/Exception"], w.before args s = true :=
  vx_hat (L := vx_atS RX0 93 "java/lang/IndexOutOfBoundsException" ["java/lang/RuntimeException", "java/lang/Exception"]) (B := [.castable "java/lang/IndexOutOfBoundsException" "java/lang/IndexOutOfBoundsException", .declares ⟨"java/lang/RuntimeException", "<init>", "(Ljava/lang/String;)V"⟩, .declares ⟨"java/lang/Exception", "<init>", "(Ljava/lang/String;)V"⟩, .declares ⟨"java/lang/Throwable", "<init>", "(Ljava/lang/String;)V"⟩]) (fun w hw => hg w (hin_xIO_93 w hw)) (by decide +kernel) (vx_c (va_Nw.use rfl (hX9.2.2.2.1 ("java/lang/IndexOutOfBoundsException", "java/lang/IndexOutOfBoundsException") (by decide +kernel))) (vx_c (va_Nw.use rfl (hX9.2.2.2.2.1 ⟨"java/lang/RuntimeException", "<init>", "(Ljava/lang/String;)V"⟩ (by decide +kernel))) (vx_c (va_Nw.use rfl (hX9.2.2.2.2.1 ⟨"java/lang/Exception", "<init>", "(Ljava/lang/String;)V"⟩ (by decide +kernel))) (vx_c (va_Nw.use rfl (hX9.2.2.2.2.1 ⟨"java/lang/Throwable", "<init>", "(Ljava/lang/String;)V"⟩ (by decide +kernel))) (vx_n)))))
abbrev ws_sl (a : Nat → Nat) (k : Nat → ClassId) (rd wr : Nat → Int64) (ay ia mo wo so oi si mi wi : Nat → Int32) (ns nt nf np sl hs : Int32) : va_W := [(a 0, .inr (0, [.ref (a 1), .ref (a 2), .ref (a 3), .ref (a 4), .ref (a 5), .ref (a 6), .ref (a 7), .ref (a 8), .ref (a 9), .ref (a 10), .ref (a 11), .int ns, .int nt, .int nf, .int np, .int sl, .int hs])), (a 1, .inl (k 1, 48, .inr (.inl rd))), (a 2, .inl (k 2, 48, .inr (.inl wr))), (a 3, .inl (k 3, 48, .inl ay)), (a 4, .inl (k 4, 48, .inl ia)), (a 5, .inl (k 5, 48, .inl mo)), (a 6, .inl (k 6, 48, .inl wo)), (a 7, .inl (k 7, 48, .inl so)), (a 8, .inl (k 8, 8, .inl oi)), (a 9, .inl (k 9, 12, .inl si)), (a 10, .inl (k 10, 12, .inl mi)), (a 11, .inl (k 11, 12, .inl wi))]
abbrev ty_sl (k : Nat → ClassId) : List (ClassId × FieldType) := [(k 1, .long), (k 2, .long), (k 3, .int), (k 4, .int), (k 5, .int), (k 6, .int), (k 7, .int), (k 8, .int), (k 9, .int), (k 10, .int), (k 11, .int)]
end
section
def ib_count (p1 : Int32) : Int32 :=
  (((((((p1 - ((iu p1 1) &&& 1431655765)) &&& 858993459) + ((iu (p1 - ((iu p1 1) &&& 1431655765)) 2) &&& 858993459)) + (iu (((p1 - ((iu p1 1) &&& 1431655765)) &&& 858993459) + ((iu (p1 - ((iu p1 1) &&& 1431655765)) 2) &&& 858993459)) 4)) &&& 252645135) + (iu (((((p1 - ((iu p1 1) &&& 1431655765)) &&& 858993459) + ((iu (p1 - ((iu p1 1) &&& 1431655765)) 2) &&& 858993459)) + (iu (((p1 - ((iu p1 1) &&& 1431655765)) &&& 858993459) + ((iu (p1 - ((iu p1 1) &&& 1431655765)) 2) &&& 858993459)) 4)) &&& 252645135) 8)) + (iu ((((((p1 - ((iu p1 1) &&& 1431655765)) &&& 858993459) + ((iu (p1 - ((iu p1 1) &&& 1431655765)) 2) &&& 858993459)) + (iu (((p1 - ((iu p1 1) &&& 1431655765)) &&& 858993459) + ((iu (p1 - ((iu p1 1) &&& 1431655765)) 2) &&& 858993459)) 4)) &&& 252645135) + (iu (((((p1 - ((iu p1 1) &&& 1431655765)) &&& 858993459) + ((iu (p1 - ((iu p1 1) &&& 1431655765)) 2) &&& 858993459)) + (iu (((p1 - ((iu p1 1) &&& 1431655765)) &&& 858993459) + ((iu (p1 - ((iu p1 1) &&& 1431655765)) 2) &&& 858993459)) 4)) &&& 252645135) 8)) 16)) &&& 63
def sl_requirePlace (p1 : Int32) : (Unit) ⊕ String :=
  if p1 < 0 then
    .inr xIO
  else
    if p1 < 28 then
      .inl ()
    else
      .inr xIO
def sl_requireArray (p1 : Int32) : (Unit) ⊕ String :=
  if p1 < 0 then
    .inr xIO
  else
    if p1 < 8 then
      .inl ()
    else
      .inr xIO
def sl_requireReadable (p1 : Int32) : (Unit) ⊕ String :=
  if (iu p1 28) = 0 then
    .inl ()
  else
    .inr xIO
def sl_validitiesOf (p1 : Int32) : Int64 :=
  jl ((iu p1 16).toInt64) 28
def sl_reading (p1 : Int32) : Int64 :=
  p1.toInt64 ||| (sl_validitiesOf p1)
def sl_readingAndWriting (p1 p2 : Int32) : Int64 :=
  (sl_reading p1) ||| (sl_validitiesOf (1 <<< (p2 &&& 31)))
def sl_costOf (p1 : Int32) : Int32 :=
  if 1 < (ib_count p1) then (ib_count p1) else 1
def sl_need (mo wo : Nat → Int32) (p1 p2 p3 : Int32) : (Nat → Int32) × (Nat → Int32) :=
  if p1 < 0 then
    (mo, wo)
  else
    if 48 ≤ p1 then
      (mo, wo)
    else
      (upd mo p1.toNatClampNeg p2, upd wo p1.toNatClampNeg p3)
def sl_innermostIf (oi : Nat → Int32) (nf : Int32) : Int32 :=
  if nf < 1 then
    (-1)
  else
    if 8 < nf then
      (-1)
    else
      oi (nf - 1).toNatClampNeg
def sl_forgetStages  : Int32 × Int32 :=
  (0, (-1))
def sl_addStep (rd wr : Nat → Int64) (ay ia mo wo oi : Nat → Int32) (ns nf np : Int32) (p1 p2 : Int64) (p3 p4 : Int32) : (Int32 × (Nat → Int64) × (Nat → Int64) × (Nat → Int32) × (Nat → Int32) × (Nat → Int32) × (Nat → Int32) × Int32 × Int32 × Int32 × Int32) ⊕ String :=
  if ns < 0 then
    .inr xIS
  else
    if ns < 48 then
      if (np + p4) ≤ 800 then
        match sl_need mo wo ns 0 0 with
        | (mo_96, wo_96) =>
          match sl_forgetStages with
          | (sl_121, hs_121) =>
            .inl (ns, vp_updL rd ns.toNatClampNeg p1, vp_updL wr ns.toNatClampNeg p2, upd ay ns.toNatClampNeg p3, upd ia ns.toNatClampNeg (sl_innermostIf oi nf), mo_96, wo_96, ns + 1, np + p4, sl_121, hs_121)
      else
        .inr xIS
    else
      .inr xIS
def sl_emptyStages_L2  : Nat → Int32 → (Nat → Int32) → (Nat → Int32) → (Nat → Int32) → ((Nat → Int32) × (Nat → Int32) × (Nat → Int32))
  | 0, _, _, _, _ => (default, default, default)
  | n + 1, x1, si, mi, wi =>
    if 12 ≤ x1 then
      (si, mi, wi)
    else
      sl_emptyStages_L2 n (x1 + 1) (upd si x1.toNatClampNeg 0) (upd mi x1.toNatClampNeg 0) (upd wi x1.toNatClampNeg 0)
theorem sl_emptyStages_L2_s  (n : Nat) (x1 : Int32) (si mi wi : Nat → Int32) : sl_emptyStages_L2 (n + 1) x1 si mi wi =
    if 12 ≤ x1 then
      (si, mi, wi)
    else
      sl_emptyStages_L2 n (x1 + 1) (upd si x1.toNatClampNeg 0) (upd mi x1.toNatClampNeg 0) (upd wi x1.toNatClampNeg 0) := rfl
def sl_emptyStages (si mi wi : Nat → Int32) : (Nat → Int32) × (Nat → Int32) × (Nat → Int32) :=
  match sl_emptyStages_L2 13 0 si mi wi with
  | (si_o2, mi_o2, wi_o2) =>
    (si_o2, mi_o2, wi_o2)
def sl_earliestStage_L63 (rd wr : Nat → Int64) (so : Nat → Int32) (p1 : Int32) (w4 t6 : Int64) : Nat → Int32 → Int32 → Int32
  | 0, _, _ => default
  | n + 1, x3, x8 =>
    if p1 ≤ x8 then
      x3
    else
      if (lg_cmp ((wr x8.toNatClampNeg) &&& t6) 0) = 0 then
        if (lg_cmp ((rd x8.toNatClampNeg) &&& w4) 0) = 0 then
          sl_earliestStage_L63 rd wr so p1 w4 t6 n x3 (x8 + 1)
        else
          sl_earliestStage_L63 rd wr so p1 w4 t6 n (if x3 < (so x8.toNatClampNeg) then (so x8.toNatClampNeg) else x3) (x8 + 1)
      else
        sl_earliestStage_L63 rd wr so p1 w4 t6 n (if x3 < ((so x8.toNatClampNeg) + 1) then ((so x8.toNatClampNeg) + 1) else x3) (x8 + 1)
theorem sl_earliestStage_L63_s (rd wr : Nat → Int64) (so : Nat → Int32) (p1 : Int32) (w4 t6 : Int64) (n : Nat) (x3 x8 : Int32) : sl_earliestStage_L63 rd wr so p1 w4 t6 (n + 1) x3 x8 =
    if p1 ≤ x8 then
      x3
    else
      if (lg_cmp ((wr x8.toNatClampNeg) &&& t6) 0) = 0 then
        if (lg_cmp ((rd x8.toNatClampNeg) &&& w4) 0) = 0 then
          sl_earliestStage_L63 rd wr so p1 w4 t6 n x3 (x8 + 1)
        else
          sl_earliestStage_L63 rd wr so p1 w4 t6 n (if x3 < (so x8.toNatClampNeg) then (so x8.toNatClampNeg) else x3) (x8 + 1)
      else
        sl_earliestStage_L63 rd wr so p1 w4 t6 n (if x3 < ((so x8.toNatClampNeg) + 1) then ((so x8.toNatClampNeg) + 1) else x3) (x8 + 1) := rfl
def sl_earliestStage (rd wr : Nat → Int64) (ia so : Nat → Int32) (p1 : Int32) : Int32 :=
  if p1 < 0 then
    0
  else
    if p1 < 48 then
      if (ia p1.toNatClampNeg) < 0 then
        match sl_earliestStage_L63 rd wr so p1 (wr p1.toNatClampNeg) ((rd p1.toNatClampNeg) ||| (wr p1.toNatClampNeg)) 49 0 0 with
        | x3_o63 =>
          x3_o63
      else
        if p1 ≤ (ia p1.toNatClampNeg) then
          match sl_earliestStage_L63 rd wr so p1 (wr p1.toNatClampNeg) ((rd p1.toNatClampNeg) ||| (wr p1.toNatClampNeg)) 49 0 0 with
          | x3_o63 =>
            x3_o63
        else
          match sl_earliestStage_L63 rd wr so p1 (wr p1.toNatClampNeg) ((rd p1.toNatClampNeg) ||| (wr p1.toNatClampNeg)) 49 ((so (ia p1.toNatClampNeg).toNatClampNeg) + 1) 0 with
          | x3_o63 =>
            x3_o63
    else
      0
def sl_stageOfSharedArray_L24 (ay so : Nat → Int32) (p1 : Int32) : Nat → Int32 → Unit ⊕ Int32
  | 0, _ => .inl ()
  | n + 1, x2 =>
    if p1 ≤ x2 then
      .inl ()
    else
      if (ay x2.toNatClampNeg) = (ay p1.toNatClampNeg) then
        .inr (so x2.toNatClampNeg)
      else
        sl_stageOfSharedArray_L24 ay so p1 n (x2 + 1)
theorem sl_stageOfSharedArray_L24_s (ay so : Nat → Int32) (p1 : Int32) (n : Nat) (x2 : Int32) : sl_stageOfSharedArray_L24 ay so p1 (n + 1) x2 =
    if p1 ≤ x2 then
      .inl ()
    else
      if (ay x2.toNatClampNeg) = (ay p1.toNatClampNeg) then
        .inr (so x2.toNatClampNeg)
      else
        sl_stageOfSharedArray_L24 ay so p1 n (x2 + 1) := rfl
def sl_stageOfSharedArray (ay so : Nat → Int32) (p1 : Int32) : Int32 :=
  if p1 < 0 then
    (-1)
  else
    if 48 ≤ p1 then
      (-1)
    else
      if (ay p1.toNatClampNeg) = (-1) then
        (-1)
      else
        match sl_stageOfSharedArray_L24 ay so p1 49 0 with
        | .inl () =>
          (-1)
        | .inr r0_o24 =>
          r0_o24
def sl_hasRoom (mo wo si mi wi : Nat → Int32) (p1 p2 p3 p4 : Int32) : Int32 :=
  if p1 < 0 then
    0
  else
    if 48 ≤ p1 then
      0
    else
      if p2 < 0 then
        0
      else
        if p2 < 12 then
          if 8 ≤ (si p2.toNatClampNeg) then
            0
          else
            if p3 < ((mi p2.toNatClampNeg) + (mo p1.toNatClampNeg)) then
              0
            else
              if p4 < ((wi p2.toNatClampNeg) + (wo p1.toNatClampNeg)) then
                0
              else
                1
        else
          0
def sl_findStage_L46 (mo wo si mi wi : Nat → Int32) (p1 p3 p4 x6 : Int32) : Nat → Int32 → Unit ⊕ Int32
  | 0, _ => .inl ()
  | n + 1, x8 =>
    if x6 < x8 then
      .inl ()
    else
      if (sl_hasRoom mo wo si mi wi p1 x8 p3 p4) = 0 then
        sl_findStage_L46 mo wo si mi wi p1 p3 p4 x6 n (x8 + 1)
      else
        .inr x8
theorem sl_findStage_L46_s (mo wo si mi wi : Nat → Int32) (p1 p3 p4 x6 : Int32) (n : Nat) (x8 : Int32) : sl_findStage_L46 mo wo si mi wi p1 p3 p4 x6 (n + 1) x8 =
    if x6 < x8 then
      .inl ()
    else
      if (sl_hasRoom mo wo si mi wi p1 x8 p3 p4) = 0 then
        sl_findStage_L46 mo wo si mi wi p1 p3 p4 x6 n (x8 + 1)
      else
        .inr x8 := rfl
def sl_findStage (rd wr : Nat → Int64) (ay ia mo wo so si mi wi : Nat → Int32) (p1 p2 p3 p4 : Int32) : Int32 :=
  if (sl_stageOfSharedArray ay so p1) = (-1) then
    match sl_findStage_L46 mo wo si mi wi p1 p3 p4 (p2 - 1) 14 (sl_earliestStage rd wr ia so p1) with
    | .inl () =>
      (-1)
    | .inr r0_o46 =>
      r0_o46
  else
    if (sl_earliestStage rd wr ia so p1) ≤ (sl_stageOfSharedArray ay so p1) then
      match sl_findStage_L46 mo wo si mi wi p1 p3 p4 (sl_stageOfSharedArray ay so p1) 14 (sl_stageOfSharedArray ay so p1) with
      | .inl () =>
        (-1)
      | .inr r0_o46 =>
        r0_o46
    else
      (-1)
def sl_settle (mo wo so si mi wi : Nat → Int32) (p1 p2 : Int32) : (Nat → Int32) × (Nat → Int32) × (Nat → Int32) × (Nat → Int32) :=
  if p1 < 0 then
    (so, si, mi, wi)
  else
    if 48 ≤ p1 then
      (so, si, mi, wi)
    else
      if p2 < 0 then
        (so, si, mi, wi)
      else
        if p2 < 12 then
          (upd so p1.toNatClampNeg p2, upd si p2.toNatClampNeg ((si p2.toNatClampNeg) + 1), upd mi p2.toNatClampNeg ((mi p2.toNatClampNeg) + (mo p1.toNatClampNeg)), upd wi p2.toNatClampNeg ((wi p2.toNatClampNeg) + (wo p1.toNatClampNeg)))
        else
          (so, si, mi, wi)
def sl_clear  : Int32 × Int32 × Int32 × Int32 × Int32 × Int32 :=
  match sl_forgetStages with
  | (sl_21, hs_21) =>
    (0, 0, 0, 0, sl_21, hs_21)
def sl_assign (rd wr : Nat → Int64) (ay ia mo wo oi : Nat → Int32) (ns nf np p1 p2 : Int32) : (Int32 × (Nat → Int64) × (Nat → Int64) × (Nat → Int32) × (Nat → Int32) × (Nat → Int32) × (Nat → Int32) × Int32 × Int32 × Int32 × Int32) ⊕ String :=
  match sl_requirePlace p1 with
  | .inl () =>
    match sl_requireReadable p2 with
    | .inl () =>
      match sl_addStep rd wr ay ia mo wo oi ns nf np (sl_readingAndWriting p2 p1) (jl 1 p1) (-1) (sl_costOf p2) with
      | .inl (r_22, rd_22, wr_22, ay_22, ia_22, mo_22, wo_22, ns_22, np_22, sl_22, hs_22) =>
        .inl (r_22, rd_22, wr_22, ay_22, ia_22, mo_22, wo_22, ns_22, np_22, sl_22, hs_22)
      | .inr E_22 =>
        .inr E_22
    | .inr E_5 =>
      .inr E_5
  | .inr E_1 =>
    .inr E_1
def sl_load (rd wr : Nat → Int64) (ay ia mo wo oi : Nat → Int32) (ns nf np p1 p2 p3 : Int32) : (Int32 × (Nat → Int64) × (Nat → Int64) × (Nat → Int32) × (Nat → Int32) × (Nat → Int32) × (Nat → Int32) × Int32 × Int32 × Int32 × Int32) ⊕ String :=
  match sl_requirePlace p1 with
  | .inl () =>
    match sl_requireArray p2 with
    | .inl () =>
      match sl_requireReadable p3 with
      | .inl () =>
        match sl_addStep rd wr ay ia mo wo oi ns nf np (sl_readingAndWriting p3 p1) (jl 1 p1) p2 (sl_costOf p3) with
        | .inl (r_26, rd_26, wr_26, ay_26, ia_26, mo_26, wo_26, ns_26, np_26, sl_26, hs_26) =>
          .inl (r_26, rd_26, wr_26, ay_26, ia_26, mo_26, wo_26, ns_26, np_26, sl_26, hs_26)
        | .inr E_26 =>
          .inr E_26
      | .inr E_9 =>
        .inr E_9
    | .inr E_5 =>
      .inr E_5
  | .inr E_1 =>
    .inr E_1
def sl_store (rd wr : Nat → Int64) (ay ia mo wo oi : Nat → Int32) (ns nf np p1 p2 p3 : Int32) : (Int32 × (Nat → Int64) × (Nat → Int64) × (Nat → Int32) × (Nat → Int32) × (Nat → Int32) × (Nat → Int32) × Int32 × Int32 × Int32 × Int32) ⊕ String :=
  match sl_requireArray p1 with
  | .inl () =>
    match sl_requireReadable p2 with
    | .inl () =>
      match sl_requireReadable p3 with
      | .inl () =>
        match sl_addStep rd wr ay ia mo wo oi ns nf np (sl_reading (p2 ||| p3)) 0 p1 ((sl_costOf p2) + (sl_costOf p3)) with
        | .inl (r_30, rd_30, wr_30, ay_30, ia_30, mo_30, wo_30, ns_30, np_30, sl_30, hs_30) =>
          .inl (r_30, rd_30, wr_30, ay_30, ia_30, mo_30, wo_30, ns_30, np_30, sl_30, hs_30)
        | .inr E_30 =>
          .inr E_30
      | .inr E_9 =>
        .inr E_9
    | .inr E_5 =>
      .inr E_5
  | .inr E_1 =>
    .inr E_1
def sl_valid (rd wr : Nat → Int64) (ay ia mo wo oi : Nat → Int32) (ns nf np p1 : Int32) : (Int32 × (Nat → Int64) × (Nat → Int64) × (Nat → Int32) × (Nat → Int32) × (Nat → Int32) × (Nat → Int32) × Int32 × Int32 × Int32 × Int32) ⊕ String :=
  if p1 < 0 then
    .inr xIO
  else
    if p1 < 12 then
      match sl_addStep rd wr ay ia mo wo oi ns nf np (sl_validitiesOf (1 <<< ((16 + p1) &&& 31))) (((1 <<< ((16 + p1) &&& 31)).toInt64) ||| (sl_validitiesOf (1 <<< ((16 + p1) &&& 31)))) (-1) 0 with
      | .inl (r_41, rd_41, wr_41, ay_41, ia_41, mo_41, wo_41, ns_41, np_41, sl_41, hs_41) =>
        .inl (r_41, rd_41, wr_41, ay_41, ia_41, mo_41, wo_41, ns_41, np_41, sl_41, hs_41)
      | .inr E_41 =>
        .inr E_41
    else
      .inr xIO
def sl_drop (rd wr : Nat → Int64) (ay ia mo wo oi : Nat → Int32) (ns nf np : Int32) : (Int32 × (Nat → Int64) × (Nat → Int64) × (Nat → Int32) × (Nat → Int32) × (Nat → Int32) × (Nat → Int32) × Int32 × Int32 × Int32 × Int32) ⊕ String :=
  match sl_addStep rd wr ay ia mo wo oi ns nf np 0 1099511627776 (-1) 0 with
  | .inl (r_7, rd_7, wr_7, ay_7, ia_7, mo_7, wo_7, ns_7, np_7, sl_7, hs_7) =>
    .inl (r_7, rd_7, wr_7, ay_7, ia_7, mo_7, wo_7, ns_7, np_7, sl_7, hs_7)
  | .inr E_7 =>
    .inr E_7
def sl_open (rd wr : Nat → Int64) (ay ia mo wo oi : Nat → Int32) (ns nf np p1 : Int32) : (Int32 × (Nat → Int64) × (Nat → Int64) × (Nat → Int32) × (Nat → Int32) × (Nat → Int32) × (Nat → Int32) × (Nat → Int32) × Int32 × Int32 × Int32 × Int32 × Int32) ⊕ String :=
  match sl_requireReadable p1 with
  | .inl () =>
    if nf < 0 then
      .inr xIS
    else
      if nf < 8 then
        match sl_addStep rd wr ay ia mo wo oi ns nf np (sl_reading p1) 0 (-1) (sl_costOf p1) with
        | .inl (r_41, rd_41, wr_41, ay_41, ia_41, mo_41, wo_41, ns_41, np_41, sl_41, hs_41) =>
          .inl (r_41, rd_41, wr_41, ay_41, ia_41, mo_41, wo_41, upd oi nf.toNatClampNeg r_41, ns_41, nf + 1, np_41, sl_41, hs_41)
        | .inr E_41 =>
          .inr E_41
      else
        .inr xIS
  | .inr E_1 =>
    .inr E_1
def sl_close (oi : Nat → Int32) (nf : Int32) : (Int32 × Int32) ⊕ String :=
  if nf < 1 then
    .inr xIS
  else
    if nf ≤ 8 then
      .inl (oi (nf - 1).toNatClampNeg, nf - 1)
    else
      .inr xIS
def sl_apply (rd wr : Nat → Int64) (ay ia mo wo oi : Nat → Int32) (ns nt nf np p1 p2 p3 : Int32) : (Int32 × (Nat → Int64) × (Nat → Int64) × (Nat → Int32) × (Nat → Int32) × (Nat → Int32) × (Nat → Int32) × Int32 × Int32 × Int32 × Int32 × Int32) ⊕ String :=
  match sl_requirePlace p3 with
  | .inl () =>
    match sl_requireReadable p1 with
    | .inl () =>
      if p2 < 1 then
        .inr xIA
      else
        if p2 ≤ 32 then
          if (ib_count p1) < 1 then
            .inr xIA
          else
            if (ib_count p1) ≤ 4 then
              if nt < 8 then
                match sl_addStep rd wr ay ia mo wo oi ns nf np (sl_readingAndWriting p1 p3) (jl 1 p3) (-1) ((sl_costOf p1) + (sl_costOf 0)) with
                | .inl (r_99, rd_99, wr_99, ay_99, ia_99, mo_99, wo_99, ns_99, np_99, sl_99, hs_99) =>
                  match sl_need mo_99 wo_99 r_99 (p2 * ((16 * (ib_count p1)) + 8)) (8 * (ib_count p1)) with
                  | (mo_122, wo_122) =>
                    .inl (r_99, rd_99, wr_99, ay_99, ia_99, mo_122, wo_122, ns_99, nt + 1, np_99, sl_99, hs_99)
                | .inr E_99 =>
                  .inr E_99
              else
                .inr xIS
            else
              .inr xIA
        else
          .inr xIA
    | .inr E_5 =>
      .inr E_5
  | .inr E_1 =>
    .inr E_1
def sl_lay_L53 (rd wr : Nat → Int64) (ay ia mo wo : Nat → Int32) (ns p1 p2 p3 : Int32) : Nat → Int32 → Int32 → (Nat → Int32) → (Nat → Int32) → (Nat → Int32) → (Nat → Int32) → Int32 → (Int32 × (Nat → Int32) × (Nat → Int32) × (Nat → Int32) × (Nat → Int32) × Int32) ⊕ (Int32 × (Nat → Int32) × (Nat → Int32) × (Nat → Int32) × (Nat → Int32) × Int32)
  | 0, _, _, _, _, _, _, _ => .inl (default, default, default, default, default, default)
  | n + 1, x4, x5, so, si, mi, wi, hs =>
    if ns ≤ x5 then
      .inl (x4, so, si, mi, wi, hs)
    else
      if (sl_findStage rd wr ay ia mo wo so si mi wi x5 p1 p2 p3) = (-1) then
        .inr ((-1), so, si, mi, wi, x5)
      else
        match sl_settle mo wo so si mi wi x5 (sl_findStage rd wr ay ia mo wo so si mi wi x5 p1 p2 p3) with
        | (so_92, si_92, mi_92, wi_92) =>
          sl_lay_L53 rd wr ay ia mo wo ns p1 p2 p3 n (if x4 < ((sl_findStage rd wr ay ia mo wo so si mi wi x5 p1 p2 p3) + 1) then ((sl_findStage rd wr ay ia mo wo so si mi wi x5 p1 p2 p3) + 1) else x4) (x5 + 1) so_92 si_92 mi_92 wi_92 hs
theorem sl_lay_L53_s (rd wr : Nat → Int64) (ay ia mo wo : Nat → Int32) (ns p1 p2 p3 : Int32) (n : Nat) (x4 x5 : Int32) (so si mi wi : Nat → Int32) (hs : Int32) : sl_lay_L53 rd wr ay ia mo wo ns p1 p2 p3 (n + 1) x4 x5 so si mi wi hs =
    if ns ≤ x5 then
      .inl (x4, so, si, mi, wi, hs)
    else
      if (sl_findStage rd wr ay ia mo wo so si mi wi x5 p1 p2 p3) = (-1) then
        .inr ((-1), so, si, mi, wi, x5)
      else
        match sl_settle mo wo so si mi wi x5 (sl_findStage rd wr ay ia mo wo so si mi wi x5 p1 p2 p3) with
        | (so_92, si_92, mi_92, wi_92) =>
          sl_lay_L53 rd wr ay ia mo wo ns p1 p2 p3 n (if x4 < ((sl_findStage rd wr ay ia mo wo so si mi wi x5 p1 p2 p3) + 1) then ((sl_findStage rd wr ay ia mo wo so si mi wi x5 p1 p2 p3) + 1) else x4) (x5 + 1) so_92 si_92 mi_92 wi_92 hs := rfl
def sl_lay (rd wr : Nat → Int64) (ay ia mo wo so si mi wi : Nat → Int32) (ns p1 p2 p3 : Int32) : (Int32 × (Nat → Int32) × (Nat → Int32) × (Nat → Int32) × (Nat → Int32) × Int32 × Int32) ⊕ String :=
  if p1 < 1 then
    .inr xIA
  else
    if p1 ≤ 12 then
      if p2 < 0 then
        .inr xIA
      else
        if 0 ≤ p3 then
          match sl_forgetStages with
          | (sl_40, hs_40) =>
            match sl_emptyStages si mi wi with
            | (si_44, mi_44, wi_44) =>
              match sl_lay_L53 rd wr ay ia mo wo ns p1 p2 p3 49 1 0 so si_44 mi_44 wi_44 hs_40 with
              | .inl (x4_o53, so_o53, si_o53, mi_o53, wi_o53, hs_o53) =>
                .inl (x4_o53, so_o53, si_o53, mi_o53, wi_o53, x4_o53, hs_o53)
              | .inr (r0_o53, so_o53, si_o53, mi_o53, wi_o53, hs_o53) =>
                .inl (r0_o53, so_o53, si_o53, mi_o53, wi_o53, sl_40, hs_o53)
        else
          .inr xIA
    else
      .inr xIA
def sl_homeless (hs : Int32) : Int32 :=
  hs
def sl_stage (so : Nat → Int32) (ns sl p1 : Int32) : Int32 :=
  if sl = 0 then
    (-1)
  else
    if p1 < 0 then
      (-1)
    else
      if ns ≤ p1 then
        (-1)
      else
        if p1 < 48 then
          so p1.toNatClampNeg
        else
          (-1)
def sl_used (si mi wi : Nat → Int32) (sl p1 p2 : Int32) : Int32 :=
  if p1 < 0 then
    (-1)
  else
    if sl ≤ p1 then
      (-1)
    else
      if p1 < 12 then
        if p2 = 0 then
          si p1.toNatClampNeg
        else
          if p2 = 1 then
            mi p1.toNatClampNeg
          else
            if p2 = 2 then
              wi p1.toNatClampNeg
            else
              (-1)
      else
        (-1)
def sl_count (ns nt nf p1 : Int32) : Int32 :=
  if p1 = 0 then
    ns
  else
    if p1 = 1 then
      nt
    else
      if p1 = 2 then
        nf
      else
        (-1)
/-! ranges of the class's own helpers: what its loops need to end -/
theorem cl_lt {x y : Int32} (h0 : 0 ≤ x.toInt) (h : x.toInt < y.toInt) : x.toNatClampNeg < y.toNatClampNeg := by
  show x.toInt.toNat < y.toInt.toNat
  omega
theorem mx_rng {x y : Int32} {b : Int} (hx : 0 ≤ x.toInt ∧ x.toInt ≤ b) (hy : 0 ≤ y.toInt ∧ y.toInt ≤ b) : 0 ≤ (if x < y then y else x).toInt ∧ (if x < y then y else x).toInt ≤ b := by
  split
  · exact hy
  · exact hx
def rg (so : Nat → Int32) (k : Nat) : Prop := ∀ j : Nat, j < k → 0 ≤ (so j).toInt ∧ (so j).toInt < 12
theorem es_L63 {rd wr : Nat → Int64} {so : Nat → Int32} {p1 : Int32} {w4 t6 : Int64} (hso : ∀ j : Nat, j < p1.toNatClampNeg → 0 ≤ (so j).toInt ∧ (so j).toInt < 12) : ∀ (n : Nat) (x3 x8 : Int32), cnt p1 x8 n → (0 ≤ x3.toInt ∧ x3.toInt ≤ 12) → 0 ≤ (sl_earliestStage_L63 rd wr so p1 w4 t6 n x3 x8).toInt ∧ (sl_earliestStage_L63 rd wr so p1 w4 t6 n x3 x8).toInt ≤ 12 := by
  intro n
  induction n with
  | zero => intro x3 x8 h; exact absurd h cnt_z
  | succ n ih =>
    intro x3 x8 h hx
    rw [sl_earliestStage_L63_s]
    by_cases c : p1 ≤ x8
    · rw [if_pos c]; exact hx
    · rw [if_neg c]
      have hs := cnt_s h c
      have hlt : x8.toNatClampNeg < p1.toNatClampNeg := cl_lt h.1 (by rw [i_le] at c; omega)
      have hj := hso _ hlt
      have e1 := i_p1 (x := so x8.toNatClampNeg) (by omega)
      by_cases c1 : lg_cmp ((wr x8.toNatClampNeg) &&& t6) 0 = 0
      · rw [if_pos c1]
        by_cases c2 : lg_cmp ((rd x8.toNatClampNeg) &&& w4) 0 = 0
        · rw [if_pos c2]; exact ih _ _ hs hx
        · rw [if_neg c2]; exact ih _ _ hs (mx_rng hx ⟨hj.1, by omega⟩)
      · rw [if_neg c1]; exact ih _ _ hs (mx_rng hx ⟨by omega, by omega⟩)
theorem es_rng {rd wr : Nat → Int64} {ia so : Nat → Int32} {p1 : Int32} (hso : ∀ j : Nat, j < p1.toNatClampNeg → 0 ≤ (so j).toInt ∧ (so j).toInt < 12) : 0 ≤ (sl_earliestStage rd wr ia so p1).toInt ∧ (sl_earliestStage rd wr ia so p1).toInt ≤ 12 := by
  unfold sl_earliestStage
  by_cases c1 : p1 < 0
  · rw [if_pos c1]; exact ⟨Int.le_refl 0, by decide⟩
  · rw [if_neg c1]
    by_cases c2 : p1 < 48
    · rw [if_pos c2]
      have h0 : cnt p1 0 49 := cnt_0 (nn_of c1) (lt_of c2 (by decide))
      by_cases c3 : ia p1.toNatClampNeg < 0
      · rw [if_pos c3]; exact es_L63 hso _ _ _ h0 ⟨Int.le_refl 0, by decide⟩
      · rw [if_neg c3]
        by_cases c4 : p1 ≤ ia p1.toNatClampNeg
        · rw [if_pos c4]; exact es_L63 hso _ _ _ h0 ⟨Int.le_refl 0, by decide⟩
        · rw [if_neg c4]
          have hj := hso _ (cl_lt (x := ia p1.toNatClampNeg) (y := p1) (nn_of c3) (by rw [i_le] at c4; omega))
          have e1 := i_p1 (x := so (ia p1.toNatClampNeg).toNatClampNeg) (by omega)
          exact es_L63 hso _ _ _ h0 ⟨by omega, by omega⟩
    · rw [if_neg c2]; exact ⟨Int.le_refl 0, by decide⟩
theorem sa_L24 {ay so : Nat → Int32} {p1 : Int32} : ∀ (n : Nat) (x2 : Int32), cnt p1 x2 n → ∀ r : Int32, sl_stageOfSharedArray_L24 ay so p1 n x2 = .inr r → ∃ j : Nat, j < p1.toNatClampNeg ∧ r = so j := by
  intro n
  induction n with
  | zero => intro x2 h; exact absurd h cnt_z
  | succ n ih =>
    intro x2 h r hr
    rw [sl_stageOfSharedArray_L24_s] at hr
    by_cases c : p1 ≤ x2
    · rw [if_pos c] at hr; cases hr
    · rw [if_neg c] at hr
      by_cases c1 : ay x2.toNatClampNeg = ay p1.toNatClampNeg
      · rw [if_pos c1] at hr
        cases hr
        exact ⟨_, cl_lt h.1 (by rw [i_le] at c; omega), rfl⟩
      · rw [if_neg c1] at hr
        exact ih _ (cnt_s h c) r hr
theorem sa_rng {ay so : Nat → Int32} {p1 : Int32} : sl_stageOfSharedArray ay so p1 = (-1) ∨ ∃ j : Nat, j < p1.toNatClampNeg ∧ sl_stageOfSharedArray ay so p1 = so j := by
  unfold sl_stageOfSharedArray
  by_cases c1 : p1 < 0
  · rw [if_pos c1]; exact Or.inl rfl
  · rw [if_neg c1]
    by_cases c2 : 48 ≤ p1
    · rw [if_pos c2]; exact Or.inl rfl
    · rw [if_neg c2]
      by_cases c3 : ay p1.toNatClampNeg = (-1)
      · rw [if_pos c3]; exact Or.inl rfl
      · rw [if_neg c3]
        have h0 : cnt p1 0 49 := cnt_0 (nn_of c1) (lt_of2 c2 (by decide))
        cases hr : sl_stageOfSharedArray_L24 ay so p1 49 0 with
        | inl u => exact Or.inl rfl
        | inr r => exact Or.inr (sa_L24 _ _ h0 r hr)
theorem fs_in1 {rd wr : Nat → Int64} {ia so : Nat → Int32} {p1 p2 : Int32} (hso : ∀ j : Nat, j < p1.toNatClampNeg → 0 ≤ (so j).toInt ∧ (so j).toInt < 12) (h2 : 1 ≤ p2.toInt ∧ p2.toInt ≤ 12) : cnl (p2 - 1) (sl_earliestStage rd wr ia so p1) 14 := by
  have h := es_rng (rd := rd) (wr := wr) (ia := ia) hso
  have e := i_m1 (x := p2) (by omega)
  exact ⟨by omega, by decide, by omega⟩
theorem fs_in2 {ay so : Nat → Int32} {p1 : Int32} (hso : ∀ j : Nat, j < p1.toNatClampNeg → 0 ≤ (so j).toInt ∧ (so j).toInt < 12) (c : ¬ sl_stageOfSharedArray ay so p1 = (-1)) : cnl (sl_stageOfSharedArray ay so p1) (sl_stageOfSharedArray ay so p1) 14 := by
  rcases sa_rng (ay := ay) (so := so) (p1 := p1) with h | ⟨j, hj, h⟩
  · exact absurd h c
  · have h3 := hso j hj
    rw [h]
    exact ⟨by omega, by decide, by omega⟩
theorem hr_rng {mo wo si mi wi : Nat → Int32} {p1 p2 p3 p4 : Int32} (c : ¬ sl_hasRoom mo wo si mi wi p1 p2 p3 p4 = 0) : ¬ p1 < 0 ∧ p1 < 48 ∧ ¬ p2 < 0 ∧ p2 < 12 := by
  unfold sl_hasRoom at c
  by_cases c1 : p1 < 0
  · rw [if_pos c1] at c; exact absurd rfl c
  · rw [if_neg c1] at c
    by_cases c2 : 48 ≤ p1
    · rw [if_pos c2] at c; exact absurd rfl c
    · rw [if_neg c2] at c
      by_cases c3 : p2 < 0
      · rw [if_pos c3] at c; exact absurd rfl c
      · rw [if_neg c3] at c
        by_cases c4 : p2 < 12
        · exact ⟨c1, lt_ge c2, c3, c4⟩
        · rw [if_neg c4] at c; exact absurd rfl c
theorem fs_L46 {mo wo si mi wi : Nat → Int32} {p1 p3 p4 x6 : Int32} : ∀ (n : Nat) (x8 r : Int32), sl_findStage_L46 mo wo si mi wi p1 p3 p4 x6 n x8 = .inr r → ¬ sl_hasRoom mo wo si mi wi p1 r p3 p4 = 0 := by
  intro n
  induction n with
  | zero => intro x8 r h; cases h
  | succ n ih =>
    intro x8 r h
    rw [sl_findStage_L46_s] at h
    by_cases c : x6 < x8
    · rw [if_pos c] at h; cases h
    · rw [if_neg c] at h
      by_cases c1 : sl_hasRoom mo wo si mi wi p1 x8 p3 p4 = 0
      · rw [if_pos c1] at h; exact ih _ _ h
      · rw [if_neg c1] at h; cases h; exact c1
theorem fs_room {rd wr : Nat → Int64} {ay ia mo wo so si mi wi : Nat → Int32} {p1 p2 p3 p4 : Int32} (c : ¬ sl_findStage rd wr ay ia mo wo so si mi wi p1 p2 p3 p4 = (-1)) : ¬ sl_hasRoom mo wo si mi wi p1 (sl_findStage rd wr ay ia mo wo so si mi wi p1 p2 p3 p4) p3 p4 = 0 := by
  revert c
  unfold sl_findStage
  by_cases c1 : sl_stageOfSharedArray ay so p1 = (-1)
  · rw [if_pos c1]
    cases h : sl_findStage_L46 mo wo si mi wi p1 p3 p4 (p2 - 1) 14 (sl_earliestStage rd wr ia so p1) with
    | inl u => intro c; exact absurd rfl c
    | inr r => intro _; exact fs_L46 _ _ _ h
  · rw [if_neg c1]
    by_cases c2 : sl_earliestStage rd wr ia so p1 ≤ sl_stageOfSharedArray ay so p1
    · rw [if_pos c2]
      cases h : sl_findStage_L46 mo wo si mi wi p1 p3 p4 (sl_stageOfSharedArray ay so p1) 14 (sl_stageOfSharedArray ay so p1) with
      | inl u => intro c; exact absurd rfl c
      | inr r => intro _; exact fs_L46 _ _ _ h
    · rw [if_neg c2]; intro c; exact absurd rfl c
theorem st_in {mo wo so si mi wi : Nat → Int32} {p1 p2 : Int32} (h1 : ¬ p1 < 0) (h2 : p1 < 48) (h3 : ¬ p2 < 0) (h4 : p2 < 12) : sl_settle mo wo so si mi wi p1 p2 = (upd so p1.toNatClampNeg p2, upd si p2.toNatClampNeg (si p2.toNatClampNeg + 1), upd mi p2.toNatClampNeg (mi p2.toNatClampNeg + mo p1.toNatClampNeg), upd wi p2.toNatClampNeg (wi p2.toNatClampNeg + wo p1.toNatClampNeg)) := by
  have h2' : ¬ (48 : Int32) ≤ p1 := by rw [i_le]; rw [i_lt] at h2; omega
  unfold sl_settle
  rw [if_neg h1, if_neg h2', if_neg h3, if_pos h4]
theorem lay_step {rd wr : Nat → Int64} {ay ia mo wo so si mi wi so' si' mi' wi' : Nat → Int32} {ns x5 p1 p2 p3 : Int32} {n : Nat} (hinv : cnt ns x5 (n + 1) ∧ ∀ j : Nat, j < x5.toNatClampNeg → 0 ≤ (so j).toInt ∧ (so j).toInt < 12) (c : ¬ ns ≤ x5) (c2 : ¬ sl_findStage rd wr ay ia mo wo so si mi wi x5 p1 p2 p3 = (-1))
    (hw : sl_settle mo wo so si mi wi x5 (sl_findStage rd wr ay ia mo wo so si mi wi x5 p1 p2 p3) = (so', si', mi', wi')) : cnt ns (x5 + 1) n ∧ ∀ j : Nat, j < (x5 + 1).toNatClampNeg → 0 ≤ (so' j).toInt ∧ (so' j).toInt < 12 := by
  obtain ⟨h1, h2, h3, h4⟩ := hr_rng (fs_room c2)
  rw [st_in h1 h2 h3 h4] at hw
  refine ⟨cnt_s hinv.1 c, fun j hj => ?_⟩
  have e : so' = upd so x5.toNatClampNeg (sl_findStage rd wr ay ia mo wo so si mi wi x5 p1 p2 p3) := (Prod.mk.inj hw).1.symm
  rw [e]
  by_cases q : j = x5.toNatClampNeg
  · rw [q, pk_us]
    have h5 := nn_of h3
    rw [i_lt] at h4
    exact ⟨h5, h4⟩
  · rw [pk_un q]
    refine hinv.2 j ?_
    have hb := Int32.toInt_lt ns
    have e1 : (x5 + 1).toInt = x5.toInt + 1 := i_p1 (by rw [i_le] at c; omega)
    have h0 := hinv.1.1
    have hj' : j < (x5 + 1).toInt.toNat := hj
    have hq' : j ≠ x5.toInt.toNat := q
    show j < x5.toInt.toNat
    omega
end
section
set_option maxHeartbeats 4000000 in
set_option maxRecDepth 100000 in
theorem ci_count (l : Launch) (dC : Nat → ClassId) (dI : Nat → Nat → Nat)   (p1 : Int32) : Met l yJ6_bitCount wsJ6_bitCount ({ frames := 0, cells := 0, slots := 0, locals := 0 } : Room) (va_Pc [.int p1] (fun _ => True)) (va_Qi (fun (r : Int32) (_ : Unit) => r = ib_count p1) (fun (_ : Unit) t => True) ((fun _ => False))) 0 0 ((fun _ => False)) := by
  refine Met.ofW (cc := cJ6_bitCount) (maxL := 1) (ret := (some .int)) (by decide) rfl ?_
  intro p e s m args below meth c s₁ B hml hv
  obtain ⟨rfl, -⟩ := hv
  have hx := B.exec
  have hb := B.bytes
  have hr := B.returns
  have hts := atoms_spec (ws := wsJ6_bitCount) B.pre
  have hg : ∀ w ∈ gw, w.before _ s = true := fun w h => hts w (List.mem_cons_of_mem _ h)
  have hown : s.vm.findClass RJ6 = some m.cls := findClass_of_methodNamed B.named
  have hlocks := B.notSynchronized
  refine w_in (fun H locs eH eL => ?_)
  have hS : va_S (fun _ => False) s.heap H locs := by rw [eH, eL]; exact va_S.rf
  have hP : va_P (dC, dI) vwCl [] H := fun k q h => by simp at h
  clear eH eL
  have hl := lv_entry ([.int p1]) (n := 1) (Nat.le_of_ble_eq_true rfl)
  rw [lg_entry_eq]
  generalize (lg_sl ([.int p1]) ++ List.replicate (1 - (lg_sl ([.int p1])).length) Slot.unset).toArray = ls at hl ⊢
  have hl : lv_has ls 1 [(0, .int p1)] := hl
  refine lv_iload_n hx hb dJ6_bitCount_0 rfl (lv_at hl 0 rfl) ?_
  refine lv_iload_n hx hb dJ6_bitCount_1 rfl (lv_at hl 0 rfl) ?_
  refine lv_iconst (v := 1) hx hb dJ6_bitCount_2 (by decide) ?_
  refine lv_iushr (v := iu p1 1) hx hb dJ6_bitCount_3 rfl ?_
  refine lv_ldcw (v := 1431655765) hx hb hown (hg _ w_196) dJ6_bitCount_4 ?_
  refine lv_iand hx hb dJ6_bitCount_7 ?_
  refine lv_isub hx hb dJ6_bitCount_8 ?_
  refine lv_istore_n (lv' := [(0, .int (p1 - ((iu p1 1) &&& 1431655765)))]) hx hb dJ6_bitCount_9 rfl hl (by decide) rfl (fun ls hl => ?_)
  refine lv_iload_n hx hb dJ6_bitCount_10 rfl (lv_at hl 0 rfl) ?_
  refine lv_ldcw (v := 858993459) hx hb hown (hg _ w_197) dJ6_bitCount_11 ?_
  refine lv_iand hx hb dJ6_bitCount_14 ?_
  refine lv_iload_n hx hb dJ6_bitCount_15 rfl (lv_at hl 0 rfl) ?_
  refine lv_iconst (v := 2) hx hb dJ6_bitCount_16 (by decide) ?_
  refine lv_iushr (v := iu (p1 - ((iu p1 1) &&& 1431655765)) 2) hx hb dJ6_bitCount_17 rfl ?_
  refine lv_ldcw (v := 858993459) hx hb hown (hg _ w_197) dJ6_bitCount_18 ?_
  refine lv_iand hx hb dJ6_bitCount_21 ?_
  refine lv_iadd hx hb dJ6_bitCount_22 ?_
  refine lv_istore_n (lv' := [(0, .int (((p1 - ((iu p1 1) &&& 1431655765)) &&& 858993459) + ((iu (p1 - ((iu p1 1) &&& 1431655765)) 2) &&& 858993459)))]) hx hb dJ6_bitCount_23 rfl hl (by decide) rfl (fun ls hl => ?_)
  refine lv_iload_n hx hb dJ6_bitCount_24 rfl (lv_at hl 0 rfl) ?_
  refine lv_iload_n hx hb dJ6_bitCount_25 rfl (lv_at hl 0 rfl) ?_
  refine lv_iconst (v := 4) hx hb dJ6_bitCount_26 (by decide) ?_
  refine lv_iushr (v := iu (((p1 - ((iu p1 1) &&& 1431655765)) &&& 858993459) + ((iu (p1 - ((iu p1 1) &&& 1431655765)) 2) &&& 858993459)) 4) hx hb dJ6_bitCount_27 rfl ?_
  refine lv_iadd hx hb dJ6_bitCount_28 ?_
  refine lv_ldcw (v := 252645135) hx hb hown (hg _ w_198) dJ6_bitCount_29 ?_
  refine lv_iand hx hb dJ6_bitCount_32 ?_
  refine lv_istore_n (lv' := [(0, .int (((((p1 - ((iu p1 1) &&& 1431655765)) &&& 858993459) + ((iu (p1 - ((iu p1 1) &&& 1431655765)) 2) &&& 858993459)) + (iu (((p1 - ((iu p1 1) &&& 1431655765)) &&& 858993459) + ((iu (p1 - ((iu p1 1) &&& 1431655765)) 2) &&& 858993459)) 4)) &&& 252645135))]) hx hb dJ6_bitCount_33 rfl hl (by decide) rfl (fun ls hl => ?_)
  refine lv_iload_n hx hb dJ6_bitCount_34 rfl (lv_at hl 0 rfl) ?_
  refine lv_iload_n hx hb dJ6_bitCount_35 rfl (lv_at hl 0 rfl) ?_
  refine lv_bipush (v := 8) hx hb dJ6_bitCount_36 (by decide) ?_
  refine lv_iushr (v := iu (((((p1 - ((iu p1 1) &&& 1431655765)) &&& 858993459) + ((iu (p1 - ((iu p1 1) &&& 1431655765)) 2) &&& 858993459)) + (iu (((p1 - ((iu p1 1) &&& 1431655765)) &&& 858993459) + ((iu (p1 - ((iu p1 1) &&& 1431655765)) 2) &&& 858993459)) 4)) &&& 252645135) 8) hx hb dJ6_bitCount_38 rfl ?_
  refine lv_iadd hx hb dJ6_bitCount_39 ?_
  refine lv_istore_n (lv' := [(0, .int ((((((p1 - ((iu p1 1) &&& 1431655765)) &&& 858993459) + ((iu (p1 - ((iu p1 1) &&& 1431655765)) 2) &&& 858993459)) + (iu (((p1 - ((iu p1 1) &&& 1431655765)) &&& 858993459) + ((iu (p1 - ((iu p1 1) &&& 1431655765)) 2) &&& 858993459)) 4)) &&& 252645135) + (iu (((((p1 - ((iu p1 1) &&& 1431655765)) &&& 858993459) + ((iu (p1 - ((iu p1 1) &&& 1431655765)) 2) &&& 858993459)) + (iu (((p1 - ((iu p1 1) &&& 1431655765)) &&& 858993459) + ((iu (p1 - ((iu p1 1) &&& 1431655765)) 2) &&& 858993459)) 4)) &&& 252645135) 8)))]) hx hb dJ6_bitCount_40 rfl hl (by decide) rfl (fun ls hl => ?_)
  refine lv_iload_n hx hb dJ6_bitCount_41 rfl (lv_at hl 0 rfl) ?_
  refine lv_iload_n hx hb dJ6_bitCount_42 rfl (lv_at hl 0 rfl) ?_
  refine lv_bipush (v := 16) hx hb dJ6_bitCount_43 (by decide) ?_
  refine lv_iushr (v := iu ((((((p1 - ((iu p1 1) &&& 1431655765)) &&& 858993459) + ((iu (p1 - ((iu p1 1) &&& 1431655765)) 2) &&& 858993459)) + (iu (((p1 - ((iu p1 1) &&& 1431655765)) &&& 858993459) + ((iu (p1 - ((iu p1 1) &&& 1431655765)) 2) &&& 858993459)) 4)) &&& 252645135) + (iu (((((p1 - ((iu p1 1) &&& 1431655765)) &&& 858993459) + ((iu (p1 - ((iu p1 1) &&& 1431655765)) 2) &&& 858993459)) + (iu (((p1 - ((iu p1 1) &&& 1431655765)) &&& 858993459) + ((iu (p1 - ((iu p1 1) &&& 1431655765)) 2) &&& 858993459)) 4)) &&& 252645135) 8)) 16) hx hb dJ6_bitCount_45 rfl ?_
  refine lv_iadd hx hb dJ6_bitCount_46 ?_
  refine lv_istore_n (lv' := [(0, .int (((((((p1 - ((iu p1 1) &&& 1431655765)) &&& 858993459) + ((iu (p1 - ((iu p1 1) &&& 1431655765)) 2) &&& 858993459)) + (iu (((p1 - ((iu p1 1) &&& 1431655765)) &&& 858993459) + ((iu (p1 - ((iu p1 1) &&& 1431655765)) 2) &&& 858993459)) 4)) &&& 252645135) + (iu (((((p1 - ((iu p1 1) &&& 1431655765)) &&& 858993459) + ((iu (p1 - ((iu p1 1) &&& 1431655765)) 2) &&& 858993459)) + (iu (((p1 - ((iu p1 1) &&& 1431655765)) &&& 858993459) + ((iu (p1 - ((iu p1 1) &&& 1431655765)) 2) &&& 858993459)) 4)) &&& 252645135) 8)) + (iu ((((((p1 - ((iu p1 1) &&& 1431655765)) &&& 858993459) + ((iu (p1 - ((iu p1 1) &&& 1431655765)) 2) &&& 858993459)) + (iu (((p1 - ((iu p1 1) &&& 1431655765)) &&& 858993459) + ((iu (p1 - ((iu p1 1) &&& 1431655765)) 2) &&& 858993459)) 4)) &&& 252645135) + (iu (((((p1 - ((iu p1 1) &&& 1431655765)) &&& 858993459) + ((iu (p1 - ((iu p1 1) &&& 1431655765)) 2) &&& 858993459)) + (iu (((p1 - ((iu p1 1) &&& 1431655765)) &&& 858993459) + ((iu (p1 - ((iu p1 1) &&& 1431655765)) 2) &&& 858993459)) 4)) &&& 252645135) 8)) 16)))]) hx hb dJ6_bitCount_47 rfl hl (by decide) rfl (fun ls hl => ?_)
  refine lv_iload_n hx hb dJ6_bitCount_48 rfl (lv_at hl 0 rfl) ?_
  refine lv_bipush (v := 63) hx hb dJ6_bitCount_49 (by decide) ?_
  refine lv_iand hx hb dJ6_bitCount_51 ?_
  have hw : ((((((((p1 - ((iu p1 1) &&& 1431655765)) &&& 858993459) + ((iu (p1 - ((iu p1 1) &&& 1431655765)) 2) &&& 858993459)) + (iu (((p1 - ((iu p1 1) &&& 1431655765)) &&& 858993459) + ((iu (p1 - ((iu p1 1) &&& 1431655765)) 2) &&& 858993459)) 4)) &&& 252645135) + (iu (((((p1 - ((iu p1 1) &&& 1431655765)) &&& 858993459) + ((iu (p1 - ((iu p1 1) &&& 1431655765)) 2) &&& 858993459)) + (iu (((p1 - ((iu p1 1) &&& 1431655765)) &&& 858993459) + ((iu (p1 - ((iu p1 1) &&& 1431655765)) 2) &&& 858993459)) 4)) &&& 252645135) 8)) + (iu ((((((p1 - ((iu p1 1) &&& 1431655765)) &&& 858993459) + ((iu (p1 - ((iu p1 1) &&& 1431655765)) 2) &&& 858993459)) + (iu (((p1 - ((iu p1 1) &&& 1431655765)) &&& 858993459) + ((iu (p1 - ((iu p1 1) &&& 1431655765)) 2) &&& 858993459)) 4)) &&& 252645135) + (iu (((((p1 - ((iu p1 1) &&& 1431655765)) &&& 858993459) + ((iu (p1 - ((iu p1 1) &&& 1431655765)) 2) &&& 858993459)) + (iu (((p1 - ((iu p1 1) &&& 1431655765)) &&& 858993459) + ((iu (p1 - ((iu p1 1) &&& 1431655765)) 2) &&& 858993459)) 4)) &&& 252645135) 8)) 16)) &&& 63) = ib_count p1 := rfl
  exact W.iret (v := (((((((p1 - ((iu p1 1) &&& 1431655765)) &&& 858993459) + ((iu (p1 - ((iu p1 1) &&& 1431655765)) 2) &&& 858993459)) + (iu (((p1 - ((iu p1 1) &&& 1431655765)) &&& 858993459) + ((iu (p1 - ((iu p1 1) &&& 1431655765)) 2) &&& 858993459)) 4)) &&& 252645135) + (iu (((((p1 - ((iu p1 1) &&& 1431655765)) &&& 858993459) + ((iu (p1 - ((iu p1 1) &&& 1431655765)) 2) &&& 858993459)) + (iu (((p1 - ((iu p1 1) &&& 1431655765)) &&& 858993459) + ((iu (p1 - ((iu p1 1) &&& 1431655765)) 2) &&& 858993459)) 4)) &&& 252645135) 8)) + (iu ((((((p1 - ((iu p1 1) &&& 1431655765)) &&& 858993459) + ((iu (p1 - ((iu p1 1) &&& 1431655765)) 2) &&& 858993459)) + (iu (((p1 - ((iu p1 1) &&& 1431655765)) &&& 858993459) + ((iu (p1 - ((iu p1 1) &&& 1431655765)) 2) &&& 858993459)) 4)) &&& 252645135) + (iu (((((p1 - ((iu p1 1) &&& 1431655765)) &&& 858993459) + ((iu (p1 - ((iu p1 1) &&& 1431655765)) 2) &&& 858993459)) + (iu (((p1 - ((iu p1 1) &&& 1431655765)) &&& 858993459) + ((iu (p1 - ((iu p1 1) &&& 1431655765)) 2) &&& 858993459)) 4)) &&& 252645135) 8)) 16)) &&& 63) hx hb hr (fun t ht hW => ⟨⟨((((((((p1 - ((iu p1 1) &&& 1431655765)) &&& 858993459) + ((iu (p1 - ((iu p1 1) &&& 1431655765)) 2) &&& 858993459)) + (iu (((p1 - ((iu p1 1) &&& 1431655765)) &&& 858993459) + ((iu (p1 - ((iu p1 1) &&& 1431655765)) 2) &&& 858993459)) 4)) &&& 252645135) + (iu (((((p1 - ((iu p1 1) &&& 1431655765)) &&& 858993459) + ((iu (p1 - ((iu p1 1) &&& 1431655765)) 2) &&& 858993459)) + (iu (((p1 - ((iu p1 1) &&& 1431655765)) &&& 858993459) + ((iu (p1 - ((iu p1 1) &&& 1431655765)) 2) &&& 858993459)) 4)) &&& 252645135) 8)) + (iu ((((((p1 - ((iu p1 1) &&& 1431655765)) &&& 858993459) + ((iu (p1 - ((iu p1 1) &&& 1431655765)) 2) &&& 858993459)) + (iu (((p1 - ((iu p1 1) &&& 1431655765)) &&& 858993459) + ((iu (p1 - ((iu p1 1) &&& 1431655765)) 2) &&& 858993459)) 4)) &&& 252645135) + (iu (((((p1 - ((iu p1 1) &&& 1431655765)) &&& 858993459) + ((iu (p1 - ((iu p1 1) &&& 1431655765)) 2) &&& 858993459)) + (iu (((p1 - ((iu p1 1) &&& 1431655765)) &&& 858993459) + ((iu (p1 - ((iu p1 1) &&& 1431655765)) 2) &&& 858993459)) 4)) &&& 252645135) 8)) 16)) &&& 63), (), rfl, hw, trivial⟩, hS.F ht⟩) hS.2.2 dJ6_bitCount_52
set_option maxHeartbeats 4000000 in
set_option maxRecDepth 100000 in
theorem cs_init (l : Launch) (dC : Nat → ClassId) (dI : Nat → Nat → Nat) (h0 sz : Nat) : Met l yX0_init wsX0_init ({ frames := 1, cells := 11, slots := 380, locals := 12 } : Room) (va_Pc [.ref h0] (pr (dC, dI) [(h0, .inr (0, [.null, .null, .null, .null, .null, .null, .null, .null, .null, .null, .null, .int 0, .int 0, .int 0, .int 0, .int 0, .int 0]))] [] sz)) (va_Qv (fun (u : (Nat → Nat) × (Nat → ClassId)) => u.1 0 = h0) (fun (u : (Nat → Nat) × (Nat → ClassId)) t => po (dC, dI) (ws_sl u.1 u.2 (fun _ => 0) (fun _ => 0) (fun _ => 0) (fun _ => 0) (fun _ => 0) (fun _ => 0) (fun _ => 0) (fun _ => 0) (fun _ => 0) (fun _ => 0) (fun _ => 0) 0 0 0 0 0 (-1)) (ty_sl u.2) (va_A [(h0, .inr (0, [.null, .null, .null, .null, .null, .null, .null, .null, .null, .null, .null, .int 0, .int 0, .int 0, .int 0, .int 0, .int 0]))] sz) t) (va_A [(h0, .inr (0, [.null, .null, .null, .null, .null, .null, .null, .null, .null, .null, .null, .int 0, .int 0, .int 0, .int 0, .int 0, .int 0]))] sz)) 11 380 (va_A [(h0, .inr (0, [.null, .null, .null, .null, .null, .null, .null, .null, .null, .null, .null, .int 0, .int 0, .int 0, .int 0, .int 0, .int 0]))] sz) := by
  refine Met.ofW (cc := cX0_init) (maxL := 1) (ret := none) (by decide) rfl ?_
  intro p e s m args below meth c s₁ B hml hv
  obtain ⟨rfl, hsz, hP, hK, hD0⟩ := hv
  have hx := B.exec
  have hb := B.bytes
  have hr := B.returns
  have hts := atoms_spec (ws := wsX0_init) B.pre
  have hg : ∀ w ∈ gw, w.before _ s = true := fun w h => hts w (List.mem_cons_of_mem _ h)
  have hown : s.vm.findClass RX0 = some m.cls := findClass_of_methodNamed B.named
  have hlocks := B.notSynchronized
  have hin : meth.name = "<init>" := (name_of_methodNamed B.named B.method).1
  subst hsz
  have hD := hD0.self (sz := s.heap.size)
  generalize hAe : va_A [(h0, .inr (0, [.null, .null, .null, .null, .null, .null, .null, .null, .null, .null, .null, .int 0, .int 0, .int 0, .int 0, .int 0, .int 0]))] s.heap.size = A at hD ⊢
  have hA : ∀ q : Nat, s.heap.size ≤ q → A q := fun q h => by rw [← hAe]; exact Or.inr h
  clear hAe
  refine w_in (fun H locs eH eL => ?_)
  have hS : va_S A s.heap H locs := by rw [eH, eL]; exact va_S.rf
  have hP : va_P (dC, dI) vwCl [(h0, .inr (0, [.null, .null, .null, .null, .null, .null, .null, .null, .null, .null, .null, .int 0, .int 0, .int 0, .int 0, .int 0, .int 0]))] H := by rw [eH]; exact hP
  clear eH eL
  have hl := lv_entry ([.ref h0]) (n := 1) (Nat.le_of_ble_eq_true rfl)
  rw [lg_entry_eq]
  generalize (lg_sl ([.ref h0]) ++ List.replicate (1 - (lg_sl ([.ref h0])).length) Slot.unset).toArray = ls at hl ⊢
  have hl : lv_has ls 1 [(0, .ref h0)] := hl
  refine lv_aload_n hx hb dX0_init_0 rfl (lv_at hl 0 rfl) ?_
  refine W.objInit hx hb hown (hg _ w_16) (hg _ w_17) (hg _ w_18) rfl (by rw [hml]; exact hl.1) rfl dX0_init_1 (Nat.le_of_ble_eq_true rfl) (Nat.le_of_ble_eq_true rfl) ?_
  refine W.eq (g2 := F0 m 4 ls []) rfl ?_
  refine lv_aload_n hx hb dX0_init_4 rfl (lv_at hl 0 rfl) ?_
  refine lv_bipush (v := 48) hx hb dX0_init_5 (by decide) ?_
  refine va_newa (atype := .long) (N' := 48) (a0 := (48, .inr (.inl (fun _ => 0)))) (ty := .long) (n := 48) hx hb (hg _ w_71) rfl hK hP hD hS hA (fun _ => rfl) (by decide) (by decide) (by decide) (Nat.le_of_ble_eq_true rfl) (Nat.le_of_ble_eq_true rfl) dX0_init_7 (fun q1 c1 H hK hP hD hS => ?_)
  have hP : va_P (dC, dI) vwCl [(h0, .inr (0, [.null, .null, .null, .null, .null, .null, .null, .null, .null, .null, .null, .int 0, .int 0, .int 0, .int 0, .int 0, .int 0])), (q1, .inl (c1, (48, .inr (.inl (fun _ => 0)))))] H := hP
  have hD : va_D A [(h0, .inr (0, [.null, .null, .null, .null, .null, .null, .null, .null, .null, .null, .null, .int 0, .int 0, .int 0, .int 0, .int 0, .int 0])), (q1, .inl (c1, (48, .inr (.inl (fun _ => 0)))))] := hD
  have hK : va_K (dC, dI) vwCl [(c1, .long)] s := hK
  refine va_putF (D := (dC, dI)) (ci := 0) (v := .ref q1) (ty := .array .long) (C := RX0) (T := TX0) (N := 17) hx hb hg inX0 tyX0 tyX0_ok nmX0 hown hK hP hD hS 0 rfl rfl 0 (by decide) (hg _ w_19) (fun _ h9 => h9) rfl hin rfl (by decide +kernel) rfl rfl (Nat.le_of_ble_eq_true rfl) dX0_init_9 (fun H locs hP hD hS => ?_)
  have hP : va_P (dC, dI) vwCl [(h0, .inr (0, [.ref q1, .null, .null, .null, .null, .null, .null, .null, .null, .null, .null, .int 0, .int 0, .int 0, .int 0, .int 0, .int 0])), (q1, .inl (c1, (48, .inr (.inl (fun _ => 0)))))] H := hP
  have hD : va_D A [(h0, .inr (0, [.ref q1, .null, .null, .null, .null, .null, .null, .null, .null, .null, .null, .int 0, .int 0, .int 0, .int 0, .int 0, .int 0])), (q1, .inl (c1, (48, .inr (.inl (fun _ => 0)))))] := hD
  refine lv_aload_n hx hb dX0_init_12 rfl (lv_at hl 0 rfl) ?_
  refine lv_bipush (v := 48) hx hb dX0_init_13 (by decide) ?_
  refine va_newa (atype := .long) (N' := 48) (a0 := (48, .inr (.inl (fun _ => 0)))) (ty := .long) (n := 48) hx hb (hg _ w_71) rfl hK hP hD hS hA (fun _ => rfl) (by decide) (by decide) (by decide) (Nat.le_of_ble_eq_true rfl) (Nat.le_of_ble_eq_true rfl) dX0_init_15 (fun q2 c2 H hK hP hD hS => ?_)
  have hP : va_P (dC, dI) vwCl [(h0, .inr (0, [.ref q1, .null, .null, .null, .null, .null, .null, .null, .null, .null, .null, .int 0, .int 0, .int 0, .int 0, .int 0, .int 0])), (q1, .inl (c1, (48, .inr (.inl (fun _ => 0))))), (q2, .inl (c2, (48, .inr (.inl (fun _ => 0)))))] H := hP
  have hD : va_D A [(h0, .inr (0, [.ref q1, .null, .null, .null, .null, .null, .null, .null, .null, .null, .null, .int 0, .int 0, .int 0, .int 0, .int 0, .int 0])), (q1, .inl (c1, (48, .inr (.inl (fun _ => 0))))), (q2, .inl (c2, (48, .inr (.inl (fun _ => 0)))))] := hD
  have hK : va_K (dC, dI) vwCl [(c1, .long), (c2, .long)] s := hK
  refine va_putF (D := (dC, dI)) (ci := 0) (v := .ref q2) (ty := .array .long) (C := RX0) (T := TX0) (N := 17) hx hb hg inX0 tyX0 tyX0_ok nmX0 hown hK hP hD hS 0 rfl rfl 1 (by decide) (hg _ w_20) (fun _ h9 => h9) rfl hin rfl (by decide +kernel) rfl rfl (Nat.le_of_ble_eq_true rfl) dX0_init_17 (fun H locs hP hD hS => ?_)
  have hP : va_P (dC, dI) vwCl [(h0, .inr (0, [.ref q1, .ref q2, .null, .null, .null, .null, .null, .null, .null, .null, .null, .int 0, .int 0, .int 0, .int 0, .int 0, .int 0])), (q1, .inl (c1, (48, .inr (.inl (fun _ => 0))))), (q2, .inl (c2, (48, .inr (.inl (fun _ => 0)))))] H := hP
  have hD : va_D A [(h0, .inr (0, [.ref q1, .ref q2, .null, .null, .null, .null, .null, .null, .null, .null, .null, .int 0, .int 0, .int 0, .int 0, .int 0, .int 0])), (q1, .inl (c1, (48, .inr (.inl (fun _ => 0))))), (q2, .inl (c2, (48, .inr (.inl (fun _ => 0)))))] := hD
  refine lv_aload_n hx hb dX0_init_20 rfl (lv_at hl 0 rfl) ?_
  refine lv_bipush (v := 48) hx hb dX0_init_21 (by decide) ?_
  refine va_newa (atype := .int) (N' := 48) (a0 := (48, .inl (fun _ => 0))) (ty := .int) (n := 48) hx hb (hg _ w_72) rfl hK hP hD hS hA (fun _ => rfl) (by decide) (by decide) (by decide) (Nat.le_of_ble_eq_true rfl) (Nat.le_of_ble_eq_true rfl) dX0_init_23 (fun q3 c3 H hK hP hD hS => ?_)
  have hP : va_P (dC, dI) vwCl [(h0, .inr (0, [.ref q1, .ref q2, .null, .null, .null, .null, .null, .null, .null, .null, .null, .int 0, .int 0, .int 0, .int 0, .int 0, .int 0])), (q1, .inl (c1, (48, .inr (.inl (fun _ => 0))))), (q2, .inl (c2, (48, .inr (.inl (fun _ => 0))))), (q3, .inl (c3, (48, .inl (fun _ => 0))))] H := hP
  have hD : va_D A [(h0, .inr (0, [.ref q1, .ref q2, .null, .null, .null, .null, .null, .null, .null, .null, .null, .int 0, .int 0, .int 0, .int 0, .int 0, .int 0])), (q1, .inl (c1, (48, .inr (.inl (fun _ => 0))))), (q2, .inl (c2, (48, .inr (.inl (fun _ => 0))))), (q3, .inl (c3, (48, .inl (fun _ => 0))))] := hD
  have hK : va_K (dC, dI) vwCl [(c1, .long), (c2, .long), (c3, .int)] s := hK
  refine va_putF (D := (dC, dI)) (ci := 0) (v := .ref q3) (ty := .array .int) (C := RX0) (T := TX0) (N := 17) hx hb hg inX0 tyX0 tyX0_ok nmX0 hown hK hP hD hS 0 rfl rfl 2 (by decide) (hg _ w_21) (fun _ h9 => h9) rfl hin rfl (by decide +kernel) rfl rfl (Nat.le_of_ble_eq_true rfl) dX0_init_25 (fun H locs hP hD hS => ?_)
  have hP : va_P (dC, dI) vwCl [(h0, .inr (0, [.ref q1, .ref q2, .ref q3, .null, .null, .null, .null, .null, .null, .null, .null, .int 0, .int 0, .int 0, .int 0, .int 0, .int 0])), (q1, .inl (c1, (48, .inr (.inl (fun _ => 0))))), (q2, .inl (c2, (48, .inr (.inl (fun _ => 0))))), (q3, .inl (c3, (48, .inl (fun _ => 0))))] H := hP
  have hD : va_D A [(h0, .inr (0, [.ref q1, .ref q2, .ref q3, .null, .null, .null, .null, .null, .null, .null, .null, .int 0, .int 0, .int 0, .int 0, .int 0, .int 0])), (q1, .inl (c1, (48, .inr (.inl (fun _ => 0))))), (q2, .inl (c2, (48, .inr (.inl (fun _ => 0))))), (q3, .inl (c3, (48, .inl (fun _ => 0))))] := hD
  refine lv_aload_n hx hb dX0_init_28 rfl (lv_at hl 0 rfl) ?_
  refine lv_bipush (v := 48) hx hb dX0_init_29 (by decide) ?_
  refine va_newa (atype := .int) (N' := 48) (a0 := (48, .inl (fun _ => 0))) (ty := .int) (n := 48) hx hb (hg _ w_72) rfl hK hP hD hS hA (fun _ => rfl) (by decide) (by decide) (by decide) (Nat.le_of_ble_eq_true rfl) (Nat.le_of_ble_eq_true rfl) dX0_init_31 (fun q4 c4 H hK hP hD hS => ?_)
  have hP : va_P (dC, dI) vwCl [(h0, .inr (0, [.ref q1, .ref q2, .ref q3, .null, .null, .null, .null, .null, .null, .null, .null, .int 0, .int 0, .int 0, .int 0, .int 0, .int 0])), (q1, .inl (c1, (48, .inr (.inl (fun _ => 0))))), (q2, .inl (c2, (48, .inr (.inl (fun _ => 0))))), (q3, .inl (c3, (48, .inl (fun _ => 0)))), (q4, .inl (c4, (48, .inl (fun _ => 0))))] H := hP
  have hD : va_D A [(h0, .inr (0, [.ref q1, .ref q2, .ref q3, .null, .null, .null, .null, .null, .null, .null, .null, .int 0, .int 0, .int 0, .int 0, .int 0, .int 0])), (q1, .inl (c1, (48, .inr (.inl (fun _ => 0))))), (q2, .inl (c2, (48, .inr (.inl (fun _ => 0))))), (q3, .inl (c3, (48, .inl (fun _ => 0)))), (q4, .inl (c4, (48, .inl (fun _ => 0))))] := hD
  have hK : va_K (dC, dI) vwCl [(c1, .long), (c2, .long), (c3, .int), (c4, .int)] s := hK
  refine va_putF (D := (dC, dI)) (ci := 0) (v := .ref q4) (ty := .array .int) (C := RX0) (T := TX0) (N := 17) hx hb hg inX0 tyX0 tyX0_ok nmX0 hown hK hP hD hS 0 rfl rfl 3 (by decide) (hg _ w_22) (fun _ h9 => h9) rfl hin rfl (by decide +kernel) rfl rfl (Nat.le_of_ble_eq_true rfl) dX0_init_33 (fun H locs hP hD hS => ?_)
  have hP : va_P (dC, dI) vwCl [(h0, .inr (0, [.ref q1, .ref q2, .ref q3, .ref q4, .null, .null, .null, .null, .null, .null, .null, .int 0, .int 0, .int 0, .int 0, .int 0, .int 0])), (q1, .inl (c1, (48, .inr (.inl (fun _ => 0))))), (q2, .inl (c2, (48, .inr (.inl (fun _ => 0))))), (q3, .inl (c3, (48, .inl (fun _ => 0)))), (q4, .inl (c4, (48, .inl (fun _ => 0))))] H := hP
  have hD : va_D A [(h0, .inr (0, [.ref q1, .ref q2, .ref q3, .ref q4, .null, .null, .null, .null, .null, .null, .null, .int 0, .int 0, .int 0, .int 0, .int 0, .int 0])), (q1, .inl (c1, (48, .inr (.inl (fun _ => 0))))), (q2, .inl (c2, (48, .inr (.inl (fun _ => 0))))), (q3, .inl (c3, (48, .inl (fun _ => 0)))), (q4, .inl (c4, (48, .inl (fun _ => 0))))] := hD
  refine lv_aload_n hx hb dX0_init_36 rfl (lv_at hl 0 rfl) ?_
  refine lv_bipush (v := 48) hx hb dX0_init_37 (by decide) ?_
  refine va_newa (atype := .int) (N' := 48) (a0 := (48, .inl (fun _ => 0))) (ty := .int) (n := 48) hx hb (hg _ w_72) rfl hK hP hD hS hA (fun _ => rfl) (by decide) (by decide) (by decide) (Nat.le_of_ble_eq_true rfl) (Nat.le_of_ble_eq_true rfl) dX0_init_39 (fun q5 c5 H hK hP hD hS => ?_)
  have hP : va_P (dC, dI) vwCl [(h0, .inr (0, [.ref q1, .ref q2, .ref q3, .ref q4, .null, .null, .null, .null, .null, .null, .null, .int 0, .int 0, .int 0, .int 0, .int 0, .int 0])), (q1, .inl (c1, (48, .inr (.inl (fun _ => 0))))), (q2, .inl (c2, (48, .inr (.inl (fun _ => 0))))), (q3, .inl (c3, (48, .inl (fun _ => 0)))), (q4, .inl (c4, (48, .inl (fun _ => 0)))), (q5, .inl (c5, (48, .inl (fun _ => 0))))] H := hP
  have hD : va_D A [(h0, .inr (0, [.ref q1, .ref q2, .ref q3, .ref q4, .null, .null, .null, .null, .null, .null, .null, .int 0, .int 0, .int 0, .int 0, .int 0, .int 0])), (q1, .inl (c1, (48, .inr (.inl (fun _ => 0))))), (q2, .inl (c2, (48, .inr (.inl (fun _ => 0))))), (q3, .inl (c3, (48, .inl (fun _ => 0)))), (q4, .inl (c4, (48, .inl (fun _ => 0)))), (q5, .inl (c5, (48, .inl (fun _ => 0))))] := hD
  have hK : va_K (dC, dI) vwCl [(c1, .long), (c2, .long), (c3, .int), (c4, .int), (c5, .int)] s := hK
  refine va_putF (D := (dC, dI)) (ci := 0) (v := .ref q5) (ty := .array .int) (C := RX0) (T := TX0) (N := 17) hx hb hg inX0 tyX0 tyX0_ok nmX0 hown hK hP hD hS 0 rfl rfl 4 (by decide) (hg _ w_23) (fun _ h9 => h9) rfl hin rfl (by decide +kernel) rfl rfl (Nat.le_of_ble_eq_true rfl) dX0_init_41 (fun H locs hP hD hS => ?_)
  have hP : va_P (dC, dI) vwCl [(h0, .inr (0, [.ref q1, .ref q2, .ref q3, .ref q4, .ref q5, .null, .null, .null, .null, .null, .null, .int 0, .int 0, .int 0, .int 0, .int 0, .int 0])), (q1, .inl (c1, (48, .inr (.inl (fun _ => 0))))), (q2, .inl (c2, (48, .inr (.inl (fun _ => 0))))), (q3, .inl (c3, (48, .inl (fun _ => 0)))), (q4, .inl (c4, (48, .inl (fun _ => 0)))), (q5, .inl (c5, (48, .inl (fun _ => 0))))] H := hP
  have hD : va_D A [(h0, .inr (0, [.ref q1, .ref q2, .ref q3, .ref q4, .ref q5, .null, .null, .null, .null, .null, .null, .int 0, .int 0, .int 0, .int 0, .int 0, .int 0])), (q1, .inl (c1, (48, .inr (.inl (fun _ => 0))))), (q2, .inl (c2, (48, .inr (.inl (fun _ => 0))))), (q3, .inl (c3, (48, .inl (fun _ => 0)))), (q4, .inl (c4, (48, .inl (fun _ => 0)))), (q5, .inl (c5, (48, .inl (fun _ => 0))))] := hD
  refine lv_aload_n hx hb dX0_init_44 rfl (lv_at hl 0 rfl) ?_
  refine lv_bipush (v := 48) hx hb dX0_init_45 (by decide) ?_
  refine va_newa (atype := .int) (N' := 48) (a0 := (48, .inl (fun _ => 0))) (ty := .int) (n := 48) hx hb (hg _ w_72) rfl hK hP hD hS hA (fun _ => rfl) (by decide) (by decide) (by decide) (Nat.le_of_ble_eq_true rfl) (Nat.le_of_ble_eq_true rfl) dX0_init_47 (fun q6 c6 H hK hP hD hS => ?_)
  have hP : va_P (dC, dI) vwCl [(h0, .inr (0, [.ref q1, .ref q2, .ref q3, .ref q4, .ref q5, .null, .null, .null, .null, .null, .null, .int 0, .int 0, .int 0, .int 0, .int 0, .int 0])), (q1, .inl (c1, (48, .inr (.inl (fun _ => 0))))), (q2, .inl (c2, (48, .inr (.inl (fun _ => 0))))), (q3, .inl (c3, (48, .inl (fun _ => 0)))), (q4, .inl (c4, (48, .inl (fun _ => 0)))), (q5, .inl (c5, (48, .inl (fun _ => 0)))), (q6, .inl (c6, (48, .inl (fun _ => 0))))] H := hP
  have hD : va_D A [(h0, .inr (0, [.ref q1, .ref q2, .ref q3, .ref q4, .ref q5, .null, .null, .null, .null, .null, .null, .int 0, .int 0, .int 0, .int 0, .int 0, .int 0])), (q1, .inl (c1, (48, .inr (.inl (fun _ => 0))))), (q2, .inl (c2, (48, .inr (.inl (fun _ => 0))))), (q3, .inl (c3, (48, .inl (fun _ => 0)))), (q4, .inl (c4, (48, .inl (fun _ => 0)))), (q5, .inl (c5, (48, .inl (fun _ => 0)))), (q6, .inl (c6, (48, .inl (fun _ => 0))))] := hD
  have hK : va_K (dC, dI) vwCl [(c1, .long), (c2, .long), (c3, .int), (c4, .int), (c5, .int), (c6, .int)] s := hK
  refine va_putF (D := (dC, dI)) (ci := 0) (v := .ref q6) (ty := .array .int) (C := RX0) (T := TX0) (N := 17) hx hb hg inX0 tyX0 tyX0_ok nmX0 hown hK hP hD hS 0 rfl rfl 5 (by decide) (hg _ w_24) (fun _ h9 => h9) rfl hin rfl (by decide +kernel) rfl rfl (Nat.le_of_ble_eq_true rfl) dX0_init_49 (fun H locs hP hD hS => ?_)
  have hP : va_P (dC, dI) vwCl [(h0, .inr (0, [.ref q1, .ref q2, .ref q3, .ref q4, .ref q5, .ref q6, .null, .null, .null, .null, .null, .int 0, .int 0, .int 0, .int 0, .int 0, .int 0])), (q1, .inl (c1, (48, .inr (.inl (fun _ => 0))))), (q2, .inl (c2, (48, .inr (.inl (fun _ => 0))))), (q3, .inl (c3, (48, .inl (fun _ => 0)))), (q4, .inl (c4, (48, .inl (fun _ => 0)))), (q5, .inl (c5, (48, .inl (fun _ => 0)))), (q6, .inl (c6, (48, .inl (fun _ => 0))))] H := hP
  have hD : va_D A [(h0, .inr (0, [.ref q1, .ref q2, .ref q3, .ref q4, .ref q5, .ref q6, .null, .null, .null, .null, .null, .int 0, .int 0, .int 0, .int 0, .int 0, .int 0])), (q1, .inl (c1, (48, .inr (.inl (fun _ => 0))))), (q2, .inl (c2, (48, .inr (.inl (fun _ => 0))))), (q3, .inl (c3, (48, .inl (fun _ => 0)))), (q4, .inl (c4, (48, .inl (fun _ => 0)))), (q5, .inl (c5, (48, .inl (fun _ => 0)))), (q6, .inl (c6, (48, .inl (fun _ => 0))))] := hD
  refine lv_aload_n hx hb dX0_init_52 rfl (lv_at hl 0 rfl) ?_
  refine lv_bipush (v := 48) hx hb dX0_init_53 (by decide) ?_
  refine va_newa (atype := .int) (N' := 48) (a0 := (48, .inl (fun _ => 0))) (ty := .int) (n := 48) hx hb (hg _ w_72) rfl hK hP hD hS hA (fun _ => rfl) (by decide) (by decide) (by decide) (Nat.le_of_ble_eq_true rfl) (Nat.le_of_ble_eq_true rfl) dX0_init_55 (fun q7 c7 H hK hP hD hS => ?_)
  have hP : va_P (dC, dI) vwCl [(h0, .inr (0, [.ref q1, .ref q2, .ref q3, .ref q4, .ref q5, .ref q6, .null, .null, .null, .null, .null, .int 0, .int 0, .int 0, .int 0, .int 0, .int 0])), (q1, .inl (c1, (48, .inr (.inl (fun _ => 0))))), (q2, .inl (c2, (48, .inr (.inl (fun _ => 0))))), (q3, .inl (c3, (48, .inl (fun _ => 0)))), (q4, .inl (c4, (48, .inl (fun _ => 0)))), (q5, .inl (c5, (48, .inl (fun _ => 0)))), (q6, .inl (c6, (48, .inl (fun _ => 0)))), (q7, .inl (c7, (48, .inl (fun _ => 0))))] H := hP
  have hD : va_D A [(h0, .inr (0, [.ref q1, .ref q2, .ref q3, .ref q4, .ref q5, .ref q6, .null, .null, .null, .null, .null, .int 0, .int 0, .int 0, .int 0, .int 0, .int 0])), (q1, .inl (c1, (48, .inr (.inl (fun _ => 0))))), (q2, .inl (c2, (48, .inr (.inl (fun _ => 0))))), (q3, .inl (c3, (48, .inl (fun _ => 0)))), (q4, .inl (c4, (48, .inl (fun _ => 0)))), (q5, .inl (c5, (48, .inl (fun _ => 0)))), (q6, .inl (c6, (48, .inl (fun _ => 0)))), (q7, .inl (c7, (48, .inl (fun _ => 0))))] := hD
  have hK : va_K (dC, dI) vwCl [(c1, .long), (c2, .long), (c3, .int), (c4, .int), (c5, .int), (c6, .int), (c7, .int)] s := hK
  refine va_putF (D := (dC, dI)) (ci := 0) (v := .ref q7) (ty := .array .int) (C := RX0) (T := TX0) (N := 17) hx hb hg inX0 tyX0 tyX0_ok nmX0 hown hK hP hD hS 0 rfl rfl 6 (by decide) (hg _ w_25) (fun _ h9 => h9) rfl hin rfl (by decide +kernel) rfl rfl (Nat.le_of_ble_eq_true rfl) dX0_init_57 (fun H locs hP hD hS => ?_)
  have hP : va_P (dC, dI) vwCl [(h0, .inr (0, [.ref q1, .ref q2, .ref q3, .ref q4, .ref q5, .ref q6, .ref q7, .null, .null, .null, .null, .int 0, .int 0, .int 0, .int 0, .int 0, .int 0])), (q1, .inl (c1, (48, .inr (.inl (fun _ => 0))))), (q2, .inl (c2, (48, .inr (.inl (fun _ => 0))))), (q3, .inl (c3, (48, .inl (fun _ => 0)))), (q4, .inl (c4, (48, .inl (fun _ => 0)))), (q5, .inl (c5, (48, .inl (fun _ => 0)))), (q6, .inl (c6, (48, .inl (fun _ => 0)))), (q7, .inl (c7, (48, .inl (fun _ => 0))))] H := hP
  have hD : va_D A [(h0, .inr (0, [.ref q1, .ref q2, .ref q3, .ref q4, .ref q5, .ref q6, .ref q7, .null, .null, .null, .null, .int 0, .int 0, .int 0, .int 0, .int 0, .int 0])), (q1, .inl (c1, (48, .inr (.inl (fun _ => 0))))), (q2, .inl (c2, (48, .inr (.inl (fun _ => 0))))), (q3, .inl (c3, (48, .inl (fun _ => 0)))), (q4, .inl (c4, (48, .inl (fun _ => 0)))), (q5, .inl (c5, (48, .inl (fun _ => 0)))), (q6, .inl (c6, (48, .inl (fun _ => 0)))), (q7, .inl (c7, (48, .inl (fun _ => 0))))] := hD
  refine lv_aload_n hx hb dX0_init_60 rfl (lv_at hl 0 rfl) ?_
  refine lv_bipush (v := 8) hx hb dX0_init_61 (by decide) ?_
  refine va_newa (atype := .int) (N' := 8) (a0 := (8, .inl (fun _ => 0))) (ty := .int) (n := 8) hx hb (hg _ w_72) rfl hK hP hD hS hA (fun _ => rfl) (by decide) (by decide) (by decide) (Nat.le_of_ble_eq_true rfl) (Nat.le_of_ble_eq_true rfl) dX0_init_63 (fun q8 c8 H hK hP hD hS => ?_)
  have hP : va_P (dC, dI) vwCl [(h0, .inr (0, [.ref q1, .ref q2, .ref q3, .ref q4, .ref q5, .ref q6, .ref q7, .null, .null, .null, .null, .int 0, .int 0, .int 0, .int 0, .int 0, .int 0])), (q1, .inl (c1, (48, .inr (.inl (fun _ => 0))))), (q2, .inl (c2, (48, .inr (.inl (fun _ => 0))))), (q3, .inl (c3, (48, .inl (fun _ => 0)))), (q4, .inl (c4, (48, .inl (fun _ => 0)))), (q5, .inl (c5, (48, .inl (fun _ => 0)))), (q6, .inl (c6, (48, .inl (fun _ => 0)))), (q7, .inl (c7, (48, .inl (fun _ => 0)))), (q8, .inl (c8, (8, .inl (fun _ => 0))))] H := hP
  have hD : va_D A [(h0, .inr (0, [.ref q1, .ref q2, .ref q3, .ref q4, .ref q5, .ref q6, .ref q7, .null, .null, .null, .null, .int 0, .int 0, .int 0, .int 0, .int 0, .int 0])), (q1, .inl (c1, (48, .inr (.inl (fun _ => 0))))), (q2, .inl (c2, (48, .inr (.inl (fun _ => 0))))), (q3, .inl (c3, (48, .inl (fun _ => 0)))), (q4, .inl (c4, (48, .inl (fun _ => 0)))), (q5, .inl (c5, (48, .inl (fun _ => 0)))), (q6, .inl (c6, (48, .inl (fun _ => 0)))), (q7, .inl (c7, (48, .inl (fun _ => 0)))), (q8, .inl (c8, (8, .inl (fun _ => 0))))] := hD
  have hK : va_K (dC, dI) vwCl [(c1, .long), (c2, .long), (c3, .int), (c4, .int), (c5, .int), (c6, .int), (c7, .int), (c8, .int)] s := hK
  refine va_putF (D := (dC, dI)) (ci := 0) (v := .ref q8) (ty := .array .int) (C := RX0) (T := TX0) (N := 17) hx hb hg inX0 tyX0 tyX0_ok nmX0 hown hK hP hD hS 0 rfl rfl 7 (by decide) (hg _ w_26) (fun _ h9 => h9) rfl hin rfl (by decide +kernel) rfl rfl (Nat.le_of_ble_eq_true rfl) dX0_init_65 (fun H locs hP hD hS => ?_)
  have hP : va_P (dC, dI) vwCl [(h0, .inr (0, [.ref q1, .ref q2, .ref q3, .ref q4, .ref q5, .ref q6, .ref q7, .ref q8, .null, .null, .null, .int 0, .int 0, .int 0, .int 0, .int 0, .int 0])), (q1, .inl (c1, (48, .inr (.inl (fun _ => 0))))), (q2, .inl (c2, (48, .inr (.inl (fun _ => 0))))), (q3, .inl (c3, (48, .inl (fun _ => 0)))), (q4, .inl (c4, (48, .inl (fun _ => 0)))), (q5, .inl (c5, (48, .inl (fun _ => 0)))), (q6, .inl (c6, (48, .inl (fun _ => 0)))), (q7, .inl (c7, (48, .inl (fun _ => 0)))), (q8, .inl (c8, (8, .inl (fun _ => 0))))] H := hP
  have hD : va_D A [(h0, .inr (0, [.ref q1, .ref q2, .ref q3, .ref q4, .ref q5, .ref q6, .ref q7, .ref q8, .null, .null, .null, .int 0, .int 0, .int 0, .int 0, .int 0, .int 0])), (q1, .inl (c1, (48, .inr (.inl (fun _ => 0))))), (q2, .inl (c2, (48, .inr (.inl (fun _ => 0))))), (q3, .inl (c3, (48, .inl (fun _ => 0)))), (q4, .inl (c4, (48, .inl (fun _ => 0)))), (q5, .inl (c5, (48, .inl (fun _ => 0)))), (q6, .inl (c6, (48, .inl (fun _ => 0)))), (q7, .inl (c7, (48, .inl (fun _ => 0)))), (q8, .inl (c8, (8, .inl (fun _ => 0))))] := hD
  refine lv_aload_n hx hb dX0_init_68 rfl (lv_at hl 0 rfl) ?_
  refine lv_bipush (v := 12) hx hb dX0_init_69 (by decide) ?_
  refine va_newa (atype := .int) (N' := 12) (a0 := (12, .inl (fun _ => 0))) (ty := .int) (n := 12) hx hb (hg _ w_72) rfl hK hP hD hS hA (fun _ => rfl) (by decide) (by decide) (by decide) (Nat.le_of_ble_eq_true rfl) (Nat.le_of_ble_eq_true rfl) dX0_init_71 (fun q9 c9 H hK hP hD hS => ?_)
  have hP : va_P (dC, dI) vwCl [(h0, .inr (0, [.ref q1, .ref q2, .ref q3, .ref q4, .ref q5, .ref q6, .ref q7, .ref q8, .null, .null, .null, .int 0, .int 0, .int 0, .int 0, .int 0, .int 0])), (q1, .inl (c1, (48, .inr (.inl (fun _ => 0))))), (q2, .inl (c2, (48, .inr (.inl (fun _ => 0))))), (q3, .inl (c3, (48, .inl (fun _ => 0)))), (q4, .inl (c4, (48, .inl (fun _ => 0)))), (q5, .inl (c5, (48, .inl (fun _ => 0)))), (q6, .inl (c6, (48, .inl (fun _ => 0)))), (q7, .inl (c7, (48, .inl (fun _ => 0)))), (q8, .inl (c8, (8, .inl (fun _ => 0)))), (q9, .inl (c9, (12, .inl (fun _ => 0))))] H := hP
  have hD : va_D A [(h0, .inr (0, [.ref q1, .ref q2, .ref q3, .ref q4, .ref q5, .ref q6, .ref q7, .ref q8, .null, .null, .null, .int 0, .int 0, .int 0, .int 0, .int 0, .int 0])), (q1, .inl (c1, (48, .inr (.inl (fun _ => 0))))), (q2, .inl (c2, (48, .inr (.inl (fun _ => 0))))), (q3, .inl (c3, (48, .inl (fun _ => 0)))), (q4, .inl (c4, (48, .inl (fun _ => 0)))), (q5, .inl (c5, (48, .inl (fun _ => 0)))), (q6, .inl (c6, (48, .inl (fun _ => 0)))), (q7, .inl (c7, (48, .inl (fun _ => 0)))), (q8, .inl (c8, (8, .inl (fun _ => 0)))), (q9, .inl (c9, (12, .inl (fun _ => 0))))] := hD
  have hK : va_K (dC, dI) vwCl [(c1, .long), (c2, .long), (c3, .int), (c4, .int), (c5, .int), (c6, .int), (c7, .int), (c8, .int), (c9, .int)] s := hK
  refine va_putF (D := (dC, dI)) (ci := 0) (v := .ref q9) (ty := .array .int) (C := RX0) (T := TX0) (N := 17) hx hb hg inX0 tyX0 tyX0_ok nmX0 hown hK hP hD hS 0 rfl rfl 8 (by decide) (hg _ w_27) (fun _ h9 => h9) rfl hin rfl (by decide +kernel) rfl rfl (Nat.le_of_ble_eq_true rfl) dX0_init_73 (fun H locs hP hD hS => ?_)
  have hP : va_P (dC, dI) vwCl [(h0, .inr (0, [.ref q1, .ref q2, .ref q3, .ref q4, .ref q5, .ref q6, .ref q7, .ref q8, .ref q9, .null, .null, .int 0, .int 0, .int 0, .int 0, .int 0, .int 0])), (q1, .inl (c1, (48, .inr (.inl (fun _ => 0))))), (q2, .inl (c2, (48, .inr (.inl (fun _ => 0))))), (q3, .inl (c3, (48, .inl (fun _ => 0)))), (q4, .inl (c4, (48, .inl (fun _ => 0)))), (q5, .inl (c5, (48, .inl (fun _ => 0)))), (q6, .inl (c6, (48, .inl (fun _ => 0)))), (q7, .inl (c7, (48, .inl (fun _ => 0)))), (q8, .inl (c8, (8, .inl (fun _ => 0)))), (q9, .inl (c9, (12, .inl (fun _ => 0))))] H := hP
  have hD : va_D A [(h0, .inr (0, [.ref q1, .ref q2, .ref q3, .ref q4, .ref q5, .ref q6, .ref q7, .ref q8, .ref q9, .null, .null, .int 0, .int 0, .int 0, .int 0, .int 0, .int 0])), (q1, .inl (c1, (48, .inr (.inl (fun _ => 0))))), (q2, .inl (c2, (48, .inr (.inl (fun _ => 0))))), (q3, .inl (c3, (48, .inl (fun _ => 0)))), (q4, .inl (c4, (48, .inl (fun _ => 0)))), (q5, .inl (c5, (48, .inl (fun _ => 0)))), (q6, .inl (c6, (48, .inl (fun _ => 0)))), (q7, .inl (c7, (48, .inl (fun _ => 0)))), (q8, .inl (c8, (8, .inl (fun _ => 0)))), (q9, .inl (c9, (12, .inl (fun _ => 0))))] := hD
  refine lv_aload_n hx hb dX0_init_76 rfl (lv_at hl 0 rfl) ?_
  refine lv_bipush (v := 12) hx hb dX0_init_77 (by decide) ?_
  refine va_newa (atype := .int) (N' := 12) (a0 := (12, .inl (fun _ => 0))) (ty := .int) (n := 12) hx hb (hg _ w_72) rfl hK hP hD hS hA (fun _ => rfl) (by decide) (by decide) (by decide) (Nat.le_of_ble_eq_true rfl) (Nat.le_of_ble_eq_true rfl) dX0_init_79 (fun q10 c10 H hK hP hD hS => ?_)
  have hP : va_P (dC, dI) vwCl [(h0, .inr (0, [.ref q1, .ref q2, .ref q3, .ref q4, .ref q5, .ref q6, .ref q7, .ref q8, .ref q9, .null, .null, .int 0, .int 0, .int 0, .int 0, .int 0, .int 0])), (q1, .inl (c1, (48, .inr (.inl (fun _ => 0))))), (q2, .inl (c2, (48, .inr (.inl (fun _ => 0))))), (q3, .inl (c3, (48, .inl (fun _ => 0)))), (q4, .inl (c4, (48, .inl (fun _ => 0)))), (q5, .inl (c5, (48, .inl (fun _ => 0)))), (q6, .inl (c6, (48, .inl (fun _ => 0)))), (q7, .inl (c7, (48, .inl (fun _ => 0)))), (q8, .inl (c8, (8, .inl (fun _ => 0)))), (q9, .inl (c9, (12, .inl (fun _ => 0)))), (q10, .inl (c10, (12, .inl (fun _ => 0))))] H := hP
  have hD : va_D A [(h0, .inr (0, [.ref q1, .ref q2, .ref q3, .ref q4, .ref q5, .ref q6, .ref q7, .ref q8, .ref q9, .null, .null, .int 0, .int 0, .int 0, .int 0, .int 0, .int 0])), (q1, .inl (c1, (48, .inr (.inl (fun _ => 0))))), (q2, .inl (c2, (48, .inr (.inl (fun _ => 0))))), (q3, .inl (c3, (48, .inl (fun _ => 0)))), (q4, .inl (c4, (48, .inl (fun _ => 0)))), (q5, .inl (c5, (48, .inl (fun _ => 0)))), (q6, .inl (c6, (48, .inl (fun _ => 0)))), (q7, .inl (c7, (48, .inl (fun _ => 0)))), (q8, .inl (c8, (8, .inl (fun _ => 0)))), (q9, .inl (c9, (12, .inl (fun _ => 0)))), (q10, .inl (c10, (12, .inl (fun _ => 0))))] := hD
  have hK : va_K (dC, dI) vwCl [(c1, .long), (c2, .long), (c3, .int), (c4, .int), (c5, .int), (c6, .int), (c7, .int), (c8, .int), (c9, .int), (c10, .int)] s := hK
  refine va_putF (D := (dC, dI)) (ci := 0) (v := .ref q10) (ty := .array .int) (C := RX0) (T := TX0) (N := 17) hx hb hg inX0 tyX0 tyX0_ok nmX0 hown hK hP hD hS 0 rfl rfl 9 (by decide) (hg _ w_28) (fun _ h9 => h9) rfl hin rfl (by decide +kernel) rfl rfl (Nat.le_of_ble_eq_true rfl) dX0_init_81 (fun H locs hP hD hS => ?_)
  have hP : va_P (dC, dI) vwCl [(h0, .inr (0, [.ref q1, .ref q2, .ref q3, .ref q4, .ref q5, .ref q6, .ref q7, .ref q8, .ref q9, .ref q10, .null, .int 0, .int 0, .int 0, .int 0, .int 0, .int 0])), (q1, .inl (c1, (48, .inr (.inl (fun _ => 0))))), (q2, .inl (c2, (48, .inr (.inl (fun _ => 0))))), (q3, .inl (c3, (48, .inl (fun _ => 0)))), (q4, .inl (c4, (48, .inl (fun _ => 0)))), (q5, .inl (c5, (48, .inl (fun _ => 0)))), (q6, .inl (c6, (48, .inl (fun _ => 0)))), (q7, .inl (c7, (48, .inl (fun _ => 0)))), (q8, .inl (c8, (8, .inl (fun _ => 0)))), (q9, .inl (c9, (12, .inl (fun _ => 0)))), (q10, .inl (c10, (12, .inl (fun _ => 0))))] H := hP
  have hD : va_D A [(h0, .inr (0, [.ref q1, .ref q2, .ref q3, .ref q4, .ref q5, .ref q6, .ref q7, .ref q8, .ref q9, .ref q10, .null, .int 0, .int 0, .int 0, .int 0, .int 0, .int 0])), (q1, .inl (c1, (48, .inr (.inl (fun _ => 0))))), (q2, .inl (c2, (48, .inr (.inl (fun _ => 0))))), (q3, .inl (c3, (48, .inl (fun _ => 0)))), (q4, .inl (c4, (48, .inl (fun _ => 0)))), (q5, .inl (c5, (48, .inl (fun _ => 0)))), (q6, .inl (c6, (48, .inl (fun _ => 0)))), (q7, .inl (c7, (48, .inl (fun _ => 0)))), (q8, .inl (c8, (8, .inl (fun _ => 0)))), (q9, .inl (c9, (12, .inl (fun _ => 0)))), (q10, .inl (c10, (12, .inl (fun _ => 0))))] := hD
  refine lv_aload_n hx hb dX0_init_84 rfl (lv_at hl 0 rfl) ?_
  refine lv_bipush (v := 12) hx hb dX0_init_85 (by decide) ?_
  refine va_newa (atype := .int) (N' := 12) (a0 := (12, .inl (fun _ => 0))) (ty := .int) (n := 12) hx hb (hg _ w_72) rfl hK hP hD hS hA (fun _ => rfl) (by decide) (by decide) (by decide) (Nat.le_of_ble_eq_true rfl) (Nat.le_of_ble_eq_true rfl) dX0_init_87 (fun q11 c11 H hK hP hD hS => ?_)
  have hP : va_P (dC, dI) vwCl [(h0, .inr (0, [.ref q1, .ref q2, .ref q3, .ref q4, .ref q5, .ref q6, .ref q7, .ref q8, .ref q9, .ref q10, .null, .int 0, .int 0, .int 0, .int 0, .int 0, .int 0])), (q1, .inl (c1, (48, .inr (.inl (fun _ => 0))))), (q2, .inl (c2, (48, .inr (.inl (fun _ => 0))))), (q3, .inl (c3, (48, .inl (fun _ => 0)))), (q4, .inl (c4, (48, .inl (fun _ => 0)))), (q5, .inl (c5, (48, .inl (fun _ => 0)))), (q6, .inl (c6, (48, .inl (fun _ => 0)))), (q7, .inl (c7, (48, .inl (fun _ => 0)))), (q8, .inl (c8, (8, .inl (fun _ => 0)))), (q9, .inl (c9, (12, .inl (fun _ => 0)))), (q10, .inl (c10, (12, .inl (fun _ => 0)))), (q11, .inl (c11, (12, .inl (fun _ => 0))))] H := hP
  have hD : va_D A [(h0, .inr (0, [.ref q1, .ref q2, .ref q3, .ref q4, .ref q5, .ref q6, .ref q7, .ref q8, .ref q9, .ref q10, .null, .int 0, .int 0, .int 0, .int 0, .int 0, .int 0])), (q1, .inl (c1, (48, .inr (.inl (fun _ => 0))))), (q2, .inl (c2, (48, .inr (.inl (fun _ => 0))))), (q3, .inl (c3, (48, .inl (fun _ => 0)))), (q4, .inl (c4, (48, .inl (fun _ => 0)))), (q5, .inl (c5, (48, .inl (fun _ => 0)))), (q6, .inl (c6, (48, .inl (fun _ => 0)))), (q7, .inl (c7, (48, .inl (fun _ => 0)))), (q8, .inl (c8, (8, .inl (fun _ => 0)))), (q9, .inl (c9, (12, .inl (fun _ => 0)))), (q10, .inl (c10, (12, .inl (fun _ => 0)))), (q11, .inl (c11, (12, .inl (fun _ => 0))))] := hD
  have hK : va_K (dC, dI) vwCl [(c1, .long), (c2, .long), (c3, .int), (c4, .int), (c5, .int), (c6, .int), (c7, .int), (c8, .int), (c9, .int), (c10, .int), (c11, .int)] s := hK
  refine va_putF (D := (dC, dI)) (ci := 0) (v := .ref q11) (ty := .array .int) (C := RX0) (T := TX0) (N := 17) hx hb hg inX0 tyX0 tyX0_ok nmX0 hown hK hP hD hS 0 rfl rfl 10 (by decide) (hg _ w_29) (fun _ h9 => h9) rfl hin rfl (by decide +kernel) rfl rfl (Nat.le_of_ble_eq_true rfl) dX0_init_89 (fun H locs hP hD hS => ?_)
  have hP : va_P (dC, dI) vwCl [(h0, .inr (0, [.ref q1, .ref q2, .ref q3, .ref q4, .ref q5, .ref q6, .ref q7, .ref q8, .ref q9, .ref q10, .ref q11, .int 0, .int 0, .int 0, .int 0, .int 0, .int 0])), (q1, .inl (c1, (48, .inr (.inl (fun _ => 0))))), (q2, .inl (c2, (48, .inr (.inl (fun _ => 0))))), (q3, .inl (c3, (48, .inl (fun _ => 0)))), (q4, .inl (c4, (48, .inl (fun _ => 0)))), (q5, .inl (c5, (48, .inl (fun _ => 0)))), (q6, .inl (c6, (48, .inl (fun _ => 0)))), (q7, .inl (c7, (48, .inl (fun _ => 0)))), (q8, .inl (c8, (8, .inl (fun _ => 0)))), (q9, .inl (c9, (12, .inl (fun _ => 0)))), (q10, .inl (c10, (12, .inl (fun _ => 0)))), (q11, .inl (c11, (12, .inl (fun _ => 0))))] H := hP
  have hD : va_D A [(h0, .inr (0, [.ref q1, .ref q2, .ref q3, .ref q4, .ref q5, .ref q6, .ref q7, .ref q8, .ref q9, .ref q10, .ref q11, .int 0, .int 0, .int 0, .int 0, .int 0, .int 0])), (q1, .inl (c1, (48, .inr (.inl (fun _ => 0))))), (q2, .inl (c2, (48, .inr (.inl (fun _ => 0))))), (q3, .inl (c3, (48, .inl (fun _ => 0)))), (q4, .inl (c4, (48, .inl (fun _ => 0)))), (q5, .inl (c5, (48, .inl (fun _ => 0)))), (q6, .inl (c6, (48, .inl (fun _ => 0)))), (q7, .inl (c7, (48, .inl (fun _ => 0)))), (q8, .inl (c8, (8, .inl (fun _ => 0)))), (q9, .inl (c9, (12, .inl (fun _ => 0)))), (q10, .inl (c10, (12, .inl (fun _ => 0)))), (q11, .inl (c11, (12, .inl (fun _ => 0))))] := hD
  refine lv_aload_n hx hb dX0_init_92 rfl (lv_at hl 0 rfl) ?_
  refine lv_iconst (v := (-1)) hx hb dX0_init_93 (by decide) ?_
  refine va_put (D := (dC, dI)) (ci := 0) (v := .int (-1)) (ty := .int) (C := RX0) (T := TX0) (N := 17) hx hb hg inX0 tyX0 tyX0_ok nmX0 hown hK hP hD hS 0 rfl rfl 16 (by decide) (hg _ w_35) (fun _ h9 => h9) rfl (by decide +kernel) rfl rfl (Nat.le_of_ble_eq_true rfl) dX0_init_94 (fun H locs hP hD hS => ?_)
  have hP : va_P (dC, dI) vwCl [(h0, .inr (0, [.ref q1, .ref q2, .ref q3, .ref q4, .ref q5, .ref q6, .ref q7, .ref q8, .ref q9, .ref q10, .ref q11, .int 0, .int 0, .int 0, .int 0, .int 0, .int (-1)])), (q1, .inl (c1, (48, .inr (.inl (fun _ => 0))))), (q2, .inl (c2, (48, .inr (.inl (fun _ => 0))))), (q3, .inl (c3, (48, .inl (fun _ => 0)))), (q4, .inl (c4, (48, .inl (fun _ => 0)))), (q5, .inl (c5, (48, .inl (fun _ => 0)))), (q6, .inl (c6, (48, .inl (fun _ => 0)))), (q7, .inl (c7, (48, .inl (fun _ => 0)))), (q8, .inl (c8, (8, .inl (fun _ => 0)))), (q9, .inl (c9, (12, .inl (fun _ => 0)))), (q10, .inl (c10, (12, .inl (fun _ => 0)))), (q11, .inl (c11, (12, .inl (fun _ => 0))))] H := hP
  have hD : va_D A [(h0, .inr (0, [.ref q1, .ref q2, .ref q3, .ref q4, .ref q5, .ref q6, .ref q7, .ref q8, .ref q9, .ref q10, .ref q11, .int 0, .int 0, .int 0, .int 0, .int 0, .int (-1)])), (q1, .inl (c1, (48, .inr (.inl (fun _ => 0))))), (q2, .inl (c2, (48, .inr (.inl (fun _ => 0))))), (q3, .inl (c3, (48, .inl (fun _ => 0)))), (q4, .inl (c4, (48, .inl (fun _ => 0)))), (q5, .inl (c5, (48, .inl (fun _ => 0)))), (q6, .inl (c6, (48, .inl (fun _ => 0)))), (q7, .inl (c7, (48, .inl (fun _ => 0)))), (q8, .inl (c8, (8, .inl (fun _ => 0)))), (q9, .inl (c9, (12, .inl (fun _ => 0)))), (q10, .inl (c10, (12, .inl (fun _ => 0)))), (q11, .inl (c11, (12, .inl (fun _ => 0))))] := hD
  have hP9 := hP.sub (ws' := ws_sl (fun i => [h0, q1, q2, q3, q4, q5, q6, q7, q8, q9, q10, q11].getD i 0) (fun i => [0, c1, c2, c3, c4, c5, c6, c7, c8, c9, c10, c11].getD i 0) (fun _ => 0) (fun _ => 0) (fun _ => 0) (fun _ => 0) (fun _ => 0) (fun _ => 0) (fun _ => 0) (fun _ => 0) (fun _ => 0) (fun _ => 0) (fun _ => 0) 0 0 0 0 0 (-1)) [0, 1, 2, 3, 4, 5, 6, 7, 8, 9, 10, 11] rfl
  have hD9 := hD.sub (ws' := ws_sl (fun i => [h0, q1, q2, q3, q4, q5, q6, q7, q8, q9, q10, q11].getD i 0) (fun i => [0, c1, c2, c3, c4, c5, c6, c7, c8, c9, c10, c11].getD i 0) (fun _ => 0) (fun _ => 0) (fun _ => 0) (fun _ => 0) (fun _ => 0) (fun _ => 0) (fun _ => 0) (fun _ => 0) (fun _ => 0) (fun _ => 0) (fun _ => 0) 0 0 0 0 0 (-1)) [0, 1, 2, 3, 4, 5, 6, 7, 8, 9, 10, 11] (by decide) rfl
  have hK9 := hK.sub (tys' := ty_sl (fun i => [0, c1, c2, c3, c4, c5, c6, c7, c8, c9, c10, c11].getD i 0)) [0, 1, 2, 3, 4, 5, 6, 7, 8, 9, 10] rfl
  refine W.widen (k := 11) (n := 380) (by decide) (by decide) ?_
  exact W.vret hx hb hr (fun t ht hW => ⟨⟨(fun i => [h0, q1, q2, q3, q4, q5, q6, q7, q8, q9, q10, q11].getD i 0, fun i => [0, c1, c2, c3, c4, c5, c6, c7, c8, c9, c10, c11].getD i 0), rfl, rfl, by rw [ht]; exact hP9, va_K.moved hW.alike hK9, hD9⟩, hS.F ht⟩) hS.2.2 dX0_init_97
set_option maxHeartbeats 4000000 in
set_option maxRecDepth 100000 in
theorem cs_requirePlace (l : Launch) (dC : Nat → ClassId) (dI : Nat → Nat → Nat)   (p1 : Int32)  (hok : sl_requirePlace p1 = .inl ()) : Met l yX0_requirePlace wsX0_requirePlace ({ frames := 6, cells := 0, slots := 0, locals := 82 } : Room) (va_Pc [.int p1] (fun _ => True)) (va_Qv (fun (_ : Unit) => True) (fun (_ : Unit) t => True) ((fun _ => False))) 0 0 ((fun _ => False)) := by
  refine Met.ofW (cc := cX0_requirePlace) (maxL := 1) (ret := none) (by decide) rfl ?_
  intro p e s m args below meth c s₁ B hml hv
  obtain ⟨rfl, -⟩ := hv
  have hx := B.exec
  have hb := B.bytes
  have hr := B.returns
  have hts := atoms_spec (ws := wsX0_requirePlace) B.pre
  have hg : ∀ w ∈ gw, w.before _ s = true := fun w h => hts w (List.mem_cons_of_mem _ h)
  have hown : s.vm.findClass RX0 = some m.cls := findClass_of_methodNamed B.named
  have hlocks := B.notSynchronized
  refine w_in (fun H locs eH eL => ?_)
  have hS : va_S (fun _ => False) s.heap H locs := by rw [eH, eL]; exact va_S.rf
  have hP : va_P (dC, dI) vwCl [] H := fun k q h => by simp at h
  clear eH eL
  have hl := lv_entry ([.int p1]) (n := 1) (Nat.le_of_ble_eq_true rfl)
  rw [lg_entry_eq]
  generalize (lg_sl ([.int p1]) ++ List.replicate (1 - (lg_sl ([.int p1])).length) Slot.unset).toArray = ls at hl ⊢
  have hl : lv_has ls 1 [(0, .int p1)] := hl
  refine lv_iload_n hx hb dX0_requirePlace_0 rfl (lv_at hl 0 rfl) ?_
  refine lv_if_lt (tgt := 10) hx hb dX0_requirePlace_1 (by decide) (fun c_1 => ?_) (fun c_1 => ?_)
  · have hw : sl_requirePlace p1 = .inr xIO := by unfold sl_requirePlace; rw [if_pos c_1]; try rfl
    exact absurd (hw.symm.trans hok) (by intro h9; cases h9)
  · refine lv_iload_n hx hb dX0_requirePlace_4 rfl (lv_at hl 0 rfl) ?_
    refine lv_bipush (v := 28) hx hb dX0_requirePlace_5 (by decide) ?_
    refine lv_icmp_lt (tgt := 20) hx hb dX0_requirePlace_7 (by decide) (fun c_7 => ?_) (fun c_7 => ?_)
    · have hw : sl_requirePlace p1 = .inl () := by unfold sl_requirePlace; rw [if_neg c_1, if_pos c_7]; try rfl
      exact W.vret hx hb hr (fun t ht hW => ⟨⟨(), rfl, trivial, trivial⟩, hS.F ht⟩) hS.2.2 dX0_requirePlace_20
    · have hw : sl_requirePlace p1 = .inr xIO := by unfold sl_requirePlace; rw [if_neg c_1, if_neg c_7]; try rfl
      exact absurd (hw.symm.trans hok) (by intro h9; cases h9)
set_option maxHeartbeats 4000000 in
set_option maxRecDepth 100000 in
theorem cs_requirePlace_x (l : Launch) (hl9 : l.stackTraces = false) (dC : Nat → ClassId) (dI : Nat → Nat → Nat)  (sx : Nat → Nat) (sz : Nat)  (p1 : Int32) (E9 : String) (hno : sl_requirePlace p1 = .inr E9) : vx_Met l yX0_requirePlace wsX0_requirePlace ({ frames := 6, cells := 1, slots := 6, locals := 82 } : Room) (va_Pc [.int p1] (prx0 sz sx)) (va_Qv (fun (_ : Unit) => False) (fun (_ : Unit) _ => True) (va_A (([] : va_W)) sz)) (vx_X (fun _ : Unit => True) (fun E _ t => E = E9) (va_A (([] : va_W)) sz)) 1 6 (va_A (([] : va_W)) sz) := by
  refine vx_ofW (cc := cX0_requirePlace) (maxL := 1) (ret := none) (by decide) rfl ?_
  intro p e s m args below meth c s₁ B hml hEx hv
  obtain ⟨rfl, hsz, hX9⟩ := hv
  have hx := B.exec
  have hb := B.bytes
  have hr := B.returns
  have hts := atoms_spec (ws := wsX0_requirePlace) B.pre
  have hg : ∀ w ∈ gw, w.before _ s = true := fun w h => hts w (List.mem_cons_of_mem _ h)
  have hown : s.vm.findClass RX0 = some m.cls := findClass_of_methodNamed B.named
  have hlocks := B.notSynchronized
  subst hsz
  generalize hAe : va_A (([] : va_W)) s.heap.size = A at hX9 ⊢
  have hA : ∀ q : Nat, s.heap.size ≤ q → A q := fun q h => by rw [← hAe]; exact Or.inr h
  clear hAe
  refine w_in (fun H locs eH eL => ?_)
  have hS : va_S A s.heap H locs := by rw [eH, eL]; exact va_S.rf
  have hP : va_P (dC, dI) vwCl [] H := fun k q h => by simp at h
  have hD : va_D A ([] : va_W) := ⟨fun i j p q h => by simp at h, fun k q h => by simp at h⟩
  clear eH eL
  have hl := lv_entry ([.int p1]) (n := 1) (Nat.le_of_ble_eq_true rfl)
  rw [lg_entry_eq]
  generalize (lg_sl ([.int p1]) ++ List.replicate (1 - (lg_sl ([.int p1])).length) Slot.unset).toArray = ls at hl ⊢
  have hl : lv_has ls 1 [(0, .int p1)] := hl
  refine lv_iload_n hx hb dX0_requirePlace_0 rfl (lv_at hl 0 rfl) ?_
  refine lv_if_lt (tgt := 10) hx hb dX0_requirePlace_1 (by decide) (fun c_1 => ?_) (fun c_1 => ?_)
  · have hw : sl_requirePlace p1 = .inr xIO := by unfold sl_requirePlace; rw [if_pos c_1]; try rfl
    have he := Sum.inr.inj (hno.symm.trans hw)
    exact vx_throwS (own := RX0) (cls := "java/lang/IndexOutOfBoundsException") (names := ["java/lang/RuntimeException", "java/lang/Exception"]) hx hb hl9 hown (by decide +kernel) (by decide +kernel) (hg _ w_109) (hg _ w_6) (hX9.2.2.1 (150, "no such place") (by decide +kernel)) (hat_xIO_93 hg hX9) (by decide +kernel) hX9.1 hX9.2.1 hS (hl.1.trans hml.symm) dX0_requirePlace_10 dX0_requirePlace_13 dX0_requirePlace_14 dX0_requirePlace_16 dX0_requirePlace_19 (fun x hx => (hEx x hx).elim) (Nat.le_of_ble_eq_true rfl) (Nat.le_of_ble_eq_true rfl) (Nat.le_of_ble_eq_true rfl) (Nat.le_of_ble_eq_true rfl) hlocks (fun t ha hsz hk => ⟨(), trivial, he.symm, Nat.le_trans hS.1 hsz, fun q h1 h2 => (hk q (Nat.lt_of_lt_of_le h1 hS.1)).trans (hS.2.1 q h1 h2)⟩) hS.2.2 (Nat.le_of_ble_eq_true rfl) (Nat.le_of_ble_eq_true rfl)
  · refine lv_iload_n hx hb dX0_requirePlace_4 rfl (lv_at hl 0 rfl) ?_
    refine lv_bipush (v := 28) hx hb dX0_requirePlace_5 (by decide) ?_
    refine lv_icmp_lt (tgt := 20) hx hb dX0_requirePlace_7 (by decide) (fun c_7 => ?_) (fun c_7 => ?_)
    · exfalso
      have h9 := hno
      unfold sl_requirePlace at h9
      rw [if_neg c_1, if_pos c_7] at h9
      first | (cases h9; done) | ((repeat' split at h9) <;> cases h9)
    · have hw : sl_requirePlace p1 = .inr xIO := by unfold sl_requirePlace; rw [if_neg c_1, if_neg c_7]; try rfl
      have he := Sum.inr.inj (hno.symm.trans hw)
      exact vx_throwS (own := RX0) (cls := "java/lang/IndexOutOfBoundsException") (names := ["java/lang/RuntimeException", "java/lang/Exception"]) hx hb hl9 hown (by decide +kernel) (by decide +kernel) (hg _ w_109) (hg _ w_6) (hX9.2.2.1 (150, "no such place") (by decide +kernel)) (hat_xIO_93 hg hX9) (by decide +kernel) hX9.1 hX9.2.1 hS (hl.1.trans hml.symm) dX0_requirePlace_10 dX0_requirePlace_13 dX0_requirePlace_14 dX0_requirePlace_16 dX0_requirePlace_19 (fun x hx => (hEx x hx).elim) (Nat.le_of_ble_eq_true rfl) (Nat.le_of_ble_eq_true rfl) (Nat.le_of_ble_eq_true rfl) (Nat.le_of_ble_eq_true rfl) hlocks (fun t ha hsz hk => ⟨(), trivial, he.symm, Nat.le_trans hS.1 hsz, fun q h1 h2 => (hk q (Nat.lt_of_lt_of_le h1 hS.1)).trans (hS.2.1 q h1 h2)⟩) hS.2.2 (Nat.le_of_ble_eq_true rfl) (Nat.le_of_ble_eq_true rfl)
set_option maxHeartbeats 4000000 in
set_option maxRecDepth 100000 in
theorem cs_requireArray (l : Launch) (dC : Nat → ClassId) (dI : Nat → Nat → Nat)   (p1 : Int32)  (hok : sl_requireArray p1 = .inl ()) : Met l yX0_requireArray wsX0_requireArray ({ frames := 6, cells := 0, slots := 0, locals := 82 } : Room) (va_Pc [.int p1] (fun _ => True)) (va_Qv (fun (_ : Unit) => True) (fun (_ : Unit) t => True) ((fun _ => False))) 0 0 ((fun _ => False)) := by
  refine Met.ofW (cc := cX0_requireArray) (maxL := 1) (ret := none) (by decide) rfl ?_
  intro p e s m args below meth c s₁ B hml hv
  obtain ⟨rfl, -⟩ := hv
  have hx := B.exec
  have hb := B.bytes
  have hr := B.returns
  have hts := atoms_spec (ws := wsX0_requireArray) B.pre
  have hg : ∀ w ∈ gw, w.before _ s = true := fun w h => hts w (List.mem_cons_of_mem _ h)
  have hown : s.vm.findClass RX0 = some m.cls := findClass_of_methodNamed B.named
  have hlocks := B.notSynchronized
  refine w_in (fun H locs eH eL => ?_)
  have hS : va_S (fun _ => False) s.heap H locs := by rw [eH, eL]; exact va_S.rf
  have hP : va_P (dC, dI) vwCl [] H := fun k q h => by simp at h
  clear eH eL
  have hl := lv_entry ([.int p1]) (n := 1) (Nat.le_of_ble_eq_true rfl)
  rw [lg_entry_eq]
  generalize (lg_sl ([.int p1]) ++ List.replicate (1 - (lg_sl ([.int p1])).length) Slot.unset).toArray = ls at hl ⊢
  have hl : lv_has ls 1 [(0, .int p1)] := hl
  refine lv_iload_n hx hb dX0_requireArray_0 rfl (lv_at hl 0 rfl) ?_
  refine lv_if_lt (tgt := 10) hx hb dX0_requireArray_1 (by decide) (fun c_1 => ?_) (fun c_1 => ?_)
  · have hw : sl_requireArray p1 = .inr xIO := by unfold sl_requireArray; rw [if_pos c_1]; try rfl
    exact absurd (hw.symm.trans hok) (by intro h9; cases h9)
  · refine lv_iload_n hx hb dX0_requireArray_4 rfl (lv_at hl 0 rfl) ?_
    refine lv_bipush (v := 8) hx hb dX0_requireArray_5 (by decide) ?_
    refine lv_icmp_lt (tgt := 20) hx hb dX0_requireArray_7 (by decide) (fun c_7 => ?_) (fun c_7 => ?_)
    · have hw : sl_requireArray p1 = .inl () := by unfold sl_requireArray; rw [if_neg c_1, if_pos c_7]; try rfl
      exact W.vret hx hb hr (fun t ht hW => ⟨⟨(), rfl, trivial, trivial⟩, hS.F ht⟩) hS.2.2 dX0_requireArray_20
    · have hw : sl_requireArray p1 = .inr xIO := by unfold sl_requireArray; rw [if_neg c_1, if_neg c_7]; try rfl
      exact absurd (hw.symm.trans hok) (by intro h9; cases h9)
set_option maxHeartbeats 4000000 in
set_option maxRecDepth 100000 in
theorem cs_requireArray_x (l : Launch) (hl9 : l.stackTraces = false) (dC : Nat → ClassId) (dI : Nat → Nat → Nat)  (sx : Nat → Nat) (sz : Nat)  (p1 : Int32) (E9 : String) (hno : sl_requireArray p1 = .inr E9) : vx_Met l yX0_requireArray wsX0_requireArray ({ frames := 6, cells := 1, slots := 6, locals := 82 } : Room) (va_Pc [.int p1] (prx0 sz sx)) (va_Qv (fun (_ : Unit) => False) (fun (_ : Unit) _ => True) (va_A (([] : va_W)) sz)) (vx_X (fun _ : Unit => True) (fun E _ t => E = E9) (va_A (([] : va_W)) sz)) 1 6 (va_A (([] : va_W)) sz) := by
  refine vx_ofW (cc := cX0_requireArray) (maxL := 1) (ret := none) (by decide) rfl ?_
  intro p e s m args below meth c s₁ B hml hEx hv
  obtain ⟨rfl, hsz, hX9⟩ := hv
  have hx := B.exec
  have hb := B.bytes
  have hr := B.returns
  have hts := atoms_spec (ws := wsX0_requireArray) B.pre
  have hg : ∀ w ∈ gw, w.before _ s = true := fun w h => hts w (List.mem_cons_of_mem _ h)
  have hown : s.vm.findClass RX0 = some m.cls := findClass_of_methodNamed B.named
  have hlocks := B.notSynchronized
  subst hsz
  generalize hAe : va_A (([] : va_W)) s.heap.size = A at hX9 ⊢
  have hA : ∀ q : Nat, s.heap.size ≤ q → A q := fun q h => by rw [← hAe]; exact Or.inr h
  clear hAe
  refine w_in (fun H locs eH eL => ?_)
  have hS : va_S A s.heap H locs := by rw [eH, eL]; exact va_S.rf
  have hP : va_P (dC, dI) vwCl [] H := fun k q h => by simp at h
  have hD : va_D A ([] : va_W) := ⟨fun i j p q h => by simp at h, fun k q h => by simp at h⟩
  clear eH eL
  have hl := lv_entry ([.int p1]) (n := 1) (Nat.le_of_ble_eq_true rfl)
  rw [lg_entry_eq]
  generalize (lg_sl ([.int p1]) ++ List.replicate (1 - (lg_sl ([.int p1])).length) Slot.unset).toArray = ls at hl ⊢
  have hl : lv_has ls 1 [(0, .int p1)] := hl
  refine lv_iload_n hx hb dX0_requireArray_0 rfl (lv_at hl 0 rfl) ?_
  refine lv_if_lt (tgt := 10) hx hb dX0_requireArray_1 (by decide) (fun c_1 => ?_) (fun c_1 => ?_)
  · have hw : sl_requireArray p1 = .inr xIO := by unfold sl_requireArray; rw [if_pos c_1]; try rfl
    have he := Sum.inr.inj (hno.symm.trans hw)
    exact vx_throwS (own := RX0) (cls := "java/lang/IndexOutOfBoundsException") (names := ["java/lang/RuntimeException", "java/lang/Exception"]) hx hb hl9 hown (by decide +kernel) (by decide +kernel) (hg _ w_109) (hg _ w_6) (hX9.2.2.1 (152, "no such array") (by decide +kernel)) (hat_xIO_93 hg hX9) (by decide +kernel) hX9.1 hX9.2.1 hS (hl.1.trans hml.symm) dX0_requireArray_10 dX0_requireArray_13 dX0_requireArray_14 dX0_requireArray_16 dX0_requireArray_19 (fun x hx => (hEx x hx).elim) (Nat.le_of_ble_eq_true rfl) (Nat.le_of_ble_eq_true rfl) (Nat.le_of_ble_eq_true rfl) (Nat.le_of_ble_eq_true rfl) hlocks (fun t ha hsz hk => ⟨(), trivial, he.symm, Nat.le_trans hS.1 hsz, fun q h1 h2 => (hk q (Nat.lt_of_lt_of_le h1 hS.1)).trans (hS.2.1 q h1 h2)⟩) hS.2.2 (Nat.le_of_ble_eq_true rfl) (Nat.le_of_ble_eq_true rfl)
  · refine lv_iload_n hx hb dX0_requireArray_4 rfl (lv_at hl 0 rfl) ?_
    refine lv_bipush (v := 8) hx hb dX0_requireArray_5 (by decide) ?_
    refine lv_icmp_lt (tgt := 20) hx hb dX0_requireArray_7 (by decide) (fun c_7 => ?_) (fun c_7 => ?_)
    · exfalso
      have h9 := hno
      unfold sl_requireArray at h9
      rw [if_neg c_1, if_pos c_7] at h9
      first | (cases h9; done) | ((repeat' split at h9) <;> cases h9)
    · have hw : sl_requireArray p1 = .inr xIO := by unfold sl_requireArray; rw [if_neg c_1, if_neg c_7]; try rfl
      have he := Sum.inr.inj (hno.symm.trans hw)
      exact vx_throwS (own := RX0) (cls := "java/lang/IndexOutOfBoundsException") (names := ["java/lang/RuntimeException", "java/lang/Exception"]) hx hb hl9 hown (by decide +kernel) (by decide +kernel) (hg _ w_109) (hg _ w_6) (hX9.2.2.1 (152, "no such array") (by decide +kernel)) (hat_xIO_93 hg hX9) (by decide +kernel) hX9.1 hX9.2.1 hS (hl.1.trans hml.symm) dX0_requireArray_10 dX0_requireArray_13 dX0_requireArray_14 dX0_requireArray_16 dX0_requireArray_19 (fun x hx => (hEx x hx).elim) (Nat.le_of_ble_eq_true rfl) (Nat.le_of_ble_eq_true rfl) (Nat.le_of_ble_eq_true rfl) (Nat.le_of_ble_eq_true rfl) hlocks (fun t ha hsz hk => ⟨(), trivial, he.symm, Nat.le_trans hS.1 hsz, fun q h1 h2 => (hk q (Nat.lt_of_lt_of_le h1 hS.1)).trans (hS.2.1 q h1 h2)⟩) hS.2.2 (Nat.le_of_ble_eq_true rfl) (Nat.le_of_ble_eq_true rfl)
set_option maxHeartbeats 4000000 in
set_option maxRecDepth 100000 in
theorem cs_requireReadable (l : Launch) (dC : Nat → ClassId) (dI : Nat → Nat → Nat)   (p1 : Int32)  (hok : sl_requireReadable p1 = .inl ()) : Met l yX0_requireReadable wsX0_requireReadable ({ frames := 6, cells := 0, slots := 0, locals := 82 } : Room) (va_Pc [.int p1] (fun _ => True)) (va_Qv (fun (_ : Unit) => True) (fun (_ : Unit) t => True) ((fun _ => False))) 0 0 ((fun _ => False)) := by
  refine Met.ofW (cc := cX0_requireReadable) (maxL := 1) (ret := none) (by decide) rfl ?_
  intro p e s m args below meth c s₁ B hml hv
  obtain ⟨rfl, -⟩ := hv
  have hx := B.exec
  have hb := B.bytes
  have hr := B.returns
  have hts := atoms_spec (ws := wsX0_requireReadable) B.pre
  have hg : ∀ w ∈ gw, w.before _ s = true := fun w h => hts w (List.mem_cons_of_mem _ h)
  have hown : s.vm.findClass RX0 = some m.cls := findClass_of_methodNamed B.named
  have hlocks := B.notSynchronized
  refine w_in (fun H locs eH eL => ?_)
  have hS : va_S (fun _ => False) s.heap H locs := by rw [eH, eL]; exact va_S.rf
  have hP : va_P (dC, dI) vwCl [] H := fun k q h => by simp at h
  clear eH eL
  have hl := lv_entry ([.int p1]) (n := 1) (Nat.le_of_ble_eq_true rfl)
  rw [lg_entry_eq]
  generalize (lg_sl ([.int p1]) ++ List.replicate (1 - (lg_sl ([.int p1])).length) Slot.unset).toArray = ls at hl ⊢
  have hl : lv_has ls 1 [(0, .int p1)] := hl
  refine lv_iload_n hx hb dX0_requireReadable_0 rfl (lv_at hl 0 rfl) ?_
  refine lv_bipush (v := 28) hx hb dX0_requireReadable_1 (by decide) ?_
  refine lv_iushr (v := iu p1 28) hx hb dX0_requireReadable_3 rfl ?_
  refine lv_if_eq (tgt := 17) hx hb dX0_requireReadable_4 (by decide) (fun c_4 => ?_) (fun c_4 => ?_)
  · have hw : sl_requireReadable p1 = .inl () := by unfold sl_requireReadable; rw [if_pos c_4]; try rfl
    exact W.vret hx hb hr (fun t ht hW => ⟨⟨(), rfl, trivial, trivial⟩, hS.F ht⟩) hS.2.2 dX0_requireReadable_17
  · have hw : sl_requireReadable p1 = .inr xIO := by unfold sl_requireReadable; rw [if_neg c_4]; try rfl
    exact absurd (hw.symm.trans hok) (by intro h9; cases h9)
set_option maxHeartbeats 4000000 in
set_option maxRecDepth 100000 in
theorem cs_requireReadable_x (l : Launch) (hl9 : l.stackTraces = false) (dC : Nat → ClassId) (dI : Nat → Nat → Nat)  (sx : Nat → Nat) (sz : Nat)  (p1 : Int32) (E9 : String) (hno : sl_requireReadable p1 = .inr E9) : vx_Met l yX0_requireReadable wsX0_requireReadable ({ frames := 6, cells := 1, slots := 6, locals := 82 } : Room) (va_Pc [.int p1] (prx0 sz sx)) (va_Qv (fun (_ : Unit) => False) (fun (_ : Unit) _ => True) (va_A (([] : va_W)) sz)) (vx_X (fun _ : Unit => True) (fun E _ t => E = E9) (va_A (([] : va_W)) sz)) 1 6 (va_A (([] : va_W)) sz) := by
  refine vx_ofW (cc := cX0_requireReadable) (maxL := 1) (ret := none) (by decide) rfl ?_
  intro p e s m args below meth c s₁ B hml hEx hv
  obtain ⟨rfl, hsz, hX9⟩ := hv
  have hx := B.exec
  have hb := B.bytes
  have hr := B.returns
  have hts := atoms_spec (ws := wsX0_requireReadable) B.pre
  have hg : ∀ w ∈ gw, w.before _ s = true := fun w h => hts w (List.mem_cons_of_mem _ h)
  have hown : s.vm.findClass RX0 = some m.cls := findClass_of_methodNamed B.named
  have hlocks := B.notSynchronized
  subst hsz
  generalize hAe : va_A (([] : va_W)) s.heap.size = A at hX9 ⊢
  have hA : ∀ q : Nat, s.heap.size ≤ q → A q := fun q h => by rw [← hAe]; exact Or.inr h
  clear hAe
  refine w_in (fun H locs eH eL => ?_)
  have hS : va_S A s.heap H locs := by rw [eH, eL]; exact va_S.rf
  have hP : va_P (dC, dI) vwCl [] H := fun k q h => by simp at h
  have hD : va_D A ([] : va_W) := ⟨fun i j p q h => by simp at h, fun k q h => by simp at h⟩
  clear eH eL
  have hl := lv_entry ([.int p1]) (n := 1) (Nat.le_of_ble_eq_true rfl)
  rw [lg_entry_eq]
  generalize (lg_sl ([.int p1]) ++ List.replicate (1 - (lg_sl ([.int p1])).length) Slot.unset).toArray = ls at hl ⊢
  have hl : lv_has ls 1 [(0, .int p1)] := hl
  refine lv_iload_n hx hb dX0_requireReadable_0 rfl (lv_at hl 0 rfl) ?_
  refine lv_bipush (v := 28) hx hb dX0_requireReadable_1 (by decide) ?_
  refine lv_iushr (v := iu p1 28) hx hb dX0_requireReadable_3 rfl ?_
  refine lv_if_eq (tgt := 17) hx hb dX0_requireReadable_4 (by decide) (fun c_4 => ?_) (fun c_4 => ?_)
  · exfalso
    have h9 := hno
    unfold sl_requireReadable at h9
    rw [if_pos c_4] at h9
    first | (cases h9; done) | ((repeat' split at h9) <;> cases h9)
  · have hw : sl_requireReadable p1 = .inr xIO := by unfold sl_requireReadable; rw [if_neg c_4]; try rfl
    have he := Sum.inr.inj (hno.symm.trans hw)
    exact vx_throwS (own := RX0) (cls := "java/lang/IndexOutOfBoundsException") (names := ["java/lang/RuntimeException", "java/lang/Exception"]) hx hb hl9 hown (by decide +kernel) (by decide +kernel) (hg _ w_109) (hg _ w_6) (hX9.2.2.1 (154, "bits that are no place") (by decide +kernel)) (hat_xIO_93 hg hX9) (by decide +kernel) hX9.1 hX9.2.1 hS (hl.1.trans hml.symm) dX0_requireReadable_7 dX0_requireReadable_10 dX0_requireReadable_11 dX0_requireReadable_13 dX0_requireReadable_16 (fun x hx => (hEx x hx).elim) (Nat.le_of_ble_eq_true rfl) (Nat.le_of_ble_eq_true rfl) (Nat.le_of_ble_eq_true rfl) (Nat.le_of_ble_eq_true rfl) hlocks (fun t ha hsz hk => ⟨(), trivial, he.symm, Nat.le_trans hS.1 hsz, fun q h1 h2 => (hk q (Nat.lt_of_lt_of_le h1 hS.1)).trans (hS.2.1 q h1 h2)⟩) hS.2.2 (Nat.le_of_ble_eq_true rfl) (Nat.le_of_ble_eq_true rfl)
set_option maxHeartbeats 4000000 in
set_option maxRecDepth 100000 in
theorem cs_validitiesOf (l : Launch) (dC : Nat → ClassId) (dI : Nat → Nat → Nat)   (p1 : Int32) : Met l yX0_validitiesOf wsX0_validitiesOf ({ frames := 0, cells := 0, slots := 0, locals := 0 } : Room) (va_Pc [.int p1] (fun _ => True)) (va_Ql (fun (r : Int64) (_ : Unit) => r = sl_validitiesOf p1) (fun (_ : Unit) t => True) ((fun _ => False))) 0 0 ((fun _ => False)) := by
  refine Met.ofW (cc := cX0_validitiesOf) (maxL := 1) (ret := (some .long)) (by decide) rfl ?_
  intro p e s m args below meth c s₁ B hml hv
  obtain ⟨rfl, -⟩ := hv
  have hx := B.exec
  have hb := B.bytes
  have hr := B.returns
  have hts := atoms_spec (ws := wsX0_validitiesOf) B.pre
  have hg : ∀ w ∈ gw, w.before _ s = true := fun w h => hts w (List.mem_cons_of_mem _ h)
  have hown : s.vm.findClass RX0 = some m.cls := findClass_of_methodNamed B.named
  have hlocks := B.notSynchronized
  refine w_in (fun H locs eH eL => ?_)
  have hS : va_S (fun _ => False) s.heap H locs := by rw [eH, eL]; exact va_S.rf
  have hP : va_P (dC, dI) vwCl [] H := fun k q h => by simp at h
  clear eH eL
  have hl := lv_entry ([.int p1]) (n := 1) (Nat.le_of_ble_eq_true rfl)
  rw [lg_entry_eq]
  generalize (lg_sl ([.int p1]) ++ List.replicate (1 - (lg_sl ([.int p1])).length) Slot.unset).toArray = ls at hl ⊢
  have hl : lv_has ls 1 [(0, .int p1)] := hl
  refine lv_iload_n hx hb dX0_validitiesOf_0 rfl (lv_at hl 0 rfl) ?_
  refine lv_bipush (v := 16) hx hb dX0_validitiesOf_1 (by decide) ?_
  refine lv_iushr (v := iu p1 16) hx hb dX0_validitiesOf_3 rfl ?_
  refine lv_i2l hx hb dX0_validitiesOf_4 rfl ?_
  refine lv_bipush (v := 28) hx hb dX0_validitiesOf_5 (by decide) ?_
  refine lv_lshl (v := jl ((iu p1 16).toInt64) 28) hx hb dX0_validitiesOf_7 rfl ?_
  have hw : (jl ((iu p1 16).toInt64) 28) = sl_validitiesOf p1 := rfl
  exact W.lret (v := jl ((iu p1 16).toInt64) 28) hx hb hr (fun t ht hW => ⟨⟨(jl ((iu p1 16).toInt64) 28), (), rfl, hw, trivial⟩, hS.F ht⟩) hS.2.2 dX0_validitiesOf_8
set_option maxHeartbeats 4000000 in
set_option maxRecDepth 100000 in
theorem cs_reading (l : Launch) (dC : Nat → ClassId) (dI : Nat → Nat → Nat)   (p1 : Int32) : Met l yX0_reading wsX0_reading ({ frames := 1, cells := 0, slots := 0, locals := 20 } : Room) (va_Pc [.int p1] (fun _ => True)) (va_Ql (fun (r : Int64) (_ : Unit) => r = sl_reading p1) (fun (_ : Unit) t => True) ((fun _ => False))) 0 0 ((fun _ => False)) := by
  refine Met.ofW (cc := cX0_reading) (maxL := 1) (ret := (some .long)) (by decide) rfl ?_
  intro p e s m args below meth c s₁ B hml hv
  obtain ⟨rfl, -⟩ := hv
  have hx := B.exec
  have hb := B.bytes
  have hr := B.returns
  have hts := atoms_spec (ws := wsX0_reading) B.pre
  have hg : ∀ w ∈ gw, w.before _ s = true := fun w h => hts w (List.mem_cons_of_mem _ h)
  have hown : s.vm.findClass RX0 = some m.cls := findClass_of_methodNamed B.named
  have hlocks := B.notSynchronized
  refine w_in (fun H locs eH eL => ?_)
  have hS : va_S (fun _ => False) s.heap H locs := by rw [eH, eL]; exact va_S.rf
  have hP : va_P (dC, dI) vwCl [] H := fun k q h => by simp at h
  clear eH eL
  have hl := lv_entry ([.int p1]) (n := 1) (Nat.le_of_ble_eq_true rfl)
  rw [lg_entry_eq]
  generalize (lg_sl ([.int p1]) ++ List.replicate (1 - (lg_sl ([.int p1])).length) Slot.unset).toArray = ls at hl ⊢
  have hl : lv_has ls 1 [(0, .int p1)] := hl
  refine lv_iload_n hx hb dX0_reading_0 rfl (lv_at hl 0 rfl) ?_
  refine lv_i2l hx hb dX0_reading_1 rfl ?_
  refine lv_iload_n hx hb dX0_reading_2 rfl (lv_at hl 0 rfl) ?_
  refine va_calll (va_runS (As := [.int p1]) (rest := [.long p1.toInt64]) ⟨hx, hb, hml, hown, hg⟩ (cs_validitiesOf l dC dI p1) (va_cwS 1 hg (gi_S w_187 w_188 w_1 w_189) rfl rfl rfl (by decide +kernel) ⟨Nat.le_of_ble_eq_true rfl, Nat.le_of_ble_eq_true rfl⟩) ⟨(fun _ _ _ _ q => q), (fun _ _ _ => ⟨rfl, trivial⟩)⟩ rfl rfl hl.1 rfl (lv_room (Nat.le_of_ble_eq_true rfl)) dX0_reading_3 ⟨Nat.le_of_ble_eq_true rfl, Nat.le_of_ble_eq_true rfl⟩) hS (fun q _ h => False.elim h) (fun q h => False.elim h) (fun r_3 u t H1 locs ht hvm hw_3 hB hz1 hk1 hS => ?_)
  subst hw_3
  have hP := hP.kept (fun k q hq => hk1 q.1 (hP k q hq).lt (fun h => h))
  generalize H1 = H at hP hS ⊢
  refine lv_lor hx hb dX0_reading_6 ?_
  have hw : (p1.toInt64 ||| (sl_validitiesOf p1)) = sl_reading p1 := rfl
  exact W.lret (v := p1.toInt64 ||| (sl_validitiesOf p1)) hx hb hr (fun t ht hW => ⟨⟨(p1.toInt64 ||| (sl_validitiesOf p1)), (), rfl, hw, trivial⟩, hS.F ht⟩) hS.2.2 dX0_reading_7
set_option maxHeartbeats 4000000 in
set_option maxRecDepth 100000 in
theorem cs_readingAndWriting (l : Launch) (dC : Nat → ClassId) (dI : Nat → Nat → Nat)   (p1 p2 : Int32) : Met l yX0_readingAndWriting wsX0_readingAndWriting ({ frames := 2, cells := 0, slots := 0, locals := 40 } : Room) (va_Pc [.int p1, .int p2] (fun _ => True)) (va_Ql (fun (r : Int64) (_ : Unit) => r = sl_readingAndWriting p1 p2) (fun (_ : Unit) t => True) ((fun _ => False))) 0 0 ((fun _ => False)) := by
  refine Met.ofW (cc := cX0_readingAndWriting) (maxL := 2) (ret := (some .long)) (by decide) rfl ?_
  intro p e s m args below meth c s₁ B hml hv
  obtain ⟨rfl, -⟩ := hv
  have hx := B.exec
  have hb := B.bytes
  have hr := B.returns
  have hts := atoms_spec (ws := wsX0_readingAndWriting) B.pre
  have hg : ∀ w ∈ gw, w.before _ s = true := fun w h => hts w (List.mem_cons_of_mem _ h)
  have hown : s.vm.findClass RX0 = some m.cls := findClass_of_methodNamed B.named
  have hlocks := B.notSynchronized
  refine w_in (fun H locs eH eL => ?_)
  have hS : va_S (fun _ => False) s.heap H locs := by rw [eH, eL]; exact va_S.rf
  have hP : va_P (dC, dI) vwCl [] H := fun k q h => by simp at h
  clear eH eL
  have hl := lv_entry ([.int p1, .int p2]) (n := 2) (Nat.le_of_ble_eq_true rfl)
  rw [lg_entry_eq]
  generalize (lg_sl ([.int p1, .int p2]) ++ List.replicate (2 - (lg_sl ([.int p1, .int p2])).length) Slot.unset).toArray = ls at hl ⊢
  have hl : lv_has ls 2 [(0, .int p1), (1, .int p2)] := hl
  refine lv_iload_n hx hb dX0_readingAndWriting_0 rfl (lv_at hl 0 rfl) ?_
  refine va_calll (va_runS (As := [.int p1]) (rest := []) ⟨hx, hb, hml, hown, hg⟩ (cs_reading l dC dI p1) (va_cwS 1 hg (gi_S w_184 w_185 w_1 w_186) rfl rfl rfl (by decide +kernel) ⟨Nat.le_of_ble_eq_true rfl, Nat.le_of_ble_eq_true rfl⟩) ⟨(fun _ _ _ _ q => q), (fun _ _ _ => ⟨rfl, trivial⟩)⟩ rfl rfl hl.1 rfl (lv_room (Nat.le_of_ble_eq_true rfl)) dX0_readingAndWriting_1 ⟨Nat.le_of_ble_eq_true rfl, Nat.le_of_ble_eq_true rfl⟩) hS (fun q _ h => False.elim h) (fun q h => False.elim h) (fun r_1 u t H1 locs ht hvm hw_1 hB hz1 hk1 hS => ?_)
  subst hw_1
  have hP := hP.kept (fun k q hq => hk1 q.1 (hP k q hq).lt (fun h => h))
  generalize H1 = H at hP hS ⊢
  refine lv_iconst (v := 1) hx hb dX0_readingAndWriting_4 (by decide) ?_
  refine lv_iload_n hx hb dX0_readingAndWriting_5 rfl (lv_at hl 1 rfl) ?_
  refine lv_ishl hx hb dX0_readingAndWriting_6 ?_
  refine va_calll (va_runS (As := [.int (1 <<< (p2 &&& 31))]) (rest := [.long (sl_reading p1)]) ⟨hx, hb, hml, hown, hg⟩ (cs_validitiesOf l dC dI (1 <<< (p2 &&& 31))) (va_cwS 1 hg (gi_S w_187 w_188 w_1 w_189) rfl rfl rfl (by decide +kernel) ⟨Nat.le_of_ble_eq_true rfl, Nat.le_of_ble_eq_true rfl⟩) ⟨(fun _ _ _ _ q => q), (fun _ _ _ => ⟨rfl, trivial⟩)⟩ rfl rfl hl.1 rfl (lv_room (Nat.le_of_ble_eq_true rfl)) dX0_readingAndWriting_7 ⟨Nat.le_of_ble_eq_true rfl, Nat.le_of_ble_eq_true rfl⟩) hS (fun q _ h => False.elim h) (fun q h => False.elim h) (fun r_7 u t H1 locs ht hvm hw_7 hB hz1 hk1 hS => ?_)
  subst hw_7
  have hP := hP.kept (fun k q hq => hk1 q.1 (hP k q hq).lt (fun h => h))
  generalize H1 = H at hP hS ⊢
  refine lv_lor hx hb dX0_readingAndWriting_10 ?_
  have hw : ((sl_reading p1) ||| (sl_validitiesOf (1 <<< (p2 &&& 31)))) = sl_readingAndWriting p1 p2 := rfl
  exact W.lret (v := (sl_reading p1) ||| (sl_validitiesOf (1 <<< (p2 &&& 31)))) hx hb hr (fun t ht hW => ⟨⟨((sl_reading p1) ||| (sl_validitiesOf (1 <<< (p2 &&& 31)))), (), rfl, hw, trivial⟩, hS.F ht⟩) hS.2.2 dX0_readingAndWriting_11
set_option maxHeartbeats 4000000 in
set_option maxRecDepth 100000 in
theorem cs_costOf (l : Launch) (dC : Nat → ClassId) (dI : Nat → Nat → Nat)   (p1 : Int32) : Met l yX0_costOf wsX0_costOf ({ frames := 1, cells := 0, slots := 0, locals := 21 } : Room) (va_Pc [.int p1] (fun _ => True)) (va_Qi (fun (r : Int32) (_ : Unit) => r = sl_costOf p1) (fun (_ : Unit) t => True) ((fun _ => False))) 0 0 ((fun _ => False)) := by
  refine Met.ofW (cc := cX0_costOf) (maxL := 1) (ret := (some .int)) (by decide) rfl ?_
  intro p e s m args below meth c s₁ B hml hv
  obtain ⟨rfl, -⟩ := hv
  have hx := B.exec
  have hb := B.bytes
  have hr := B.returns
  have hts := atoms_spec (ws := wsX0_costOf) B.pre
  have hg : ∀ w ∈ gw, w.before _ s = true := fun w h => hts w (List.mem_cons_of_mem _ h)
  have hown : s.vm.findClass RX0 = some m.cls := findClass_of_methodNamed B.named
  have hlocks := B.notSynchronized
  refine w_in (fun H locs eH eL => ?_)
  have hS : va_S (fun _ => False) s.heap H locs := by rw [eH, eL]; exact va_S.rf
  have hP : va_P (dC, dI) vwCl [] H := fun k q h => by simp at h
  clear eH eL
  have hl := lv_entry ([.int p1]) (n := 1) (Nat.le_of_ble_eq_true rfl)
  rw [lg_entry_eq]
  generalize (lg_sl ([.int p1]) ++ List.replicate (1 - (lg_sl ([.int p1])).length) Slot.unset).toArray = ls at hl ⊢
  have hl : lv_has ls 1 [(0, .int p1)] := hl
  refine lv_iconst (v := 1) hx hb dX0_costOf_0 (by decide) ?_
  refine lv_iload_n hx hb dX0_costOf_1 rfl (lv_at hl 0 rfl) ?_
  refine va_calli (va_runS (As := [.int p1]) (rest := [.int 1]) ⟨hx, hb, hml, hown, hg⟩ (ci_count l dC dI p1) (va_cwS 1 hg (gi_S w_193 w_194 w_7 w_195) rfl rfl rfl (by decide +kernel) ⟨Nat.le_of_ble_eq_true rfl, Nat.le_of_ble_eq_true rfl⟩) ⟨(fun _ _ _ _ q => q), (fun _ _ _ => ⟨rfl, trivial⟩)⟩ rfl rfl hl.1 rfl (lv_room (Nat.le_of_ble_eq_true rfl)) dX0_costOf_2 ⟨Nat.le_of_ble_eq_true rfl, Nat.le_of_ble_eq_true rfl⟩) hS (fun q _ h => False.elim h) (fun q h => False.elim h) (fun r_2 u t H1 locs ht hvm hw_2 hB hz1 hk1 hS => ?_)
  subst hw_2
  have hP := hP.kept (fun k q hq => hk1 q.1 (hP k q hq).lt (fun h => h))
  generalize H1 = H at hP hS ⊢
  refine va_mmax hx hb (hml.trans hl.1.symm) hown (hg _ w_199) (hg _ w_200) (hg _ w_8) (hg _ w_201) (Nat.le_of_ble_eq_true rfl) (Nat.le_of_ble_eq_true rfl) (Nat.le_of_ble_eq_true rfl) (Nat.le_of_ble_eq_true rfl) dX0_costOf_5 ?_
  have hw : (if 1 < (ib_count p1) then (ib_count p1) else 1) = sl_costOf p1 := rfl
  exact W.iret (v := if 1 < (ib_count p1) then (ib_count p1) else 1) hx hb hr (fun t ht hW => ⟨⟨(if 1 < (ib_count p1) then (ib_count p1) else 1), (), rfl, hw, trivial⟩, hS.F ht⟩) hS.2.2 dX0_costOf_8
set_option maxHeartbeats 4000000 in
set_option maxRecDepth 100000 in
theorem cs_need (l : Launch) (dC : Nat → ClassId) (dI : Nat → Nat → Nat) (a : Nat → Nat) (k : Nat → ClassId) (sz : Nat) (rd wr : Nat → Int64) (ay ia mo wo so oi si mi wi : Nat → Int32) (ns nt nf np sl hs : Int32) (p1 p2 p3 : Int32) : Met l yX0_need wsX0_need ({ frames := 0, cells := 0, slots := 0, locals := 0 } : Room) (va_Pc [.ref (a 0), .int p1, .int p2, .int p3] (pr (dC, dI) (ws_sl a k rd wr ay ia mo wo so oi si mi wi ns nt nf np sl hs) (ty_sl k) sz)) (va_Qv (fun (u : (Nat → Int32) × (Nat → Int32)) => sl_need mo wo p1 p2 p3 = u) (fun (u : (Nat → Int32) × (Nat → Int32)) t => match u with | (mo', wo') => po (dC, dI) (ws_sl a k rd wr ay ia mo' wo' so oi si mi wi ns nt nf np sl hs) (ty_sl k) (va_A (ws_sl a k rd wr ay ia mo wo so oi si mi wi ns nt nf np sl hs) sz) t) (va_A (ws_sl a k rd wr ay ia mo wo so oi si mi wi ns nt nf np sl hs) sz)) 0 0 (va_A (ws_sl a k rd wr ay ia mo wo so oi si mi wi ns nt nf np sl hs) sz) := by
  refine Met.ofW (cc := cX0_need) (maxL := 4) (ret := none) (by decide) rfl ?_
  intro p e s m args below meth c s₁ B hml hv
  obtain ⟨rfl, hsz, hP, hK, hD0⟩ := hv
  have hx := B.exec
  have hb := B.bytes
  have hr := B.returns
  have hts := atoms_spec (ws := wsX0_need) B.pre
  have hg : ∀ w ∈ gw, w.before _ s = true := fun w h => hts w (List.mem_cons_of_mem _ h)
  have hown : s.vm.findClass RX0 = some m.cls := findClass_of_methodNamed B.named
  have hlocks := B.notSynchronized
  subst hsz
  have hD := hD0.self (sz := s.heap.size)
  generalize hAe : va_A (ws_sl a k rd wr ay ia mo wo so oi si mi wi ns nt nf np sl hs) s.heap.size = A at hD ⊢
  have hA : ∀ q : Nat, s.heap.size ≤ q → A q := fun q h => by rw [← hAe]; exact Or.inr h
  clear hAe
  refine w_in (fun H locs eH eL => ?_)
  have hS : va_S A s.heap H locs := by rw [eH, eL]; exact va_S.rf
  have hP : va_P (dC, dI) vwCl (ws_sl a k rd wr ay ia mo wo so oi si mi wi ns nt nf np sl hs) H := by rw [eH]; exact hP
  clear eH eL
  have hl := lv_entry ([.ref (a 0), .int p1, .int p2, .int p3]) (n := 4) (Nat.le_of_ble_eq_true rfl)
  rw [lg_entry_eq]
  generalize (lg_sl ([.ref (a 0), .int p1, .int p2, .int p3]) ++ List.replicate (4 - (lg_sl ([.ref (a 0), .int p1, .int p2, .int p3])).length) Slot.unset).toArray = ls at hl ⊢
  have hl : lv_has ls 4 [(0, .ref (a 0)), (1, .int p1), (2, .int p2), (3, .int p3)] := hl
  refine lv_iload_n hx hb dX0_need_0 rfl (lv_at hl 1 rfl) ?_
  refine lv_if_lt (tgt := 24) hx hb dX0_need_1 (by decide) (fun c_1 => ?_) (fun c_1 => ?_)
  · have hw : sl_need mo wo p1 p2 p3 = (mo, wo) := by unfold sl_need; rw [if_pos c_1]; try rfl
    exact W.vret hx hb hr (fun t ht hW => ⟨⟨(mo, wo), rfl, hw, ⟨by rw [ht]; exact hP, va_K.moved hW.alike hK, hD⟩⟩, hS.F ht⟩) hS.2.2 dX0_need_24
  · refine lv_iload_n hx hb dX0_need_4 rfl (lv_at hl 1 rfl) ?_
    refine lv_bipush (v := 48) hx hb dX0_need_5 (by decide) ?_
    refine lv_icmp_ge (tgt := 24) hx hb dX0_need_7 (by decide) (fun c_7 => ?_) (fun c_7 => ?_)
    · have hw : sl_need mo wo p1 p2 p3 = (mo, wo) := by unfold sl_need; rw [if_neg c_1, if_pos c_7]; try rfl
      exact W.vret hx hb hr (fun t ht hW => ⟨⟨(mo, wo), rfl, hw, ⟨by rw [ht]; exact hP, va_K.moved hW.alike hK, hD⟩⟩, hS.F ht⟩) hS.2.2 dX0_need_24
    · refine lv_aload_n hx hb dX0_need_10 rfl (lv_at hl 0 rfl) ?_
      refine va_get (D := (dC, dI)) (ci := 0) (v := .ref (a 5)) (C := RX0) (T := TX0) (N := 17) hx hb hg inX0 hown hK hP 0 rfl rfl 4 (by decide) (hg _ w_23) (fun _ h9 => h9) rfl dX0_need_11 ?_
      refine lv_iload_n hx hb dX0_need_14 rfl (lv_at hl 1 rfl) ?_
      refine lv_iload_n hx hb dX0_need_15 rfl (lv_at hl 2 rfl) ?_
      refine va_iast hx hb hK hP hD hS 5 4 rfl rfl (ix_le c_1 c_7 (by decide)) dX0_need_16 (fun H locs hP hD hS => ?_)
      have hP : va_P (dC, dI) vwCl (ws_sl a k rd wr ay ia (upd mo p1.toNatClampNeg p2) wo so oi si mi wi ns nt nf np sl hs) H := hP
      have hD : va_D A (ws_sl a k rd wr ay ia (upd mo p1.toNatClampNeg p2) wo so oi si mi wi ns nt nf np sl hs) := hD
      refine lv_aload_n hx hb dX0_need_17 rfl (lv_at hl 0 rfl) ?_
      refine va_get (D := (dC, dI)) (ci := 0) (v := .ref (a 6)) (C := RX0) (T := TX0) (N := 17) hx hb hg inX0 hown hK hP 0 rfl rfl 5 (by decide) (hg _ w_24) (fun _ h9 => h9) rfl dX0_need_18 ?_
      refine lv_iload_n hx hb dX0_need_21 rfl (lv_at hl 1 rfl) ?_
      refine lv_iload_n hx hb dX0_need_22 rfl (lv_at hl 3 rfl) ?_
      refine va_iast hx hb hK hP hD hS 6 5 rfl rfl (ix_le c_1 c_7 (by decide)) dX0_need_23 (fun H locs hP hD hS => ?_)
      have hP : va_P (dC, dI) vwCl (ws_sl a k rd wr ay ia (upd mo p1.toNatClampNeg p2) (upd wo p1.toNatClampNeg p3) so oi si mi wi ns nt nf np sl hs) H := hP
      have hD : va_D A (ws_sl a k rd wr ay ia (upd mo p1.toNatClampNeg p2) (upd wo p1.toNatClampNeg p3) so oi si mi wi ns nt nf np sl hs) := hD
      have hw : sl_need mo wo p1 p2 p3 = (upd mo p1.toNatClampNeg p2, upd wo p1.toNatClampNeg p3) := by unfold sl_need; rw [if_neg c_1, if_neg c_7]; try rfl
      exact W.vret hx hb hr (fun t ht hW => ⟨⟨(upd mo p1.toNatClampNeg p2, upd wo p1.toNatClampNeg p3), rfl, hw, ⟨by rw [ht]; exact hP, va_K.moved hW.alike hK, hD⟩⟩, hS.F ht⟩) hS.2.2 dX0_need_24
set_option maxHeartbeats 4000000 in
set_option maxRecDepth 100000 in
theorem cs_innermostIf (l : Launch) (dC : Nat → ClassId) (dI : Nat → Nat → Nat) (a : Nat → Nat) (k : Nat → ClassId) (sz : Nat) (rd wr : Nat → Int64) (ay ia mo wo so oi si mi wi : Nat → Int32) (ns nt nf np sl hs : Int32)  : Met l yX0_innermostIf wsX0_innermostIf ({ frames := 0, cells := 0, slots := 0, locals := 0 } : Room) (va_Pc [.ref (a 0)] (pr (dC, dI) (ws_sl a k rd wr ay ia mo wo so oi si mi wi ns nt nf np sl hs) (ty_sl k) sz)) (va_Qi (fun (r : Int32) (_ : Unit) => r = sl_innermostIf oi nf) (fun (_ : Unit) t => po (dC, dI) (ws_sl a k rd wr ay ia mo wo so oi si mi wi ns nt nf np sl hs) (ty_sl k) (va_A (ws_sl a k rd wr ay ia mo wo so oi si mi wi ns nt nf np sl hs) sz) t) (va_A (ws_sl a k rd wr ay ia mo wo so oi si mi wi ns nt nf np sl hs) sz)) 0 0 (va_A (ws_sl a k rd wr ay ia mo wo so oi si mi wi ns nt nf np sl hs) sz) := by
  refine Met.ofW (cc := cX0_innermostIf) (maxL := 1) (ret := (some .int)) (by decide) rfl ?_
  intro p e s m args below meth c s₁ B hml hv
  obtain ⟨rfl, hsz, hP, hK, hD0⟩ := hv
  have hx := B.exec
  have hb := B.bytes
  have hr := B.returns
  have hts := atoms_spec (ws := wsX0_innermostIf) B.pre
  have hg : ∀ w ∈ gw, w.before _ s = true := fun w h => hts w (List.mem_cons_of_mem _ h)
  have hown : s.vm.findClass RX0 = some m.cls := findClass_of_methodNamed B.named
  have hlocks := B.notSynchronized
  subst hsz
  have hD := hD0.self (sz := s.heap.size)
  generalize hAe : va_A (ws_sl a k rd wr ay ia mo wo so oi si mi wi ns nt nf np sl hs) s.heap.size = A at hD ⊢
  have hA : ∀ q : Nat, s.heap.size ≤ q → A q := fun q h => by rw [← hAe]; exact Or.inr h
  clear hAe
  refine w_in (fun H locs eH eL => ?_)
  have hS : va_S A s.heap H locs := by rw [eH, eL]; exact va_S.rf
  have hP : va_P (dC, dI) vwCl (ws_sl a k rd wr ay ia mo wo so oi si mi wi ns nt nf np sl hs) H := by rw [eH]; exact hP
  clear eH eL
  have hl := lv_entry ([.ref (a 0)]) (n := 1) (Nat.le_of_ble_eq_true rfl)
  rw [lg_entry_eq]
  generalize (lg_sl ([.ref (a 0)]) ++ List.replicate (1 - (lg_sl ([.ref (a 0)])).length) Slot.unset).toArray = ls at hl ⊢
  have hl : lv_has ls 1 [(0, .ref (a 0))] := hl
  refine lv_aload_n hx hb dX0_innermostIf_0 rfl (lv_at hl 0 rfl) ?_
  refine va_get (D := (dC, dI)) (ci := 0) (v := .int nf) (C := RX0) (T := TX0) (N := 17) hx hb hg inX0 hown hK hP 0 rfl rfl 13 (by decide) (hg _ w_32) (fun _ h9 => h9) rfl dX0_innermostIf_1 ?_
  refine lv_iconst (v := 1) hx hb dX0_innermostIf_4 (by decide) ?_
  refine lv_icmp_lt (tgt := 31) hx hb dX0_innermostIf_5 (by decide) (fun c_5 => ?_) (fun c_5 => ?_)
  · refine lv_iconst (v := (-1)) hx hb dX0_innermostIf_31 (by decide) ?_
    have hw : (-1) = sl_innermostIf oi nf := by unfold sl_innermostIf; rw [if_pos c_5]; try rfl
    exact W.iret (v := (-1)) hx hb hr (fun t ht hW => ⟨⟨(-1), (), rfl, hw, ⟨by rw [ht]; exact hP, va_K.moved hW.alike hK, hD⟩⟩, hS.F ht⟩) hS.2.2 dX0_innermostIf_32
  · refine lv_aload_n hx hb dX0_innermostIf_8 rfl (lv_at hl 0 rfl) ?_
    refine va_get (D := (dC, dI)) (ci := 0) (v := .int nf) (C := RX0) (T := TX0) (N := 17) hx hb hg inX0 hown hK hP 0 rfl rfl 13 (by decide) (hg _ w_32) (fun _ h9 => h9) rfl dX0_innermostIf_9 ?_
    refine lv_bipush (v := 8) hx hb dX0_innermostIf_12 (by decide) ?_
    refine lv_icmp_gt (tgt := 31) hx hb dX0_innermostIf_14 (by decide) (fun c_14 => ?_) (fun c_14 => ?_)
    · refine lv_iconst (v := (-1)) hx hb dX0_innermostIf_31 (by decide) ?_
      have hw : (-1) = sl_innermostIf oi nf := by unfold sl_innermostIf; rw [if_neg c_5, if_pos c_14]; try rfl
      exact W.iret (v := (-1)) hx hb hr (fun t ht hW => ⟨⟨(-1), (), rfl, hw, ⟨by rw [ht]; exact hP, va_K.moved hW.alike hK, hD⟩⟩, hS.F ht⟩) hS.2.2 dX0_innermostIf_32
    · refine lv_aload_n hx hb dX0_innermostIf_17 rfl (lv_at hl 0 rfl) ?_
      refine va_get (D := (dC, dI)) (ci := 0) (v := .ref (a 8)) (C := RX0) (T := TX0) (N := 17) hx hb hg inX0 hown hK hP 0 rfl rfl 7 (by decide) (hg _ w_26) (fun _ h9 => h9) rfl dX0_innermostIf_18 ?_
      refine lv_aload_n hx hb dX0_innermostIf_21 rfl (lv_at hl 0 rfl) ?_
      refine va_get (D := (dC, dI)) (ci := 0) (v := .int nf) (C := RX0) (T := TX0) (N := 17) hx hb hg inX0 hown hK hP 0 rfl rfl 13 (by decide) (hg _ w_32) (fun _ h9 => h9) rfl dX0_innermostIf_22 ?_
      refine lv_iconst (v := 1) hx hb dX0_innermostIf_25 (by decide) ?_
      refine lv_isub hx hb dX0_innermostIf_26 ?_
      refine va_iald hx hb hK hP 8 7 rfl rfl (ix_m1 c_5 c_14) dX0_innermostIf_27 ?_
      refine lv_goto (tgt := 32) hx hb dX0_innermostIf_28 (by decide) ?_
      have hw : (oi (nf - 1).toNatClampNeg) = sl_innermostIf oi nf := by unfold sl_innermostIf; rw [if_neg c_5, if_neg c_14]; try rfl
      exact W.iret (v := oi (nf - 1).toNatClampNeg) hx hb hr (fun t ht hW => ⟨⟨(oi (nf - 1).toNatClampNeg), (), rfl, hw, ⟨by rw [ht]; exact hP, va_K.moved hW.alike hK, hD⟩⟩, hS.F ht⟩) hS.2.2 dX0_innermostIf_32
set_option maxHeartbeats 4000000 in
set_option maxRecDepth 100000 in
theorem cs_forgetStages (l : Launch) (dC : Nat → ClassId) (dI : Nat → Nat → Nat) (a : Nat → Nat) (k : Nat → ClassId) (sz : Nat) (rd wr : Nat → Int64) (ay ia mo wo so oi si mi wi : Nat → Int32) (ns nt nf np sl hs : Int32)  : Met l yX0_forgetStages wsX0_forgetStages ({ frames := 0, cells := 0, slots := 0, locals := 0 } : Room) (va_Pc [.ref (a 0)] (pr (dC, dI) (ws_sl a k rd wr ay ia mo wo so oi si mi wi ns nt nf np sl hs) (ty_sl k) sz)) (va_Qv (fun (u : Int32 × Int32) => sl_forgetStages = u) (fun (u : Int32 × Int32) t => match u with | (sl', hs') => po (dC, dI) (ws_sl a k rd wr ay ia mo wo so oi si mi wi ns nt nf np sl' hs') (ty_sl k) (va_A (ws_sl a k rd wr ay ia mo wo so oi si mi wi ns nt nf np sl hs) sz) t) (va_A (ws_sl a k rd wr ay ia mo wo so oi si mi wi ns nt nf np sl hs) sz)) 0 0 (va_A (ws_sl a k rd wr ay ia mo wo so oi si mi wi ns nt nf np sl hs) sz) := by
  refine Met.ofW (cc := cX0_forgetStages) (maxL := 1) (ret := none) (by decide) rfl ?_
  intro p e s m args below meth c s₁ B hml hv
  obtain ⟨rfl, hsz, hP, hK, hD0⟩ := hv
  have hx := B.exec
  have hb := B.bytes
  have hr := B.returns
  have hts := atoms_spec (ws := wsX0_forgetStages) B.pre
  have hg : ∀ w ∈ gw, w.before _ s = true := fun w h => hts w (List.mem_cons_of_mem _ h)
  have hown : s.vm.findClass RX0 = some m.cls := findClass_of_methodNamed B.named
  have hlocks := B.notSynchronized
  subst hsz
  have hD := hD0.self (sz := s.heap.size)
  generalize hAe : va_A (ws_sl a k rd wr ay ia mo wo so oi si mi wi ns nt nf np sl hs) s.heap.size = A at hD ⊢
  have hA : ∀ q : Nat, s.heap.size ≤ q → A q := fun q h => by rw [← hAe]; exact Or.inr h
  clear hAe
  refine w_in (fun H locs eH eL => ?_)
  have hS : va_S A s.heap H locs := by rw [eH, eL]; exact va_S.rf
  have hP : va_P (dC, dI) vwCl (ws_sl a k rd wr ay ia mo wo so oi si mi wi ns nt nf np sl hs) H := by rw [eH]; exact hP
  clear eH eL
  have hl := lv_entry ([.ref (a 0)]) (n := 1) (Nat.le_of_ble_eq_true rfl)
  rw [lg_entry_eq]
  generalize (lg_sl ([.ref (a 0)]) ++ List.replicate (1 - (lg_sl ([.ref (a 0)])).length) Slot.unset).toArray = ls at hl ⊢
  have hl : lv_has ls 1 [(0, .ref (a 0))] := hl
  refine lv_aload_n hx hb dX0_forgetStages_0 rfl (lv_at hl 0 rfl) ?_
  refine lv_iconst (v := 0) hx hb dX0_forgetStages_1 (by decide) ?_
  refine va_put (D := (dC, dI)) (ci := 0) (v := .int 0) (ty := .int) (C := RX0) (T := TX0) (N := 17) hx hb hg inX0 tyX0 tyX0_ok nmX0 hown hK hP hD hS 0 rfl rfl 15 (by decide) (hg _ w_34) (fun _ h9 => h9) rfl (by decide +kernel) rfl rfl (Nat.le_of_ble_eq_true rfl) dX0_forgetStages_2 (fun H locs hP hD hS => ?_)
  have hP : va_P (dC, dI) vwCl (ws_sl a k rd wr ay ia mo wo so oi si mi wi ns nt nf np 0 hs) H := hP
  have hD : va_D A (ws_sl a k rd wr ay ia mo wo so oi si mi wi ns nt nf np 0 hs) := hD
  refine lv_aload_n hx hb dX0_forgetStages_5 rfl (lv_at hl 0 rfl) ?_
  refine lv_iconst (v := (-1)) hx hb dX0_forgetStages_6 (by decide) ?_
  refine va_put (D := (dC, dI)) (ci := 0) (v := .int (-1)) (ty := .int) (C := RX0) (T := TX0) (N := 17) hx hb hg inX0 tyX0 tyX0_ok nmX0 hown hK hP hD hS 0 rfl rfl 16 (by decide) (hg _ w_35) (fun _ h9 => h9) rfl (by decide +kernel) rfl rfl (Nat.le_of_ble_eq_true rfl) dX0_forgetStages_7 (fun H locs hP hD hS => ?_)
  have hP : va_P (dC, dI) vwCl (ws_sl a k rd wr ay ia mo wo so oi si mi wi ns nt nf np 0 (-1)) H := hP
  have hD : va_D A (ws_sl a k rd wr ay ia mo wo so oi si mi wi ns nt nf np 0 (-1)) := hD
  have hw : sl_forgetStages = (0, (-1)) := rfl
  exact W.vret hx hb hr (fun t ht hW => ⟨⟨(0, (-1)), rfl, hw, ⟨by rw [ht]; exact hP, va_K.moved hW.alike hK, hD⟩⟩, hS.F ht⟩) hS.2.2 dX0_forgetStages_10
set_option maxHeartbeats 4000000 in
set_option maxRecDepth 100000 in
theorem cs_emptyStages_L2 {p : Program} {l : Launch} {e : Env} {s : State} {m : MethodId} {args : Array Value} {below : List Frame} {meth : Method} {c : Code} {Q : State → Prop} {dC : Nat → ClassId} {dI : Nat → Nat → Nat} {a : Nat → Nat} {k : Nat → ClassId} {A : Nat → Prop} (rd wr : Nat → Int64) (ay ia mo wo so oi si mi wi : Nat → Int32) (ns nt nf np sl hs : Int32)  (hx : p.tables.exec = Jvm.exec) (hb : c.code = cX0_emptyStages) (hml : c.maxLocals = 2) (hown : s.vm.findClass RX0 = some m.cls) (hg : ∀ w ∈ gw, w.before args s = true) (hA : ∀ q : Nat, s.heap.size ≤ q → A q) (hK : va_K (dC, dI) vwCl (ty_sl k) s) :
    ∀ (n : Nat) (x1 : Int32) (si mi wi : Nat → Int32) (H : Heap) (locs : List Loc) (ls : Array Slot), (cnt 12 x1 n) → va_P (dC, dI) vwCl (ws_sl a k rd wr ay ia mo wo so oi si mi wi ns nt nf np sl hs) H → va_D A (ws_sl a k rd wr ay ia mo wo so oi si mi wi ns nt nf np sl hs) → va_S A s.heap H locs → lv_has ls 2 [(0, .ref (a 0)), (1, .int x1)] →
      (∀ (si_o2 mi_o2 wi_o2 : Nat → Int32), sl_emptyStages_L2 n x1 si mi wi = (si_o2, mi_o2, wi_o2) → ∀ (H : Heap) (locs : List Loc) (ls : Array Slot), va_P (dC, dI) vwCl (ws_sl a k rd wr ay ia mo wo so oi si_o2 mi_o2 wi_o2 ns nt nf np sl hs) H → va_D A (ws_sl a k rd wr ay ia mo wo so oi si_o2 mi_o2 wi_o2 ns nt nf np sl hs) → va_S A s.heap H locs → lv_has ls 2 [(0, .ref (a 0))] → W p l e (headSpec wsX0_emptyStages ({ frames := 0, cells := 0, slots := 0, locals := 0 } : Room)).room s m args below meth c H locs 0 0 Q (F0 m 35 ls [])) →
      W p l e (headSpec wsX0_emptyStages ({ frames := 0, cells := 0, slots := 0, locals := 0 } : Room)).room s m args below meth c H locs 0 0 Q (F0 m 2 ls []) := by
  intro n
  induction n with
  | zero =>
    intro x1 si mi wi H locs ls hinv
    exact absurd hinv (cnt_z)
  | succ n ih =>
    intro x1 si mi wi H locs ls hinv hP hD hS hl k0
    refine lv_iload_n hx hb dX0_emptyStages_2 rfl (lv_at hl 1 rfl) ?_
    refine lv_bipush (v := 12) hx hb dX0_emptyStages_3 (by decide) ?_
    refine lv_icmp_ge (tgt := 35) hx hb dX0_emptyStages_5 (by decide) (fun c_5 => ?_) (fun c_5 => ?_)
    · exact k0 si mi wi (by rw [sl_emptyStages_L2_s]; rw [if_pos c_5]; try rfl) H locs ls hP hD hS (lv_sub hl [0] rfl)
    · refine lv_aload_n hx hb dX0_emptyStages_8 rfl (lv_at hl 0 rfl) ?_
      refine va_get (D := (dC, dI)) (ci := 0) (v := .ref (a 9)) (C := RX0) (T := TX0) (N := 17) hx hb hg inX0 hown hK hP 0 rfl rfl 8 (by decide) (hg _ w_27) (fun _ h9 => h9) rfl dX0_emptyStages_9 ?_
      refine lv_iload_n hx hb dX0_emptyStages_12 rfl (lv_at hl 1 rfl) ?_
      refine lv_iconst (v := 0) hx hb dX0_emptyStages_13 (by decide) ?_
      refine va_iast hx hb hK hP hD hS 9 8 rfl rfl (cnt_in hinv c_5 (by decide)) dX0_emptyStages_14 (fun H locs hP hD hS => ?_)
      have hP : va_P (dC, dI) vwCl (ws_sl a k rd wr ay ia mo wo so oi (upd si x1.toNatClampNeg 0) mi wi ns nt nf np sl hs) H := hP
      have hD : va_D A (ws_sl a k rd wr ay ia mo wo so oi (upd si x1.toNatClampNeg 0) mi wi ns nt nf np sl hs) := hD
      refine lv_aload_n hx hb dX0_emptyStages_15 rfl (lv_at hl 0 rfl) ?_
      refine va_get (D := (dC, dI)) (ci := 0) (v := .ref (a 10)) (C := RX0) (T := TX0) (N := 17) hx hb hg inX0 hown hK hP 0 rfl rfl 9 (by decide) (hg _ w_28) (fun _ h9 => h9) rfl dX0_emptyStages_16 ?_
      refine lv_iload_n hx hb dX0_emptyStages_19 rfl (lv_at hl 1 rfl) ?_
      refine lv_iconst (v := 0) hx hb dX0_emptyStages_20 (by decide) ?_
      refine va_iast hx hb hK hP hD hS 10 9 rfl rfl (cnt_in hinv c_5 (by decide)) dX0_emptyStages_21 (fun H locs hP hD hS => ?_)
      have hP : va_P (dC, dI) vwCl (ws_sl a k rd wr ay ia mo wo so oi (upd si x1.toNatClampNeg 0) (upd mi x1.toNatClampNeg 0) wi ns nt nf np sl hs) H := hP
      have hD : va_D A (ws_sl a k rd wr ay ia mo wo so oi (upd si x1.toNatClampNeg 0) (upd mi x1.toNatClampNeg 0) wi ns nt nf np sl hs) := hD
      refine lv_aload_n hx hb dX0_emptyStages_22 rfl (lv_at hl 0 rfl) ?_
      refine va_get (D := (dC, dI)) (ci := 0) (v := .ref (a 11)) (C := RX0) (T := TX0) (N := 17) hx hb hg inX0 hown hK hP 0 rfl rfl 10 (by decide) (hg _ w_29) (fun _ h9 => h9) rfl dX0_emptyStages_23 ?_
      refine lv_iload_n hx hb dX0_emptyStages_26 rfl (lv_at hl 1 rfl) ?_
      refine lv_iconst (v := 0) hx hb dX0_emptyStages_27 (by decide) ?_
      refine va_iast hx hb hK hP hD hS 11 10 rfl rfl (cnt_in hinv c_5 (by decide)) dX0_emptyStages_28 (fun H locs hP hD hS => ?_)
      have hP : va_P (dC, dI) vwCl (ws_sl a k rd wr ay ia mo wo so oi (upd si x1.toNatClampNeg 0) (upd mi x1.toNatClampNeg 0) (upd wi x1.toNatClampNeg 0) ns nt nf np sl hs) H := hP
      have hD : va_D A (ws_sl a k rd wr ay ia mo wo so oi (upd si x1.toNatClampNeg 0) (upd mi x1.toNatClampNeg 0) (upd wi x1.toNatClampNeg 0) ns nt nf np sl hs) := hD
      refine lv_iinc (v := x1 + 1) (lv' := [(1, .int (x1 + 1)), (0, .ref (a 0))]) hx hb dX0_emptyStages_29 hl (k := 1) rfl rfl (by decide) rfl (fun ls hl => ?_)
      refine lv_goto (tgt := 2) hx hb dX0_emptyStages_32 (by decide) ?_
      exact ih (x1 + 1) (upd si x1.toNatClampNeg 0) (upd mi x1.toNatClampNeg 0) (upd wi x1.toNatClampNeg 0) H locs ls (cnt_s hinv c_5) hP hD hS (lv_sub hl [1, 0] rfl) (fun si_o2 mi_o2 wi_o2 hw H locs ls hP hD hS hl => k0 si_o2 mi_o2 wi_o2 (by rw [sl_emptyStages_L2_s]; rw [if_neg c_5]; exact hw) H locs ls hP hD hS hl)
set_option maxHeartbeats 4000000 in
set_option maxRecDepth 100000 in
theorem cs_emptyStages (l : Launch) (dC : Nat → ClassId) (dI : Nat → Nat → Nat) (a : Nat → Nat) (k : Nat → ClassId) (sz : Nat) (rd wr : Nat → Int64) (ay ia mo wo so oi si mi wi : Nat → Int32) (ns nt nf np sl hs : Int32)  : Met l yX0_emptyStages wsX0_emptyStages ({ frames := 0, cells := 0, slots := 0, locals := 0 } : Room) (va_Pc [.ref (a 0)] (pr (dC, dI) (ws_sl a k rd wr ay ia mo wo so oi si mi wi ns nt nf np sl hs) (ty_sl k) sz)) (va_Qv (fun (u : (Nat → Int32) × (Nat → Int32) × (Nat → Int32)) => sl_emptyStages si mi wi = u) (fun (u : (Nat → Int32) × (Nat → Int32) × (Nat → Int32)) t => match u with | (si', mi', wi') => po (dC, dI) (ws_sl a k rd wr ay ia mo wo so oi si' mi' wi' ns nt nf np sl hs) (ty_sl k) (va_A (ws_sl a k rd wr ay ia mo wo so oi si mi wi ns nt nf np sl hs) sz) t) (va_A (ws_sl a k rd wr ay ia mo wo so oi si mi wi ns nt nf np sl hs) sz)) 0 0 (va_A (ws_sl a k rd wr ay ia mo wo so oi si mi wi ns nt nf np sl hs) sz) := by
  refine Met.ofW (cc := cX0_emptyStages) (maxL := 2) (ret := none) (by decide) rfl ?_
  intro p e s m args below meth c s₁ B hml hv
  obtain ⟨rfl, hsz, hP, hK, hD0⟩ := hv
  have hx := B.exec
  have hb := B.bytes
  have hr := B.returns
  have hts := atoms_spec (ws := wsX0_emptyStages) B.pre
  have hg : ∀ w ∈ gw, w.before _ s = true := fun w h => hts w (List.mem_cons_of_mem _ h)
  have hown : s.vm.findClass RX0 = some m.cls := findClass_of_methodNamed B.named
  have hlocks := B.notSynchronized
  subst hsz
  have hD := hD0.self (sz := s.heap.size)
  generalize hAe : va_A (ws_sl a k rd wr ay ia mo wo so oi si mi wi ns nt nf np sl hs) s.heap.size = A at hD ⊢
  have hA : ∀ q : Nat, s.heap.size ≤ q → A q := fun q h => by rw [← hAe]; exact Or.inr h
  clear hAe
  refine w_in (fun H locs eH eL => ?_)
  have hS : va_S A s.heap H locs := by rw [eH, eL]; exact va_S.rf
  have hP : va_P (dC, dI) vwCl (ws_sl a k rd wr ay ia mo wo so oi si mi wi ns nt nf np sl hs) H := by rw [eH]; exact hP
  clear eH eL
  have hl := lv_entry ([.ref (a 0)]) (n := 2) (Nat.le_of_ble_eq_true rfl)
  rw [lg_entry_eq]
  generalize (lg_sl ([.ref (a 0)]) ++ List.replicate (2 - (lg_sl ([.ref (a 0)])).length) Slot.unset).toArray = ls at hl ⊢
  have hl : lv_has ls 2 [(0, .ref (a 0))] := hl
  refine lv_iconst (v := 0) hx hb dX0_emptyStages_0 (by decide) ?_
  refine lv_istore_n (lv' := [(1, .int 0), (0, .ref (a 0))]) hx hb dX0_emptyStages_1 rfl hl (by decide) rfl (fun ls hl => ?_)
  refine cs_emptyStages_L2 rd wr ay ia mo wo so oi si mi wi ns nt nf np sl hs hx hb hml hown hg hA hK 13 0 si mi wi H locs ls (cnt_0 (by decide) (by decide)) hP hD hS (lv_sub hl [1, 0] rfl) (fun si_o2 mi_o2 wi_o2 hw_2 H locs ls hP hD hS hl => ?_)
  have hw : sl_emptyStages si mi wi = (si_o2, mi_o2, wi_o2) := by unfold sl_emptyStages; rw [hw_2]; try dsimp only; try rfl
  exact W.vret hx hb hr (fun t ht hW => ⟨⟨(si_o2, mi_o2, wi_o2), rfl, hw, ⟨by rw [ht]; exact hP, va_K.moved hW.alike hK, hD⟩⟩, hS.F ht⟩) hS.2.2 dX0_emptyStages_35
end
section
set_option maxHeartbeats 4000000 in
set_option maxRecDepth 100000 in
theorem cs_addStep (l : Launch) (dC : Nat → ClassId) (dI : Nat → Nat → Nat) (a : Nat → Nat) (k : Nat → ClassId) (sz : Nat) (rd wr : Nat → Int64) (ay ia mo wo so oi si mi wi : Nat → Int32) (ns nt nf np sl hs : Int32) (p1 p2 : Int64) (p3 p4 : Int32) (r' : Int32) (rd' wr' : Nat → Int64) (ay' ia' mo' wo' : Nat → Int32) (ns' np' sl' hs' : Int32) (hok : sl_addStep rd wr ay ia mo wo oi ns nf np p1 p2 p3 p4 = .inl (r', rd', wr', ay', ia', mo', wo', ns', np', sl', hs')) : Met l yX0_addStep wsX0_addStep ({ frames := 6, cells := 0, slots := 0, locals := 82 } : Room) (va_Pc [.ref (a 0), .long p1, .long p2, .int p3, .int p4] (pr (dC, dI) (ws_sl a k rd wr ay ia mo wo so oi si mi wi ns nt nf np sl hs) (ty_sl k) sz)) (va_Qi (fun (r : Int32) (_ : Unit) => r = r') (fun (_ : Unit) t => po (dC, dI) (ws_sl a k rd' wr' ay' ia' mo' wo' so oi si mi wi ns' nt nf np' sl' hs') (ty_sl k) (va_A (ws_sl a k rd wr ay ia mo wo so oi si mi wi ns nt nf np sl hs) sz) t) (va_A (ws_sl a k rd wr ay ia mo wo so oi si mi wi ns nt nf np sl hs) sz)) 0 0 (va_A (ws_sl a k rd wr ay ia mo wo so oi si mi wi ns nt nf np sl hs) sz) := by
  refine Met.ofW (cc := cX0_addStep) (maxL := 8) (ret := (some .int)) (by decide) rfl ?_
  intro p e s m args below meth c s₁ B hml hv
  obtain ⟨rfl, hsz, hP, hK, hD0⟩ := hv
  have hx := B.exec
  have hb := B.bytes
  have hr := B.returns
  have hts := atoms_spec (ws := wsX0_addStep) B.pre
  have hg : ∀ w ∈ gw, w.before _ s = true := fun w h => hts w (List.mem_cons_of_mem _ h)
  have hown : s.vm.findClass RX0 = some m.cls := findClass_of_methodNamed B.named
  have hlocks := B.notSynchronized
  subst hsz
  have hD := hD0.self (sz := s.heap.size)
  generalize hAe : va_A (ws_sl a k rd wr ay ia mo wo so oi si mi wi ns nt nf np sl hs) s.heap.size = A at hD ⊢
  have hA : ∀ q : Nat, s.heap.size ≤ q → A q := fun q h => by rw [← hAe]; exact Or.inr h
  clear hAe
  refine w_in (fun H locs eH eL => ?_)
  have hS : va_S A s.heap H locs := by rw [eH, eL]; exact va_S.rf
  have hP : va_P (dC, dI) vwCl (ws_sl a k rd wr ay ia mo wo so oi si mi wi ns nt nf np sl hs) H := by rw [eH]; exact hP
  clear eH eL
  have hl := lv_entry ([.ref (a 0), .long p1, .long p2, .int p3, .int p4]) (n := 8) (Nat.le_of_ble_eq_true rfl)
  rw [lg_entry_eq]
  generalize (lg_sl ([.ref (a 0), .long p1, .long p2, .int p3, .int p4]) ++ List.replicate (8 - (lg_sl ([.ref (a 0), .long p1, .long p2, .int p3, .int p4])).length) Slot.unset).toArray = ls at hl ⊢
  have hl : lv_has ls 8 [(0, .ref (a 0)), (1, .long p1), (3, .long p2), (5, .int p3), (6, .int p4)] := hl
  refine lv_aload_n hx hb dX0_addStep_0 rfl (lv_at hl 0 rfl) ?_
  refine va_get (D := (dC, dI)) (ci := 0) (v := .int ns) (C := RX0) (T := TX0) (N := 17) hx hb hg inX0 hown hK hP 0 rfl rfl 11 (by decide) (hg _ w_30) (fun _ h9 => h9) rfl dX0_addStep_1 ?_
  refine lv_if_lt (tgt := 16) hx hb dX0_addStep_4 (by decide) (fun c_4 => ?_) (fun c_4 => ?_)
  · have hw : sl_addStep rd wr ay ia mo wo oi ns nf np p1 p2 p3 p4 = .inr xIS := by unfold sl_addStep; rw [if_pos c_4]; try rfl
    exact absurd (hw.symm.trans hok) (by intro h9; cases h9)
  · refine lv_aload_n hx hb dX0_addStep_7 rfl (lv_at hl 0 rfl) ?_
    refine va_get (D := (dC, dI)) (ci := 0) (v := .int ns) (C := RX0) (T := TX0) (N := 17) hx hb hg inX0 hown hK hP 0 rfl rfl 11 (by decide) (hg _ w_30) (fun _ h9 => h9) rfl dX0_addStep_8 ?_
    refine lv_bipush (v := 48) hx hb dX0_addStep_11 (by decide) ?_
    refine lv_icmp_lt (tgt := 26) hx hb dX0_addStep_13 (by decide) (fun c_13 => ?_) (fun c_13 => ?_)
    · refine lv_aload_n hx hb dX0_addStep_26 rfl (lv_at hl 0 rfl) ?_
      refine va_get (D := (dC, dI)) (ci := 0) (v := .int np) (C := RX0) (T := TX0) (N := 17) hx hb hg inX0 hown hK hP 0 rfl rfl 14 (by decide) (hg _ w_33) (fun _ h9 => h9) rfl dX0_addStep_27 ?_
      refine lv_iload hx hb dX0_addStep_30 (lv_at hl 4 rfl) ?_
      refine lv_iadd hx hb dX0_addStep_32 ?_
      refine lv_sipush (v := 800) hx hb dX0_addStep_33 (by decide) ?_
      refine lv_icmp_le (tgt := 49) hx hb dX0_addStep_36 (by decide) (fun c_36 => ?_) (fun c_36 => ?_)
      · refine lv_aload_n hx hb dX0_addStep_49 rfl (lv_at hl 0 rfl) ?_
        refine va_get (D := (dC, dI)) (ci := 0) (v := .int ns) (C := RX0) (T := TX0) (N := 17) hx hb hg inX0 hown hK hP 0 rfl rfl 11 (by decide) (hg _ w_30) (fun _ h9 => h9) rfl dX0_addStep_50 ?_
        refine lv_istore (lv' := [(7, .int ns), (0, .ref (a 0)), (1, .long p1), (3, .long p2), (5, .int p3), (6, .int p4)]) hx hb dX0_addStep_53 hl (by decide) rfl (fun ls hl => ?_)
        refine lv_aload_n hx hb dX0_addStep_55 rfl (lv_at hl 1 rfl) ?_
        refine va_get (D := (dC, dI)) (ci := 0) (v := .ref (a 1)) (C := RX0) (T := TX0) (N := 17) hx hb hg inX0 hown hK hP 0 rfl rfl 0 (by decide) (hg _ w_19) (fun _ h9 => h9) rfl dX0_addStep_56 ?_
        refine lv_iload hx hb dX0_addStep_59 (lv_at hl 0 rfl) ?_
        refine lv_lload_n hx hb dX0_addStep_61 rfl (lv_at hl 2 rfl) ?_
        refine va_last hx hb hK hP hD hS 1 0 rfl rfl (ix_lt c_4 c_13 (by decide)) dX0_addStep_62 (fun H locs hP hD hS => ?_)
        have hP : va_P (dC, dI) vwCl (ws_sl a k (vp_updL rd ns.toNatClampNeg p1) wr ay ia mo wo so oi si mi wi ns nt nf np sl hs) H := hP
        have hD : va_D A (ws_sl a k (vp_updL rd ns.toNatClampNeg p1) wr ay ia mo wo so oi si mi wi ns nt nf np sl hs) := hD
        refine lv_aload_n hx hb dX0_addStep_63 rfl (lv_at hl 1 rfl) ?_
        refine va_get (D := (dC, dI)) (ci := 0) (v := .ref (a 2)) (C := RX0) (T := TX0) (N := 17) hx hb hg inX0 hown hK hP 0 rfl rfl 1 (by decide) (hg _ w_20) (fun _ h9 => h9) rfl dX0_addStep_64 ?_
        refine lv_iload hx hb dX0_addStep_67 (lv_at hl 0 rfl) ?_
        refine lv_lload_n hx hb dX0_addStep_69 rfl (lv_at hl 3 rfl) ?_
        refine va_last hx hb hK hP hD hS 2 1 rfl rfl (ix_lt c_4 c_13 (by decide)) dX0_addStep_70 (fun H locs hP hD hS => ?_)
        have hP : va_P (dC, dI) vwCl (ws_sl a k (vp_updL rd ns.toNatClampNeg p1) (vp_updL wr ns.toNatClampNeg p2) ay ia mo wo so oi si mi wi ns nt nf np sl hs) H := hP
        have hD : va_D A (ws_sl a k (vp_updL rd ns.toNatClampNeg p1) (vp_updL wr ns.toNatClampNeg p2) ay ia mo wo so oi si mi wi ns nt nf np sl hs) := hD
        refine lv_aload_n hx hb dX0_addStep_71 rfl (lv_at hl 1 rfl) ?_
        refine va_get (D := (dC, dI)) (ci := 0) (v := .ref (a 3)) (C := RX0) (T := TX0) (N := 17) hx hb hg inX0 hown hK hP 0 rfl rfl 2 (by decide) (hg _ w_21) (fun _ h9 => h9) rfl dX0_addStep_72 ?_
        refine lv_iload hx hb dX0_addStep_75 (lv_at hl 0 rfl) ?_
        refine lv_iload hx hb dX0_addStep_77 (lv_at hl 4 rfl) ?_
        refine va_iast hx hb hK hP hD hS 3 2 rfl rfl (ix_lt c_4 c_13 (by decide)) dX0_addStep_79 (fun H locs hP hD hS => ?_)
        have hP : va_P (dC, dI) vwCl (ws_sl a k (vp_updL rd ns.toNatClampNeg p1) (vp_updL wr ns.toNatClampNeg p2) (upd ay ns.toNatClampNeg p3) ia mo wo so oi si mi wi ns nt nf np sl hs) H := hP
        have hD : va_D A (ws_sl a k (vp_updL rd ns.toNatClampNeg p1) (vp_updL wr ns.toNatClampNeg p2) (upd ay ns.toNatClampNeg p3) ia mo wo so oi si mi wi ns nt nf np sl hs) := hD
        refine lv_aload_n hx hb dX0_addStep_80 rfl (lv_at hl 1 rfl) ?_
        refine va_get (D := (dC, dI)) (ci := 0) (v := .ref (a 4)) (C := RX0) (T := TX0) (N := 17) hx hb hg inX0 hown hK hP 0 rfl rfl 3 (by decide) (hg _ w_22) (fun _ h9 => h9) rfl dX0_addStep_81 ?_
        refine lv_iload hx hb dX0_addStep_84 (lv_at hl 0 rfl) ?_
        refine lv_aload_n hx hb dX0_addStep_86 rfl (lv_at hl 1 rfl) ?_
        have hFc := va_free (wc := ws_sl a k (vp_updL rd ns.toNatClampNeg p1) (vp_updL wr ns.toNatClampNeg p2) (upd ay ns.toNatClampNeg p3) ia mo wo so oi si mi wi ns nt nf np sl hs) hD hS hA [0, 1, 2, 3, 4, 5, 6, 7, 8, 9, 10, 11] rfl
        refine va_calli (va_runV (As := []) (rest := [.int ns, .ref (a 4)]) ⟨hx, hb, hml, hown, hg⟩ (cs_innermostIf l dC dI a k H.size (vp_updL rd ns.toNatClampNeg p1) (vp_updL wr ns.toNatClampNeg p2) (upd ay ns.toNatClampNeg p3) ia mo wo so oi si mi wi ns nt nf np sl hs) (cwV 0 hg (gi_V w_223 w_225 s_3 w_1 w_226) rfl rfl rfl (by decide +kernel) ⟨Nat.le_of_ble_eq_true rfl, Nat.le_of_ble_eq_true rfl⟩) ⟨pr_bl, va_recv hK hP (ci := 0) (q0 := 0) rfl rfl, pr_ok hK hP hD⟩ rfl rfl hl.1 rfl (lv_room (Nat.le_of_ble_eq_true rfl)) dX0_addStep_87 ⟨Nat.le_of_ble_eq_true rfl, Nat.le_of_ble_eq_true rfl⟩) hS (fun q _ h => hFc q h) hFc (fun r_87 u t H1 locs ht hvm hw_87 hB hz1 hk1 hS => ?_)
        subst hw_87
        obtain ⟨hP, hK1, hD1⟩ := hB
        rw [ht] at hP
        have hD := hD1.weaken (fun _ q _ h => hFc q.1 h)
        generalize H1 = H at hP hS ⊢
        have hP : va_P (dC, dI) vwCl (ws_sl a k (vp_updL rd ns.toNatClampNeg p1) (vp_updL wr ns.toNatClampNeg p2) (upd ay ns.toNatClampNeg p3) ia mo wo so oi si mi wi ns nt nf np sl hs) H := hP
        have hD : va_D A (ws_sl a k (vp_updL rd ns.toNatClampNeg p1) (vp_updL wr ns.toNatClampNeg p2) (upd ay ns.toNatClampNeg p3) ia mo wo so oi si mi wi ns nt nf np sl hs) := hD
        refine va_iast hx hb hK hP hD hS 4 3 rfl rfl (ix_lt c_4 c_13 (by decide)) dX0_addStep_90 (fun H locs hP hD hS => ?_)
        have hP : va_P (dC, dI) vwCl (ws_sl a k (vp_updL rd ns.toNatClampNeg p1) (vp_updL wr ns.toNatClampNeg p2) (upd ay ns.toNatClampNeg p3) (upd ia ns.toNatClampNeg (sl_innermostIf oi nf)) mo wo so oi si mi wi ns nt nf np sl hs) H := hP
        have hD : va_D A (ws_sl a k (vp_updL rd ns.toNatClampNeg p1) (vp_updL wr ns.toNatClampNeg p2) (upd ay ns.toNatClampNeg p3) (upd ia ns.toNatClampNeg (sl_innermostIf oi nf)) mo wo so oi si mi wi ns nt nf np sl hs) := hD
        refine lv_aload_n hx hb dX0_addStep_91 rfl (lv_at hl 1 rfl) ?_
        refine lv_iload hx hb dX0_addStep_92 (lv_at hl 0 rfl) ?_
        refine lv_iconst (v := 0) hx hb dX0_addStep_94 (by decide) ?_
        refine lv_iconst (v := 0) hx hb dX0_addStep_95 (by decide) ?_
        have hFc := va_free (wc := ws_sl a k (vp_updL rd ns.toNatClampNeg p1) (vp_updL wr ns.toNatClampNeg p2) (upd ay ns.toNatClampNeg p3) (upd ia ns.toNatClampNeg (sl_innermostIf oi nf)) mo wo so oi si mi wi ns nt nf np sl hs) hD hS hA [0, 1, 2, 3, 4, 5, 6, 7, 8, 9, 10, 11] rfl
        refine va_callv (va_runV (As := [.int ns, .int 0, .int 0]) (rest := []) ⟨hx, hb, hml, hown, hg⟩ (cs_need l dC dI a k H.size (vp_updL rd ns.toNatClampNeg p1) (vp_updL wr ns.toNatClampNeg p2) (upd ay ns.toNatClampNeg p3) (upd ia ns.toNatClampNeg (sl_innermostIf oi nf)) mo wo so oi si mi wi ns nt nf np sl hs ns 0 0) (cwV 3 hg (gi_V w_227 w_229 s_4 w_1 w_230) rfl rfl rfl (by decide +kernel) ⟨Nat.le_of_ble_eq_true rfl, Nat.le_of_ble_eq_true rfl⟩) ⟨pr_bl, va_recv hK hP (ci := 0) (q0 := 0) rfl rfl, pr_ok hK hP hD⟩ rfl rfl hl.1 rfl (lv_room (Nat.le_of_ble_eq_true rfl)) dX0_addStep_96 ⟨Nat.le_of_ble_eq_true rfl, Nat.le_of_ble_eq_true rfl⟩) hS (fun q _ h => hFc q h) hFc (fun u t H1 locs ht hvm hw_96 hB hz1 hk1 hS => ?_)
        obtain ⟨mo_96, wo_96⟩ := u
        obtain ⟨hP, hK1, hD1⟩ := hB
        rw [ht] at hP
        have hD := hD1.weaken (fun _ q _ h => hFc q.1 h)
        generalize H1 = H at hP hS ⊢
        have hP : va_P (dC, dI) vwCl (ws_sl a k (vp_updL rd ns.toNatClampNeg p1) (vp_updL wr ns.toNatClampNeg p2) (upd ay ns.toNatClampNeg p3) (upd ia ns.toNatClampNeg (sl_innermostIf oi nf)) mo_96 wo_96 so oi si mi wi ns nt nf np sl hs) H := hP
        have hD : va_D A (ws_sl a k (vp_updL rd ns.toNatClampNeg p1) (vp_updL wr ns.toNatClampNeg p2) (upd ay ns.toNatClampNeg p3) (upd ia ns.toNatClampNeg (sl_innermostIf oi nf)) mo_96 wo_96 so oi si mi wi ns nt nf np sl hs) := hD
        refine lv_aload_n hx hb dX0_addStep_99 rfl (lv_at hl 1 rfl) ?_
        refine lv_dup hx hb dX0_addStep_100 rfl ?_
        refine va_get (D := (dC, dI)) (ci := 0) (v := .int ns) (C := RX0) (T := TX0) (N := 17) hx hb hg inX0 hown hK hP 0 rfl rfl 11 (by decide) (hg _ w_30) (fun _ h9 => h9) rfl dX0_addStep_101 ?_
        refine lv_iconst (v := 1) hx hb dX0_addStep_104 (by decide) ?_
        refine lv_iadd hx hb dX0_addStep_105 ?_
        refine va_put (D := (dC, dI)) (ci := 0) (v := .int (ns + 1)) (ty := .int) (C := RX0) (T := TX0) (N := 17) hx hb hg inX0 tyX0 tyX0_ok nmX0 hown hK hP hD hS 0 rfl rfl 11 (by decide) (hg _ w_30) (fun _ h9 => h9) rfl (by decide +kernel) rfl rfl (Nat.le_of_ble_eq_true rfl) dX0_addStep_106 (fun H locs hP hD hS => ?_)
        have hP : va_P (dC, dI) vwCl (ws_sl a k (vp_updL rd ns.toNatClampNeg p1) (vp_updL wr ns.toNatClampNeg p2) (upd ay ns.toNatClampNeg p3) (upd ia ns.toNatClampNeg (sl_innermostIf oi nf)) mo_96 wo_96 so oi si mi wi (ns + 1) nt nf np sl hs) H := hP
        have hD : va_D A (ws_sl a k (vp_updL rd ns.toNatClampNeg p1) (vp_updL wr ns.toNatClampNeg p2) (upd ay ns.toNatClampNeg p3) (upd ia ns.toNatClampNeg (sl_innermostIf oi nf)) mo_96 wo_96 so oi si mi wi (ns + 1) nt nf np sl hs) := hD
        refine lv_aload_n hx hb dX0_addStep_109 rfl (lv_at hl 1 rfl) ?_
        refine lv_dup hx hb dX0_addStep_110 rfl ?_
        refine va_get (D := (dC, dI)) (ci := 0) (v := .int np) (C := RX0) (T := TX0) (N := 17) hx hb hg inX0 hown hK hP 0 rfl rfl 14 (by decide) (hg _ w_33) (fun _ h9 => h9) rfl dX0_addStep_111 ?_
        refine lv_iload hx hb dX0_addStep_114 (lv_at hl 5 rfl) ?_
        refine lv_iadd hx hb dX0_addStep_116 ?_
        refine va_put (D := (dC, dI)) (ci := 0) (v := .int (np + p4)) (ty := .int) (C := RX0) (T := TX0) (N := 17) hx hb hg inX0 tyX0 tyX0_ok nmX0 hown hK hP hD hS 0 rfl rfl 14 (by decide) (hg _ w_33) (fun _ h9 => h9) rfl (by decide +kernel) rfl rfl (Nat.le_of_ble_eq_true rfl) dX0_addStep_117 (fun H locs hP hD hS => ?_)
        have hP : va_P (dC, dI) vwCl (ws_sl a k (vp_updL rd ns.toNatClampNeg p1) (vp_updL wr ns.toNatClampNeg p2) (upd ay ns.toNatClampNeg p3) (upd ia ns.toNatClampNeg (sl_innermostIf oi nf)) mo_96 wo_96 so oi si mi wi (ns + 1) nt nf (np + p4) sl hs) H := hP
        have hD : va_D A (ws_sl a k (vp_updL rd ns.toNatClampNeg p1) (vp_updL wr ns.toNatClampNeg p2) (upd ay ns.toNatClampNeg p3) (upd ia ns.toNatClampNeg (sl_innermostIf oi nf)) mo_96 wo_96 so oi si mi wi (ns + 1) nt nf (np + p4) sl hs) := hD
        refine lv_aload_n hx hb dX0_addStep_120 rfl (lv_at hl 1 rfl) ?_
        have hFc := va_free (wc := ws_sl a k (vp_updL rd ns.toNatClampNeg p1) (vp_updL wr ns.toNatClampNeg p2) (upd ay ns.toNatClampNeg p3) (upd ia ns.toNatClampNeg (sl_innermostIf oi nf)) mo_96 wo_96 so oi si mi wi (ns + 1) nt nf (np + p4) sl hs) hD hS hA [0, 1, 2, 3, 4, 5, 6, 7, 8, 9, 10, 11] rfl
        refine va_callv (va_runV (As := []) (rest := []) ⟨hx, hb, hml, hown, hg⟩ (cs_forgetStages l dC dI a k H.size (vp_updL rd ns.toNatClampNeg p1) (vp_updL wr ns.toNatClampNeg p2) (upd ay ns.toNatClampNeg p3) (upd ia ns.toNatClampNeg (sl_innermostIf oi nf)) mo_96 wo_96 so oi si mi wi (ns + 1) nt nf (np + p4) sl hs) (cwV 0 hg (gi_V w_77 w_79 s_0 w_1 w_80) rfl rfl rfl (by decide +kernel) ⟨Nat.le_of_ble_eq_true rfl, Nat.le_of_ble_eq_true rfl⟩) ⟨pr_bl, va_recv hK hP (ci := 0) (q0 := 0) rfl rfl, pr_ok hK hP hD⟩ rfl rfl hl.1 rfl (lv_room (Nat.le_of_ble_eq_true rfl)) dX0_addStep_121 ⟨Nat.le_of_ble_eq_true rfl, Nat.le_of_ble_eq_true rfl⟩) hS (fun q _ h => hFc q h) hFc (fun u t H1 locs ht hvm hw_121 hB hz1 hk1 hS => ?_)
        obtain ⟨sl_121, hs_121⟩ := u
        obtain ⟨hP, hK1, hD1⟩ := hB
        rw [ht] at hP
        have hD := hD1.weaken (fun _ q _ h => hFc q.1 h)
        generalize H1 = H at hP hS ⊢
        have hP : va_P (dC, dI) vwCl (ws_sl a k (vp_updL rd ns.toNatClampNeg p1) (vp_updL wr ns.toNatClampNeg p2) (upd ay ns.toNatClampNeg p3) (upd ia ns.toNatClampNeg (sl_innermostIf oi nf)) mo_96 wo_96 so oi si mi wi (ns + 1) nt nf (np + p4) sl_121 hs_121) H := hP
        have hD : va_D A (ws_sl a k (vp_updL rd ns.toNatClampNeg p1) (vp_updL wr ns.toNatClampNeg p2) (upd ay ns.toNatClampNeg p3) (upd ia ns.toNatClampNeg (sl_innermostIf oi nf)) mo_96 wo_96 so oi si mi wi (ns + 1) nt nf (np + p4) sl_121 hs_121) := hD
        refine lv_iload hx hb dX0_addStep_124 (lv_at hl 0 rfl) ?_
        have hw : sl_addStep rd wr ay ia mo wo oi ns nf np p1 p2 p3 p4 = .inl (ns, vp_updL rd ns.toNatClampNeg p1, vp_updL wr ns.toNatClampNeg p2, upd ay ns.toNatClampNeg p3, upd ia ns.toNatClampNeg (sl_innermostIf oi nf), mo_96, wo_96, ns + 1, np + p4, sl_121, hs_121) := by unfold sl_addStep; rw [if_neg c_4, if_pos c_13, if_pos c_36, hw_96]; try dsimp only; rw [hw_121]; try dsimp only; try rfl
        have he := Sum.inl.inj (hok.symm.trans hw)
        simp only [Prod.mk.injEq] at he
        obtain ⟨e0, e1, e2, e3, e4, e5, e6, e7, e8, e9, e10⟩ := he
        exact W.iret (v := ns) hx hb hr (fun t ht hW => ⟨⟨ns, (), rfl, e0.symm, ⟨by rw [ht, e1, e2, e3, e4, e5, e6, e7, e8, e9, e10]; exact hP, va_K.moved hW.alike hK, by rw [e1, e2, e3, e4, e5, e6, e7, e8, e9, e10]; exact hD⟩⟩, hS.F ht⟩) hS.2.2 dX0_addStep_126
      · have hw : sl_addStep rd wr ay ia mo wo oi ns nf np p1 p2 p3 p4 = .inr xIS := by unfold sl_addStep; rw [if_neg c_4, if_pos c_13, if_neg c_36]; try rfl
        exact absurd (hw.symm.trans hok) (by intro h9; cases h9)
    · have hw : sl_addStep rd wr ay ia mo wo oi ns nf np p1 p2 p3 p4 = .inr xIS := by unfold sl_addStep; rw [if_neg c_4, if_neg c_13]; try rfl
      exact absurd (hw.symm.trans hok) (by intro h9; cases h9)
set_option maxHeartbeats 4000000 in
set_option maxRecDepth 100000 in
theorem cs_addStep_x (l : Launch) (hl9 : l.stackTraces = false) (dC : Nat → ClassId) (dI : Nat → Nat → Nat) (a : Nat → Nat) (k : Nat → ClassId) (sx : Nat → Nat) (sz : Nat) (rd wr : Nat → Int64) (ay ia mo wo so oi si mi wi : Nat → Int32) (ns nt nf np sl hs : Int32) (p1 p2 : Int64) (p3 p4 : Int32) (E9 : String) (hno : sl_addStep rd wr ay ia mo wo oi ns nf np p1 p2 p3 p4 = .inr E9) : vx_Met l yX0_addStep wsX0_addStep ({ frames := 6, cells := 1, slots := 6, locals := 82 } : Room) (va_Pc [.ref (a 0), .long p1, .long p2, .int p3, .int p4] (prx (dC, dI) (ws_sl a k rd wr ay ia mo wo so oi si mi wi ns nt nf np sl hs) (ty_sl k) sz sx)) (va_Qi (fun (_ : Int32) (_ : Unit) => False) (fun (_ : Unit) _ => True) (va_A (ws_sl a k rd wr ay ia mo wo so oi si mi wi ns nt nf np sl hs) sz)) (vx_X (fun _ : Unit => True) (fun E _ t => E = E9 ∧ po (dC, dI) (ws_sl a k rd wr ay ia mo wo so oi si mi wi ns nt nf np sl hs) (ty_sl k) (va_A (ws_sl a k rd wr ay ia mo wo so oi si mi wi ns nt nf np sl hs) sz) t) (va_A (ws_sl a k rd wr ay ia mo wo so oi si mi wi ns nt nf np sl hs) sz)) 1 6 (va_A (ws_sl a k rd wr ay ia mo wo so oi si mi wi ns nt nf np sl hs) sz) := by
  refine vx_ofW (cc := cX0_addStep) (maxL := 8) (ret := (some .int)) (by decide) rfl ?_
  intro p e s m args below meth c s₁ B hml hEx hv
  obtain ⟨rfl, ⟨hsz, hP, hK, hD0⟩, hX9⟩ := hv
  have hx := B.exec
  have hb := B.bytes
  have hr := B.returns
  have hts := atoms_spec (ws := wsX0_addStep) B.pre
  have hg : ∀ w ∈ gw, w.before _ s = true := fun w h => hts w (List.mem_cons_of_mem _ h)
  have hown : s.vm.findClass RX0 = some m.cls := findClass_of_methodNamed B.named
  have hlocks := B.notSynchronized
  subst hsz
  have hD := hD0.self (sz := s.heap.size)
  generalize hAe : va_A (ws_sl a k rd wr ay ia mo wo so oi si mi wi ns nt nf np sl hs) s.heap.size = A at hD hX9 ⊢
  have hA : ∀ q : Nat, s.heap.size ≤ q → A q := fun q h => by rw [← hAe]; exact Or.inr h
  clear hAe
  refine w_in (fun H locs eH eL => ?_)
  have hS : va_S A s.heap H locs := by rw [eH, eL]; exact va_S.rf
  have hP : va_P (dC, dI) vwCl (ws_sl a k rd wr ay ia mo wo so oi si mi wi ns nt nf np sl hs) H := by rw [eH]; exact hP
  clear eH eL
  have hl := lv_entry ([.ref (a 0), .long p1, .long p2, .int p3, .int p4]) (n := 8) (Nat.le_of_ble_eq_true rfl)
  rw [lg_entry_eq]
  generalize (lg_sl ([.ref (a 0), .long p1, .long p2, .int p3, .int p4]) ++ List.replicate (8 - (lg_sl ([.ref (a 0), .long p1, .long p2, .int p3, .int p4])).length) Slot.unset).toArray = ls at hl ⊢
  have hl : lv_has ls 8 [(0, .ref (a 0)), (1, .long p1), (3, .long p2), (5, .int p3), (6, .int p4)] := hl
  refine lv_aload_n hx hb dX0_addStep_0 rfl (lv_at hl 0 rfl) ?_
  refine va_get (D := (dC, dI)) (ci := 0) (v := .int ns) (C := RX0) (T := TX0) (N := 17) hx hb hg inX0 hown hK hP 0 rfl rfl 11 (by decide) (hg _ w_30) (fun _ h9 => h9) rfl dX0_addStep_1 ?_
  refine lv_if_lt (tgt := 16) hx hb dX0_addStep_4 (by decide) (fun c_4 => ?_) (fun c_4 => ?_)
  · have hw : sl_addStep rd wr ay ia mo wo oi ns nf np p1 p2 p3 p4 = .inr xIS := by unfold sl_addStep; rw [if_pos c_4]; try rfl
    have he := Sum.inr.inj (hno.symm.trans hw)
    exact vx_throwS (own := RX0) (cls := "java/lang/IllegalStateException") (names := ["java/lang/RuntimeException", "java/lang/Exception"]) hx hb hl9 hown (by decide +kernel) (by decide +kernel) (hg _ w_206) (hg _ w_9) (hX9.2.2.1 (156, "there are 48 steps") (by decide +kernel)) (hat_xIS_105 hg hX9) (by decide +kernel) hX9.1 hX9.2.1 hS (hl.1.trans hml.symm) dX0_addStep_16 dX0_addStep_19 dX0_addStep_20 dX0_addStep_22 dX0_addStep_25 (fun x hx => (hEx x hx).elim) (Nat.le_of_ble_eq_true rfl) (Nat.le_of_ble_eq_true rfl) (Nat.le_of_ble_eq_true rfl) (Nat.le_of_ble_eq_true rfl) hlocks (fun t ha hsz hk => ⟨(), trivial, ⟨he.symm, hP.kept (fun k q hq => hk q.1 (hP k q hq).lt), va_K.moved ha hK, hD⟩, Nat.le_trans hS.1 hsz, fun q h1 h2 => (hk q (Nat.lt_of_lt_of_le h1 hS.1)).trans (hS.2.1 q h1 h2)⟩) hS.2.2 (Nat.le_of_ble_eq_true rfl) (Nat.le_of_ble_eq_true rfl)
  · refine lv_aload_n hx hb dX0_addStep_7 rfl (lv_at hl 0 rfl) ?_
    refine va_get (D := (dC, dI)) (ci := 0) (v := .int ns) (C := RX0) (T := TX0) (N := 17) hx hb hg inX0 hown hK hP 0 rfl rfl 11 (by decide) (hg _ w_30) (fun _ h9 => h9) rfl dX0_addStep_8 ?_
    refine lv_bipush (v := 48) hx hb dX0_addStep_11 (by decide) ?_
    refine lv_icmp_lt (tgt := 26) hx hb dX0_addStep_13 (by decide) (fun c_13 => ?_) (fun c_13 => ?_)
    · refine lv_aload_n hx hb dX0_addStep_26 rfl (lv_at hl 0 rfl) ?_
      refine va_get (D := (dC, dI)) (ci := 0) (v := .int np) (C := RX0) (T := TX0) (N := 17) hx hb hg inX0 hown hK hP 0 rfl rfl 14 (by decide) (hg _ w_33) (fun _ h9 => h9) rfl dX0_addStep_27 ?_
      refine lv_iload hx hb dX0_addStep_30 (lv_at hl 4 rfl) ?_
      refine lv_iadd hx hb dX0_addStep_32 ?_
      refine lv_sipush (v := 800) hx hb dX0_addStep_33 (by decide) ?_
      refine lv_icmp_le (tgt := 49) hx hb dX0_addStep_36 (by decide) (fun c_36 => ?_) (fun c_36 => ?_)
      · exfalso
        have h9 := hno
        unfold sl_addStep at h9
        rw [if_neg c_4, if_pos c_13, if_pos c_36] at h9
        first | (cases h9; done) | ((repeat' split at h9) <;> cases h9)
      · have hw : sl_addStep rd wr ay ia mo wo oi ns nf np p1 p2 p3 p4 = .inr xIS := by unfold sl_addStep; rw [if_neg c_4, if_pos c_13, if_neg c_36]; try rfl
        have he := Sum.inr.inj (hno.symm.trans hw)
        exact vx_throwS (own := RX0) (cls := "java/lang/IllegalStateException") (names := ["java/lang/RuntimeException", "java/lang/Exception"]) hx hb hl9 hown (by decide +kernel) (by decide +kernel) (hg _ w_206) (hg _ w_9) (hX9.2.2.1 (158, "more than 800 places were read") (by decide +kernel)) (hat_xIS_105 hg hX9) (by decide +kernel) hX9.1 hX9.2.1 hS (hl.1.trans hml.symm) dX0_addStep_39 dX0_addStep_42 dX0_addStep_43 dX0_addStep_45 dX0_addStep_48 (fun x hx => (hEx x hx).elim) (Nat.le_of_ble_eq_true rfl) (Nat.le_of_ble_eq_true rfl) (Nat.le_of_ble_eq_true rfl) (Nat.le_of_ble_eq_true rfl) hlocks (fun t ha hsz hk => ⟨(), trivial, ⟨he.symm, hP.kept (fun k q hq => hk q.1 (hP k q hq).lt), va_K.moved ha hK, hD⟩, Nat.le_trans hS.1 hsz, fun q h1 h2 => (hk q (Nat.lt_of_lt_of_le h1 hS.1)).trans (hS.2.1 q h1 h2)⟩) hS.2.2 (Nat.le_of_ble_eq_true rfl) (Nat.le_of_ble_eq_true rfl)
    · have hw : sl_addStep rd wr ay ia mo wo oi ns nf np p1 p2 p3 p4 = .inr xIS := by unfold sl_addStep; rw [if_neg c_4, if_neg c_13]; try rfl
      have he := Sum.inr.inj (hno.symm.trans hw)
      exact vx_throwS (own := RX0) (cls := "java/lang/IllegalStateException") (names := ["java/lang/RuntimeException", "java/lang/Exception"]) hx hb hl9 hown (by decide +kernel) (by decide +kernel) (hg _ w_206) (hg _ w_9) (hX9.2.2.1 (156, "there are 48 steps") (by decide +kernel)) (hat_xIS_105 hg hX9) (by decide +kernel) hX9.1 hX9.2.1 hS (hl.1.trans hml.symm) dX0_addStep_16 dX0_addStep_19 dX0_addStep_20 dX0_addStep_22 dX0_addStep_25 (fun x hx => (hEx x hx).elim) (Nat.le_of_ble_eq_true rfl) (Nat.le_of_ble_eq_true rfl) (Nat.le_of_ble_eq_true rfl) (Nat.le_of_ble_eq_true rfl) hlocks (fun t ha hsz hk => ⟨(), trivial, ⟨he.symm, hP.kept (fun k q hq => hk q.1 (hP k q hq).lt), va_K.moved ha hK, hD⟩, Nat.le_trans hS.1 hsz, fun q h1 h2 => (hk q (Nat.lt_of_lt_of_le h1 hS.1)).trans (hS.2.1 q h1 h2)⟩) hS.2.2 (Nat.le_of_ble_eq_true rfl) (Nat.le_of_ble_eq_true rfl)
set_option maxHeartbeats 4000000 in
set_option maxRecDepth 100000 in
theorem cs_hasRoom (l : Launch) (dC : Nat → ClassId) (dI : Nat → Nat → Nat) (a : Nat → Nat) (k : Nat → ClassId) (sz : Nat) (rd wr : Nat → Int64) (ay ia mo wo so oi si mi wi : Nat → Int32) (ns nt nf np sl hs : Int32) (p1 p2 p3 p4 : Int32) : Met l yX0_hasRoom wsX0_hasRoom ({ frames := 0, cells := 0, slots := 0, locals := 0 } : Room) (va_Pc [.ref (a 0), .int p1, .int p2, .int p3, .int p4] (pr (dC, dI) (ws_sl a k rd wr ay ia mo wo so oi si mi wi ns nt nf np sl hs) (ty_sl k) sz)) (va_Qi (fun (r : Int32) (_ : Unit) => r = sl_hasRoom mo wo si mi wi p1 p2 p3 p4) (fun (_ : Unit) t => po (dC, dI) (ws_sl a k rd wr ay ia mo wo so oi si mi wi ns nt nf np sl hs) (ty_sl k) (va_A (ws_sl a k rd wr ay ia mo wo so oi si mi wi ns nt nf np sl hs) sz) t) (va_A (ws_sl a k rd wr ay ia mo wo so oi si mi wi ns nt nf np sl hs) sz)) 0 0 (va_A (ws_sl a k rd wr ay ia mo wo so oi si mi wi ns nt nf np sl hs) sz) := by
  refine Met.ofW (cc := cX0_hasRoom) (maxL := 5) (ret := (some .boolean)) (by decide) rfl ?_
  intro p e s m args below meth c s₁ B hml hv
  obtain ⟨rfl, hsz, hP, hK, hD0⟩ := hv
  have hx := B.exec
  have hb := B.bytes
  have hr := B.returns
  have hts := atoms_spec (ws := wsX0_hasRoom) B.pre
  have hg : ∀ w ∈ gw, w.before _ s = true := fun w h => hts w (List.mem_cons_of_mem _ h)
  have hown : s.vm.findClass RX0 = some m.cls := findClass_of_methodNamed B.named
  have hlocks := B.notSynchronized
  subst hsz
  have hD := hD0.self (sz := s.heap.size)
  generalize hAe : va_A (ws_sl a k rd wr ay ia mo wo so oi si mi wi ns nt nf np sl hs) s.heap.size = A at hD ⊢
  have hA : ∀ q : Nat, s.heap.size ≤ q → A q := fun q h => by rw [← hAe]; exact Or.inr h
  clear hAe
  refine w_in (fun H locs eH eL => ?_)
  have hS : va_S A s.heap H locs := by rw [eH, eL]; exact va_S.rf
  have hP : va_P (dC, dI) vwCl (ws_sl a k rd wr ay ia mo wo so oi si mi wi ns nt nf np sl hs) H := by rw [eH]; exact hP
  clear eH eL
  have hl := lv_entry ([.ref (a 0), .int p1, .int p2, .int p3, .int p4]) (n := 5) (Nat.le_of_ble_eq_true rfl)
  rw [lg_entry_eq]
  generalize (lg_sl ([.ref (a 0), .int p1, .int p2, .int p3, .int p4]) ++ List.replicate (5 - (lg_sl ([.ref (a 0), .int p1, .int p2, .int p3, .int p4])).length) Slot.unset).toArray = ls at hl ⊢
  have hl : lv_has ls 5 [(0, .ref (a 0)), (1, .int p1), (2, .int p2), (3, .int p3), (4, .int p4)] := hl
  refine lv_iload_n hx hb dX0_hasRoom_0 rfl (lv_at hl 1 rfl) ?_
  refine lv_if_lt (tgt := 20) hx hb dX0_hasRoom_1 (by decide) (fun c_1 => ?_) (fun c_1 => ?_)
  · refine lv_iconst (v := 0) hx hb dX0_hasRoom_20 (by decide) ?_
    have hw : 0 = sl_hasRoom mo wo si mi wi p1 p2 p3 p4 := by unfold sl_hasRoom; rw [if_pos c_1]; try rfl
    exact W.zret (v := 0) hx hb hr rfl (fun t ht hW => ⟨⟨0, (), rfl, hw, ⟨by rw [ht]; exact hP, va_K.moved hW.alike hK, hD⟩⟩, hS.F ht⟩) hS.2.2 dX0_hasRoom_21
  · refine lv_iload_n hx hb dX0_hasRoom_4 rfl (lv_at hl 1 rfl) ?_
    refine lv_bipush (v := 48) hx hb dX0_hasRoom_5 (by decide) ?_
    refine lv_icmp_ge (tgt := 20) hx hb dX0_hasRoom_7 (by decide) (fun c_7 => ?_) (fun c_7 => ?_)
    · refine lv_iconst (v := 0) hx hb dX0_hasRoom_20 (by decide) ?_
      have hw : 0 = sl_hasRoom mo wo si mi wi p1 p2 p3 p4 := by unfold sl_hasRoom; rw [if_neg c_1, if_pos c_7]; try rfl
      exact W.zret (v := 0) hx hb hr rfl (fun t ht hW => ⟨⟨0, (), rfl, hw, ⟨by rw [ht]; exact hP, va_K.moved hW.alike hK, hD⟩⟩, hS.F ht⟩) hS.2.2 dX0_hasRoom_21
    · refine lv_iload_n hx hb dX0_hasRoom_10 rfl (lv_at hl 2 rfl) ?_
      refine lv_if_lt (tgt := 20) hx hb dX0_hasRoom_11 (by decide) (fun c_11 => ?_) (fun c_11 => ?_)
      · refine lv_iconst (v := 0) hx hb dX0_hasRoom_20 (by decide) ?_
        have hw : 0 = sl_hasRoom mo wo si mi wi p1 p2 p3 p4 := by unfold sl_hasRoom; rw [if_neg c_1, if_neg c_7, if_pos c_11]; try rfl
        exact W.zret (v := 0) hx hb hr rfl (fun t ht hW => ⟨⟨0, (), rfl, hw, ⟨by rw [ht]; exact hP, va_K.moved hW.alike hK, hD⟩⟩, hS.F ht⟩) hS.2.2 dX0_hasRoom_21
      · refine lv_iload_n hx hb dX0_hasRoom_14 rfl (lv_at hl 2 rfl) ?_
        refine lv_bipush (v := 12) hx hb dX0_hasRoom_15 (by decide) ?_
        refine lv_icmp_lt (tgt := 22) hx hb dX0_hasRoom_17 (by decide) (fun c_17 => ?_) (fun c_17 => ?_)
        · refine lv_aload_n hx hb dX0_hasRoom_22 rfl (lv_at hl 0 rfl) ?_
          refine va_get (D := (dC, dI)) (ci := 0) (v := .ref (a 9)) (C := RX0) (T := TX0) (N := 17) hx hb hg inX0 hown hK hP 0 rfl rfl 8 (by decide) (hg _ w_27) (fun _ h9 => h9) rfl dX0_hasRoom_23 ?_
          refine lv_iload_n hx hb dX0_hasRoom_26 rfl (lv_at hl 2 rfl) ?_
          refine va_iald hx hb hK hP 9 8 rfl rfl (ix_lt c_11 c_17 (by decide)) dX0_hasRoom_27 ?_
          refine lv_bipush (v := 8) hx hb dX0_hasRoom_28 (by decide) ?_
          refine lv_icmp_ge (tgt := 72) hx hb dX0_hasRoom_30 (by decide) (fun c_30 => ?_) (fun c_30 => ?_)
          · refine lv_iconst (v := 0) hx hb dX0_hasRoom_72 (by decide) ?_
            have hw : 0 = sl_hasRoom mo wo si mi wi p1 p2 p3 p4 := by unfold sl_hasRoom; rw [if_neg c_1, if_neg c_7, if_neg c_11, if_pos c_17, if_pos c_30]; try rfl
            exact W.zret (v := 0) hx hb hr rfl (fun t ht hW => ⟨⟨0, (), rfl, hw, ⟨by rw [ht]; exact hP, va_K.moved hW.alike hK, hD⟩⟩, hS.F ht⟩) hS.2.2 dX0_hasRoom_73
          · refine lv_aload_n hx hb dX0_hasRoom_33 rfl (lv_at hl 0 rfl) ?_
            refine va_get (D := (dC, dI)) (ci := 0) (v := .ref (a 10)) (C := RX0) (T := TX0) (N := 17) hx hb hg inX0 hown hK hP 0 rfl rfl 9 (by decide) (hg _ w_28) (fun _ h9 => h9) rfl dX0_hasRoom_34 ?_
            refine lv_iload_n hx hb dX0_hasRoom_37 rfl (lv_at hl 2 rfl) ?_
            refine va_iald hx hb hK hP 10 9 rfl rfl (ix_lt c_11 c_17 (by decide)) dX0_hasRoom_38 ?_
            refine lv_aload_n hx hb dX0_hasRoom_39 rfl (lv_at hl 0 rfl) ?_
            refine va_get (D := (dC, dI)) (ci := 0) (v := .ref (a 5)) (C := RX0) (T := TX0) (N := 17) hx hb hg inX0 hown hK hP 0 rfl rfl 4 (by decide) (hg _ w_23) (fun _ h9 => h9) rfl dX0_hasRoom_40 ?_
            refine lv_iload_n hx hb dX0_hasRoom_43 rfl (lv_at hl 1 rfl) ?_
            refine va_iald hx hb hK hP 5 4 rfl rfl (ix_le c_1 c_7 (by decide)) dX0_hasRoom_44 ?_
            refine lv_iadd hx hb dX0_hasRoom_45 ?_
            refine lv_iload_n hx hb dX0_hasRoom_46 rfl (lv_at hl 3 rfl) ?_
            refine lv_icmp_gt (tgt := 72) hx hb dX0_hasRoom_47 (by decide) (fun c_47 => ?_) (fun c_47 => ?_)
            · refine lv_iconst (v := 0) hx hb dX0_hasRoom_72 (by decide) ?_
              have hw : 0 = sl_hasRoom mo wo si mi wi p1 p2 p3 p4 := by unfold sl_hasRoom; rw [if_neg c_1, if_neg c_7, if_neg c_11, if_pos c_17, if_neg c_30, if_pos c_47]; try rfl
              exact W.zret (v := 0) hx hb hr rfl (fun t ht hW => ⟨⟨0, (), rfl, hw, ⟨by rw [ht]; exact hP, va_K.moved hW.alike hK, hD⟩⟩, hS.F ht⟩) hS.2.2 dX0_hasRoom_73
            · refine lv_aload_n hx hb dX0_hasRoom_50 rfl (lv_at hl 0 rfl) ?_
              refine va_get (D := (dC, dI)) (ci := 0) (v := .ref (a 11)) (C := RX0) (T := TX0) (N := 17) hx hb hg inX0 hown hK hP 0 rfl rfl 10 (by decide) (hg _ w_29) (fun _ h9 => h9) rfl dX0_hasRoom_51 ?_
              refine lv_iload_n hx hb dX0_hasRoom_54 rfl (lv_at hl 2 rfl) ?_
              refine va_iald hx hb hK hP 11 10 rfl rfl (ix_lt c_11 c_17 (by decide)) dX0_hasRoom_55 ?_
              refine lv_aload_n hx hb dX0_hasRoom_56 rfl (lv_at hl 0 rfl) ?_
              refine va_get (D := (dC, dI)) (ci := 0) (v := .ref (a 6)) (C := RX0) (T := TX0) (N := 17) hx hb hg inX0 hown hK hP 0 rfl rfl 5 (by decide) (hg _ w_24) (fun _ h9 => h9) rfl dX0_hasRoom_57 ?_
              refine lv_iload_n hx hb dX0_hasRoom_60 rfl (lv_at hl 1 rfl) ?_
              refine va_iald hx hb hK hP 6 5 rfl rfl (ix_le c_1 c_7 (by decide)) dX0_hasRoom_61 ?_
              refine lv_iadd hx hb dX0_hasRoom_62 ?_
              refine lv_iload hx hb dX0_hasRoom_63 (lv_at hl 4 rfl) ?_
              refine lv_icmp_gt (tgt := 72) hx hb dX0_hasRoom_65 (by decide) (fun c_65 => ?_) (fun c_65 => ?_)
              · refine lv_iconst (v := 0) hx hb dX0_hasRoom_72 (by decide) ?_
                have hw : 0 = sl_hasRoom mo wo si mi wi p1 p2 p3 p4 := by unfold sl_hasRoom; rw [if_neg c_1, if_neg c_7, if_neg c_11, if_pos c_17, if_neg c_30, if_neg c_47, if_pos c_65]; try rfl
                exact W.zret (v := 0) hx hb hr rfl (fun t ht hW => ⟨⟨0, (), rfl, hw, ⟨by rw [ht]; exact hP, va_K.moved hW.alike hK, hD⟩⟩, hS.F ht⟩) hS.2.2 dX0_hasRoom_73
              · refine lv_iconst (v := 1) hx hb dX0_hasRoom_68 (by decide) ?_
                refine lv_goto (tgt := 73) hx hb dX0_hasRoom_69 (by decide) ?_
                have hw : 1 = sl_hasRoom mo wo si mi wi p1 p2 p3 p4 := by unfold sl_hasRoom; rw [if_neg c_1, if_neg c_7, if_neg c_11, if_pos c_17, if_neg c_30, if_neg c_47, if_neg c_65]; try rfl
                exact W.zret (v := 1) hx hb hr rfl (fun t ht hW => ⟨⟨1, (), rfl, hw, ⟨by rw [ht]; exact hP, va_K.moved hW.alike hK, hD⟩⟩, hS.F ht⟩) hS.2.2 dX0_hasRoom_73
        · refine lv_iconst (v := 0) hx hb dX0_hasRoom_20 (by decide) ?_
          have hw : 0 = sl_hasRoom mo wo si mi wi p1 p2 p3 p4 := by unfold sl_hasRoom; rw [if_neg c_1, if_neg c_7, if_neg c_11, if_neg c_17]; try rfl
          exact W.zret (v := 0) hx hb hr rfl (fun t ht hW => ⟨⟨0, (), rfl, hw, ⟨by rw [ht]; exact hP, va_K.moved hW.alike hK, hD⟩⟩, hS.F ht⟩) hS.2.2 dX0_hasRoom_21
set_option maxHeartbeats 4000000 in
set_option maxRecDepth 100000 in
theorem cs_settle (l : Launch) (dC : Nat → ClassId) (dI : Nat → Nat → Nat) (a : Nat → Nat) (k : Nat → ClassId) (sz : Nat) (rd wr : Nat → Int64) (ay ia mo wo so oi si mi wi : Nat → Int32) (ns nt nf np sl hs : Int32) (p1 p2 : Int32) : Met l yX0_settle wsX0_settle ({ frames := 0, cells := 0, slots := 0, locals := 0 } : Room) (va_Pc [.ref (a 0), .int p1, .int p2] (pr (dC, dI) (ws_sl a k rd wr ay ia mo wo so oi si mi wi ns nt nf np sl hs) (ty_sl k) sz)) (va_Qv (fun (u : (Nat → Int32) × (Nat → Int32) × (Nat → Int32) × (Nat → Int32)) => sl_settle mo wo so si mi wi p1 p2 = u) (fun (u : (Nat → Int32) × (Nat → Int32) × (Nat → Int32) × (Nat → Int32)) t => match u with | (so', si', mi', wi') => po (dC, dI) (ws_sl a k rd wr ay ia mo wo so' oi si' mi' wi' ns nt nf np sl hs) (ty_sl k) (va_A (ws_sl a k rd wr ay ia mo wo so oi si mi wi ns nt nf np sl hs) sz) t) (va_A (ws_sl a k rd wr ay ia mo wo so oi si mi wi ns nt nf np sl hs) sz)) 0 0 (va_A (ws_sl a k rd wr ay ia mo wo so oi si mi wi ns nt nf np sl hs) sz) := by
  refine Met.ofW (cc := cX0_settle) (maxL := 3) (ret := none) (by decide) rfl ?_
  intro p e s m args below meth c s₁ B hml hv
  obtain ⟨rfl, hsz, hP, hK, hD0⟩ := hv
  have hx := B.exec
  have hb := B.bytes
  have hr := B.returns
  have hts := atoms_spec (ws := wsX0_settle) B.pre
  have hg : ∀ w ∈ gw, w.before _ s = true := fun w h => hts w (List.mem_cons_of_mem _ h)
  have hown : s.vm.findClass RX0 = some m.cls := findClass_of_methodNamed B.named
  have hlocks := B.notSynchronized
  subst hsz
  have hD := hD0.self (sz := s.heap.size)
  generalize hAe : va_A (ws_sl a k rd wr ay ia mo wo so oi si mi wi ns nt nf np sl hs) s.heap.size = A at hD ⊢
  have hA : ∀ q : Nat, s.heap.size ≤ q → A q := fun q h => by rw [← hAe]; exact Or.inr h
  clear hAe
  refine w_in (fun H locs eH eL => ?_)
  have hS : va_S A s.heap H locs := by rw [eH, eL]; exact va_S.rf
  have hP : va_P (dC, dI) vwCl (ws_sl a k rd wr ay ia mo wo so oi si mi wi ns nt nf np sl hs) H := by rw [eH]; exact hP
  clear eH eL
  have hl := lv_entry ([.ref (a 0), .int p1, .int p2]) (n := 3) (Nat.le_of_ble_eq_true rfl)
  rw [lg_entry_eq]
  generalize (lg_sl ([.ref (a 0), .int p1, .int p2]) ++ List.replicate (3 - (lg_sl ([.ref (a 0), .int p1, .int p2])).length) Slot.unset).toArray = ls at hl ⊢
  have hl : lv_has ls 3 [(0, .ref (a 0)), (1, .int p1), (2, .int p2)] := hl
  refine lv_iload_n hx hb dX0_settle_0 rfl (lv_at hl 1 rfl) ?_
  refine lv_if_lt (tgt := 20) hx hb dX0_settle_1 (by decide) (fun c_1 => ?_) (fun c_1 => ?_)
  · have hw : sl_settle mo wo so si mi wi p1 p2 = (so, si, mi, wi) := by unfold sl_settle; rw [if_pos c_1]; try rfl
    exact W.vret hx hb hr (fun t ht hW => ⟨⟨(so, si, mi, wi), rfl, hw, ⟨by rw [ht]; exact hP, va_K.moved hW.alike hK, hD⟩⟩, hS.F ht⟩) hS.2.2 dX0_settle_20
  · refine lv_iload_n hx hb dX0_settle_4 rfl (lv_at hl 1 rfl) ?_
    refine lv_bipush (v := 48) hx hb dX0_settle_5 (by decide) ?_
    refine lv_icmp_ge (tgt := 20) hx hb dX0_settle_7 (by decide) (fun c_7 => ?_) (fun c_7 => ?_)
    · have hw : sl_settle mo wo so si mi wi p1 p2 = (so, si, mi, wi) := by unfold sl_settle; rw [if_neg c_1, if_pos c_7]; try rfl
      exact W.vret hx hb hr (fun t ht hW => ⟨⟨(so, si, mi, wi), rfl, hw, ⟨by rw [ht]; exact hP, va_K.moved hW.alike hK, hD⟩⟩, hS.F ht⟩) hS.2.2 dX0_settle_20
    · refine lv_iload_n hx hb dX0_settle_10 rfl (lv_at hl 2 rfl) ?_
      refine lv_if_lt (tgt := 20) hx hb dX0_settle_11 (by decide) (fun c_11 => ?_) (fun c_11 => ?_)
      · have hw : sl_settle mo wo so si mi wi p1 p2 = (so, si, mi, wi) := by unfold sl_settle; rw [if_neg c_1, if_neg c_7, if_pos c_11]; try rfl
        exact W.vret hx hb hr (fun t ht hW => ⟨⟨(so, si, mi, wi), rfl, hw, ⟨by rw [ht]; exact hP, va_K.moved hW.alike hK, hD⟩⟩, hS.F ht⟩) hS.2.2 dX0_settle_20
      · refine lv_iload_n hx hb dX0_settle_14 rfl (lv_at hl 2 rfl) ?_
        refine lv_bipush (v := 12) hx hb dX0_settle_15 (by decide) ?_
        refine lv_icmp_lt (tgt := 21) hx hb dX0_settle_17 (by decide) (fun c_17 => ?_) (fun c_17 => ?_)
        · refine lv_aload_n hx hb dX0_settle_21 rfl (lv_at hl 0 rfl) ?_
          refine va_get (D := (dC, dI)) (ci := 0) (v := .ref (a 7)) (C := RX0) (T := TX0) (N := 17) hx hb hg inX0 hown hK hP 0 rfl rfl 6 (by decide) (hg _ w_25) (fun _ h9 => h9) rfl dX0_settle_22 ?_
          refine lv_iload_n hx hb dX0_settle_25 rfl (lv_at hl 1 rfl) ?_
          refine lv_iload_n hx hb dX0_settle_26 rfl (lv_at hl 2 rfl) ?_
          refine va_iast hx hb hK hP hD hS 7 6 rfl rfl (ix_le c_1 c_7 (by decide)) dX0_settle_27 (fun H locs hP hD hS => ?_)
          have hP : va_P (dC, dI) vwCl (ws_sl a k rd wr ay ia mo wo (upd so p1.toNatClampNeg p2) oi si mi wi ns nt nf np sl hs) H := hP
          have hD : va_D A (ws_sl a k rd wr ay ia mo wo (upd so p1.toNatClampNeg p2) oi si mi wi ns nt nf np sl hs) := hD
          refine lv_aload_n hx hb dX0_settle_28 rfl (lv_at hl 0 rfl) ?_
          refine va_get (D := (dC, dI)) (ci := 0) (v := .ref (a 9)) (C := RX0) (T := TX0) (N := 17) hx hb hg inX0 hown hK hP 0 rfl rfl 8 (by decide) (hg _ w_27) (fun _ h9 => h9) rfl dX0_settle_29 ?_
          refine lv_iload_n hx hb dX0_settle_32 rfl (lv_at hl 2 rfl) ?_
          refine lv_dup2_11 hx hb dX0_settle_33 rfl rfl ?_
          refine va_iald hx hb hK hP 9 8 rfl rfl (ix_lt c_11 c_17 (by decide)) dX0_settle_34 ?_
          refine lv_iconst (v := 1) hx hb dX0_settle_35 (by decide) ?_
          refine lv_iadd hx hb dX0_settle_36 ?_
          refine va_iast hx hb hK hP hD hS 9 8 rfl rfl (ix_lt c_11 c_17 (by decide)) dX0_settle_37 (fun H locs hP hD hS => ?_)
          have hP : va_P (dC, dI) vwCl (ws_sl a k rd wr ay ia mo wo (upd so p1.toNatClampNeg p2) oi (upd si p2.toNatClampNeg ((si p2.toNatClampNeg) + 1)) mi wi ns nt nf np sl hs) H := hP
          have hD : va_D A (ws_sl a k rd wr ay ia mo wo (upd so p1.toNatClampNeg p2) oi (upd si p2.toNatClampNeg ((si p2.toNatClampNeg) + 1)) mi wi ns nt nf np sl hs) := hD
          refine lv_aload_n hx hb dX0_settle_38 rfl (lv_at hl 0 rfl) ?_
          refine va_get (D := (dC, dI)) (ci := 0) (v := .ref (a 10)) (C := RX0) (T := TX0) (N := 17) hx hb hg inX0 hown hK hP 0 rfl rfl 9 (by decide) (hg _ w_28) (fun _ h9 => h9) rfl dX0_settle_39 ?_
          refine lv_iload_n hx hb dX0_settle_42 rfl (lv_at hl 2 rfl) ?_
          refine lv_dup2_11 hx hb dX0_settle_43 rfl rfl ?_
          refine va_iald hx hb hK hP 10 9 rfl rfl (ix_lt c_11 c_17 (by decide)) dX0_settle_44 ?_
          refine lv_aload_n hx hb dX0_settle_45 rfl (lv_at hl 0 rfl) ?_
          refine va_get (D := (dC, dI)) (ci := 0) (v := .ref (a 5)) (C := RX0) (T := TX0) (N := 17) hx hb hg inX0 hown hK hP 0 rfl rfl 4 (by decide) (hg _ w_23) (fun _ h9 => h9) rfl dX0_settle_46 ?_
          refine lv_iload_n hx hb dX0_settle_49 rfl (lv_at hl 1 rfl) ?_
          refine va_iald hx hb hK hP 5 4 rfl rfl (ix_le c_1 c_7 (by decide)) dX0_settle_50 ?_
          refine lv_iadd hx hb dX0_settle_51 ?_
          refine va_iast hx hb hK hP hD hS 10 9 rfl rfl (ix_lt c_11 c_17 (by decide)) dX0_settle_52 (fun H locs hP hD hS => ?_)
          have hP : va_P (dC, dI) vwCl (ws_sl a k rd wr ay ia mo wo (upd so p1.toNatClampNeg p2) oi (upd si p2.toNatClampNeg ((si p2.toNatClampNeg) + 1)) (upd mi p2.toNatClampNeg ((mi p2.toNatClampNeg) + (mo p1.toNatClampNeg))) wi ns nt nf np sl hs) H := hP
          have hD : va_D A (ws_sl a k rd wr ay ia mo wo (upd so p1.toNatClampNeg p2) oi (upd si p2.toNatClampNeg ((si p2.toNatClampNeg) + 1)) (upd mi p2.toNatClampNeg ((mi p2.toNatClampNeg) + (mo p1.toNatClampNeg))) wi ns nt nf np sl hs) := hD
          refine lv_aload_n hx hb dX0_settle_53 rfl (lv_at hl 0 rfl) ?_
          refine va_get (D := (dC, dI)) (ci := 0) (v := .ref (a 11)) (C := RX0) (T := TX0) (N := 17) hx hb hg inX0 hown hK hP 0 rfl rfl 10 (by decide) (hg _ w_29) (fun _ h9 => h9) rfl dX0_settle_54 ?_
          refine lv_iload_n hx hb dX0_settle_57 rfl (lv_at hl 2 rfl) ?_
          refine lv_dup2_11 hx hb dX0_settle_58 rfl rfl ?_
          refine va_iald hx hb hK hP 11 10 rfl rfl (ix_lt c_11 c_17 (by decide)) dX0_settle_59 ?_
          refine lv_aload_n hx hb dX0_settle_60 rfl (lv_at hl 0 rfl) ?_
          refine va_get (D := (dC, dI)) (ci := 0) (v := .ref (a 6)) (C := RX0) (T := TX0) (N := 17) hx hb hg inX0 hown hK hP 0 rfl rfl 5 (by decide) (hg _ w_24) (fun _ h9 => h9) rfl dX0_settle_61 ?_
          refine lv_iload_n hx hb dX0_settle_64 rfl (lv_at hl 1 rfl) ?_
          refine va_iald hx hb hK hP 6 5 rfl rfl (ix_le c_1 c_7 (by decide)) dX0_settle_65 ?_
          refine lv_iadd hx hb dX0_settle_66 ?_
          refine va_iast hx hb hK hP hD hS 11 10 rfl rfl (ix_lt c_11 c_17 (by decide)) dX0_settle_67 (fun H locs hP hD hS => ?_)
          have hP : va_P (dC, dI) vwCl (ws_sl a k rd wr ay ia mo wo (upd so p1.toNatClampNeg p2) oi (upd si p2.toNatClampNeg ((si p2.toNatClampNeg) + 1)) (upd mi p2.toNatClampNeg ((mi p2.toNatClampNeg) + (mo p1.toNatClampNeg))) (upd wi p2.toNatClampNeg ((wi p2.toNatClampNeg) + (wo p1.toNatClampNeg))) ns nt nf np sl hs) H := hP
          have hD : va_D A (ws_sl a k rd wr ay ia mo wo (upd so p1.toNatClampNeg p2) oi (upd si p2.toNatClampNeg ((si p2.toNatClampNeg) + 1)) (upd mi p2.toNatClampNeg ((mi p2.toNatClampNeg) + (mo p1.toNatClampNeg))) (upd wi p2.toNatClampNeg ((wi p2.toNatClampNeg) + (wo p1.toNatClampNeg))) ns nt nf np sl hs) := hD
          have hw : sl_settle mo wo so si mi wi p1 p2 = (upd so p1.toNatClampNeg p2, upd si p2.toNatClampNeg ((si p2.toNatClampNeg) + 1), upd mi p2.toNatClampNeg ((mi p2.toNatClampNeg) + (mo p1.toNatClampNeg)), upd wi p2.toNatClampNeg ((wi p2.toNatClampNeg) + (wo p1.toNatClampNeg))) := by unfold sl_settle; rw [if_neg c_1, if_neg c_7, if_neg c_11, if_pos c_17]; try rfl
          exact W.vret hx hb hr (fun t ht hW => ⟨⟨(upd so p1.toNatClampNeg p2, upd si p2.toNatClampNeg ((si p2.toNatClampNeg) + 1), upd mi p2.toNatClampNeg ((mi p2.toNatClampNeg) + (mo p1.toNatClampNeg)), upd wi p2.toNatClampNeg ((wi p2.toNatClampNeg) + (wo p1.toNatClampNeg))), rfl, hw, ⟨by rw [ht]; exact hP, va_K.moved hW.alike hK, hD⟩⟩, hS.F ht⟩) hS.2.2 dX0_settle_68
        · have hw : sl_settle mo wo so si mi wi p1 p2 = (so, si, mi, wi) := by unfold sl_settle; rw [if_neg c_1, if_neg c_7, if_neg c_11, if_neg c_17]; try rfl
          exact W.vret hx hb hr (fun t ht hW => ⟨⟨(so, si, mi, wi), rfl, hw, ⟨by rw [ht]; exact hP, va_K.moved hW.alike hK, hD⟩⟩, hS.F ht⟩) hS.2.2 dX0_settle_20
set_option maxHeartbeats 4000000 in
set_option maxRecDepth 100000 in
theorem cs_earliestStage_L63 {p : Program} {l : Launch} {e : Env} {s : State} {m : MethodId} {args : Array Value} {below : List Frame} {meth : Method} {c : Code} {Q : State → Prop} {dC : Nat → ClassId} {dI : Nat → Nat → Nat} {a : Nat → Nat} {k : Nat → ClassId} {A : Nat → Prop} (rd wr : Nat → Int64) (ay ia mo wo so oi si mi wi : Nat → Int32) (ns nt nf np sl hs : Int32) (p1 : Int32) (w4 t6 : Int64) (hx : p.tables.exec = Jvm.exec) (hb : c.code = cX0_earliestStage) (hml : c.maxLocals = 9) (hown : s.vm.findClass RX0 = some m.cls) (hg : ∀ w ∈ gw, w.before args s = true) (hA : ∀ q : Nat, s.heap.size ≤ q → A q) (hK : va_K (dC, dI) vwCl (ty_sl k) s) (h48 : p1.toInt ≤ 48) :
    ∀ (n : Nat) (x3 x8 : Int32) (H : Heap) (locs : List Loc) (ls : Array Slot), (cnt p1 x8 n) → va_P (dC, dI) vwCl (ws_sl a k rd wr ay ia mo wo so oi si mi wi ns nt nf np sl hs) H → va_D A (ws_sl a k rd wr ay ia mo wo so oi si mi wi ns nt nf np sl hs) → va_S A s.heap H locs → lv_has ls 9 [(0, .ref (a 0)), (1, .int p1), (4, .long w4), (6, .long t6), (3, .int x3), (8, .int x8)] →
      (∀ (x3_o63 : Int32), sl_earliestStage_L63 rd wr so p1 w4 t6 n x3 x8 = x3_o63 → ∀ (H : Heap) (locs : List Loc) (ls : Array Slot), va_P (dC, dI) vwCl (ws_sl a k rd wr ay ia mo wo so oi si mi wi ns nt nf np sl hs) H → va_D A (ws_sl a k rd wr ay ia mo wo so oi si mi wi ns nt nf np sl hs) → va_S A s.heap H locs → lv_has ls 9 [(0, .ref (a 0)), (1, .int p1), (4, .long w4), (6, .long t6), (3, .int x3_o63)] → W p l e (headSpec wsX0_earliestStage ({ frames := 1, cells := 0, slots := 0, locals := 21 } : Room)).room s m args below meth c H locs 0 0 Q (F0 m 134 ls [])) →
      W p l e (headSpec wsX0_earliestStage ({ frames := 1, cells := 0, slots := 0, locals := 21 } : Room)).room s m args below meth c H locs 0 0 Q (F0 m 63 ls []) := by
  intro n
  induction n with
  | zero =>
    intro x3 x8 H locs ls hinv
    exact absurd hinv (cnt_z)
  | succ n ih =>
    intro x3 x8 H locs ls hinv hP hD hS hl k0
    refine lv_iload hx hb dX0_earliestStage_63 (lv_at hl 5 rfl) ?_
    refine lv_iload_n hx hb dX0_earliestStage_65 rfl (lv_at hl 1 rfl) ?_
    refine lv_icmp_ge (tgt := 134) hx hb dX0_earliestStage_66 (by decide) (fun c_66 => ?_) (fun c_66 => ?_)
    · exact k0 x3 (by rw [sl_earliestStage_L63_s]; rw [if_pos c_66]; try rfl) H locs ls hP hD hS (lv_sub hl [0, 1, 2, 3, 4] rfl)
    · refine lv_aload_n hx hb dX0_earliestStage_69 rfl (lv_at hl 0 rfl) ?_
      refine va_get (D := (dC, dI)) (ci := 0) (v := .ref (a 2)) (C := RX0) (T := TX0) (N := 17) hx hb hg inX0 hown hK hP 0 rfl rfl 1 (by decide) (hg _ w_20) (fun _ h9 => h9) rfl dX0_earliestStage_70 ?_
      refine lv_iload hx hb dX0_earliestStage_73 (lv_at hl 5 rfl) ?_
      refine va_lald hx hb hK hP 2 1 rfl rfl (cnt_in hinv c_66 h48) dX0_earliestStage_75 ?_
      refine lv_lload hx hb dX0_earliestStage_76 (lv_at hl 3 rfl) ?_
      refine lv_land hx hb dX0_earliestStage_78 ?_
      refine lv_lconst (v := 0) hx hb dX0_earliestStage_79 (by decide) ?_
      refine W.lcmp hx hb dX0_earliestStage_80 ?_
      refine lv_if_eq (tgt := 101) hx hb dX0_earliestStage_81 (by decide) (fun c_81 => ?_) (fun c_81 => ?_)
      · refine lv_aload_n hx hb dX0_earliestStage_101 rfl (lv_at hl 0 rfl) ?_
        refine va_get (D := (dC, dI)) (ci := 0) (v := .ref (a 1)) (C := RX0) (T := TX0) (N := 17) hx hb hg inX0 hown hK hP 0 rfl rfl 0 (by decide) (hg _ w_19) (fun _ h9 => h9) rfl dX0_earliestStage_102 ?_
        refine lv_iload hx hb dX0_earliestStage_105 (lv_at hl 5 rfl) ?_
        refine va_lald hx hb hK hP 1 0 rfl rfl (cnt_in hinv c_66 h48) dX0_earliestStage_107 ?_
        refine lv_lload hx hb dX0_earliestStage_108 (lv_at hl 2 rfl) ?_
        refine lv_land hx hb dX0_earliestStage_110 ?_
        refine lv_lconst (v := 0) hx hb dX0_earliestStage_111 (by decide) ?_
        refine W.lcmp hx hb dX0_earliestStage_112 ?_
        refine lv_if_eq (tgt := 128) hx hb dX0_earliestStage_113 (by decide) (fun c_113 => ?_) (fun c_113 => ?_)
        · refine lv_iinc (v := x8 + 1) (lv' := [(8, .int (x8 + 1)), (0, .ref (a 0)), (1, .int p1), (4, .long w4), (6, .long t6), (3, .int x3)]) hx hb dX0_earliestStage_128 hl (k := 5) rfl rfl (by decide) rfl (fun ls hl => ?_)
          refine lv_goto (tgt := 63) hx hb dX0_earliestStage_131 (by decide) ?_
          exact ih x3 (x8 + 1) H locs ls (cnt_s hinv c_66) hP hD hS (lv_sub hl [1, 2, 3, 4, 5, 0] rfl) (fun x3_o63 hw H locs ls hP hD hS hl => k0 x3_o63 (by rw [sl_earliestStage_L63_s]; rw [if_neg c_66, if_pos c_81, if_pos c_113]; exact hw) H locs ls hP hD hS hl)
        · refine lv_iload_n hx hb dX0_earliestStage_116 rfl (lv_at hl 4 rfl) ?_
          refine lv_aload_n hx hb dX0_earliestStage_117 rfl (lv_at hl 0 rfl) ?_
          refine va_get (D := (dC, dI)) (ci := 0) (v := .ref (a 7)) (C := RX0) (T := TX0) (N := 17) hx hb hg inX0 hown hK hP 0 rfl rfl 6 (by decide) (hg _ w_25) (fun _ h9 => h9) rfl dX0_earliestStage_118 ?_
          refine lv_iload hx hb dX0_earliestStage_121 (lv_at hl 5 rfl) ?_
          refine va_iald hx hb hK hP 7 6 rfl rfl (cnt_in hinv c_66 h48) dX0_earliestStage_123 ?_
          refine va_mmax hx hb (hml.trans hl.1.symm) hown (hg _ w_199) (hg _ w_200) (hg _ w_8) (hg _ w_201) (Nat.le_of_ble_eq_true rfl) (Nat.le_of_ble_eq_true rfl) (Nat.le_of_ble_eq_true rfl) (Nat.le_of_ble_eq_true rfl) dX0_earliestStage_124 ?_
          refine lv_istore_n (lv' := [(3, .int (if x3 < (so x8.toNatClampNeg) then (so x8.toNatClampNeg) else x3)), (0, .ref (a 0)), (1, .int p1), (4, .long w4), (6, .long t6), (8, .int x8)]) hx hb dX0_earliestStage_127 rfl hl (by decide) rfl (fun ls hl => ?_)
          refine lv_iinc (v := x8 + 1) (lv' := [(8, .int (x8 + 1)), (3, .int (if x3 < (so x8.toNatClampNeg) then (so x8.toNatClampNeg) else x3)), (0, .ref (a 0)), (1, .int p1), (4, .long w4), (6, .long t6)]) hx hb dX0_earliestStage_128 hl (k := 5) rfl rfl (by decide) rfl (fun ls hl => ?_)
          refine lv_goto (tgt := 63) hx hb dX0_earliestStage_131 (by decide) ?_
          exact ih (if x3 < (so x8.toNatClampNeg) then (so x8.toNatClampNeg) else x3) (x8 + 1) H locs ls (cnt_s hinv c_66) hP hD hS (lv_sub hl [2, 3, 4, 5, 1, 0] rfl) (fun x3_o63 hw H locs ls hP hD hS hl => k0 x3_o63 (by rw [sl_earliestStage_L63_s]; rw [if_neg c_66, if_pos c_81, if_neg c_113]; exact hw) H locs ls hP hD hS hl)
      · refine lv_iload_n hx hb dX0_earliestStage_84 rfl (lv_at hl 4 rfl) ?_
        refine lv_aload_n hx hb dX0_earliestStage_85 rfl (lv_at hl 0 rfl) ?_
        refine va_get (D := (dC, dI)) (ci := 0) (v := .ref (a 7)) (C := RX0) (T := TX0) (N := 17) hx hb hg inX0 hown hK hP 0 rfl rfl 6 (by decide) (hg _ w_25) (fun _ h9 => h9) rfl dX0_earliestStage_86 ?_
        refine lv_iload hx hb dX0_earliestStage_89 (lv_at hl 5 rfl) ?_
        refine va_iald hx hb hK hP 7 6 rfl rfl (cnt_in hinv c_66 h48) dX0_earliestStage_91 ?_
        refine lv_iconst (v := 1) hx hb dX0_earliestStage_92 (by decide) ?_
        refine lv_iadd hx hb dX0_earliestStage_93 ?_
        refine va_mmax hx hb (hml.trans hl.1.symm) hown (hg _ w_199) (hg _ w_200) (hg _ w_8) (hg _ w_201) (Nat.le_of_ble_eq_true rfl) (Nat.le_of_ble_eq_true rfl) (Nat.le_of_ble_eq_true rfl) (Nat.le_of_ble_eq_true rfl) dX0_earliestStage_94 ?_
        refine lv_istore_n (lv' := [(3, .int (if x3 < ((so x8.toNatClampNeg) + 1) then ((so x8.toNatClampNeg) + 1) else x3)), (0, .ref (a 0)), (1, .int p1), (4, .long w4), (6, .long t6), (8, .int x8)]) hx hb dX0_earliestStage_97 rfl hl (by decide) rfl (fun ls hl => ?_)
        refine lv_goto (tgt := 128) hx hb dX0_earliestStage_98 (by decide) ?_
        refine lv_iinc (v := x8 + 1) (lv' := [(8, .int (x8 + 1)), (3, .int (if x3 < ((so x8.toNatClampNeg) + 1) then ((so x8.toNatClampNeg) + 1) else x3)), (0, .ref (a 0)), (1, .int p1), (4, .long w4), (6, .long t6)]) hx hb dX0_earliestStage_128 hl (k := 5) rfl rfl (by decide) rfl (fun ls hl => ?_)
        refine lv_goto (tgt := 63) hx hb dX0_earliestStage_131 (by decide) ?_
        exact ih (if x3 < ((so x8.toNatClampNeg) + 1) then ((so x8.toNatClampNeg) + 1) else x3) (x8 + 1) H locs ls (cnt_s hinv c_66) hP hD hS (lv_sub hl [2, 3, 4, 5, 1, 0] rfl) (fun x3_o63 hw H locs ls hP hD hS hl => k0 x3_o63 (by rw [sl_earliestStage_L63_s]; rw [if_neg c_66, if_neg c_81]; exact hw) H locs ls hP hD hS hl)
set_option maxHeartbeats 4000000 in
set_option maxRecDepth 100000 in
theorem cs_earliestStage (l : Launch) (dC : Nat → ClassId) (dI : Nat → Nat → Nat) (a : Nat → Nat) (k : Nat → ClassId) (sz : Nat) (rd wr : Nat → Int64) (ay ia mo wo so oi si mi wi : Nat → Int32) (ns nt nf np sl hs : Int32) (p1 : Int32) : Met l yX0_earliestStage wsX0_earliestStage ({ frames := 1, cells := 0, slots := 0, locals := 21 } : Room) (va_Pc [.ref (a 0), .int p1] (pr (dC, dI) (ws_sl a k rd wr ay ia mo wo so oi si mi wi ns nt nf np sl hs) (ty_sl k) sz)) (va_Qi (fun (r : Int32) (_ : Unit) => r = sl_earliestStage rd wr ia so p1) (fun (_ : Unit) t => po (dC, dI) (ws_sl a k rd wr ay ia mo wo so oi si mi wi ns nt nf np sl hs) (ty_sl k) (va_A (ws_sl a k rd wr ay ia mo wo so oi si mi wi ns nt nf np sl hs) sz) t) (va_A (ws_sl a k rd wr ay ia mo wo so oi si mi wi ns nt nf np sl hs) sz)) 0 0 (va_A (ws_sl a k rd wr ay ia mo wo so oi si mi wi ns nt nf np sl hs) sz) := by
  refine Met.ofW (cc := cX0_earliestStage) (maxL := 9) (ret := (some .int)) (by decide) rfl ?_
  intro p e s m args below meth c s₁ B hml hv
  obtain ⟨rfl, hsz, hP, hK, hD0⟩ := hv
  have hx := B.exec
  have hb := B.bytes
  have hr := B.returns
  have hts := atoms_spec (ws := wsX0_earliestStage) B.pre
  have hg : ∀ w ∈ gw, w.before _ s = true := fun w h => hts w (List.mem_cons_of_mem _ h)
  have hown : s.vm.findClass RX0 = some m.cls := findClass_of_methodNamed B.named
  have hlocks := B.notSynchronized
  subst hsz
  have hD := hD0.self (sz := s.heap.size)
  generalize hAe : va_A (ws_sl a k rd wr ay ia mo wo so oi si mi wi ns nt nf np sl hs) s.heap.size = A at hD ⊢
  have hA : ∀ q : Nat, s.heap.size ≤ q → A q := fun q h => by rw [← hAe]; exact Or.inr h
  clear hAe
  refine w_in (fun H locs eH eL => ?_)
  have hS : va_S A s.heap H locs := by rw [eH, eL]; exact va_S.rf
  have hP : va_P (dC, dI) vwCl (ws_sl a k rd wr ay ia mo wo so oi si mi wi ns nt nf np sl hs) H := by rw [eH]; exact hP
  clear eH eL
  have hl := lv_entry ([.ref (a 0), .int p1]) (n := 9) (Nat.le_of_ble_eq_true rfl)
  rw [lg_entry_eq]
  generalize (lg_sl ([.ref (a 0), .int p1]) ++ List.replicate (9 - (lg_sl ([.ref (a 0), .int p1])).length) Slot.unset).toArray = ls at hl ⊢
  have hl : lv_has ls 9 [(0, .ref (a 0)), (1, .int p1)] := hl
  refine lv_iload_n hx hb dX0_earliestStage_0 rfl (lv_at hl 1 rfl) ?_
  refine lv_if_lt (tgt := 10) hx hb dX0_earliestStage_1 (by decide) (fun c_1 => ?_) (fun c_1 => ?_)
  · refine lv_iconst (v := 0) hx hb dX0_earliestStage_10 (by decide) ?_
    have hw : 0 = sl_earliestStage rd wr ia so p1 := by unfold sl_earliestStage; rw [if_pos c_1]; try rfl
    exact W.iret (v := 0) hx hb hr (fun t ht hW => ⟨⟨0, (), rfl, hw, ⟨by rw [ht]; exact hP, va_K.moved hW.alike hK, hD⟩⟩, hS.F ht⟩) hS.2.2 dX0_earliestStage_11
  · refine lv_iload_n hx hb dX0_earliestStage_4 rfl (lv_at hl 1 rfl) ?_
    refine lv_bipush (v := 48) hx hb dX0_earliestStage_5 (by decide) ?_
    refine lv_icmp_lt (tgt := 12) hx hb dX0_earliestStage_7 (by decide) (fun c_7 => ?_) (fun c_7 => ?_)
    · refine lv_aload_n hx hb dX0_earliestStage_12 rfl (lv_at hl 0 rfl) ?_
      refine va_get (D := (dC, dI)) (ci := 0) (v := .ref (a 4)) (C := RX0) (T := TX0) (N := 17) hx hb hg inX0 hown hK hP 0 rfl rfl 3 (by decide) (hg _ w_22) (fun _ h9 => h9) rfl dX0_earliestStage_13 ?_
      refine lv_iload_n hx hb dX0_earliestStage_16 rfl (lv_at hl 1 rfl) ?_
      refine va_iald hx hb hK hP 4 3 rfl rfl (ix_lt c_1 c_7 (by decide)) dX0_earliestStage_17 ?_
      refine lv_istore_n (lv' := [(2, .int (ia p1.toNatClampNeg)), (0, .ref (a 0)), (1, .int p1)]) hx hb dX0_earliestStage_18 rfl hl (by decide) rfl (fun ls hl => ?_)
      refine lv_iload_n hx hb dX0_earliestStage_19 rfl (lv_at hl 0 rfl) ?_
      refine lv_if_lt (tgt := 39) hx hb dX0_earliestStage_20 (by decide) (fun c_20 => ?_) (fun c_20 => ?_)
      · refine lv_iconst (v := 0) hx hb dX0_earliestStage_39 (by decide) ?_
        refine lv_istore_n (lv' := [(3, .int 0), (2, .int (ia p1.toNatClampNeg)), (0, .ref (a 0)), (1, .int p1)]) hx hb dX0_earliestStage_40 rfl hl (by decide) rfl (fun ls hl => ?_)
        refine lv_aload_n hx hb dX0_earliestStage_41 rfl (lv_at hl 2 rfl) ?_
        refine va_get (D := (dC, dI)) (ci := 0) (v := .ref (a 2)) (C := RX0) (T := TX0) (N := 17) hx hb hg inX0 hown hK hP 0 rfl rfl 1 (by decide) (hg _ w_20) (fun _ h9 => h9) rfl dX0_earliestStage_42 ?_
        refine lv_iload_n hx hb dX0_earliestStage_45 rfl (lv_at hl 3 rfl) ?_
        refine va_lald hx hb hK hP 2 1 rfl rfl (ix_lt c_1 c_7 (by decide)) dX0_earliestStage_46 ?_
        refine lv_lstore (lv' := [(4, .long (wr p1.toNatClampNeg)), (3, .int 0), (2, .int (ia p1.toNatClampNeg)), (0, .ref (a 0)), (1, .int p1)]) hx hb dX0_earliestStage_47 hl (by decide) rfl (fun ls hl => ?_)
        refine lv_aload_n hx hb dX0_earliestStage_49 rfl (lv_at hl 3 rfl) ?_
        refine va_get (D := (dC, dI)) (ci := 0) (v := .ref (a 1)) (C := RX0) (T := TX0) (N := 17) hx hb hg inX0 hown hK hP 0 rfl rfl 0 (by decide) (hg _ w_19) (fun _ h9 => h9) rfl dX0_earliestStage_50 ?_
        refine lv_iload_n hx hb dX0_earliestStage_53 rfl (lv_at hl 4 rfl) ?_
        refine va_lald hx hb hK hP 1 0 rfl rfl (ix_lt c_1 c_7 (by decide)) dX0_earliestStage_54 ?_
        refine lv_lload hx hb dX0_earliestStage_55 (lv_at hl 0 rfl) ?_
        refine lv_lor hx hb dX0_earliestStage_57 ?_
        refine lv_lstore (lv' := [(6, .long ((rd p1.toNatClampNeg) ||| (wr p1.toNatClampNeg))), (4, .long (wr p1.toNatClampNeg)), (3, .int 0), (2, .int (ia p1.toNatClampNeg)), (0, .ref (a 0)), (1, .int p1)]) hx hb dX0_earliestStage_58 hl (by decide) rfl (fun ls hl => ?_)
        refine lv_iconst (v := 0) hx hb dX0_earliestStage_60 (by decide) ?_
        refine lv_istore (lv' := [(8, .int 0), (6, .long ((rd p1.toNatClampNeg) ||| (wr p1.toNatClampNeg))), (4, .long (wr p1.toNatClampNeg)), (3, .int 0), (2, .int (ia p1.toNatClampNeg)), (0, .ref (a 0)), (1, .int p1)]) hx hb dX0_earliestStage_61 hl (by decide) rfl (fun ls hl => ?_)
        refine cs_earliestStage_L63 rd wr ay ia mo wo so oi si mi wi ns nt nf np sl hs p1 (wr p1.toNatClampNeg) ((rd p1.toNatClampNeg) ||| (wr p1.toNatClampNeg)) hx hb hml hown hg hA hK (le_of c_7 (by decide)) 49 0 0 H locs ls (cnt_0 (nn_of c_1) (lt_of c_7 (by decide))) hP hD hS (lv_sub hl [5, 6, 2, 1, 3, 0] rfl) (fun x3_o63 hw_63 H locs ls hP hD hS hl => ?_)
        refine lv_iload_n hx hb dX0_earliestStage_134 rfl (lv_at hl 4 rfl) ?_
        have hw : x3_o63 = sl_earliestStage rd wr ia so p1 := by unfold sl_earliestStage; rw [if_neg c_1, if_pos c_7, if_pos c_20, hw_63]; try dsimp only; try rfl
        exact W.iret (v := x3_o63) hx hb hr (fun t ht hW => ⟨⟨x3_o63, (), rfl, hw, ⟨by rw [ht]; exact hP, va_K.moved hW.alike hK, hD⟩⟩, hS.F ht⟩) hS.2.2 dX0_earliestStage_135
      · refine lv_iload_n hx hb dX0_earliestStage_23 rfl (lv_at hl 0 rfl) ?_
        refine lv_iload_n hx hb dX0_earliestStage_24 rfl (lv_at hl 2 rfl) ?_
        refine lv_icmp_ge (tgt := 39) hx hb dX0_earliestStage_25 (by decide) (fun c_25 => ?_) (fun c_25 => ?_)
        · refine lv_iconst (v := 0) hx hb dX0_earliestStage_39 (by decide) ?_
          refine lv_istore_n (lv' := [(3, .int 0), (2, .int (ia p1.toNatClampNeg)), (0, .ref (a 0)), (1, .int p1)]) hx hb dX0_earliestStage_40 rfl hl (by decide) rfl (fun ls hl => ?_)
          refine lv_aload_n hx hb dX0_earliestStage_41 rfl (lv_at hl 2 rfl) ?_
          refine va_get (D := (dC, dI)) (ci := 0) (v := .ref (a 2)) (C := RX0) (T := TX0) (N := 17) hx hb hg inX0 hown hK hP 0 rfl rfl 1 (by decide) (hg _ w_20) (fun _ h9 => h9) rfl dX0_earliestStage_42 ?_
          refine lv_iload_n hx hb dX0_earliestStage_45 rfl (lv_at hl 3 rfl) ?_
          refine va_lald hx hb hK hP 2 1 rfl rfl (ix_lt c_1 c_7 (by decide)) dX0_earliestStage_46 ?_
          refine lv_lstore (lv' := [(4, .long (wr p1.toNatClampNeg)), (3, .int 0), (2, .int (ia p1.toNatClampNeg)), (0, .ref (a 0)), (1, .int p1)]) hx hb dX0_earliestStage_47 hl (by decide) rfl (fun ls hl => ?_)
          refine lv_aload_n hx hb dX0_earliestStage_49 rfl (lv_at hl 3 rfl) ?_
          refine va_get (D := (dC, dI)) (ci := 0) (v := .ref (a 1)) (C := RX0) (T := TX0) (N := 17) hx hb hg inX0 hown hK hP 0 rfl rfl 0 (by decide) (hg _ w_19) (fun _ h9 => h9) rfl dX0_earliestStage_50 ?_
          refine lv_iload_n hx hb dX0_earliestStage_53 rfl (lv_at hl 4 rfl) ?_
          refine va_lald hx hb hK hP 1 0 rfl rfl (ix_lt c_1 c_7 (by decide)) dX0_earliestStage_54 ?_
          refine lv_lload hx hb dX0_earliestStage_55 (lv_at hl 0 rfl) ?_
          refine lv_lor hx hb dX0_earliestStage_57 ?_
          refine lv_lstore (lv' := [(6, .long ((rd p1.toNatClampNeg) ||| (wr p1.toNatClampNeg))), (4, .long (wr p1.toNatClampNeg)), (3, .int 0), (2, .int (ia p1.toNatClampNeg)), (0, .ref (a 0)), (1, .int p1)]) hx hb dX0_earliestStage_58 hl (by decide) rfl (fun ls hl => ?_)
          refine lv_iconst (v := 0) hx hb dX0_earliestStage_60 (by decide) ?_
          refine lv_istore (lv' := [(8, .int 0), (6, .long ((rd p1.toNatClampNeg) ||| (wr p1.toNatClampNeg))), (4, .long (wr p1.toNatClampNeg)), (3, .int 0), (2, .int (ia p1.toNatClampNeg)), (0, .ref (a 0)), (1, .int p1)]) hx hb dX0_earliestStage_61 hl (by decide) rfl (fun ls hl => ?_)
          refine cs_earliestStage_L63 rd wr ay ia mo wo so oi si mi wi ns nt nf np sl hs p1 (wr p1.toNatClampNeg) ((rd p1.toNatClampNeg) ||| (wr p1.toNatClampNeg)) hx hb hml hown hg hA hK (le_of c_7 (by decide)) 49 0 0 H locs ls (cnt_0 (nn_of c_1) (lt_of c_7 (by decide))) hP hD hS (lv_sub hl [5, 6, 2, 1, 3, 0] rfl) (fun x3_o63 hw_63 H locs ls hP hD hS hl => ?_)
          refine lv_iload_n hx hb dX0_earliestStage_134 rfl (lv_at hl 4 rfl) ?_
          have hw : x3_o63 = sl_earliestStage rd wr ia so p1 := by unfold sl_earliestStage; rw [if_neg c_1, if_pos c_7, if_neg c_20, if_pos c_25, hw_63]; try dsimp only; try rfl
          exact W.iret (v := x3_o63) hx hb hr (fun t ht hW => ⟨⟨x3_o63, (), rfl, hw, ⟨by rw [ht]; exact hP, va_K.moved hW.alike hK, hD⟩⟩, hS.F ht⟩) hS.2.2 dX0_earliestStage_135
        · refine lv_aload_n hx hb dX0_earliestStage_28 rfl (lv_at hl 1 rfl) ?_
          refine va_get (D := (dC, dI)) (ci := 0) (v := .ref (a 7)) (C := RX0) (T := TX0) (N := 17) hx hb hg inX0 hown hK hP 0 rfl rfl 6 (by decide) (hg _ w_25) (fun _ h9 => h9) rfl dX0_earliestStage_29 ?_
          refine lv_iload_n hx hb dX0_earliestStage_32 rfl (lv_at hl 0 rfl) ?_
          refine va_iald hx hb hK hP 7 6 rfl rfl (ix_tr c_20 c_25 c_7) dX0_earliestStage_33 ?_
          refine lv_iconst (v := 1) hx hb dX0_earliestStage_34 (by decide) ?_
          refine lv_iadd hx hb dX0_earliestStage_35 ?_
          refine lv_goto (tgt := 40) hx hb dX0_earliestStage_36 (by decide) ?_
          refine lv_istore_n (lv' := [(3, .int ((so (ia p1.toNatClampNeg).toNatClampNeg) + 1)), (2, .int (ia p1.toNatClampNeg)), (0, .ref (a 0)), (1, .int p1)]) hx hb dX0_earliestStage_40 rfl hl (by decide) rfl (fun ls hl => ?_)
          refine lv_aload_n hx hb dX0_earliestStage_41 rfl (lv_at hl 2 rfl) ?_
          refine va_get (D := (dC, dI)) (ci := 0) (v := .ref (a 2)) (C := RX0) (T := TX0) (N := 17) hx hb hg inX0 hown hK hP 0 rfl rfl 1 (by decide) (hg _ w_20) (fun _ h9 => h9) rfl dX0_earliestStage_42 ?_
          refine lv_iload_n hx hb dX0_earliestStage_45 rfl (lv_at hl 3 rfl) ?_
          refine va_lald hx hb hK hP 2 1 rfl rfl (ix_lt c_1 c_7 (by decide)) dX0_earliestStage_46 ?_
          refine lv_lstore (lv' := [(4, .long (wr p1.toNatClampNeg)), (3, .int ((so (ia p1.toNatClampNeg).toNatClampNeg) + 1)), (2, .int (ia p1.toNatClampNeg)), (0, .ref (a 0)), (1, .int p1)]) hx hb dX0_earliestStage_47 hl (by decide) rfl (fun ls hl => ?_)
          refine lv_aload_n hx hb dX0_earliestStage_49 rfl (lv_at hl 3 rfl) ?_
          refine va_get (D := (dC, dI)) (ci := 0) (v := .ref (a 1)) (C := RX0) (T := TX0) (N := 17) hx hb hg inX0 hown hK hP 0 rfl rfl 0 (by decide) (hg _ w_19) (fun _ h9 => h9) rfl dX0_earliestStage_50 ?_
          refine lv_iload_n hx hb dX0_earliestStage_53 rfl (lv_at hl 4 rfl) ?_
          refine va_lald hx hb hK hP 1 0 rfl rfl (ix_lt c_1 c_7 (by decide)) dX0_earliestStage_54 ?_
          refine lv_lload hx hb dX0_earliestStage_55 (lv_at hl 0 rfl) ?_
          refine lv_lor hx hb dX0_earliestStage_57 ?_
          refine lv_lstore (lv' := [(6, .long ((rd p1.toNatClampNeg) ||| (wr p1.toNatClampNeg))), (4, .long (wr p1.toNatClampNeg)), (3, .int ((so (ia p1.toNatClampNeg).toNatClampNeg) + 1)), (2, .int (ia p1.toNatClampNeg)), (0, .ref (a 0)), (1, .int p1)]) hx hb dX0_earliestStage_58 hl (by decide) rfl (fun ls hl => ?_)
          refine lv_iconst (v := 0) hx hb dX0_earliestStage_60 (by decide) ?_
          refine lv_istore (lv' := [(8, .int 0), (6, .long ((rd p1.toNatClampNeg) ||| (wr p1.toNatClampNeg))), (4, .long (wr p1.toNatClampNeg)), (3, .int ((so (ia p1.toNatClampNeg).toNatClampNeg) + 1)), (2, .int (ia p1.toNatClampNeg)), (0, .ref (a 0)), (1, .int p1)]) hx hb dX0_earliestStage_61 hl (by decide) rfl (fun ls hl => ?_)
          refine cs_earliestStage_L63 rd wr ay ia mo wo so oi si mi wi ns nt nf np sl hs p1 (wr p1.toNatClampNeg) ((rd p1.toNatClampNeg) ||| (wr p1.toNatClampNeg)) hx hb hml hown hg hA hK (le_of c_7 (by decide)) 49 ((so (ia p1.toNatClampNeg).toNatClampNeg) + 1) 0 H locs ls (cnt_0 (nn_of c_1) (lt_of c_7 (by decide))) hP hD hS (lv_sub hl [5, 6, 2, 1, 3, 0] rfl) (fun x3_o63 hw_63 H locs ls hP hD hS hl => ?_)
          refine lv_iload_n hx hb dX0_earliestStage_134 rfl (lv_at hl 4 rfl) ?_
          have hw : x3_o63 = sl_earliestStage rd wr ia so p1 := by unfold sl_earliestStage; rw [if_neg c_1, if_pos c_7, if_neg c_20, if_neg c_25, hw_63]; try dsimp only; try rfl
          exact W.iret (v := x3_o63) hx hb hr (fun t ht hW => ⟨⟨x3_o63, (), rfl, hw, ⟨by rw [ht]; exact hP, va_K.moved hW.alike hK, hD⟩⟩, hS.F ht⟩) hS.2.2 dX0_earliestStage_135
    · refine lv_iconst (v := 0) hx hb dX0_earliestStage_10 (by decide) ?_
      have hw : 0 = sl_earliestStage rd wr ia so p1 := by unfold sl_earliestStage; rw [if_neg c_1, if_neg c_7]; try rfl
      exact W.iret (v := 0) hx hb hr (fun t ht hW => ⟨⟨0, (), rfl, hw, ⟨by rw [ht]; exact hP, va_K.moved hW.alike hK, hD⟩⟩, hS.F ht⟩) hS.2.2 dX0_earliestStage_11
set_option maxHeartbeats 4000000 in
set_option maxRecDepth 100000 in
theorem cs_stageOfSharedArray_L24 {p : Program} {l : Launch} {e : Env} {s : State} {m : MethodId} {args : Array Value} {below : List Frame} {meth : Method} {c : Code} {Q : State → Prop} {dC : Nat → ClassId} {dI : Nat → Nat → Nat} {a : Nat → Nat} {k : Nat → ClassId} {A : Nat → Prop} (rd wr : Nat → Int64) (ay ia mo wo so oi si mi wi : Nat → Int32) (ns nt nf np sl hs : Int32) (p1 : Int32) (hx : p.tables.exec = Jvm.exec) (hb : c.code = cX0_stageOfSharedArray) (hml : c.maxLocals = 3) (hown : s.vm.findClass RX0 = some m.cls) (hg : ∀ w ∈ gw, w.before args s = true) (hA : ∀ q : Nat, s.heap.size ≤ q → A q) (hK : va_K (dC, dI) vwCl (ty_sl k) s) (h0 : ¬ p1 < 0) (h1 : p1 < 48) :
    ∀ (n : Nat) (x2 : Int32) (H : Heap) (locs : List Loc) (ls : Array Slot), (cnt p1 x2 n) → va_P (dC, dI) vwCl (ws_sl a k rd wr ay ia mo wo so oi si mi wi ns nt nf np sl hs) H → va_D A (ws_sl a k rd wr ay ia mo wo so oi si mi wi ns nt nf np sl hs) → va_S A s.heap H locs → lv_has ls 3 [(0, .ref (a 0)), (1, .int p1), (2, .int x2)] →
      (∀ (_ : Unit), sl_stageOfSharedArray_L24 ay so p1 n x2 = .inl () → ∀ (H : Heap) (locs : List Loc) (ls : Array Slot), va_P (dC, dI) vwCl (ws_sl a k rd wr ay ia mo wo so oi si mi wi ns nt nf np sl hs) H → va_D A (ws_sl a k rd wr ay ia mo wo so oi si mi wi ns nt nf np sl hs) → va_S A s.heap H locs → lv_has ls 3 [(0, .ref (a 0)), (1, .int p1)] → W p l e (headSpec wsX0_stageOfSharedArray ({ frames := 0, cells := 0, slots := 0, locals := 0 } : Room)).room s m args below meth c H locs 0 0 Q (F0 m 57 ls [])) →
      (∀ (r0_o24 : Int32), sl_stageOfSharedArray_L24 ay so p1 n x2 = .inr r0_o24 → ∀ (H : Heap) (locs : List Loc) (ls : Array Slot), va_P (dC, dI) vwCl (ws_sl a k rd wr ay ia mo wo so oi si mi wi ns nt nf np sl hs) H → va_D A (ws_sl a k rd wr ay ia mo wo so oi si mi wi ns nt nf np sl hs) → va_S A s.heap H locs → lv_has ls 3 [(0, .ref (a 0)), (1, .int p1)] → W p l e (headSpec wsX0_stageOfSharedArray ({ frames := 0, cells := 0, slots := 0, locals := 0 } : Room)).room s m args below meth c H locs 0 0 Q (F0 m 50 ls [.int r0_o24])) →
      W p l e (headSpec wsX0_stageOfSharedArray ({ frames := 0, cells := 0, slots := 0, locals := 0 } : Room)).room s m args below meth c H locs 0 0 Q (F0 m 24 ls []) := by
  intro n
  induction n with
  | zero =>
    intro x2 H locs ls hinv
    exact absurd hinv (cnt_z)
  | succ n ih =>
    intro x2 H locs ls hinv hP hD hS hl k0 k1
    refine lv_iload_n hx hb dX0_stageOfSharedArray_24 rfl (lv_at hl 2 rfl) ?_
    refine lv_iload_n hx hb dX0_stageOfSharedArray_25 rfl (lv_at hl 1 rfl) ?_
    refine lv_icmp_ge (tgt := 57) hx hb dX0_stageOfSharedArray_26 (by decide) (fun c_26 => ?_) (fun c_26 => ?_)
    · exact k0 () (by rw [sl_stageOfSharedArray_L24_s]; rw [if_pos c_26]; try rfl) H locs ls hP hD hS (lv_sub hl [0, 1] rfl)
    · refine lv_aload_n hx hb dX0_stageOfSharedArray_29 rfl (lv_at hl 0 rfl) ?_
      refine va_get (D := (dC, dI)) (ci := 0) (v := .ref (a 3)) (C := RX0) (T := TX0) (N := 17) hx hb hg inX0 hown hK hP 0 rfl rfl 2 (by decide) (hg _ w_21) (fun _ h9 => h9) rfl dX0_stageOfSharedArray_30 ?_
      refine lv_iload_n hx hb dX0_stageOfSharedArray_33 rfl (lv_at hl 2 rfl) ?_
      refine va_iald hx hb hK hP 3 2 rfl rfl (cnt_in hinv c_26 (le_of h1 (by decide))) dX0_stageOfSharedArray_34 ?_
      refine lv_aload_n hx hb dX0_stageOfSharedArray_35 rfl (lv_at hl 0 rfl) ?_
      refine va_get (D := (dC, dI)) (ci := 0) (v := .ref (a 3)) (C := RX0) (T := TX0) (N := 17) hx hb hg inX0 hown hK hP 0 rfl rfl 2 (by decide) (hg _ w_21) (fun _ h9 => h9) rfl dX0_stageOfSharedArray_36 ?_
      refine lv_iload_n hx hb dX0_stageOfSharedArray_39 rfl (lv_at hl 1 rfl) ?_
      refine va_iald hx hb hK hP 3 2 rfl rfl (ix_lt h0 h1 (by decide)) dX0_stageOfSharedArray_40 ?_
      refine lv_icmp_ne (tgt := 51) hx hb dX0_stageOfSharedArray_41 (by decide) (fun c_41 => ?_) (fun c_41 => ?_)
      · refine lv_iinc (v := x2 + 1) (lv' := [(2, .int (x2 + 1)), (0, .ref (a 0)), (1, .int p1)]) hx hb dX0_stageOfSharedArray_51 hl (k := 2) rfl rfl (by decide) rfl (fun ls hl => ?_)
        refine lv_goto (tgt := 24) hx hb dX0_stageOfSharedArray_54 (by decide) ?_
        exact ih (x2 + 1) H locs ls (cnt_s hinv c_26) hP hD hS (lv_sub hl [1, 2, 0] rfl) (fun _ hw H locs ls hP hD hS hl => k0 () (by rw [sl_stageOfSharedArray_L24_s]; rw [if_neg c_26, if_neg c_41]; exact hw) H locs ls hP hD hS hl) (fun r0_o24 hw H locs ls hP hD hS hl => k1 r0_o24 (by rw [sl_stageOfSharedArray_L24_s]; rw [if_neg c_26, if_neg c_41]; exact hw) H locs ls hP hD hS hl)
      · refine lv_aload_n hx hb dX0_stageOfSharedArray_44 rfl (lv_at hl 0 rfl) ?_
        refine va_get (D := (dC, dI)) (ci := 0) (v := .ref (a 7)) (C := RX0) (T := TX0) (N := 17) hx hb hg inX0 hown hK hP 0 rfl rfl 6 (by decide) (hg _ w_25) (fun _ h9 => h9) rfl dX0_stageOfSharedArray_45 ?_
        refine lv_iload_n hx hb dX0_stageOfSharedArray_48 rfl (lv_at hl 2 rfl) ?_
        refine va_iald hx hb hK hP 7 6 rfl rfl (cnt_in hinv c_26 (le_of h1 (by decide))) dX0_stageOfSharedArray_49 ?_
        exact k1 (so x2.toNatClampNeg) (by rw [sl_stageOfSharedArray_L24_s]; rw [if_neg c_26, if_pos c_41]; try rfl) H locs ls hP hD hS (lv_sub hl [0, 1] rfl)
set_option maxHeartbeats 4000000 in
set_option maxRecDepth 100000 in
theorem cs_stageOfSharedArray (l : Launch) (dC : Nat → ClassId) (dI : Nat → Nat → Nat) (a : Nat → Nat) (k : Nat → ClassId) (sz : Nat) (rd wr : Nat → Int64) (ay ia mo wo so oi si mi wi : Nat → Int32) (ns nt nf np sl hs : Int32) (p1 : Int32) : Met l yX0_stageOfSharedArray wsX0_stageOfSharedArray ({ frames := 0, cells := 0, slots := 0, locals := 0 } : Room) (va_Pc [.ref (a 0), .int p1] (pr (dC, dI) (ws_sl a k rd wr ay ia mo wo so oi si mi wi ns nt nf np sl hs) (ty_sl k) sz)) (va_Qi (fun (r : Int32) (_ : Unit) => r = sl_stageOfSharedArray ay so p1) (fun (_ : Unit) t => po (dC, dI) (ws_sl a k rd wr ay ia mo wo so oi si mi wi ns nt nf np sl hs) (ty_sl k) (va_A (ws_sl a k rd wr ay ia mo wo so oi si mi wi ns nt nf np sl hs) sz) t) (va_A (ws_sl a k rd wr ay ia mo wo so oi si mi wi ns nt nf np sl hs) sz)) 0 0 (va_A (ws_sl a k rd wr ay ia mo wo so oi si mi wi ns nt nf np sl hs) sz) := by
  refine Met.ofW (cc := cX0_stageOfSharedArray) (maxL := 3) (ret := (some .int)) (by decide) rfl ?_
  intro p e s m args below meth c s₁ B hml hv
  obtain ⟨rfl, hsz, hP, hK, hD0⟩ := hv
  have hx := B.exec
  have hb := B.bytes
  have hr := B.returns
  have hts := atoms_spec (ws := wsX0_stageOfSharedArray) B.pre
  have hg : ∀ w ∈ gw, w.before _ s = true := fun w h => hts w (List.mem_cons_of_mem _ h)
  have hown : s.vm.findClass RX0 = some m.cls := findClass_of_methodNamed B.named
  have hlocks := B.notSynchronized
  subst hsz
  have hD := hD0.self (sz := s.heap.size)
  generalize hAe : va_A (ws_sl a k rd wr ay ia mo wo so oi si mi wi ns nt nf np sl hs) s.heap.size = A at hD ⊢
  have hA : ∀ q : Nat, s.heap.size ≤ q → A q := fun q h => by rw [← hAe]; exact Or.inr h
  clear hAe
  refine w_in (fun H locs eH eL => ?_)
  have hS : va_S A s.heap H locs := by rw [eH, eL]; exact va_S.rf
  have hP : va_P (dC, dI) vwCl (ws_sl a k rd wr ay ia mo wo so oi si mi wi ns nt nf np sl hs) H := by rw [eH]; exact hP
  clear eH eL
  have hl := lv_entry ([.ref (a 0), .int p1]) (n := 3) (Nat.le_of_ble_eq_true rfl)
  rw [lg_entry_eq]
  generalize (lg_sl ([.ref (a 0), .int p1]) ++ List.replicate (3 - (lg_sl ([.ref (a 0), .int p1])).length) Slot.unset).toArray = ls at hl ⊢
  have hl : lv_has ls 3 [(0, .ref (a 0)), (1, .int p1)] := hl
  refine lv_iload_n hx hb dX0_stageOfSharedArray_0 rfl (lv_at hl 1 rfl) ?_
  refine lv_if_lt (tgt := 20) hx hb dX0_stageOfSharedArray_1 (by decide) (fun c_1 => ?_) (fun c_1 => ?_)
  · refine lv_iconst (v := (-1)) hx hb dX0_stageOfSharedArray_20 (by decide) ?_
    have hw : (-1) = sl_stageOfSharedArray ay so p1 := by unfold sl_stageOfSharedArray; rw [if_pos c_1]; try rfl
    exact W.iret (v := (-1)) hx hb hr (fun t ht hW => ⟨⟨(-1), (), rfl, hw, ⟨by rw [ht]; exact hP, va_K.moved hW.alike hK, hD⟩⟩, hS.F ht⟩) hS.2.2 dX0_stageOfSharedArray_21
  · refine lv_iload_n hx hb dX0_stageOfSharedArray_4 rfl (lv_at hl 1 rfl) ?_
    refine lv_bipush (v := 48) hx hb dX0_stageOfSharedArray_5 (by decide) ?_
    refine lv_icmp_ge (tgt := 20) hx hb dX0_stageOfSharedArray_7 (by decide) (fun c_7 => ?_) (fun c_7 => ?_)
    · refine lv_iconst (v := (-1)) hx hb dX0_stageOfSharedArray_20 (by decide) ?_
      have hw : (-1) = sl_stageOfSharedArray ay so p1 := by unfold sl_stageOfSharedArray; rw [if_neg c_1, if_pos c_7]; try rfl
      exact W.iret (v := (-1)) hx hb hr (fun t ht hW => ⟨⟨(-1), (), rfl, hw, ⟨by rw [ht]; exact hP, va_K.moved hW.alike hK, hD⟩⟩, hS.F ht⟩) hS.2.2 dX0_stageOfSharedArray_21
    · refine lv_aload_n hx hb dX0_stageOfSharedArray_10 rfl (lv_at hl 0 rfl) ?_
      refine va_get (D := (dC, dI)) (ci := 0) (v := .ref (a 3)) (C := RX0) (T := TX0) (N := 17) hx hb hg inX0 hown hK hP 0 rfl rfl 2 (by decide) (hg _ w_21) (fun _ h9 => h9) rfl dX0_stageOfSharedArray_11 ?_
      refine lv_iload_n hx hb dX0_stageOfSharedArray_14 rfl (lv_at hl 1 rfl) ?_
      refine va_iald hx hb hK hP 3 2 rfl rfl (ix_le c_1 c_7 (by decide)) dX0_stageOfSharedArray_15 ?_
      refine lv_iconst (v := (-1)) hx hb dX0_stageOfSharedArray_16 (by decide) ?_
      refine lv_icmp_ne (tgt := 22) hx hb dX0_stageOfSharedArray_17 (by decide) (fun c_17 => ?_) (fun c_17 => ?_)
      · refine lv_iconst (v := 0) hx hb dX0_stageOfSharedArray_22 (by decide) ?_
        refine lv_istore_n (lv' := [(2, .int 0), (0, .ref (a 0)), (1, .int p1)]) hx hb dX0_stageOfSharedArray_23 rfl hl (by decide) rfl (fun ls hl => ?_)
        refine cs_stageOfSharedArray_L24 rd wr ay ia mo wo so oi si mi wi ns nt nf np sl hs p1 hx hb hml hown hg hA hK c_1 (lt_ge c_7) 49 0 H locs ls (cnt_0 (nn_of c_1) (lt_of2 c_7 (by decide))) hP hD hS (lv_sub hl [1, 2, 0] rfl) (fun _ hw_24 H locs ls hP hD hS hl => ?_) (fun r0_o24 hw_24 H locs ls hP hD hS hl => ?_)
        · refine lv_iconst (v := (-1)) hx hb dX0_stageOfSharedArray_57 (by decide) ?_
          have hw : (-1) = sl_stageOfSharedArray ay so p1 := by unfold sl_stageOfSharedArray; rw [if_neg c_1, if_neg c_7, if_neg c_17, hw_24]; try dsimp only; try rfl
          exact W.iret (v := (-1)) hx hb hr (fun t ht hW => ⟨⟨(-1), (), rfl, hw, ⟨by rw [ht]; exact hP, va_K.moved hW.alike hK, hD⟩⟩, hS.F ht⟩) hS.2.2 dX0_stageOfSharedArray_58
        · have hw : r0_o24 = sl_stageOfSharedArray ay so p1 := by unfold sl_stageOfSharedArray; rw [if_neg c_1, if_neg c_7, if_neg c_17, hw_24]; try dsimp only; try rfl
          exact W.iret (v := r0_o24) hx hb hr (fun t ht hW => ⟨⟨r0_o24, (), rfl, hw, ⟨by rw [ht]; exact hP, va_K.moved hW.alike hK, hD⟩⟩, hS.F ht⟩) hS.2.2 dX0_stageOfSharedArray_50
      · refine lv_iconst (v := (-1)) hx hb dX0_stageOfSharedArray_20 (by decide) ?_
        have hw : (-1) = sl_stageOfSharedArray ay so p1 := by unfold sl_stageOfSharedArray; rw [if_neg c_1, if_neg c_7, if_pos c_17]; try rfl
        exact W.iret (v := (-1)) hx hb hr (fun t ht hW => ⟨⟨(-1), (), rfl, hw, ⟨by rw [ht]; exact hP, va_K.moved hW.alike hK, hD⟩⟩, hS.F ht⟩) hS.2.2 dX0_stageOfSharedArray_21
set_option maxHeartbeats 4000000 in
set_option maxRecDepth 100000 in
theorem cs_findStage_L46 {p : Program} {l : Launch} {e : Env} {s : State} {m : MethodId} {args : Array Value} {below : List Frame} {meth : Method} {c : Code} {Q : State → Prop} {dC : Nat → ClassId} {dI : Nat → Nat → Nat} {a : Nat → Nat} {k : Nat → ClassId} {A : Nat → Prop} (rd wr : Nat → Int64) (ay ia mo wo so oi si mi wi : Nat → Int32) (ns nt nf np sl hs : Int32) (p1 p3 p4 x6 : Int32) (hx : p.tables.exec = Jvm.exec) (hb : c.code = cX0_findStage) (hml : c.maxLocals = 9) (hown : s.vm.findClass RX0 = some m.cls) (hg : ∀ w ∈ gw, w.before args s = true) (hA : ∀ q : Nat, s.heap.size ≤ q → A q) (hK : va_K (dC, dI) vwCl (ty_sl k) s) :
    ∀ (n : Nat) (x8 : Int32) (H : Heap) (locs : List Loc) (ls : Array Slot), (cnl x6 x8 n) → va_P (dC, dI) vwCl (ws_sl a k rd wr ay ia mo wo so oi si mi wi ns nt nf np sl hs) H → va_D A (ws_sl a k rd wr ay ia mo wo so oi si mi wi ns nt nf np sl hs) → va_S A s.heap H locs → lv_has ls 9 [(0, .ref (a 0)), (1, .int p1), (3, .int p3), (4, .int p4), (6, .int x6), (8, .int x8)] →
      (∀ (_ : Unit), sl_findStage_L46 mo wo si mi wi p1 p3 p4 x6 n x8 = .inl () → ∀ (H : Heap) (locs : List Loc) (ls : Array Slot), va_P (dC, dI) vwCl (ws_sl a k rd wr ay ia mo wo so oi si mi wi ns nt nf np sl hs) H → va_D A (ws_sl a k rd wr ay ia mo wo so oi si mi wi ns nt nf np sl hs) → va_S A s.heap H locs → lv_has ls 9 [(0, .ref (a 0)), (1, .int p1), (3, .int p3), (4, .int p4), (6, .int x6)] → W p l e (headSpec wsX0_findStage ({ frames := 2, cells := 0, slots := 0, locals := 49 } : Room)).room s m args below meth c H locs 0 0 Q (F0 m 75 ls [])) →
      (∀ (r0_o46 : Int32), sl_findStage_L46 mo wo si mi wi p1 p3 p4 x6 n x8 = .inr r0_o46 → ∀ (H : Heap) (locs : List Loc) (ls : Array Slot), va_P (dC, dI) vwCl (ws_sl a k rd wr ay ia mo wo so oi si mi wi ns nt nf np sl hs) H → va_D A (ws_sl a k rd wr ay ia mo wo so oi si mi wi ns nt nf np sl hs) → va_S A s.heap H locs → lv_has ls 9 [(0, .ref (a 0)), (1, .int p1), (3, .int p3), (4, .int p4), (6, .int x6)] → W p l e (headSpec wsX0_findStage ({ frames := 2, cells := 0, slots := 0, locals := 49 } : Room)).room s m args below meth c H locs 0 0 Q (F0 m 68 ls [.int r0_o46])) →
      W p l e (headSpec wsX0_findStage ({ frames := 2, cells := 0, slots := 0, locals := 49 } : Room)).room s m args below meth c H locs 0 0 Q (F0 m 46 ls []) := by
  intro n
  induction n with
  | zero =>
    intro x8 H locs ls hinv
    exact absurd hinv (cnl_z)
  | succ n ih =>
    intro x8 H locs ls hinv hP hD hS hl k0 k1
    refine lv_iload hx hb dX0_findStage_46 (lv_at hl 5 rfl) ?_
    refine lv_iload hx hb dX0_findStage_48 (lv_at hl 4 rfl) ?_
    refine lv_icmp_gt (tgt := 75) hx hb dX0_findStage_50 (by decide) (fun c_50 => ?_) (fun c_50 => ?_)
    · exact k0 () (by rw [sl_findStage_L46_s]; rw [if_pos c_50]; try rfl) H locs ls hP hD hS (lv_sub hl [0, 1, 2, 3, 4] rfl)
    · refine lv_aload_n hx hb dX0_findStage_53 rfl (lv_at hl 0 rfl) ?_
      refine lv_iload_n hx hb dX0_findStage_54 rfl (lv_at hl 1 rfl) ?_
      refine lv_iload hx hb dX0_findStage_55 (lv_at hl 5 rfl) ?_
      refine lv_iload_n hx hb dX0_findStage_57 rfl (lv_at hl 2 rfl) ?_
      refine lv_iload hx hb dX0_findStage_58 (lv_at hl 3 rfl) ?_
      have hFc := va_free (wc := ws_sl a k rd wr ay ia mo wo so oi si mi wi ns nt nf np sl hs) hD hS hA [0, 1, 2, 3, 4, 5, 6, 7, 8, 9, 10, 11] rfl
      refine va_calli (va_runV (As := [.int p1, .int x8, .int p3, .int p4]) (rest := []) ⟨hx, hb, hml, hown, hg⟩ (cs_hasRoom l dC dI a k H.size rd wr ay ia mo wo so oi si mi wi ns nt nf np sl hs p1 x8 p3 p4) (cwV 4 hg (gi_V w_332 w_334 s_9 w_1 w_335) rfl rfl rfl (by decide +kernel) ⟨Nat.le_of_ble_eq_true rfl, Nat.le_of_ble_eq_true rfl⟩) ⟨pr_bl, va_recv hK hP (ci := 0) (q0 := 0) rfl rfl, pr_ok hK hP hD⟩ rfl rfl hl.1 rfl (lv_room (Nat.le_of_ble_eq_true rfl)) dX0_findStage_60 ⟨Nat.le_of_ble_eq_true rfl, Nat.le_of_ble_eq_true rfl⟩) hS (fun q _ h => hFc q h) hFc (fun r_60 u t H1 locs ht hvm hw_60 hB hz1 hk1 hS => ?_)
      subst hw_60
      obtain ⟨hP, hK1, hD1⟩ := hB
      rw [ht] at hP
      have hD := hD1.weaken (fun _ q _ h => hFc q.1 h)
      generalize H1 = H at hP hS ⊢
      have hP : va_P (dC, dI) vwCl (ws_sl a k rd wr ay ia mo wo so oi si mi wi ns nt nf np sl hs) H := hP
      have hD : va_D A (ws_sl a k rd wr ay ia mo wo so oi si mi wi ns nt nf np sl hs) := hD
      refine lv_if_eq (tgt := 69) hx hb dX0_findStage_63 (by decide) (fun c_63 => ?_) (fun c_63 => ?_)
      · refine lv_iinc (v := x8 + 1) (lv' := [(8, .int (x8 + 1)), (0, .ref (a 0)), (1, .int p1), (3, .int p3), (4, .int p4), (6, .int x6)]) hx hb dX0_findStage_69 hl (k := 5) rfl rfl (by decide) rfl (fun ls hl => ?_)
        refine lv_goto (tgt := 46) hx hb dX0_findStage_72 (by decide) ?_
        exact ih (x8 + 1) H locs ls (cnl_s hinv c_50) hP hD hS (lv_sub hl [1, 2, 3, 4, 5, 0] rfl) (fun _ hw H locs ls hP hD hS hl => k0 () (by rw [sl_findStage_L46_s]; rw [if_neg c_50, if_pos c_63]; exact hw) H locs ls hP hD hS hl) (fun r0_o46 hw H locs ls hP hD hS hl => k1 r0_o46 (by rw [sl_findStage_L46_s]; rw [if_neg c_50, if_pos c_63]; exact hw) H locs ls hP hD hS hl)
      · refine lv_iload hx hb dX0_findStage_66 (lv_at hl 5 rfl) ?_
        exact k1 x8 (by rw [sl_findStage_L46_s]; rw [if_neg c_50, if_neg c_63]; try rfl) H locs ls hP hD hS (lv_sub hl [0, 1, 2, 3, 4] rfl)
set_option maxHeartbeats 4000000 in
set_option maxRecDepth 100000 in
theorem cs_findStage (l : Launch) (dC : Nat → ClassId) (dI : Nat → Nat → Nat) (a : Nat → Nat) (k : Nat → ClassId) (sz : Nat) (rd wr : Nat → Int64) (ay ia mo wo so oi si mi wi : Nat → Int32) (ns nt nf np sl hs : Int32) (p1 p2 p3 p4 : Int32) (hso : ∀ j : Nat, j < p1.toNatClampNeg → 0 ≤ (so j).toInt ∧ (so j).toInt < 12) (h2 : 1 ≤ p2.toInt ∧ p2.toInt ≤ 12) : Met l yX0_findStage wsX0_findStage ({ frames := 2, cells := 0, slots := 0, locals := 49 } : Room) (va_Pc [.ref (a 0), .int p1, .int p2, .int p3, .int p4] (pr (dC, dI) (ws_sl a k rd wr ay ia mo wo so oi si mi wi ns nt nf np sl hs) (ty_sl k) sz)) (va_Qi (fun (r : Int32) (_ : Unit) => r = sl_findStage rd wr ay ia mo wo so si mi wi p1 p2 p3 p4) (fun (_ : Unit) t => po (dC, dI) (ws_sl a k rd wr ay ia mo wo so oi si mi wi ns nt nf np sl hs) (ty_sl k) (va_A (ws_sl a k rd wr ay ia mo wo so oi si mi wi ns nt nf np sl hs) sz) t) (va_A (ws_sl a k rd wr ay ia mo wo so oi si mi wi ns nt nf np sl hs) sz)) 0 0 (va_A (ws_sl a k rd wr ay ia mo wo so oi si mi wi ns nt nf np sl hs) sz) := by
  refine Met.ofW (cc := cX0_findStage) (maxL := 9) (ret := (some .int)) (by decide) rfl ?_
  intro p e s m args below meth c s₁ B hml hv
  obtain ⟨rfl, hsz, hP, hK, hD0⟩ := hv
  have hx := B.exec
  have hb := B.bytes
  have hr := B.returns
  have hts := atoms_spec (ws := wsX0_findStage) B.pre
  have hg : ∀ w ∈ gw, w.before _ s = true := fun w h => hts w (List.mem_cons_of_mem _ h)
  have hown : s.vm.findClass RX0 = some m.cls := findClass_of_methodNamed B.named
  have hlocks := B.notSynchronized
  subst hsz
  have hD := hD0.self (sz := s.heap.size)
  generalize hAe : va_A (ws_sl a k rd wr ay ia mo wo so oi si mi wi ns nt nf np sl hs) s.heap.size = A at hD ⊢
  have hA : ∀ q : Nat, s.heap.size ≤ q → A q := fun q h => by rw [← hAe]; exact Or.inr h
  clear hAe
  refine w_in (fun H locs eH eL => ?_)
  have hS : va_S A s.heap H locs := by rw [eH, eL]; exact va_S.rf
  have hP : va_P (dC, dI) vwCl (ws_sl a k rd wr ay ia mo wo so oi si mi wi ns nt nf np sl hs) H := by rw [eH]; exact hP
  clear eH eL
  have hl := lv_entry ([.ref (a 0), .int p1, .int p2, .int p3, .int p4]) (n := 9) (Nat.le_of_ble_eq_true rfl)
  rw [lg_entry_eq]
  generalize (lg_sl ([.ref (a 0), .int p1, .int p2, .int p3, .int p4]) ++ List.replicate (9 - (lg_sl ([.ref (a 0), .int p1, .int p2, .int p3, .int p4])).length) Slot.unset).toArray = ls at hl ⊢
  have hl : lv_has ls 9 [(0, .ref (a 0)), (1, .int p1), (2, .int p2), (3, .int p3), (4, .int p4)] := hl
  refine lv_aload_n hx hb dX0_findStage_0 rfl (lv_at hl 0 rfl) ?_
  refine lv_iload_n hx hb dX0_findStage_1 rfl (lv_at hl 1 rfl) ?_
  have hFc := va_free (wc := ws_sl a k rd wr ay ia mo wo so oi si mi wi ns nt nf np sl hs) hD hS hA [0, 1, 2, 3, 4, 5, 6, 7, 8, 9, 10, 11] rfl
  refine va_calli (va_runV (As := [.int p1]) (rest := []) ⟨hx, hb, hml, hown, hg⟩ (cs_earliestStage l dC dI a k H.size rd wr ay ia mo wo so oi si mi wi ns nt nf np sl hs p1) (cwV 1 hg (gi_V w_324 w_326 s_7 w_1 w_327) rfl rfl rfl (by decide +kernel) ⟨Nat.le_of_ble_eq_true rfl, Nat.le_of_ble_eq_true rfl⟩) ⟨pr_bl, va_recv hK hP (ci := 0) (q0 := 0) rfl rfl, pr_ok hK hP hD⟩ rfl rfl hl.1 rfl (lv_room (Nat.le_of_ble_eq_true rfl)) dX0_findStage_2 ⟨Nat.le_of_ble_eq_true rfl, Nat.le_of_ble_eq_true rfl⟩) hS (fun q _ h => hFc q h) hFc (fun r_2 u t H1 locs ht hvm hw_2 hB hz1 hk1 hS => ?_)
  subst hw_2
  obtain ⟨hP, hK1, hD1⟩ := hB
  rw [ht] at hP
  have hD := hD1.weaken (fun _ q _ h => hFc q.1 h)
  generalize H1 = H at hP hS ⊢
  have hP : va_P (dC, dI) vwCl (ws_sl a k rd wr ay ia mo wo so oi si mi wi ns nt nf np sl hs) H := hP
  have hD : va_D A (ws_sl a k rd wr ay ia mo wo so oi si mi wi ns nt nf np sl hs) := hD
  refine lv_istore (lv' := [(5, .int (sl_earliestStage rd wr ia so p1)), (0, .ref (a 0)), (1, .int p1), (2, .int p2), (3, .int p3), (4, .int p4)]) hx hb dX0_findStage_5 hl (by decide) rfl (fun ls hl => ?_)
  refine lv_iload_n hx hb dX0_findStage_7 rfl (lv_at hl 3 rfl) ?_
  refine lv_iconst (v := 1) hx hb dX0_findStage_8 (by decide) ?_
  refine lv_isub hx hb dX0_findStage_9 ?_
  refine lv_istore (lv' := [(6, .int (p2 - 1)), (5, .int (sl_earliestStage rd wr ia so p1)), (0, .ref (a 0)), (1, .int p1), (2, .int p2), (3, .int p3), (4, .int p4)]) hx hb dX0_findStage_10 hl (by decide) rfl (fun ls hl => ?_)
  refine lv_aload_n hx hb dX0_findStage_12 rfl (lv_at hl 2 rfl) ?_
  refine lv_iload_n hx hb dX0_findStage_13 rfl (lv_at hl 3 rfl) ?_
  have hFc := va_free (wc := ws_sl a k rd wr ay ia mo wo so oi si mi wi ns nt nf np sl hs) hD hS hA [0, 1, 2, 3, 4, 5, 6, 7, 8, 9, 10, 11] rfl
  refine va_calli (va_runV (As := [.int p1]) (rest := []) ⟨hx, hb, hml, hown, hg⟩ (cs_stageOfSharedArray l dC dI a k H.size rd wr ay ia mo wo so oi si mi wi ns nt nf np sl hs p1) (cwV 1 hg (gi_V w_328 w_330 s_8 w_1 w_331) rfl rfl rfl (by decide +kernel) ⟨Nat.le_of_ble_eq_true rfl, Nat.le_of_ble_eq_true rfl⟩) ⟨pr_bl, va_recv hK hP (ci := 0) (q0 := 0) rfl rfl, pr_ok hK hP hD⟩ rfl rfl hl.1 rfl (lv_room (Nat.le_of_ble_eq_true rfl)) dX0_findStage_14 ⟨Nat.le_of_ble_eq_true rfl, Nat.le_of_ble_eq_true rfl⟩) hS (fun q _ h => hFc q h) hFc (fun r_14 u t H1 locs ht hvm hw_14 hB hz1 hk1 hS => ?_)
  subst hw_14
  obtain ⟨hP, hK1, hD1⟩ := hB
  rw [ht] at hP
  have hD := hD1.weaken (fun _ q _ h => hFc q.1 h)
  generalize H1 = H at hP hS ⊢
  have hP : va_P (dC, dI) vwCl (ws_sl a k rd wr ay ia mo wo so oi si mi wi ns nt nf np sl hs) H := hP
  have hD : va_D A (ws_sl a k rd wr ay ia mo wo so oi si mi wi ns nt nf np sl hs) := hD
  refine lv_istore (lv' := [(7, .int (sl_stageOfSharedArray ay so p1)), (6, .int (p2 - 1)), (5, .int (sl_earliestStage rd wr ia so p1)), (0, .ref (a 0)), (1, .int p1), (2, .int p2), (3, .int p3), (4, .int p4)]) hx hb dX0_findStage_17 hl (by decide) rfl (fun ls hl => ?_)
  refine lv_iload hx hb dX0_findStage_19 (lv_at hl 0 rfl) ?_
  refine lv_iconst (v := (-1)) hx hb dX0_findStage_21 (by decide) ?_
  refine lv_icmp_eq (tgt := 42) hx hb dX0_findStage_22 (by decide) (fun c_22 => ?_) (fun c_22 => ?_)
  · refine lv_iload hx hb dX0_findStage_42 (lv_at hl 2 rfl) ?_
    refine lv_istore (lv' := [(8, .int (sl_earliestStage rd wr ia so p1)), (7, .int (sl_stageOfSharedArray ay so p1)), (6, .int (p2 - 1)), (5, .int (sl_earliestStage rd wr ia so p1)), (0, .ref (a 0)), (1, .int p1), (2, .int p2), (3, .int p3), (4, .int p4)]) hx hb dX0_findStage_44 hl (by decide) rfl (fun ls hl => ?_)
    refine cs_findStage_L46 rd wr ay ia mo wo so oi si mi wi ns nt nf np sl hs p1 p3 p4 (p2 - 1) hx hb hml hown hg hA hK 14 (sl_earliestStage rd wr ia so p1) H locs ls (fs_in1 hso h2) hP hD hS (lv_sub hl [4, 5, 7, 8, 2, 0] rfl) (fun _ hw_46 H locs ls hP hD hS hl => ?_) (fun r0_o46 hw_46 H locs ls hP hD hS hl => ?_)
    · refine lv_iconst (v := (-1)) hx hb dX0_findStage_75 (by decide) ?_
      have hw : (-1) = sl_findStage rd wr ay ia mo wo so si mi wi p1 p2 p3 p4 := by unfold sl_findStage; rw [if_pos c_22, hw_46]; try dsimp only; try rfl
      exact W.iret (v := (-1)) hx hb hr (fun t ht hW => ⟨⟨(-1), (), rfl, hw, ⟨by rw [ht]; exact hP, va_K.moved hW.alike hK, hD⟩⟩, hS.F ht⟩) hS.2.2 dX0_findStage_76
    · have hw : r0_o46 = sl_findStage rd wr ay ia mo wo so si mi wi p1 p2 p3 p4 := by unfold sl_findStage; rw [if_pos c_22, hw_46]; try dsimp only; try rfl
      exact W.iret (v := r0_o46) hx hb hr (fun t ht hW => ⟨⟨r0_o46, (), rfl, hw, ⟨by rw [ht]; exact hP, va_K.moved hW.alike hK, hD⟩⟩, hS.F ht⟩) hS.2.2 dX0_findStage_68
  · refine lv_iload hx hb dX0_findStage_25 (lv_at hl 0 rfl) ?_
    refine lv_iload hx hb dX0_findStage_27 (lv_at hl 2 rfl) ?_
    refine lv_icmp_ge (tgt := 34) hx hb dX0_findStage_29 (by decide) (fun c_29 => ?_) (fun c_29 => ?_)
    · refine lv_iload hx hb dX0_findStage_34 (lv_at hl 0 rfl) ?_
      refine lv_istore (lv' := [(5, .int (sl_stageOfSharedArray ay so p1)), (7, .int (sl_stageOfSharedArray ay so p1)), (6, .int (p2 - 1)), (0, .ref (a 0)), (1, .int p1), (2, .int p2), (3, .int p3), (4, .int p4)]) hx hb dX0_findStage_36 hl (by decide) rfl (fun ls hl => ?_)
      refine lv_iload hx hb dX0_findStage_38 (lv_at hl 1 rfl) ?_
      refine lv_istore (lv' := [(6, .int (sl_stageOfSharedArray ay so p1)), (5, .int (sl_stageOfSharedArray ay so p1)), (7, .int (sl_stageOfSharedArray ay so p1)), (0, .ref (a 0)), (1, .int p1), (2, .int p2), (3, .int p3), (4, .int p4)]) hx hb dX0_findStage_40 hl (by decide) rfl (fun ls hl => ?_)
      refine lv_iload hx hb dX0_findStage_42 (lv_at hl 1 rfl) ?_
      refine lv_istore (lv' := [(8, .int (sl_stageOfSharedArray ay so p1)), (6, .int (sl_stageOfSharedArray ay so p1)), (5, .int (sl_stageOfSharedArray ay so p1)), (7, .int (sl_stageOfSharedArray ay so p1)), (0, .ref (a 0)), (1, .int p1), (2, .int p2), (3, .int p3), (4, .int p4)]) hx hb dX0_findStage_44 hl (by decide) rfl (fun ls hl => ?_)
      refine cs_findStage_L46 rd wr ay ia mo wo so oi si mi wi ns nt nf np sl hs p1 p3 p4 (sl_stageOfSharedArray ay so p1) hx hb hml hown hg hA hK 14 (sl_stageOfSharedArray ay so p1) H locs ls (fs_in2 hso c_22) hP hD hS (lv_sub hl [4, 5, 7, 8, 1, 0] rfl) (fun _ hw_46 H locs ls hP hD hS hl => ?_) (fun r0_o46 hw_46 H locs ls hP hD hS hl => ?_)
      · refine lv_iconst (v := (-1)) hx hb dX0_findStage_75 (by decide) ?_
        have hw : (-1) = sl_findStage rd wr ay ia mo wo so si mi wi p1 p2 p3 p4 := by unfold sl_findStage; rw [if_neg c_22, if_pos c_29, hw_46]; try dsimp only; try rfl
        exact W.iret (v := (-1)) hx hb hr (fun t ht hW => ⟨⟨(-1), (), rfl, hw, ⟨by rw [ht]; exact hP, va_K.moved hW.alike hK, hD⟩⟩, hS.F ht⟩) hS.2.2 dX0_findStage_76
      · have hw : r0_o46 = sl_findStage rd wr ay ia mo wo so si mi wi p1 p2 p3 p4 := by unfold sl_findStage; rw [if_neg c_22, if_pos c_29, hw_46]; try dsimp only; try rfl
        exact W.iret (v := r0_o46) hx hb hr (fun t ht hW => ⟨⟨r0_o46, (), rfl, hw, ⟨by rw [ht]; exact hP, va_K.moved hW.alike hK, hD⟩⟩, hS.F ht⟩) hS.2.2 dX0_findStage_68
    · refine lv_iconst (v := (-1)) hx hb dX0_findStage_32 (by decide) ?_
      have hw : (-1) = sl_findStage rd wr ay ia mo wo so si mi wi p1 p2 p3 p4 := by unfold sl_findStage; rw [if_neg c_22, if_neg c_29]; try rfl
      exact W.iret (v := (-1)) hx hb hr (fun t ht hW => ⟨⟨(-1), (), rfl, hw, ⟨by rw [ht]; exact hP, va_K.moved hW.alike hK, hD⟩⟩, hS.F ht⟩) hS.2.2 dX0_findStage_33
end
section
set_option maxHeartbeats 4000000 in
set_option maxRecDepth 100000 in
theorem cs_clear (l : Launch) (dC : Nat → ClassId) (dI : Nat → Nat → Nat) (a : Nat → Nat) (k : Nat → ClassId) (sz : Nat) (rd wr : Nat → Int64) (ay ia mo wo so oi si mi wi : Nat → Int32) (ns nt nf np sl hs : Int32)  : Met l yX0_clear wsX0_clear ({ frames := 1, cells := 0, slots := 0, locals := 20 } : Room) (va_Pc [.ref (a 0)] (pr (dC, dI) (ws_sl a k rd wr ay ia mo wo so oi si mi wi ns nt nf np sl hs) (ty_sl k) sz)) (va_Qv (fun (u : Int32 × Int32 × Int32 × Int32 × Int32 × Int32) => sl_clear = u) (fun (u : Int32 × Int32 × Int32 × Int32 × Int32 × Int32) t => match u with | (ns', nt', nf', np', sl', hs') => po (dC, dI) (ws_sl a k rd wr ay ia mo wo so oi si mi wi ns' nt' nf' np' sl' hs') (ty_sl k) (va_A (ws_sl a k rd wr ay ia mo wo so oi si mi wi ns nt nf np sl hs) sz) t) (va_A (ws_sl a k rd wr ay ia mo wo so oi si mi wi ns nt nf np sl hs) sz)) 0 0 (va_A (ws_sl a k rd wr ay ia mo wo so oi si mi wi ns nt nf np sl hs) sz) := by
  refine Met.ofW (cc := cX0_clear) (maxL := 1) (ret := none) (by decide) rfl ?_
  intro p e s m args below meth c s₁ B hml hv
  obtain ⟨rfl, hsz, hP, hK, hD0⟩ := hv
  have hx := B.exec
  have hb := B.bytes
  have hr := B.returns
  have hts := atoms_spec (ws := wsX0_clear) B.pre
  have hg : ∀ w ∈ gw, w.before _ s = true := fun w h => hts w (List.mem_cons_of_mem _ h)
  have hown : s.vm.findClass RX0 = some m.cls := findClass_of_methodNamed B.named
  have hlocks := B.notSynchronized
  subst hsz
  have hD := hD0.self (sz := s.heap.size)
  generalize hAe : va_A (ws_sl a k rd wr ay ia mo wo so oi si mi wi ns nt nf np sl hs) s.heap.size = A at hD ⊢
  have hA : ∀ q : Nat, s.heap.size ≤ q → A q := fun q h => by rw [← hAe]; exact Or.inr h
  clear hAe
  refine w_in (fun H locs eH eL => ?_)
  have hS : va_S A s.heap H locs := by rw [eH, eL]; exact va_S.rf
  have hP : va_P (dC, dI) vwCl (ws_sl a k rd wr ay ia mo wo so oi si mi wi ns nt nf np sl hs) H := by rw [eH]; exact hP
  clear eH eL
  have hl := lv_entry ([.ref (a 0)]) (n := 1) (Nat.le_of_ble_eq_true rfl)
  rw [lg_entry_eq]
  generalize (lg_sl ([.ref (a 0)]) ++ List.replicate (1 - (lg_sl ([.ref (a 0)])).length) Slot.unset).toArray = ls at hl ⊢
  have hl : lv_has ls 1 [(0, .ref (a 0))] := hl
  refine lv_aload_n hx hb dX0_clear_0 rfl (lv_at hl 0 rfl) ?_
  refine lv_iconst (v := 0) hx hb dX0_clear_1 (by decide) ?_
  refine va_put (D := (dC, dI)) (ci := 0) (v := .int 0) (ty := .int) (C := RX0) (T := TX0) (N := 17) hx hb hg inX0 tyX0 tyX0_ok nmX0 hown hK hP hD hS 0 rfl rfl 11 (by decide) (hg _ w_30) (fun _ h9 => h9) rfl (by decide +kernel) rfl rfl (Nat.le_of_ble_eq_true rfl) dX0_clear_2 (fun H locs hP hD hS => ?_)
  have hP : va_P (dC, dI) vwCl (ws_sl a k rd wr ay ia mo wo so oi si mi wi 0 nt nf np sl hs) H := hP
  have hD : va_D A (ws_sl a k rd wr ay ia mo wo so oi si mi wi 0 nt nf np sl hs) := hD
  refine lv_aload_n hx hb dX0_clear_5 rfl (lv_at hl 0 rfl) ?_
  refine lv_iconst (v := 0) hx hb dX0_clear_6 (by decide) ?_
  refine va_put (D := (dC, dI)) (ci := 0) (v := .int 0) (ty := .int) (C := RX0) (T := TX0) (N := 17) hx hb hg inX0 tyX0 tyX0_ok nmX0 hown hK hP hD hS 0 rfl rfl 12 (by decide) (hg _ w_31) (fun _ h9 => h9) rfl (by decide +kernel) rfl rfl (Nat.le_of_ble_eq_true rfl) dX0_clear_7 (fun H locs hP hD hS => ?_)
  have hP : va_P (dC, dI) vwCl (ws_sl a k rd wr ay ia mo wo so oi si mi wi 0 0 nf np sl hs) H := hP
  have hD : va_D A (ws_sl a k rd wr ay ia mo wo so oi si mi wi 0 0 nf np sl hs) := hD
  refine lv_aload_n hx hb dX0_clear_10 rfl (lv_at hl 0 rfl) ?_
  refine lv_iconst (v := 0) hx hb dX0_clear_11 (by decide) ?_
  refine va_put (D := (dC, dI)) (ci := 0) (v := .int 0) (ty := .int) (C := RX0) (T := TX0) (N := 17) hx hb hg inX0 tyX0 tyX0_ok nmX0 hown hK hP hD hS 0 rfl rfl 13 (by decide) (hg _ w_32) (fun _ h9 => h9) rfl (by decide +kernel) rfl rfl (Nat.le_of_ble_eq_true rfl) dX0_clear_12 (fun H locs hP hD hS => ?_)
  have hP : va_P (dC, dI) vwCl (ws_sl a k rd wr ay ia mo wo so oi si mi wi 0 0 0 np sl hs) H := hP
  have hD : va_D A (ws_sl a k rd wr ay ia mo wo so oi si mi wi 0 0 0 np sl hs) := hD
  refine lv_aload_n hx hb dX0_clear_15 rfl (lv_at hl 0 rfl) ?_
  refine lv_iconst (v := 0) hx hb dX0_clear_16 (by decide) ?_
  refine va_put (D := (dC, dI)) (ci := 0) (v := .int 0) (ty := .int) (C := RX0) (T := TX0) (N := 17) hx hb hg inX0 tyX0 tyX0_ok nmX0 hown hK hP hD hS 0 rfl rfl 14 (by decide) (hg _ w_33) (fun _ h9 => h9) rfl (by decide +kernel) rfl rfl (Nat.le_of_ble_eq_true rfl) dX0_clear_17 (fun H locs hP hD hS => ?_)
  have hP : va_P (dC, dI) vwCl (ws_sl a k rd wr ay ia mo wo so oi si mi wi 0 0 0 0 sl hs) H := hP
  have hD : va_D A (ws_sl a k rd wr ay ia mo wo so oi si mi wi 0 0 0 0 sl hs) := hD
  refine lv_aload_n hx hb dX0_clear_20 rfl (lv_at hl 0 rfl) ?_
  have hFc := va_free (wc := ws_sl a k rd wr ay ia mo wo so oi si mi wi 0 0 0 0 sl hs) hD hS hA [0, 1, 2, 3, 4, 5, 6, 7, 8, 9, 10, 11] rfl
  refine va_callv (va_runV (As := []) (rest := []) ⟨hx, hb, hml, hown, hg⟩ (cs_forgetStages l dC dI a k H.size rd wr ay ia mo wo so oi si mi wi 0 0 0 0 sl hs) (cwV 0 hg (gi_V w_77 w_79 s_0 w_1 w_80) rfl rfl rfl (by decide +kernel) ⟨Nat.le_of_ble_eq_true rfl, Nat.le_of_ble_eq_true rfl⟩) ⟨pr_bl, va_recv hK hP (ci := 0) (q0 := 0) rfl rfl, pr_ok hK hP hD⟩ rfl rfl hl.1 rfl (lv_room (Nat.le_of_ble_eq_true rfl)) dX0_clear_21 ⟨Nat.le_of_ble_eq_true rfl, Nat.le_of_ble_eq_true rfl⟩) hS (fun q _ h => hFc q h) hFc (fun u t H1 locs ht hvm hw_21 hB hz1 hk1 hS => ?_)
  obtain ⟨sl_21, hs_21⟩ := u
  obtain ⟨hP, hK1, hD1⟩ := hB
  rw [ht] at hP
  have hD := hD1.weaken (fun _ q _ h => hFc q.1 h)
  generalize H1 = H at hP hS ⊢
  have hP : va_P (dC, dI) vwCl (ws_sl a k rd wr ay ia mo wo so oi si mi wi 0 0 0 0 sl_21 hs_21) H := hP
  have hD : va_D A (ws_sl a k rd wr ay ia mo wo so oi si mi wi 0 0 0 0 sl_21 hs_21) := hD
  have hw : sl_clear = (0, 0, 0, 0, sl_21, hs_21) := by unfold sl_clear; rw [hw_21]; try dsimp only; try rfl
  exact W.vret hx hb hr (fun t ht hW => ⟨⟨(0, 0, 0, 0, sl_21, hs_21), rfl, hw, ⟨by rw [ht]; exact hP, va_K.moved hW.alike hK, hD⟩⟩, hS.F ht⟩) hS.2.2 dX0_clear_24
set_option maxHeartbeats 4000000 in
set_option maxRecDepth 100000 in
theorem cs_assign (l : Launch) (dC : Nat → ClassId) (dI : Nat → Nat → Nat) (a : Nat → Nat) (k : Nat → ClassId) (sz : Nat) (rd wr : Nat → Int64) (ay ia mo wo so oi si mi wi : Nat → Int32) (ns nt nf np sl hs : Int32) (p1 p2 : Int32) (r' : Int32) (rd' wr' : Nat → Int64) (ay' ia' mo' wo' : Nat → Int32) (ns' np' sl' hs' : Int32) (hok : sl_assign rd wr ay ia mo wo oi ns nf np p1 p2 = .inl (r', rd', wr', ay', ia', mo', wo', ns', np', sl', hs')) : Met l yX0_assign wsX0_assign ({ frames := 7, cells := 0, slots := 0, locals := 109 } : Room) (va_Pc [.ref (a 0), .int p1, .int p2] (pr (dC, dI) (ws_sl a k rd wr ay ia mo wo so oi si mi wi ns nt nf np sl hs) (ty_sl k) sz)) (va_Qi (fun (r : Int32) (_ : Unit) => r = r') (fun (_ : Unit) t => po (dC, dI) (ws_sl a k rd' wr' ay' ia' mo' wo' so oi si mi wi ns' nt nf np' sl' hs') (ty_sl k) (va_A (ws_sl a k rd wr ay ia mo wo so oi si mi wi ns nt nf np sl hs) sz) t) (va_A (ws_sl a k rd wr ay ia mo wo so oi si mi wi ns nt nf np sl hs) sz)) 0 0 (va_A (ws_sl a k rd wr ay ia mo wo so oi si mi wi ns nt nf np sl hs) sz) := by
  refine Met.ofW (cc := cX0_assign) (maxL := 3) (ret := (some .int)) (by decide) rfl ?_
  intro p e s m args below meth c s₁ B hml hv
  obtain ⟨rfl, hsz, hP, hK, hD0⟩ := hv
  have hx := B.exec
  have hb := B.bytes
  have hr := B.returns
  have hts := atoms_spec (ws := wsX0_assign) B.pre
  have hg : ∀ w ∈ gw, w.before _ s = true := fun w h => hts w (List.mem_cons_of_mem _ h)
  have hown : s.vm.findClass RX0 = some m.cls := findClass_of_methodNamed B.named
  have hlocks := B.notSynchronized
  subst hsz
  have hD := hD0.self (sz := s.heap.size)
  generalize hAe : va_A (ws_sl a k rd wr ay ia mo wo so oi si mi wi ns nt nf np sl hs) s.heap.size = A at hD ⊢
  have hA : ∀ q : Nat, s.heap.size ≤ q → A q := fun q h => by rw [← hAe]; exact Or.inr h
  clear hAe
  refine w_in (fun H locs eH eL => ?_)
  have hS : va_S A s.heap H locs := by rw [eH, eL]; exact va_S.rf
  have hP : va_P (dC, dI) vwCl (ws_sl a k rd wr ay ia mo wo so oi si mi wi ns nt nf np sl hs) H := by rw [eH]; exact hP
  clear eH eL
  have hl := lv_entry ([.ref (a 0), .int p1, .int p2]) (n := 3) (Nat.le_of_ble_eq_true rfl)
  rw [lg_entry_eq]
  generalize (lg_sl ([.ref (a 0), .int p1, .int p2]) ++ List.replicate (3 - (lg_sl ([.ref (a 0), .int p1, .int p2])).length) Slot.unset).toArray = ls at hl ⊢
  have hl : lv_has ls 3 [(0, .ref (a 0)), (1, .int p1), (2, .int p2)] := hl
  refine lv_iload_n hx hb dX0_assign_0 rfl (lv_at hl 1 rfl) ?_
  rcases hq_1 : sl_requirePlace p1 with ⟨⟩ | E_1
  · refine va_callv (va_runS (As := [.int p1]) (rest := []) ⟨hx, hb, hml, hown, hg⟩ (cs_requirePlace l dC dI p1 hq_1) (va_cwS 1 hg (gi_S w_106 w_107 w_1 w_108) rfl rfl rfl (by decide +kernel) ⟨Nat.le_of_ble_eq_true rfl, Nat.le_of_ble_eq_true rfl⟩) ⟨(fun _ _ _ _ q => q), (fun _ _ _ => ⟨rfl, trivial⟩)⟩ rfl rfl hl.1 rfl (lv_room (Nat.le_of_ble_eq_true rfl)) dX0_assign_1 ⟨Nat.le_of_ble_eq_true rfl, Nat.le_of_ble_eq_true rfl⟩) hS (fun q _ h => False.elim h) (fun q h => False.elim h) (fun u t H1 locs ht hvm hw hB hz1 hk1 hS => ?_)
    have hP := hP.kept (fun k q hq => hk1 q.1 (hP k q hq).lt (fun h => h))
    generalize H1 = H at hP hS ⊢
    have hP : va_P (dC, dI) vwCl (ws_sl a k rd wr ay ia mo wo so oi si mi wi ns nt nf np sl hs) H := hP
    have hD : va_D A (ws_sl a k rd wr ay ia mo wo so oi si mi wi ns nt nf np sl hs) := hD
    refine lv_iload_n hx hb dX0_assign_4 rfl (lv_at hl 2 rfl) ?_
    rcases hq_5 : sl_requireReadable p2 with ⟨⟩ | E_5
    · refine va_callv (va_runS (As := [.int p2]) (rest := []) ⟨hx, hb, hml, hown, hg⟩ (cs_requireReadable l dC dI p2 hq_5) (va_cwS 1 hg (gi_S w_177 w_178 w_1 w_179) rfl rfl rfl (by decide +kernel) ⟨Nat.le_of_ble_eq_true rfl, Nat.le_of_ble_eq_true rfl⟩) ⟨(fun _ _ _ _ q => q), (fun _ _ _ => ⟨rfl, trivial⟩)⟩ rfl rfl hl.1 rfl (lv_room (Nat.le_of_ble_eq_true rfl)) dX0_assign_5 ⟨Nat.le_of_ble_eq_true rfl, Nat.le_of_ble_eq_true rfl⟩) hS (fun q _ h => False.elim h) (fun q h => False.elim h) (fun u t H1 locs ht hvm hw hB hz1 hk1 hS => ?_)
      have hP := hP.kept (fun k q hq => hk1 q.1 (hP k q hq).lt (fun h => h))
      generalize H1 = H at hP hS ⊢
      have hP : va_P (dC, dI) vwCl (ws_sl a k rd wr ay ia mo wo so oi si mi wi ns nt nf np sl hs) H := hP
      have hD : va_D A (ws_sl a k rd wr ay ia mo wo so oi si mi wi ns nt nf np sl hs) := hD
      refine lv_aload_n hx hb dX0_assign_8 rfl (lv_at hl 0 rfl) ?_
      refine lv_iload_n hx hb dX0_assign_9 rfl (lv_at hl 2 rfl) ?_
      refine lv_iload_n hx hb dX0_assign_10 rfl (lv_at hl 1 rfl) ?_
      refine va_calll (va_runS (As := [.int p2, .int p1]) (rest := [.ref (a 0)]) ⟨hx, hb, hml, hown, hg⟩ (cs_readingAndWriting l dC dI p2 p1) (va_cwS 2 hg (gi_S w_181 w_182 w_1 w_183) rfl rfl rfl (by decide +kernel) ⟨Nat.le_of_ble_eq_true rfl, Nat.le_of_ble_eq_true rfl⟩) ⟨(fun _ _ _ _ q => q), (fun _ _ _ => ⟨rfl, trivial⟩)⟩ rfl rfl hl.1 rfl (lv_room (Nat.le_of_ble_eq_true rfl)) dX0_assign_11 ⟨Nat.le_of_ble_eq_true rfl, Nat.le_of_ble_eq_true rfl⟩) hS (fun q _ h => False.elim h) (fun q h => False.elim h) (fun r_11 u t H1 locs ht hvm hw_11 hB hz1 hk1 hS => ?_)
      subst hw_11
      have hP := hP.kept (fun k q hq => hk1 q.1 (hP k q hq).lt (fun h => h))
      generalize H1 = H at hP hS ⊢
      have hP : va_P (dC, dI) vwCl (ws_sl a k rd wr ay ia mo wo so oi si mi wi ns nt nf np sl hs) H := hP
      have hD : va_D A (ws_sl a k rd wr ay ia mo wo so oi si mi wi ns nt nf np sl hs) := hD
      refine lv_lconst (v := 1) hx hb dX0_assign_14 (by decide) ?_
      refine lv_iload_n hx hb dX0_assign_15 rfl (lv_at hl 1 rfl) ?_
      refine lv_lshl (v := jl 1 p1) hx hb dX0_assign_16 rfl ?_
      refine lv_iconst (v := (-1)) hx hb dX0_assign_17 (by decide) ?_
      refine lv_iload_n hx hb dX0_assign_18 rfl (lv_at hl 2 rfl) ?_
      refine va_calli (va_runS (As := [.int p2]) (rest := [.int (-1), .long (jl 1 p1), .long (sl_readingAndWriting p2 p1), .ref (a 0)]) ⟨hx, hb, hml, hown, hg⟩ (cs_costOf l dC dI p2) (va_cwS 1 hg (gi_S w_190 w_191 w_1 w_192) rfl rfl rfl (by decide +kernel) ⟨Nat.le_of_ble_eq_true rfl, Nat.le_of_ble_eq_true rfl⟩) ⟨(fun _ _ _ _ q => q), (fun _ _ _ => ⟨rfl, trivial⟩)⟩ rfl rfl hl.1 rfl (lv_room (Nat.le_of_ble_eq_true rfl)) dX0_assign_19 ⟨Nat.le_of_ble_eq_true rfl, Nat.le_of_ble_eq_true rfl⟩) hS (fun q _ h => False.elim h) (fun q h => False.elim h) (fun r_19 u t H1 locs ht hvm hw_19 hB hz1 hk1 hS => ?_)
      subst hw_19
      have hP := hP.kept (fun k q hq => hk1 q.1 (hP k q hq).lt (fun h => h))
      generalize H1 = H at hP hS ⊢
      have hP : va_P (dC, dI) vwCl (ws_sl a k rd wr ay ia mo wo so oi si mi wi ns nt nf np sl hs) H := hP
      have hD : va_D A (ws_sl a k rd wr ay ia mo wo so oi si mi wi ns nt nf np sl hs) := hD
      rcases hq_22 : sl_addStep rd wr ay ia mo wo oi ns nf np (sl_readingAndWriting p2 p1) (jl 1 p1) (-1) (sl_costOf p2) with ⟨r_22, rd_22, wr_22, ay_22, ia_22, mo_22, wo_22, ns_22, np_22, sl_22, hs_22⟩ | E_22
      · have hFc := va_free (wc := ws_sl a k rd wr ay ia mo wo so oi si mi wi ns nt nf np sl hs) hD hS hA [0, 1, 2, 3, 4, 5, 6, 7, 8, 9, 10, 11] rfl
        refine va_calli (va_runV (As := [.long (sl_readingAndWriting p2 p1), .long (jl 1 p1), .int (-1), .int (sl_costOf p2)]) (rest := []) ⟨hx, hb, hml, hown, hg⟩ (cs_addStep l dC dI a k H.size rd wr ay ia mo wo so oi si mi wi ns nt nf np sl hs (sl_readingAndWriting p2 p1) (jl 1 p1) (-1) (sl_costOf p2) r_22 rd_22 wr_22 ay_22 ia_22 mo_22 wo_22 ns_22 np_22 sl_22 hs_22 hq_22) (cwV 4 hg (gi_V w_202 w_204 s_2 w_1 w_205) rfl rfl rfl (by decide +kernel) ⟨Nat.le_of_ble_eq_true rfl, Nat.le_of_ble_eq_true rfl⟩) ⟨pr_bl, va_recv hK hP (ci := 0) (q0 := 0) rfl rfl, pr_ok hK hP hD⟩ rfl rfl hl.1 rfl (lv_room (Nat.le_of_ble_eq_true rfl)) dX0_assign_22 ⟨Nat.le_of_ble_eq_true rfl, Nat.le_of_ble_eq_true rfl⟩) hS (fun q _ h => hFc q h) hFc (fun rr u t H1 locs ht hvm hw hB hz1 hk1 hS => ?_)
        have hw := hw.symm
        subst hw
        obtain ⟨hP, hK1, hD1⟩ := hB
        rw [ht] at hP
        have hD := hD1.weaken (fun _ q _ h => hFc q.1 h)
        generalize H1 = H at hP hS ⊢
        have hP : va_P (dC, dI) vwCl (ws_sl a k rd_22 wr_22 ay_22 ia_22 mo_22 wo_22 so oi si mi wi ns_22 nt nf np_22 sl_22 hs_22) H := hP
        have hD : va_D A (ws_sl a k rd_22 wr_22 ay_22 ia_22 mo_22 wo_22 so oi si mi wi ns_22 nt nf np_22 sl_22 hs_22) := hD
        have hw : sl_assign rd wr ay ia mo wo oi ns nf np p1 p2 = .inl (r_22, rd_22, wr_22, ay_22, ia_22, mo_22, wo_22, ns_22, np_22, sl_22, hs_22) := by unfold sl_assign; rw [hq_1]; try dsimp only; rw [hq_5]; try dsimp only; rw [hq_22]; try dsimp only; try rfl
        have he := Sum.inl.inj (hok.symm.trans hw)
        simp only [Prod.mk.injEq] at he
        obtain ⟨e0, e1, e2, e3, e4, e5, e6, e7, e8, e9, e10⟩ := he
        exact W.iret (v := r_22) hx hb hr (fun t ht hW => ⟨⟨r_22, (), rfl, e0.symm, ⟨by rw [ht, e1, e2, e3, e4, e5, e6, e7, e8, e9, e10]; exact hP, va_K.moved hW.alike hK, by rw [e1, e2, e3, e4, e5, e6, e7, e8, e9, e10]; exact hD⟩⟩, hS.F ht⟩) hS.2.2 dX0_assign_25
      · have hw : sl_assign rd wr ay ia mo wo oi ns nf np p1 p2 = .inr E_22 := by unfold sl_assign; rw [hq_1]; try dsimp only; rw [hq_5]; try dsimp only; rw [hq_22]; try dsimp only; try rfl
        exact absurd (hw.symm.trans hok) (by intro h9; cases h9)
    · have hw : sl_assign rd wr ay ia mo wo oi ns nf np p1 p2 = .inr E_5 := by unfold sl_assign; rw [hq_1]; try dsimp only; rw [hq_5]; try dsimp only; try rfl
      exact absurd (hw.symm.trans hok) (by intro h9; cases h9)
  · have hw : sl_assign rd wr ay ia mo wo oi ns nf np p1 p2 = .inr E_1 := by unfold sl_assign; rw [hq_1]; try dsimp only; try rfl
    exact absurd (hw.symm.trans hok) (by intro h9; cases h9)
set_option maxHeartbeats 4000000 in
set_option maxRecDepth 100000 in
theorem cs_assign_x (l : Launch) (hl9 : l.stackTraces = false) (dC : Nat → ClassId) (dI : Nat → Nat → Nat) (a : Nat → Nat) (k : Nat → ClassId) (sx : Nat → Nat) (sz : Nat) (rd wr : Nat → Int64) (ay ia mo wo so oi si mi wi : Nat → Int32) (ns nt nf np sl hs : Int32) (p1 p2 : Int32) (E9 : String) (hno : sl_assign rd wr ay ia mo wo oi ns nf np p1 p2 = .inr E9) : vx_Met l yX0_assign wsX0_assign ({ frames := 7, cells := 1, slots := 6, locals := 109 } : Room) (va_Pc [.ref (a 0), .int p1, .int p2] (prx (dC, dI) (ws_sl a k rd wr ay ia mo wo so oi si mi wi ns nt nf np sl hs) (ty_sl k) sz sx)) (va_Qi (fun (_ : Int32) (_ : Unit) => False) (fun (_ : Unit) _ => True) (va_A (ws_sl a k rd wr ay ia mo wo so oi si mi wi ns nt nf np sl hs) sz)) (vx_X (fun _ : Unit => True) (fun E _ t => E = E9 ∧ po (dC, dI) (ws_sl a k rd wr ay ia mo wo so oi si mi wi ns nt nf np sl hs) (ty_sl k) (va_A (ws_sl a k rd wr ay ia mo wo so oi si mi wi ns nt nf np sl hs) sz) t) (va_A (ws_sl a k rd wr ay ia mo wo so oi si mi wi ns nt nf np sl hs) sz)) 1 6 (va_A (ws_sl a k rd wr ay ia mo wo so oi si mi wi ns nt nf np sl hs) sz) := by
  refine vx_ofW (cc := cX0_assign) (maxL := 3) (ret := (some .int)) (by decide) rfl ?_
  intro p e s m args below meth c s₁ B hml hEx hv
  obtain ⟨rfl, ⟨hsz, hP, hK, hD0⟩, hX9⟩ := hv
  have hx := B.exec
  have hb := B.bytes
  have hr := B.returns
  have hts := atoms_spec (ws := wsX0_assign) B.pre
  have hg : ∀ w ∈ gw, w.before _ s = true := fun w h => hts w (List.mem_cons_of_mem _ h)
  have hown : s.vm.findClass RX0 = some m.cls := findClass_of_methodNamed B.named
  have hlocks := B.notSynchronized
  subst hsz
  have hD := hD0.self (sz := s.heap.size)
  generalize hAe : va_A (ws_sl a k rd wr ay ia mo wo so oi si mi wi ns nt nf np sl hs) s.heap.size = A at hD hX9 ⊢
  have hA : ∀ q : Nat, s.heap.size ≤ q → A q := fun q h => by rw [← hAe]; exact Or.inr h
  clear hAe
  refine w_in (fun H locs eH eL => ?_)
  have hS : va_S A s.heap H locs := by rw [eH, eL]; exact va_S.rf
  have hP : va_P (dC, dI) vwCl (ws_sl a k rd wr ay ia mo wo so oi si mi wi ns nt nf np sl hs) H := by rw [eH]; exact hP
  clear eH eL
  have hl := lv_entry ([.ref (a 0), .int p1, .int p2]) (n := 3) (Nat.le_of_ble_eq_true rfl)
  rw [lg_entry_eq]
  generalize (lg_sl ([.ref (a 0), .int p1, .int p2]) ++ List.replicate (3 - (lg_sl ([.ref (a 0), .int p1, .int p2])).length) Slot.unset).toArray = ls at hl ⊢
  have hl : lv_has ls 3 [(0, .ref (a 0)), (1, .int p1), (2, .int p2)] := hl
  refine lv_iload_n hx hb dX0_assign_0 rfl (lv_at hl 1 rfl) ?_
  rcases hq_1 : sl_requirePlace p1 with ⟨⟩ | E_1
  · refine va_callv (va_runS (As := [.int p1]) (rest := []) ⟨hx, hb, hml, hown, hg⟩ (cs_requirePlace l dC dI p1 hq_1) (va_cwS 1 hg (gi_S w_106 w_107 w_1 w_108) rfl rfl rfl (by decide +kernel) ⟨Nat.le_of_ble_eq_true rfl, Nat.le_of_ble_eq_true rfl⟩) ⟨(fun _ _ _ _ q => q), (fun _ _ _ => ⟨rfl, trivial⟩)⟩ rfl rfl hl.1 rfl (lv_room (Nat.le_of_ble_eq_true rfl)) dX0_assign_1 ⟨Nat.le_of_ble_eq_true rfl, Nat.le_of_ble_eq_true rfl⟩) hS (fun q _ h => False.elim h) (fun q h => False.elim h) (fun u t H1 locs ht hvm hw hB hz1 hk1 hS => ?_)
    have hP := hP.kept (fun k q hq => hk1 q.1 (hP k q hq).lt (fun h => h))
    generalize H1 = H at hP hS ⊢
    have hP : va_P (dC, dI) vwCl (ws_sl a k rd wr ay ia mo wo so oi si mi wi ns nt nf np sl hs) H := hP
    have hD : va_D A (ws_sl a k rd wr ay ia mo wo so oi si mi wi ns nt nf np sl hs) := hD
    refine lv_iload_n hx hb dX0_assign_4 rfl (lv_at hl 2 rfl) ?_
    rcases hq_5 : sl_requireReadable p2 with ⟨⟩ | E_5
    · refine va_callv (va_runS (As := [.int p2]) (rest := []) ⟨hx, hb, hml, hown, hg⟩ (cs_requireReadable l dC dI p2 hq_5) (va_cwS 1 hg (gi_S w_177 w_178 w_1 w_179) rfl rfl rfl (by decide +kernel) ⟨Nat.le_of_ble_eq_true rfl, Nat.le_of_ble_eq_true rfl⟩) ⟨(fun _ _ _ _ q => q), (fun _ _ _ => ⟨rfl, trivial⟩)⟩ rfl rfl hl.1 rfl (lv_room (Nat.le_of_ble_eq_true rfl)) dX0_assign_5 ⟨Nat.le_of_ble_eq_true rfl, Nat.le_of_ble_eq_true rfl⟩) hS (fun q _ h => False.elim h) (fun q h => False.elim h) (fun u t H1 locs ht hvm hw hB hz1 hk1 hS => ?_)
      have hP := hP.kept (fun k q hq => hk1 q.1 (hP k q hq).lt (fun h => h))
      generalize H1 = H at hP hS ⊢
      have hP : va_P (dC, dI) vwCl (ws_sl a k rd wr ay ia mo wo so oi si mi wi ns nt nf np sl hs) H := hP
      have hD : va_D A (ws_sl a k rd wr ay ia mo wo so oi si mi wi ns nt nf np sl hs) := hD
      refine lv_aload_n hx hb dX0_assign_8 rfl (lv_at hl 0 rfl) ?_
      refine lv_iload_n hx hb dX0_assign_9 rfl (lv_at hl 2 rfl) ?_
      refine lv_iload_n hx hb dX0_assign_10 rfl (lv_at hl 1 rfl) ?_
      refine va_calll (va_runS (As := [.int p2, .int p1]) (rest := [.ref (a 0)]) ⟨hx, hb, hml, hown, hg⟩ (cs_readingAndWriting l dC dI p2 p1) (va_cwS 2 hg (gi_S w_181 w_182 w_1 w_183) rfl rfl rfl (by decide +kernel) ⟨Nat.le_of_ble_eq_true rfl, Nat.le_of_ble_eq_true rfl⟩) ⟨(fun _ _ _ _ q => q), (fun _ _ _ => ⟨rfl, trivial⟩)⟩ rfl rfl hl.1 rfl (lv_room (Nat.le_of_ble_eq_true rfl)) dX0_assign_11 ⟨Nat.le_of_ble_eq_true rfl, Nat.le_of_ble_eq_true rfl⟩) hS (fun q _ h => False.elim h) (fun q h => False.elim h) (fun r_11 u t H1 locs ht hvm hw_11 hB hz1 hk1 hS => ?_)
      subst hw_11
      have hP := hP.kept (fun k q hq => hk1 q.1 (hP k q hq).lt (fun h => h))
      generalize H1 = H at hP hS ⊢
      have hP : va_P (dC, dI) vwCl (ws_sl a k rd wr ay ia mo wo so oi si mi wi ns nt nf np sl hs) H := hP
      have hD : va_D A (ws_sl a k rd wr ay ia mo wo so oi si mi wi ns nt nf np sl hs) := hD
      refine lv_lconst (v := 1) hx hb dX0_assign_14 (by decide) ?_
      refine lv_iload_n hx hb dX0_assign_15 rfl (lv_at hl 1 rfl) ?_
      refine lv_lshl (v := jl 1 p1) hx hb dX0_assign_16 rfl ?_
      refine lv_iconst (v := (-1)) hx hb dX0_assign_17 (by decide) ?_
      refine lv_iload_n hx hb dX0_assign_18 rfl (lv_at hl 2 rfl) ?_
      refine va_calli (va_runS (As := [.int p2]) (rest := [.int (-1), .long (jl 1 p1), .long (sl_readingAndWriting p2 p1), .ref (a 0)]) ⟨hx, hb, hml, hown, hg⟩ (cs_costOf l dC dI p2) (va_cwS 1 hg (gi_S w_190 w_191 w_1 w_192) rfl rfl rfl (by decide +kernel) ⟨Nat.le_of_ble_eq_true rfl, Nat.le_of_ble_eq_true rfl⟩) ⟨(fun _ _ _ _ q => q), (fun _ _ _ => ⟨rfl, trivial⟩)⟩ rfl rfl hl.1 rfl (lv_room (Nat.le_of_ble_eq_true rfl)) dX0_assign_19 ⟨Nat.le_of_ble_eq_true rfl, Nat.le_of_ble_eq_true rfl⟩) hS (fun q _ h => False.elim h) (fun q h => False.elim h) (fun r_19 u t H1 locs ht hvm hw_19 hB hz1 hk1 hS => ?_)
      subst hw_19
      have hP := hP.kept (fun k q hq => hk1 q.1 (hP k q hq).lt (fun h => h))
      generalize H1 = H at hP hS ⊢
      have hP : va_P (dC, dI) vwCl (ws_sl a k rd wr ay ia mo wo so oi si mi wi ns nt nf np sl hs) H := hP
      have hD : va_D A (ws_sl a k rd wr ay ia mo wo so oi si mi wi ns nt nf np sl hs) := hD
      rcases hq_22 : sl_addStep rd wr ay ia mo wo oi ns nf np (sl_readingAndWriting p2 p1) (jl 1 p1) (-1) (sl_costOf p2) with ⟨r_22, rd_22, wr_22, ay_22, ia_22, mo_22, wo_22, ns_22, np_22, sl_22, hs_22⟩ | E_22
      · exfalso
        have h9 := hno
        unfold sl_assign at h9
        rw [hq_1] at h9
        try dsimp only at h9
        rw [hq_5] at h9
        try dsimp only at h9
        rw [hq_22] at h9
        try dsimp only at h9
        first | (cases h9; done) | ((repeat' split at h9) <;> cases h9)
      · have hFc := va_free (wc := ws_sl a k rd wr ay ia mo wo so oi si mi wi ns nt nf np sl hs) hD hS hA [0, 1, 2, 3, 4, 5, 6, 7, 8, 9, 10, 11] rfl
        refine vx_calli (vx_runV (As := [.long (sl_readingAndWriting p2 p1), .long (jl 1 p1), .int (-1), .int (sl_costOf p2)]) (rest := []) ⟨hx, hb, hml, hown, hg⟩ (cs_addStep_x l hl9 dC dI a k sx H.size rd wr ay ia mo wo so oi si mi wi ns nt nf np sl hs (sl_readingAndWriting p2 p1) (jl 1 p1) (-1) (sl_costOf p2) E_22 hq_22) (cwV 4 hg (gi_V w_202 w_204 s_2 w_1 w_205) rfl rfl rfl (by decide +kernel) ⟨Nat.le_of_ble_eq_true rfl, Nat.le_of_ble_eq_true rfl⟩) ⟨prx_bl, va_recv hK hP (ci := 0) (q0 := 0) rfl rfl, prx_ok hK hP hD hX9 hS hFc⟩ rfl rfl hl.1 rfl (lv_room (Nat.le_of_ble_eq_true rfl)) dX0_assign_22 ⟨Nat.le_of_ble_eq_true rfl, Nat.le_of_ble_eq_true rfl⟩) hS (fun q _ h => hFc q h) hFc (fun q _ h => hFc q h) (fun E ce q9 u t H1 locs ht hvm hwx hB hz1 hk1 hS hce hcv hcl => ?_) (fun rr u t H1 locs ht hvm hwx hB hz1 hk1 hS => hwx.elim)
        obtain ⟨hE, hB⟩ := hB
        have hE := hE.symm
        subst hE
        obtain ⟨hP, hK1, hD1⟩ := hB
        rw [ht] at hP
        have hD := hD1.weaken (fun _ q _ h => hFc q.1 h)
        generalize H1 = H at hP hS hce ⊢
        have hP : va_P (dC, dI) vwCl (ws_sl a k rd wr ay ia mo wo so oi si mi wi ns nt nf np sl hs) H := hP
        have hD : va_D A (ws_sl a k rd wr ay ia mo wo so oi si mi wi ns nt nf np sl hs) := hD
        have hw : sl_assign rd wr ay ia mo wo oi ns nf np p1 p2 = .inr E_22 := by unfold sl_assign; rw [hq_1]; try dsimp only; rw [hq_5]; try dsimp only; rw [hq_22]; try dsimp only; try rfl
        have he := Sum.inr.inj (hno.symm.trans hw)
        exact vx_out (fun x hx => (hEx x hx).elim) hlocks hce hcv hcl (fun t ht ha => ⟨(), trivial, ⟨he.symm, by rw [ht]; exact hP, va_K.moved ha hK, hD⟩, hS.F ht⟩) hS.2.2 (Nat.le_of_ble_eq_true rfl) (Nat.le_of_ble_eq_true rfl)
    · have hFc := va_free (wc := ([] : va_W)) hD hS hA [] rfl
      refine vx_callv (vx_runS (As := [.int p2]) (rest := []) ⟨hx, hb, hml, hown, hg⟩ (cs_requireReadable_x l hl9 dC dI sx H.size p2 E_5 hq_5) (va_cwS 1 hg (gi_S w_177 w_178 w_1 w_179) rfl rfl rfl (by decide +kernel) ⟨Nat.le_of_ble_eq_true rfl, Nat.le_of_ble_eq_true rfl⟩) ⟨prx0_bl, prx_ok0 hX9 hS hFc⟩ rfl rfl hl.1 rfl (lv_room (Nat.le_of_ble_eq_true rfl)) dX0_assign_5 ⟨Nat.le_of_ble_eq_true rfl, Nat.le_of_ble_eq_true rfl⟩) hS (fun q _ h => hFc q h) hFc (fun q _ h => hFc q h) (fun E ce q9 u t H1 locs ht hvm hwx hB hz1 hk1 hS hce hcv hcl => ?_) (fun u t H1 locs ht hvm hwx hB hz1 hk1 hS => hwx.elim)
      have hB := hB.symm
      subst hB
      have hP := hP.kept (fun k q hq => hk1 q.1 (hP k q hq).lt (nA (hP k q hq).lt))
      generalize H1 = H at hP hS hce ⊢
      have hP : va_P (dC, dI) vwCl (ws_sl a k rd wr ay ia mo wo so oi si mi wi ns nt nf np sl hs) H := hP
      have hD : va_D A (ws_sl a k rd wr ay ia mo wo so oi si mi wi ns nt nf np sl hs) := hD
      have hw : sl_assign rd wr ay ia mo wo oi ns nf np p1 p2 = .inr E_5 := by unfold sl_assign; rw [hq_1]; try dsimp only; rw [hq_5]; try dsimp only; try rfl
      have he := Sum.inr.inj (hno.symm.trans hw)
      exact vx_out (fun x hx => (hEx x hx).elim) hlocks hce hcv hcl (fun t ht ha => ⟨(), trivial, ⟨he.symm, by rw [ht]; exact hP, va_K.moved ha hK, hD⟩, hS.F ht⟩) hS.2.2 (Nat.le_of_ble_eq_true rfl) (Nat.le_of_ble_eq_true rfl)
  · have hFc := va_free (wc := ([] : va_W)) hD hS hA [] rfl
    refine vx_callv (vx_runS (As := [.int p1]) (rest := []) ⟨hx, hb, hml, hown, hg⟩ (cs_requirePlace_x l hl9 dC dI sx H.size p1 E_1 hq_1) (va_cwS 1 hg (gi_S w_106 w_107 w_1 w_108) rfl rfl rfl (by decide +kernel) ⟨Nat.le_of_ble_eq_true rfl, Nat.le_of_ble_eq_true rfl⟩) ⟨prx0_bl, prx_ok0 hX9 hS hFc⟩ rfl rfl hl.1 rfl (lv_room (Nat.le_of_ble_eq_true rfl)) dX0_assign_1 ⟨Nat.le_of_ble_eq_true rfl, Nat.le_of_ble_eq_true rfl⟩) hS (fun q _ h => hFc q h) hFc (fun q _ h => hFc q h) (fun E ce q9 u t H1 locs ht hvm hwx hB hz1 hk1 hS hce hcv hcl => ?_) (fun u t H1 locs ht hvm hwx hB hz1 hk1 hS => hwx.elim)
    have hB := hB.symm
    subst hB
    have hP := hP.kept (fun k q hq => hk1 q.1 (hP k q hq).lt (nA (hP k q hq).lt))
    generalize H1 = H at hP hS hce ⊢
    have hP : va_P (dC, dI) vwCl (ws_sl a k rd wr ay ia mo wo so oi si mi wi ns nt nf np sl hs) H := hP
    have hD : va_D A (ws_sl a k rd wr ay ia mo wo so oi si mi wi ns nt nf np sl hs) := hD
    have hw : sl_assign rd wr ay ia mo wo oi ns nf np p1 p2 = .inr E_1 := by unfold sl_assign; rw [hq_1]; try dsimp only; try rfl
    have he := Sum.inr.inj (hno.symm.trans hw)
    exact vx_out (fun x hx => (hEx x hx).elim) hlocks hce hcv hcl (fun t ht ha => ⟨(), trivial, ⟨he.symm, by rw [ht]; exact hP, va_K.moved ha hK, hD⟩, hS.F ht⟩) hS.2.2 (Nat.le_of_ble_eq_true rfl) (Nat.le_of_ble_eq_true rfl)
set_option maxHeartbeats 4000000 in
set_option maxRecDepth 100000 in
theorem cs_load (l : Launch) (dC : Nat → ClassId) (dI : Nat → Nat → Nat) (a : Nat → Nat) (k : Nat → ClassId) (sz : Nat) (rd wr : Nat → Int64) (ay ia mo wo so oi si mi wi : Nat → Int32) (ns nt nf np sl hs : Int32) (p1 p2 p3 : Int32) (r' : Int32) (rd' wr' : Nat → Int64) (ay' ia' mo' wo' : Nat → Int32) (ns' np' sl' hs' : Int32) (hok : sl_load rd wr ay ia mo wo oi ns nf np p1 p2 p3 = .inl (r', rd', wr', ay', ia', mo', wo', ns', np', sl', hs')) : Met l yX0_load wsX0_load ({ frames := 7, cells := 0, slots := 0, locals := 109 } : Room) (va_Pc [.ref (a 0), .int p1, .int p2, .int p3] (pr (dC, dI) (ws_sl a k rd wr ay ia mo wo so oi si mi wi ns nt nf np sl hs) (ty_sl k) sz)) (va_Qi (fun (r : Int32) (_ : Unit) => r = r') (fun (_ : Unit) t => po (dC, dI) (ws_sl a k rd' wr' ay' ia' mo' wo' so oi si mi wi ns' nt nf np' sl' hs') (ty_sl k) (va_A (ws_sl a k rd wr ay ia mo wo so oi si mi wi ns nt nf np sl hs) sz) t) (va_A (ws_sl a k rd wr ay ia mo wo so oi si mi wi ns nt nf np sl hs) sz)) 0 0 (va_A (ws_sl a k rd wr ay ia mo wo so oi si mi wi ns nt nf np sl hs) sz) := by
  refine Met.ofW (cc := cX0_load) (maxL := 4) (ret := (some .int)) (by decide) rfl ?_
  intro p e s m args below meth c s₁ B hml hv
  obtain ⟨rfl, hsz, hP, hK, hD0⟩ := hv
  have hx := B.exec
  have hb := B.bytes
  have hr := B.returns
  have hts := atoms_spec (ws := wsX0_load) B.pre
  have hg : ∀ w ∈ gw, w.before _ s = true := fun w h => hts w (List.mem_cons_of_mem _ h)
  have hown : s.vm.findClass RX0 = some m.cls := findClass_of_methodNamed B.named
  have hlocks := B.notSynchronized
  subst hsz
  have hD := hD0.self (sz := s.heap.size)
  generalize hAe : va_A (ws_sl a k rd wr ay ia mo wo so oi si mi wi ns nt nf np sl hs) s.heap.size = A at hD ⊢
  have hA : ∀ q : Nat, s.heap.size ≤ q → A q := fun q h => by rw [← hAe]; exact Or.inr h
  clear hAe
  refine w_in (fun H locs eH eL => ?_)
  have hS : va_S A s.heap H locs := by rw [eH, eL]; exact va_S.rf
  have hP : va_P (dC, dI) vwCl (ws_sl a k rd wr ay ia mo wo so oi si mi wi ns nt nf np sl hs) H := by rw [eH]; exact hP
  clear eH eL
  have hl := lv_entry ([.ref (a 0), .int p1, .int p2, .int p3]) (n := 4) (Nat.le_of_ble_eq_true rfl)
  rw [lg_entry_eq]
  generalize (lg_sl ([.ref (a 0), .int p1, .int p2, .int p3]) ++ List.replicate (4 - (lg_sl ([.ref (a 0), .int p1, .int p2, .int p3])).length) Slot.unset).toArray = ls at hl ⊢
  have hl : lv_has ls 4 [(0, .ref (a 0)), (1, .int p1), (2, .int p2), (3, .int p3)] := hl
  refine lv_iload_n hx hb dX0_load_0 rfl (lv_at hl 1 rfl) ?_
  rcases hq_1 : sl_requirePlace p1 with ⟨⟩ | E_1
  · refine va_callv (va_runS (As := [.int p1]) (rest := []) ⟨hx, hb, hml, hown, hg⟩ (cs_requirePlace l dC dI p1 hq_1) (va_cwS 1 hg (gi_S w_106 w_107 w_1 w_108) rfl rfl rfl (by decide +kernel) ⟨Nat.le_of_ble_eq_true rfl, Nat.le_of_ble_eq_true rfl⟩) ⟨(fun _ _ _ _ q => q), (fun _ _ _ => ⟨rfl, trivial⟩)⟩ rfl rfl hl.1 rfl (lv_room (Nat.le_of_ble_eq_true rfl)) dX0_load_1 ⟨Nat.le_of_ble_eq_true rfl, Nat.le_of_ble_eq_true rfl⟩) hS (fun q _ h => False.elim h) (fun q h => False.elim h) (fun u t H1 locs ht hvm hw hB hz1 hk1 hS => ?_)
    have hP := hP.kept (fun k q hq => hk1 q.1 (hP k q hq).lt (fun h => h))
    generalize H1 = H at hP hS ⊢
    have hP : va_P (dC, dI) vwCl (ws_sl a k rd wr ay ia mo wo so oi si mi wi ns nt nf np sl hs) H := hP
    have hD : va_D A (ws_sl a k rd wr ay ia mo wo so oi si mi wi ns nt nf np sl hs) := hD
    refine lv_iload_n hx hb dX0_load_4 rfl (lv_at hl 2 rfl) ?_
    rcases hq_5 : sl_requireArray p2 with ⟨⟩ | E_5
    · refine va_callv (va_runS (As := [.int p2]) (rest := []) ⟨hx, hb, hml, hown, hg⟩ (cs_requireArray l dC dI p2 hq_5) (va_cwS 1 hg (gi_S w_238 w_239 w_1 w_240) rfl rfl rfl (by decide +kernel) ⟨Nat.le_of_ble_eq_true rfl, Nat.le_of_ble_eq_true rfl⟩) ⟨(fun _ _ _ _ q => q), (fun _ _ _ => ⟨rfl, trivial⟩)⟩ rfl rfl hl.1 rfl (lv_room (Nat.le_of_ble_eq_true rfl)) dX0_load_5 ⟨Nat.le_of_ble_eq_true rfl, Nat.le_of_ble_eq_true rfl⟩) hS (fun q _ h => False.elim h) (fun q h => False.elim h) (fun u t H1 locs ht hvm hw hB hz1 hk1 hS => ?_)
      have hP := hP.kept (fun k q hq => hk1 q.1 (hP k q hq).lt (fun h => h))
      generalize H1 = H at hP hS ⊢
      have hP : va_P (dC, dI) vwCl (ws_sl a k rd wr ay ia mo wo so oi si mi wi ns nt nf np sl hs) H := hP
      have hD : va_D A (ws_sl a k rd wr ay ia mo wo so oi si mi wi ns nt nf np sl hs) := hD
      refine lv_iload_n hx hb dX0_load_8 rfl (lv_at hl 3 rfl) ?_
      rcases hq_9 : sl_requireReadable p3 with ⟨⟩ | E_9
      · refine va_callv (va_runS (As := [.int p3]) (rest := []) ⟨hx, hb, hml, hown, hg⟩ (cs_requireReadable l dC dI p3 hq_9) (va_cwS 1 hg (gi_S w_177 w_178 w_1 w_179) rfl rfl rfl (by decide +kernel) ⟨Nat.le_of_ble_eq_true rfl, Nat.le_of_ble_eq_true rfl⟩) ⟨(fun _ _ _ _ q => q), (fun _ _ _ => ⟨rfl, trivial⟩)⟩ rfl rfl hl.1 rfl (lv_room (Nat.le_of_ble_eq_true rfl)) dX0_load_9 ⟨Nat.le_of_ble_eq_true rfl, Nat.le_of_ble_eq_true rfl⟩) hS (fun q _ h => False.elim h) (fun q h => False.elim h) (fun u t H1 locs ht hvm hw hB hz1 hk1 hS => ?_)
        have hP := hP.kept (fun k q hq => hk1 q.1 (hP k q hq).lt (fun h => h))
        generalize H1 = H at hP hS ⊢
        have hP : va_P (dC, dI) vwCl (ws_sl a k rd wr ay ia mo wo so oi si mi wi ns nt nf np sl hs) H := hP
        have hD : va_D A (ws_sl a k rd wr ay ia mo wo so oi si mi wi ns nt nf np sl hs) := hD
        refine lv_aload_n hx hb dX0_load_12 rfl (lv_at hl 0 rfl) ?_
        refine lv_iload_n hx hb dX0_load_13 rfl (lv_at hl 3 rfl) ?_
        refine lv_iload_n hx hb dX0_load_14 rfl (lv_at hl 1 rfl) ?_
        refine va_calll (va_runS (As := [.int p3, .int p1]) (rest := [.ref (a 0)]) ⟨hx, hb, hml, hown, hg⟩ (cs_readingAndWriting l dC dI p3 p1) (va_cwS 2 hg (gi_S w_181 w_182 w_1 w_183) rfl rfl rfl (by decide +kernel) ⟨Nat.le_of_ble_eq_true rfl, Nat.le_of_ble_eq_true rfl⟩) ⟨(fun _ _ _ _ q => q), (fun _ _ _ => ⟨rfl, trivial⟩)⟩ rfl rfl hl.1 rfl (lv_room (Nat.le_of_ble_eq_true rfl)) dX0_load_15 ⟨Nat.le_of_ble_eq_true rfl, Nat.le_of_ble_eq_true rfl⟩) hS (fun q _ h => False.elim h) (fun q h => False.elim h) (fun r_15 u t H1 locs ht hvm hw_15 hB hz1 hk1 hS => ?_)
        subst hw_15
        have hP := hP.kept (fun k q hq => hk1 q.1 (hP k q hq).lt (fun h => h))
        generalize H1 = H at hP hS ⊢
        have hP : va_P (dC, dI) vwCl (ws_sl a k rd wr ay ia mo wo so oi si mi wi ns nt nf np sl hs) H := hP
        have hD : va_D A (ws_sl a k rd wr ay ia mo wo so oi si mi wi ns nt nf np sl hs) := hD
        refine lv_lconst (v := 1) hx hb dX0_load_18 (by decide) ?_
        refine lv_iload_n hx hb dX0_load_19 rfl (lv_at hl 1 rfl) ?_
        refine lv_lshl (v := jl 1 p1) hx hb dX0_load_20 rfl ?_
        refine lv_iload_n hx hb dX0_load_21 rfl (lv_at hl 2 rfl) ?_
        refine lv_iload_n hx hb dX0_load_22 rfl (lv_at hl 3 rfl) ?_
        refine va_calli (va_runS (As := [.int p3]) (rest := [.int p2, .long (jl 1 p1), .long (sl_readingAndWriting p3 p1), .ref (a 0)]) ⟨hx, hb, hml, hown, hg⟩ (cs_costOf l dC dI p3) (va_cwS 1 hg (gi_S w_190 w_191 w_1 w_192) rfl rfl rfl (by decide +kernel) ⟨Nat.le_of_ble_eq_true rfl, Nat.le_of_ble_eq_true rfl⟩) ⟨(fun _ _ _ _ q => q), (fun _ _ _ => ⟨rfl, trivial⟩)⟩ rfl rfl hl.1 rfl (lv_room (Nat.le_of_ble_eq_true rfl)) dX0_load_23 ⟨Nat.le_of_ble_eq_true rfl, Nat.le_of_ble_eq_true rfl⟩) hS (fun q _ h => False.elim h) (fun q h => False.elim h) (fun r_23 u t H1 locs ht hvm hw_23 hB hz1 hk1 hS => ?_)
        subst hw_23
        have hP := hP.kept (fun k q hq => hk1 q.1 (hP k q hq).lt (fun h => h))
        generalize H1 = H at hP hS ⊢
        have hP : va_P (dC, dI) vwCl (ws_sl a k rd wr ay ia mo wo so oi si mi wi ns nt nf np sl hs) H := hP
        have hD : va_D A (ws_sl a k rd wr ay ia mo wo so oi si mi wi ns nt nf np sl hs) := hD
        rcases hq_26 : sl_addStep rd wr ay ia mo wo oi ns nf np (sl_readingAndWriting p3 p1) (jl 1 p1) p2 (sl_costOf p3) with ⟨r_26, rd_26, wr_26, ay_26, ia_26, mo_26, wo_26, ns_26, np_26, sl_26, hs_26⟩ | E_26
        · have hFc := va_free (wc := ws_sl a k rd wr ay ia mo wo so oi si mi wi ns nt nf np sl hs) hD hS hA [0, 1, 2, 3, 4, 5, 6, 7, 8, 9, 10, 11] rfl
          refine va_calli (va_runV (As := [.long (sl_readingAndWriting p3 p1), .long (jl 1 p1), .int p2, .int (sl_costOf p3)]) (rest := []) ⟨hx, hb, hml, hown, hg⟩ (cs_addStep l dC dI a k H.size rd wr ay ia mo wo so oi si mi wi ns nt nf np sl hs (sl_readingAndWriting p3 p1) (jl 1 p1) p2 (sl_costOf p3) r_26 rd_26 wr_26 ay_26 ia_26 mo_26 wo_26 ns_26 np_26 sl_26 hs_26 hq_26) (cwV 4 hg (gi_V w_202 w_204 s_2 w_1 w_205) rfl rfl rfl (by decide +kernel) ⟨Nat.le_of_ble_eq_true rfl, Nat.le_of_ble_eq_true rfl⟩) ⟨pr_bl, va_recv hK hP (ci := 0) (q0 := 0) rfl rfl, pr_ok hK hP hD⟩ rfl rfl hl.1 rfl (lv_room (Nat.le_of_ble_eq_true rfl)) dX0_load_26 ⟨Nat.le_of_ble_eq_true rfl, Nat.le_of_ble_eq_true rfl⟩) hS (fun q _ h => hFc q h) hFc (fun rr u t H1 locs ht hvm hw hB hz1 hk1 hS => ?_)
          have hw := hw.symm
          subst hw
          obtain ⟨hP, hK1, hD1⟩ := hB
          rw [ht] at hP
          have hD := hD1.weaken (fun _ q _ h => hFc q.1 h)
          generalize H1 = H at hP hS ⊢
          have hP : va_P (dC, dI) vwCl (ws_sl a k rd_26 wr_26 ay_26 ia_26 mo_26 wo_26 so oi si mi wi ns_26 nt nf np_26 sl_26 hs_26) H := hP
          have hD : va_D A (ws_sl a k rd_26 wr_26 ay_26 ia_26 mo_26 wo_26 so oi si mi wi ns_26 nt nf np_26 sl_26 hs_26) := hD
          have hw : sl_load rd wr ay ia mo wo oi ns nf np p1 p2 p3 = .inl (r_26, rd_26, wr_26, ay_26, ia_26, mo_26, wo_26, ns_26, np_26, sl_26, hs_26) := by unfold sl_load; rw [hq_1]; try dsimp only; rw [hq_5]; try dsimp only; rw [hq_9]; try dsimp only; rw [hq_26]; try dsimp only; try rfl
          have he := Sum.inl.inj (hok.symm.trans hw)
          simp only [Prod.mk.injEq] at he
          obtain ⟨e0, e1, e2, e3, e4, e5, e6, e7, e8, e9, e10⟩ := he
          exact W.iret (v := r_26) hx hb hr (fun t ht hW => ⟨⟨r_26, (), rfl, e0.symm, ⟨by rw [ht, e1, e2, e3, e4, e5, e6, e7, e8, e9, e10]; exact hP, va_K.moved hW.alike hK, by rw [e1, e2, e3, e4, e5, e6, e7, e8, e9, e10]; exact hD⟩⟩, hS.F ht⟩) hS.2.2 dX0_load_29
        · have hw : sl_load rd wr ay ia mo wo oi ns nf np p1 p2 p3 = .inr E_26 := by unfold sl_load; rw [hq_1]; try dsimp only; rw [hq_5]; try dsimp only; rw [hq_9]; try dsimp only; rw [hq_26]; try dsimp only; try rfl
          exact absurd (hw.symm.trans hok) (by intro h9; cases h9)
      · have hw : sl_load rd wr ay ia mo wo oi ns nf np p1 p2 p3 = .inr E_9 := by unfold sl_load; rw [hq_1]; try dsimp only; rw [hq_5]; try dsimp only; rw [hq_9]; try dsimp only; try rfl
        exact absurd (hw.symm.trans hok) (by intro h9; cases h9)
    · have hw : sl_load rd wr ay ia mo wo oi ns nf np p1 p2 p3 = .inr E_5 := by unfold sl_load; rw [hq_1]; try dsimp only; rw [hq_5]; try dsimp only; try rfl
      exact absurd (hw.symm.trans hok) (by intro h9; cases h9)
  · have hw : sl_load rd wr ay ia mo wo oi ns nf np p1 p2 p3 = .inr E_1 := by unfold sl_load; rw [hq_1]; try dsimp only; try rfl
    exact absurd (hw.symm.trans hok) (by intro h9; cases h9)
set_option maxHeartbeats 4000000 in
set_option maxRecDepth 100000 in
theorem cs_load_x (l : Launch) (hl9 : l.stackTraces = false) (dC : Nat → ClassId) (dI : Nat → Nat → Nat) (a : Nat → Nat) (k : Nat → ClassId) (sx : Nat → Nat) (sz : Nat) (rd wr : Nat → Int64) (ay ia mo wo so oi si mi wi : Nat → Int32) (ns nt nf np sl hs : Int32) (p1 p2 p3 : Int32) (E9 : String) (hno : sl_load rd wr ay ia mo wo oi ns nf np p1 p2 p3 = .inr E9) : vx_Met l yX0_load wsX0_load ({ frames := 7, cells := 1, slots := 6, locals := 109 } : Room) (va_Pc [.ref (a 0), .int p1, .int p2, .int p3] (prx (dC, dI) (ws_sl a k rd wr ay ia mo wo so oi si mi wi ns nt nf np sl hs) (ty_sl k) sz sx)) (va_Qi (fun (_ : Int32) (_ : Unit) => False) (fun (_ : Unit) _ => True) (va_A (ws_sl a k rd wr ay ia mo wo so oi si mi wi ns nt nf np sl hs) sz)) (vx_X (fun _ : Unit => True) (fun E _ t => E = E9 ∧ po (dC, dI) (ws_sl a k rd wr ay ia mo wo so oi si mi wi ns nt nf np sl hs) (ty_sl k) (va_A (ws_sl a k rd wr ay ia mo wo so oi si mi wi ns nt nf np sl hs) sz) t) (va_A (ws_sl a k rd wr ay ia mo wo so oi si mi wi ns nt nf np sl hs) sz)) 1 6 (va_A (ws_sl a k rd wr ay ia mo wo so oi si mi wi ns nt nf np sl hs) sz) := by
  refine vx_ofW (cc := cX0_load) (maxL := 4) (ret := (some .int)) (by decide) rfl ?_
  intro p e s m args below meth c s₁ B hml hEx hv
  obtain ⟨rfl, ⟨hsz, hP, hK, hD0⟩, hX9⟩ := hv
  have hx := B.exec
  have hb := B.bytes
  have hr := B.returns
  have hts := atoms_spec (ws := wsX0_load) B.pre
  have hg : ∀ w ∈ gw, w.before _ s = true := fun w h => hts w (List.mem_cons_of_mem _ h)
  have hown : s.vm.findClass RX0 = some m.cls := findClass_of_methodNamed B.named
  have hlocks := B.notSynchronized
  subst hsz
  have hD := hD0.self (sz := s.heap.size)
  generalize hAe : va_A (ws_sl a k rd wr ay ia mo wo so oi si mi wi ns nt nf np sl hs) s.heap.size = A at hD hX9 ⊢
  have hA : ∀ q : Nat, s.heap.size ≤ q → A q := fun q h => by rw [← hAe]; exact Or.inr h
  clear hAe
  refine w_in (fun H locs eH eL => ?_)
  have hS : va_S A s.heap H locs := by rw [eH, eL]; exact va_S.rf
  have hP : va_P (dC, dI) vwCl (ws_sl a k rd wr ay ia mo wo so oi si mi wi ns nt nf np sl hs) H := by rw [eH]; exact hP
  clear eH eL
  have hl := lv_entry ([.ref (a 0), .int p1, .int p2, .int p3]) (n := 4) (Nat.le_of_ble_eq_true rfl)
  rw [lg_entry_eq]
  generalize (lg_sl ([.ref (a 0), .int p1, .int p2, .int p3]) ++ List.replicate (4 - (lg_sl ([.ref (a 0), .int p1, .int p2, .int p3])).length) Slot.unset).toArray = ls at hl ⊢
  have hl : lv_has ls 4 [(0, .ref (a 0)), (1, .int p1), (2, .int p2), (3, .int p3)] := hl
  refine lv_iload_n hx hb dX0_load_0 rfl (lv_at hl 1 rfl) ?_
  rcases hq_1 : sl_requirePlace p1 with ⟨⟩ | E_1
  · refine va_callv (va_runS (As := [.int p1]) (rest := []) ⟨hx, hb, hml, hown, hg⟩ (cs_requirePlace l dC dI p1 hq_1) (va_cwS 1 hg (gi_S w_106 w_107 w_1 w_108) rfl rfl rfl (by decide +kernel) ⟨Nat.le_of_ble_eq_true rfl, Nat.le_of_ble_eq_true rfl⟩) ⟨(fun _ _ _ _ q => q), (fun _ _ _ => ⟨rfl, trivial⟩)⟩ rfl rfl hl.1 rfl (lv_room (Nat.le_of_ble_eq_true rfl)) dX0_load_1 ⟨Nat.le_of_ble_eq_true rfl, Nat.le_of_ble_eq_true rfl⟩) hS (fun q _ h => False.elim h) (fun q h => False.elim h) (fun u t H1 locs ht hvm hw hB hz1 hk1 hS => ?_)
    have hP := hP.kept (fun k q hq => hk1 q.1 (hP k q hq).lt (fun h => h))
    generalize H1 = H at hP hS ⊢
    have hP : va_P (dC, dI) vwCl (ws_sl a k rd wr ay ia mo wo so oi si mi wi ns nt nf np sl hs) H := hP
    have hD : va_D A (ws_sl a k rd wr ay ia mo wo so oi si mi wi ns nt nf np sl hs) := hD
    refine lv_iload_n hx hb dX0_load_4 rfl (lv_at hl 2 rfl) ?_
    rcases hq_5 : sl_requireArray p2 with ⟨⟩ | E_5
    · refine va_callv (va_runS (As := [.int p2]) (rest := []) ⟨hx, hb, hml, hown, hg⟩ (cs_requireArray l dC dI p2 hq_5) (va_cwS 1 hg (gi_S w_238 w_239 w_1 w_240) rfl rfl rfl (by decide +kernel) ⟨Nat.le_of_ble_eq_true rfl, Nat.le_of_ble_eq_true rfl⟩) ⟨(fun _ _ _ _ q => q), (fun _ _ _ => ⟨rfl, trivial⟩)⟩ rfl rfl hl.1 rfl (lv_room (Nat.le_of_ble_eq_true rfl)) dX0_load_5 ⟨Nat.le_of_ble_eq_true rfl, Nat.le_of_ble_eq_true rfl⟩) hS (fun q _ h => False.elim h) (fun q h => False.elim h) (fun u t H1 locs ht hvm hw hB hz1 hk1 hS => ?_)
      have hP := hP.kept (fun k q hq => hk1 q.1 (hP k q hq).lt (fun h => h))
      generalize H1 = H at hP hS ⊢
      have hP : va_P (dC, dI) vwCl (ws_sl a k rd wr ay ia mo wo so oi si mi wi ns nt nf np sl hs) H := hP
      have hD : va_D A (ws_sl a k rd wr ay ia mo wo so oi si mi wi ns nt nf np sl hs) := hD
      refine lv_iload_n hx hb dX0_load_8 rfl (lv_at hl 3 rfl) ?_
      rcases hq_9 : sl_requireReadable p3 with ⟨⟩ | E_9
      · refine va_callv (va_runS (As := [.int p3]) (rest := []) ⟨hx, hb, hml, hown, hg⟩ (cs_requireReadable l dC dI p3 hq_9) (va_cwS 1 hg (gi_S w_177 w_178 w_1 w_179) rfl rfl rfl (by decide +kernel) ⟨Nat.le_of_ble_eq_true rfl, Nat.le_of_ble_eq_true rfl⟩) ⟨(fun _ _ _ _ q => q), (fun _ _ _ => ⟨rfl, trivial⟩)⟩ rfl rfl hl.1 rfl (lv_room (Nat.le_of_ble_eq_true rfl)) dX0_load_9 ⟨Nat.le_of_ble_eq_true rfl, Nat.le_of_ble_eq_true rfl⟩) hS (fun q _ h => False.elim h) (fun q h => False.elim h) (fun u t H1 locs ht hvm hw hB hz1 hk1 hS => ?_)
        have hP := hP.kept (fun k q hq => hk1 q.1 (hP k q hq).lt (fun h => h))
        generalize H1 = H at hP hS ⊢
        have hP : va_P (dC, dI) vwCl (ws_sl a k rd wr ay ia mo wo so oi si mi wi ns nt nf np sl hs) H := hP
        have hD : va_D A (ws_sl a k rd wr ay ia mo wo so oi si mi wi ns nt nf np sl hs) := hD
        refine lv_aload_n hx hb dX0_load_12 rfl (lv_at hl 0 rfl) ?_
        refine lv_iload_n hx hb dX0_load_13 rfl (lv_at hl 3 rfl) ?_
        refine lv_iload_n hx hb dX0_load_14 rfl (lv_at hl 1 rfl) ?_
        refine va_calll (va_runS (As := [.int p3, .int p1]) (rest := [.ref (a 0)]) ⟨hx, hb, hml, hown, hg⟩ (cs_readingAndWriting l dC dI p3 p1) (va_cwS 2 hg (gi_S w_181 w_182 w_1 w_183) rfl rfl rfl (by decide +kernel) ⟨Nat.le_of_ble_eq_true rfl, Nat.le_of_ble_eq_true rfl⟩) ⟨(fun _ _ _ _ q => q), (fun _ _ _ => ⟨rfl, trivial⟩)⟩ rfl rfl hl.1 rfl (lv_room (Nat.le_of_ble_eq_true rfl)) dX0_load_15 ⟨Nat.le_of_ble_eq_true rfl, Nat.le_of_ble_eq_true rfl⟩) hS (fun q _ h => False.elim h) (fun q h => False.elim h) (fun r_15 u t H1 locs ht hvm hw_15 hB hz1 hk1 hS => ?_)
        subst hw_15
        have hP := hP.kept (fun k q hq => hk1 q.1 (hP k q hq).lt (fun h => h))
        generalize H1 = H at hP hS ⊢
        have hP : va_P (dC, dI) vwCl (ws_sl a k rd wr ay ia mo wo so oi si mi wi ns nt nf np sl hs) H := hP
        have hD : va_D A (ws_sl a k rd wr ay ia mo wo so oi si mi wi ns nt nf np sl hs) := hD
        refine lv_lconst (v := 1) hx hb dX0_load_18 (by decide) ?_
        refine lv_iload_n hx hb dX0_load_19 rfl (lv_at hl 1 rfl) ?_
        refine lv_lshl (v := jl 1 p1) hx hb dX0_load_20 rfl ?_
        refine lv_iload_n hx hb dX0_load_21 rfl (lv_at hl 2 rfl) ?_
        refine lv_iload_n hx hb dX0_load_22 rfl (lv_at hl 3 rfl) ?_
        refine va_calli (va_runS (As := [.int p3]) (rest := [.int p2, .long (jl 1 p1), .long (sl_readingAndWriting p3 p1), .ref (a 0)]) ⟨hx, hb, hml, hown, hg⟩ (cs_costOf l dC dI p3) (va_cwS 1 hg (gi_S w_190 w_191 w_1 w_192) rfl rfl rfl (by decide +kernel) ⟨Nat.le_of_ble_eq_true rfl, Nat.le_of_ble_eq_true rfl⟩) ⟨(fun _ _ _ _ q => q), (fun _ _ _ => ⟨rfl, trivial⟩)⟩ rfl rfl hl.1 rfl (lv_room (Nat.le_of_ble_eq_true rfl)) dX0_load_23 ⟨Nat.le_of_ble_eq_true rfl, Nat.le_of_ble_eq_true rfl⟩) hS (fun q _ h => False.elim h) (fun q h => False.elim h) (fun r_23 u t H1 locs ht hvm hw_23 hB hz1 hk1 hS => ?_)
        subst hw_23
        have hP := hP.kept (fun k q hq => hk1 q.1 (hP k q hq).lt (fun h => h))
        generalize H1 = H at hP hS ⊢
        have hP : va_P (dC, dI) vwCl (ws_sl a k rd wr ay ia mo wo so oi si mi wi ns nt nf np sl hs) H := hP
        have hD : va_D A (ws_sl a k rd wr ay ia mo wo so oi si mi wi ns nt nf np sl hs) := hD
        rcases hq_26 : sl_addStep rd wr ay ia mo wo oi ns nf np (sl_readingAndWriting p3 p1) (jl 1 p1) p2 (sl_costOf p3) with ⟨r_26, rd_26, wr_26, ay_26, ia_26, mo_26, wo_26, ns_26, np_26, sl_26, hs_26⟩ | E_26
        · exfalso
          have h9 := hno
          unfold sl_load at h9
          rw [hq_1] at h9
          try dsimp only at h9
          rw [hq_5] at h9
          try dsimp only at h9
          rw [hq_9] at h9
          try dsimp only at h9
          rw [hq_26] at h9
          try dsimp only at h9
          first | (cases h9; done) | ((repeat' split at h9) <;> cases h9)
        · have hFc := va_free (wc := ws_sl a k rd wr ay ia mo wo so oi si mi wi ns nt nf np sl hs) hD hS hA [0, 1, 2, 3, 4, 5, 6, 7, 8, 9, 10, 11] rfl
          refine vx_calli (vx_runV (As := [.long (sl_readingAndWriting p3 p1), .long (jl 1 p1), .int p2, .int (sl_costOf p3)]) (rest := []) ⟨hx, hb, hml, hown, hg⟩ (cs_addStep_x l hl9 dC dI a k sx H.size rd wr ay ia mo wo so oi si mi wi ns nt nf np sl hs (sl_readingAndWriting p3 p1) (jl 1 p1) p2 (sl_costOf p3) E_26 hq_26) (cwV 4 hg (gi_V w_202 w_204 s_2 w_1 w_205) rfl rfl rfl (by decide +kernel) ⟨Nat.le_of_ble_eq_true rfl, Nat.le_of_ble_eq_true rfl⟩) ⟨prx_bl, va_recv hK hP (ci := 0) (q0 := 0) rfl rfl, prx_ok hK hP hD hX9 hS hFc⟩ rfl rfl hl.1 rfl (lv_room (Nat.le_of_ble_eq_true rfl)) dX0_load_26 ⟨Nat.le_of_ble_eq_true rfl, Nat.le_of_ble_eq_true rfl⟩) hS (fun q _ h => hFc q h) hFc (fun q _ h => hFc q h) (fun E ce q9 u t H1 locs ht hvm hwx hB hz1 hk1 hS hce hcv hcl => ?_) (fun rr u t H1 locs ht hvm hwx hB hz1 hk1 hS => hwx.elim)
          obtain ⟨hE, hB⟩ := hB
          have hE := hE.symm
          subst hE
          obtain ⟨hP, hK1, hD1⟩ := hB
          rw [ht] at hP
          have hD := hD1.weaken (fun _ q _ h => hFc q.1 h)
          generalize H1 = H at hP hS hce ⊢
          have hP : va_P (dC, dI) vwCl (ws_sl a k rd wr ay ia mo wo so oi si mi wi ns nt nf np sl hs) H := hP
          have hD : va_D A (ws_sl a k rd wr ay ia mo wo so oi si mi wi ns nt nf np sl hs) := hD
          have hw : sl_load rd wr ay ia mo wo oi ns nf np p1 p2 p3 = .inr E_26 := by unfold sl_load; rw [hq_1]; try dsimp only; rw [hq_5]; try dsimp only; rw [hq_9]; try dsimp only; rw [hq_26]; try dsimp only; try rfl
          have he := Sum.inr.inj (hno.symm.trans hw)
          exact vx_out (fun x hx => (hEx x hx).elim) hlocks hce hcv hcl (fun t ht ha => ⟨(), trivial, ⟨he.symm, by rw [ht]; exact hP, va_K.moved ha hK, hD⟩, hS.F ht⟩) hS.2.2 (Nat.le_of_ble_eq_true rfl) (Nat.le_of_ble_eq_true rfl)
      · have hFc := va_free (wc := ([] : va_W)) hD hS hA [] rfl
        refine vx_callv (vx_runS (As := [.int p3]) (rest := []) ⟨hx, hb, hml, hown, hg⟩ (cs_requireReadable_x l hl9 dC dI sx H.size p3 E_9 hq_9) (va_cwS 1 hg (gi_S w_177 w_178 w_1 w_179) rfl rfl rfl (by decide +kernel) ⟨Nat.le_of_ble_eq_true rfl, Nat.le_of_ble_eq_true rfl⟩) ⟨prx0_bl, prx_ok0 hX9 hS hFc⟩ rfl rfl hl.1 rfl (lv_room (Nat.le_of_ble_eq_true rfl)) dX0_load_9 ⟨Nat.le_of_ble_eq_true rfl, Nat.le_of_ble_eq_true rfl⟩) hS (fun q _ h => hFc q h) hFc (fun q _ h => hFc q h) (fun E ce q9 u t H1 locs ht hvm hwx hB hz1 hk1 hS hce hcv hcl => ?_) (fun u t H1 locs ht hvm hwx hB hz1 hk1 hS => hwx.elim)
        have hB := hB.symm
        subst hB
        have hP := hP.kept (fun k q hq => hk1 q.1 (hP k q hq).lt (nA (hP k q hq).lt))
        generalize H1 = H at hP hS hce ⊢
        have hP : va_P (dC, dI) vwCl (ws_sl a k rd wr ay ia mo wo so oi si mi wi ns nt nf np sl hs) H := hP
        have hD : va_D A (ws_sl a k rd wr ay ia mo wo so oi si mi wi ns nt nf np sl hs) := hD
        have hw : sl_load rd wr ay ia mo wo oi ns nf np p1 p2 p3 = .inr E_9 := by unfold sl_load; rw [hq_1]; try dsimp only; rw [hq_5]; try dsimp only; rw [hq_9]; try dsimp only; try rfl
        have he := Sum.inr.inj (hno.symm.trans hw)
        exact vx_out (fun x hx => (hEx x hx).elim) hlocks hce hcv hcl (fun t ht ha => ⟨(), trivial, ⟨he.symm, by rw [ht]; exact hP, va_K.moved ha hK, hD⟩, hS.F ht⟩) hS.2.2 (Nat.le_of_ble_eq_true rfl) (Nat.le_of_ble_eq_true rfl)
    · have hFc := va_free (wc := ([] : va_W)) hD hS hA [] rfl
      refine vx_callv (vx_runS (As := [.int p2]) (rest := []) ⟨hx, hb, hml, hown, hg⟩ (cs_requireArray_x l hl9 dC dI sx H.size p2 E_5 hq_5) (va_cwS 1 hg (gi_S w_238 w_239 w_1 w_240) rfl rfl rfl (by decide +kernel) ⟨Nat.le_of_ble_eq_true rfl, Nat.le_of_ble_eq_true rfl⟩) ⟨prx0_bl, prx_ok0 hX9 hS hFc⟩ rfl rfl hl.1 rfl (lv_room (Nat.le_of_ble_eq_true rfl)) dX0_load_5 ⟨Nat.le_of_ble_eq_true rfl, Nat.le_of_ble_eq_true rfl⟩) hS (fun q _ h => hFc q h) hFc (fun q _ h => hFc q h) (fun E ce q9 u t H1 locs ht hvm hwx hB hz1 hk1 hS hce hcv hcl => ?_) (fun u t H1 locs ht hvm hwx hB hz1 hk1 hS => hwx.elim)
      have hB := hB.symm
      subst hB
      have hP := hP.kept (fun k q hq => hk1 q.1 (hP k q hq).lt (nA (hP k q hq).lt))
      generalize H1 = H at hP hS hce ⊢
      have hP : va_P (dC, dI) vwCl (ws_sl a k rd wr ay ia mo wo so oi si mi wi ns nt nf np sl hs) H := hP
      have hD : va_D A (ws_sl a k rd wr ay ia mo wo so oi si mi wi ns nt nf np sl hs) := hD
      have hw : sl_load rd wr ay ia mo wo oi ns nf np p1 p2 p3 = .inr E_5 := by unfold sl_load; rw [hq_1]; try dsimp only; rw [hq_5]; try dsimp only; try rfl
      have he := Sum.inr.inj (hno.symm.trans hw)
      exact vx_out (fun x hx => (hEx x hx).elim) hlocks hce hcv hcl (fun t ht ha => ⟨(), trivial, ⟨he.symm, by rw [ht]; exact hP, va_K.moved ha hK, hD⟩, hS.F ht⟩) hS.2.2 (Nat.le_of_ble_eq_true rfl) (Nat.le_of_ble_eq_true rfl)
  · have hFc := va_free (wc := ([] : va_W)) hD hS hA [] rfl
    refine vx_callv (vx_runS (As := [.int p1]) (rest := []) ⟨hx, hb, hml, hown, hg⟩ (cs_requirePlace_x l hl9 dC dI sx H.size p1 E_1 hq_1) (va_cwS 1 hg (gi_S w_106 w_107 w_1 w_108) rfl rfl rfl (by decide +kernel) ⟨Nat.le_of_ble_eq_true rfl, Nat.le_of_ble_eq_true rfl⟩) ⟨prx0_bl, prx_ok0 hX9 hS hFc⟩ rfl rfl hl.1 rfl (lv_room (Nat.le_of_ble_eq_true rfl)) dX0_load_1 ⟨Nat.le_of_ble_eq_true rfl, Nat.le_of_ble_eq_true rfl⟩) hS (fun q _ h => hFc q h) hFc (fun q _ h => hFc q h) (fun E ce q9 u t H1 locs ht hvm hwx hB hz1 hk1 hS hce hcv hcl => ?_) (fun u t H1 locs ht hvm hwx hB hz1 hk1 hS => hwx.elim)
    have hB := hB.symm
    subst hB
    have hP := hP.kept (fun k q hq => hk1 q.1 (hP k q hq).lt (nA (hP k q hq).lt))
    generalize H1 = H at hP hS hce ⊢
    have hP : va_P (dC, dI) vwCl (ws_sl a k rd wr ay ia mo wo so oi si mi wi ns nt nf np sl hs) H := hP
    have hD : va_D A (ws_sl a k rd wr ay ia mo wo so oi si mi wi ns nt nf np sl hs) := hD
    have hw : sl_load rd wr ay ia mo wo oi ns nf np p1 p2 p3 = .inr E_1 := by unfold sl_load; rw [hq_1]; try dsimp only; try rfl
    have he := Sum.inr.inj (hno.symm.trans hw)
    exact vx_out (fun x hx => (hEx x hx).elim) hlocks hce hcv hcl (fun t ht ha => ⟨(), trivial, ⟨he.symm, by rw [ht]; exact hP, va_K.moved ha hK, hD⟩, hS.F ht⟩) hS.2.2 (Nat.le_of_ble_eq_true rfl) (Nat.le_of_ble_eq_true rfl)
set_option maxHeartbeats 4000000 in
set_option maxRecDepth 100000 in
theorem cs_store (l : Launch) (dC : Nat → ClassId) (dI : Nat → Nat → Nat) (a : Nat → Nat) (k : Nat → ClassId) (sz : Nat) (rd wr : Nat → Int64) (ay ia mo wo so oi si mi wi : Nat → Int32) (ns nt nf np sl hs : Int32) (p1 p2 p3 : Int32) (r' : Int32) (rd' wr' : Nat → Int64) (ay' ia' mo' wo' : Nat → Int32) (ns' np' sl' hs' : Int32) (hok : sl_store rd wr ay ia mo wo oi ns nf np p1 p2 p3 = .inl (r', rd', wr', ay', ia', mo', wo', ns', np', sl', hs')) : Met l yX0_store wsX0_store ({ frames := 7, cells := 0, slots := 0, locals := 109 } : Room) (va_Pc [.ref (a 0), .int p1, .int p2, .int p3] (pr (dC, dI) (ws_sl a k rd wr ay ia mo wo so oi si mi wi ns nt nf np sl hs) (ty_sl k) sz)) (va_Qi (fun (r : Int32) (_ : Unit) => r = r') (fun (_ : Unit) t => po (dC, dI) (ws_sl a k rd' wr' ay' ia' mo' wo' so oi si mi wi ns' nt nf np' sl' hs') (ty_sl k) (va_A (ws_sl a k rd wr ay ia mo wo so oi si mi wi ns nt nf np sl hs) sz) t) (va_A (ws_sl a k rd wr ay ia mo wo so oi si mi wi ns nt nf np sl hs) sz)) 0 0 (va_A (ws_sl a k rd wr ay ia mo wo so oi si mi wi ns nt nf np sl hs) sz) := by
  refine Met.ofW (cc := cX0_store) (maxL := 4) (ret := (some .int)) (by decide) rfl ?_
  intro p e s m args below meth c s₁ B hml hv
  obtain ⟨rfl, hsz, hP, hK, hD0⟩ := hv
  have hx := B.exec
  have hb := B.bytes
  have hr := B.returns
  have hts := atoms_spec (ws := wsX0_store) B.pre
  have hg : ∀ w ∈ gw, w.before _ s = true := fun w h => hts w (List.mem_cons_of_mem _ h)
  have hown : s.vm.findClass RX0 = some m.cls := findClass_of_methodNamed B.named
  have hlocks := B.notSynchronized
  subst hsz
  have hD := hD0.self (sz := s.heap.size)
  generalize hAe : va_A (ws_sl a k rd wr ay ia mo wo so oi si mi wi ns nt nf np sl hs) s.heap.size = A at hD ⊢
  have hA : ∀ q : Nat, s.heap.size ≤ q → A q := fun q h => by rw [← hAe]; exact Or.inr h
  clear hAe
  refine w_in (fun H locs eH eL => ?_)
  have hS : va_S A s.heap H locs := by rw [eH, eL]; exact va_S.rf
  have hP : va_P (dC, dI) vwCl (ws_sl a k rd wr ay ia mo wo so oi si mi wi ns nt nf np sl hs) H := by rw [eH]; exact hP
  clear eH eL
  have hl := lv_entry ([.ref (a 0), .int p1, .int p2, .int p3]) (n := 4) (Nat.le_of_ble_eq_true rfl)
  rw [lg_entry_eq]
  generalize (lg_sl ([.ref (a 0), .int p1, .int p2, .int p3]) ++ List.replicate (4 - (lg_sl ([.ref (a 0), .int p1, .int p2, .int p3])).length) Slot.unset).toArray = ls at hl ⊢
  have hl : lv_has ls 4 [(0, .ref (a 0)), (1, .int p1), (2, .int p2), (3, .int p3)] := hl
  refine lv_iload_n hx hb dX0_store_0 rfl (lv_at hl 1 rfl) ?_
  rcases hq_1 : sl_requireArray p1 with ⟨⟩ | E_1
  · refine va_callv (va_runS (As := [.int p1]) (rest := []) ⟨hx, hb, hml, hown, hg⟩ (cs_requireArray l dC dI p1 hq_1) (va_cwS 1 hg (gi_S w_238 w_239 w_1 w_240) rfl rfl rfl (by decide +kernel) ⟨Nat.le_of_ble_eq_true rfl, Nat.le_of_ble_eq_true rfl⟩) ⟨(fun _ _ _ _ q => q), (fun _ _ _ => ⟨rfl, trivial⟩)⟩ rfl rfl hl.1 rfl (lv_room (Nat.le_of_ble_eq_true rfl)) dX0_store_1 ⟨Nat.le_of_ble_eq_true rfl, Nat.le_of_ble_eq_true rfl⟩) hS (fun q _ h => False.elim h) (fun q h => False.elim h) (fun u t H1 locs ht hvm hw hB hz1 hk1 hS => ?_)
    have hP := hP.kept (fun k q hq => hk1 q.1 (hP k q hq).lt (fun h => h))
    generalize H1 = H at hP hS ⊢
    have hP : va_P (dC, dI) vwCl (ws_sl a k rd wr ay ia mo wo so oi si mi wi ns nt nf np sl hs) H := hP
    have hD : va_D A (ws_sl a k rd wr ay ia mo wo so oi si mi wi ns nt nf np sl hs) := hD
    refine lv_iload_n hx hb dX0_store_4 rfl (lv_at hl 2 rfl) ?_
    rcases hq_5 : sl_requireReadable p2 with ⟨⟩ | E_5
    · refine va_callv (va_runS (As := [.int p2]) (rest := []) ⟨hx, hb, hml, hown, hg⟩ (cs_requireReadable l dC dI p2 hq_5) (va_cwS 1 hg (gi_S w_177 w_178 w_1 w_179) rfl rfl rfl (by decide +kernel) ⟨Nat.le_of_ble_eq_true rfl, Nat.le_of_ble_eq_true rfl⟩) ⟨(fun _ _ _ _ q => q), (fun _ _ _ => ⟨rfl, trivial⟩)⟩ rfl rfl hl.1 rfl (lv_room (Nat.le_of_ble_eq_true rfl)) dX0_store_5 ⟨Nat.le_of_ble_eq_true rfl, Nat.le_of_ble_eq_true rfl⟩) hS (fun q _ h => False.elim h) (fun q h => False.elim h) (fun u t H1 locs ht hvm hw hB hz1 hk1 hS => ?_)
      have hP := hP.kept (fun k q hq => hk1 q.1 (hP k q hq).lt (fun h => h))
      generalize H1 = H at hP hS ⊢
      have hP : va_P (dC, dI) vwCl (ws_sl a k rd wr ay ia mo wo so oi si mi wi ns nt nf np sl hs) H := hP
      have hD : va_D A (ws_sl a k rd wr ay ia mo wo so oi si mi wi ns nt nf np sl hs) := hD
      refine lv_iload_n hx hb dX0_store_8 rfl (lv_at hl 3 rfl) ?_
      rcases hq_9 : sl_requireReadable p3 with ⟨⟩ | E_9
      · refine va_callv (va_runS (As := [.int p3]) (rest := []) ⟨hx, hb, hml, hown, hg⟩ (cs_requireReadable l dC dI p3 hq_9) (va_cwS 1 hg (gi_S w_177 w_178 w_1 w_179) rfl rfl rfl (by decide +kernel) ⟨Nat.le_of_ble_eq_true rfl, Nat.le_of_ble_eq_true rfl⟩) ⟨(fun _ _ _ _ q => q), (fun _ _ _ => ⟨rfl, trivial⟩)⟩ rfl rfl hl.1 rfl (lv_room (Nat.le_of_ble_eq_true rfl)) dX0_store_9 ⟨Nat.le_of_ble_eq_true rfl, Nat.le_of_ble_eq_true rfl⟩) hS (fun q _ h => False.elim h) (fun q h => False.elim h) (fun u t H1 locs ht hvm hw hB hz1 hk1 hS => ?_)
        have hP := hP.kept (fun k q hq => hk1 q.1 (hP k q hq).lt (fun h => h))
        generalize H1 = H at hP hS ⊢
        have hP : va_P (dC, dI) vwCl (ws_sl a k rd wr ay ia mo wo so oi si mi wi ns nt nf np sl hs) H := hP
        have hD : va_D A (ws_sl a k rd wr ay ia mo wo so oi si mi wi ns nt nf np sl hs) := hD
        refine lv_aload_n hx hb dX0_store_12 rfl (lv_at hl 0 rfl) ?_
        refine lv_iload_n hx hb dX0_store_13 rfl (lv_at hl 2 rfl) ?_
        refine lv_iload_n hx hb dX0_store_14 rfl (lv_at hl 3 rfl) ?_
        refine lv_ior hx hb dX0_store_15 ?_
        refine va_calll (va_runS (As := [.int (p2 ||| p3)]) (rest := [.ref (a 0)]) ⟨hx, hb, hml, hown, hg⟩ (cs_reading l dC dI (p2 ||| p3)) (va_cwS 1 hg (gi_S w_184 w_185 w_1 w_186) rfl rfl rfl (by decide +kernel) ⟨Nat.le_of_ble_eq_true rfl, Nat.le_of_ble_eq_true rfl⟩) ⟨(fun _ _ _ _ q => q), (fun _ _ _ => ⟨rfl, trivial⟩)⟩ rfl rfl hl.1 rfl (lv_room (Nat.le_of_ble_eq_true rfl)) dX0_store_16 ⟨Nat.le_of_ble_eq_true rfl, Nat.le_of_ble_eq_true rfl⟩) hS (fun q _ h => False.elim h) (fun q h => False.elim h) (fun r_16 u t H1 locs ht hvm hw_16 hB hz1 hk1 hS => ?_)
        subst hw_16
        have hP := hP.kept (fun k q hq => hk1 q.1 (hP k q hq).lt (fun h => h))
        generalize H1 = H at hP hS ⊢
        have hP : va_P (dC, dI) vwCl (ws_sl a k rd wr ay ia mo wo so oi si mi wi ns nt nf np sl hs) H := hP
        have hD : va_D A (ws_sl a k rd wr ay ia mo wo so oi si mi wi ns nt nf np sl hs) := hD
        refine lv_lconst (v := 0) hx hb dX0_store_19 (by decide) ?_
        refine lv_iload_n hx hb dX0_store_20 rfl (lv_at hl 1 rfl) ?_
        refine lv_iload_n hx hb dX0_store_21 rfl (lv_at hl 2 rfl) ?_
        refine va_calli (va_runS (As := [.int p2]) (rest := [.int p1, .long 0, .long (sl_reading (p2 ||| p3)), .ref (a 0)]) ⟨hx, hb, hml, hown, hg⟩ (cs_costOf l dC dI p2) (va_cwS 1 hg (gi_S w_190 w_191 w_1 w_192) rfl rfl rfl (by decide +kernel) ⟨Nat.le_of_ble_eq_true rfl, Nat.le_of_ble_eq_true rfl⟩) ⟨(fun _ _ _ _ q => q), (fun _ _ _ => ⟨rfl, trivial⟩)⟩ rfl rfl hl.1 rfl (lv_room (Nat.le_of_ble_eq_true rfl)) dX0_store_22 ⟨Nat.le_of_ble_eq_true rfl, Nat.le_of_ble_eq_true rfl⟩) hS (fun q _ h => False.elim h) (fun q h => False.elim h) (fun r_22 u t H1 locs ht hvm hw_22 hB hz1 hk1 hS => ?_)
        subst hw_22
        have hP := hP.kept (fun k q hq => hk1 q.1 (hP k q hq).lt (fun h => h))
        generalize H1 = H at hP hS ⊢
        have hP : va_P (dC, dI) vwCl (ws_sl a k rd wr ay ia mo wo so oi si mi wi ns nt nf np sl hs) H := hP
        have hD : va_D A (ws_sl a k rd wr ay ia mo wo so oi si mi wi ns nt nf np sl hs) := hD
        refine lv_iload_n hx hb dX0_store_25 rfl (lv_at hl 3 rfl) ?_
        refine va_calli (va_runS (As := [.int p3]) (rest := [.int (sl_costOf p2), .int p1, .long 0, .long (sl_reading (p2 ||| p3)), .ref (a 0)]) ⟨hx, hb, hml, hown, hg⟩ (cs_costOf l dC dI p3) (va_cwS 1 hg (gi_S w_190 w_191 w_1 w_192) rfl rfl rfl (by decide +kernel) ⟨Nat.le_of_ble_eq_true rfl, Nat.le_of_ble_eq_true rfl⟩) ⟨(fun _ _ _ _ q => q), (fun _ _ _ => ⟨rfl, trivial⟩)⟩ rfl rfl hl.1 rfl (lv_room (Nat.le_of_ble_eq_true rfl)) dX0_store_26 ⟨Nat.le_of_ble_eq_true rfl, Nat.le_of_ble_eq_true rfl⟩) hS (fun q _ h => False.elim h) (fun q h => False.elim h) (fun r_26 u t H1 locs ht hvm hw_26 hB hz1 hk1 hS => ?_)
        subst hw_26
        have hP := hP.kept (fun k q hq => hk1 q.1 (hP k q hq).lt (fun h => h))
        generalize H1 = H at hP hS ⊢
        have hP : va_P (dC, dI) vwCl (ws_sl a k rd wr ay ia mo wo so oi si mi wi ns nt nf np sl hs) H := hP
        have hD : va_D A (ws_sl a k rd wr ay ia mo wo so oi si mi wi ns nt nf np sl hs) := hD
        refine lv_iadd hx hb dX0_store_29 ?_
        rcases hq_30 : sl_addStep rd wr ay ia mo wo oi ns nf np (sl_reading (p2 ||| p3)) 0 p1 ((sl_costOf p2) + (sl_costOf p3)) with ⟨r_30, rd_30, wr_30, ay_30, ia_30, mo_30, wo_30, ns_30, np_30, sl_30, hs_30⟩ | E_30
        · have hFc := va_free (wc := ws_sl a k rd wr ay ia mo wo so oi si mi wi ns nt nf np sl hs) hD hS hA [0, 1, 2, 3, 4, 5, 6, 7, 8, 9, 10, 11] rfl
          refine va_calli (va_runV (As := [.long (sl_reading (p2 ||| p3)), .long 0, .int p1, .int ((sl_costOf p2) + (sl_costOf p3))]) (rest := []) ⟨hx, hb, hml, hown, hg⟩ (cs_addStep l dC dI a k H.size rd wr ay ia mo wo so oi si mi wi ns nt nf np sl hs (sl_reading (p2 ||| p3)) 0 p1 ((sl_costOf p2) + (sl_costOf p3)) r_30 rd_30 wr_30 ay_30 ia_30 mo_30 wo_30 ns_30 np_30 sl_30 hs_30 hq_30) (cwV 4 hg (gi_V w_202 w_204 s_2 w_1 w_205) rfl rfl rfl (by decide +kernel) ⟨Nat.le_of_ble_eq_true rfl, Nat.le_of_ble_eq_true rfl⟩) ⟨pr_bl, va_recv hK hP (ci := 0) (q0 := 0) rfl rfl, pr_ok hK hP hD⟩ rfl rfl hl.1 rfl (lv_room (Nat.le_of_ble_eq_true rfl)) dX0_store_30 ⟨Nat.le_of_ble_eq_true rfl, Nat.le_of_ble_eq_true rfl⟩) hS (fun q _ h => hFc q h) hFc (fun rr u t H1 locs ht hvm hw hB hz1 hk1 hS => ?_)
          have hw := hw.symm
          subst hw
          obtain ⟨hP, hK1, hD1⟩ := hB
          rw [ht] at hP
          have hD := hD1.weaken (fun _ q _ h => hFc q.1 h)
          generalize H1 = H at hP hS ⊢
          have hP : va_P (dC, dI) vwCl (ws_sl a k rd_30 wr_30 ay_30 ia_30 mo_30 wo_30 so oi si mi wi ns_30 nt nf np_30 sl_30 hs_30) H := hP
          have hD : va_D A (ws_sl a k rd_30 wr_30 ay_30 ia_30 mo_30 wo_30 so oi si mi wi ns_30 nt nf np_30 sl_30 hs_30) := hD
          have hw : sl_store rd wr ay ia mo wo oi ns nf np p1 p2 p3 = .inl (r_30, rd_30, wr_30, ay_30, ia_30, mo_30, wo_30, ns_30, np_30, sl_30, hs_30) := by unfold sl_store; rw [hq_1]; try dsimp only; rw [hq_5]; try dsimp only; rw [hq_9]; try dsimp only; rw [hq_30]; try dsimp only; try rfl
          have he := Sum.inl.inj (hok.symm.trans hw)
          simp only [Prod.mk.injEq] at he
          obtain ⟨e0, e1, e2, e3, e4, e5, e6, e7, e8, e9, e10⟩ := he
          exact W.iret (v := r_30) hx hb hr (fun t ht hW => ⟨⟨r_30, (), rfl, e0.symm, ⟨by rw [ht, e1, e2, e3, e4, e5, e6, e7, e8, e9, e10]; exact hP, va_K.moved hW.alike hK, by rw [e1, e2, e3, e4, e5, e6, e7, e8, e9, e10]; exact hD⟩⟩, hS.F ht⟩) hS.2.2 dX0_store_33
        · have hw : sl_store rd wr ay ia mo wo oi ns nf np p1 p2 p3 = .inr E_30 := by unfold sl_store; rw [hq_1]; try dsimp only; rw [hq_5]; try dsimp only; rw [hq_9]; try dsimp only; rw [hq_30]; try dsimp only; try rfl
          exact absurd (hw.symm.trans hok) (by intro h9; cases h9)
      · have hw : sl_store rd wr ay ia mo wo oi ns nf np p1 p2 p3 = .inr E_9 := by unfold sl_store; rw [hq_1]; try dsimp only; rw [hq_5]; try dsimp only; rw [hq_9]; try dsimp only; try rfl
        exact absurd (hw.symm.trans hok) (by intro h9; cases h9)
    · have hw : sl_store rd wr ay ia mo wo oi ns nf np p1 p2 p3 = .inr E_5 := by unfold sl_store; rw [hq_1]; try dsimp only; rw [hq_5]; try dsimp only; try rfl
      exact absurd (hw.symm.trans hok) (by intro h9; cases h9)
  · have hw : sl_store rd wr ay ia mo wo oi ns nf np p1 p2 p3 = .inr E_1 := by unfold sl_store; rw [hq_1]; try dsimp only; try rfl
    exact absurd (hw.symm.trans hok) (by intro h9; cases h9)
set_option maxHeartbeats 4000000 in
set_option maxRecDepth 100000 in
theorem cs_store_x (l : Launch) (hl9 : l.stackTraces = false) (dC : Nat → ClassId) (dI : Nat → Nat → Nat) (a : Nat → Nat) (k : Nat → ClassId) (sx : Nat → Nat) (sz : Nat) (rd wr : Nat → Int64) (ay ia mo wo so oi si mi wi : Nat → Int32) (ns nt nf np sl hs : Int32) (p1 p2 p3 : Int32) (E9 : String) (hno : sl_store rd wr ay ia mo wo oi ns nf np p1 p2 p3 = .inr E9) : vx_Met l yX0_store wsX0_store ({ frames := 7, cells := 1, slots := 6, locals := 109 } : Room) (va_Pc [.ref (a 0), .int p1, .int p2, .int p3] (prx (dC, dI) (ws_sl a k rd wr ay ia mo wo so oi si mi wi ns nt nf np sl hs) (ty_sl k) sz sx)) (va_Qi (fun (_ : Int32) (_ : Unit) => False) (fun (_ : Unit) _ => True) (va_A (ws_sl a k rd wr ay ia mo wo so oi si mi wi ns nt nf np sl hs) sz)) (vx_X (fun _ : Unit => True) (fun E _ t => E = E9 ∧ po (dC, dI) (ws_sl a k rd wr ay ia mo wo so oi si mi wi ns nt nf np sl hs) (ty_sl k) (va_A (ws_sl a k rd wr ay ia mo wo so oi si mi wi ns nt nf np sl hs) sz) t) (va_A (ws_sl a k rd wr ay ia mo wo so oi si mi wi ns nt nf np sl hs) sz)) 1 6 (va_A (ws_sl a k rd wr ay ia mo wo so oi si mi wi ns nt nf np sl hs) sz) := by
  refine vx_ofW (cc := cX0_store) (maxL := 4) (ret := (some .int)) (by decide) rfl ?_
  intro p e s m args below meth c s₁ B hml hEx hv
  obtain ⟨rfl, ⟨hsz, hP, hK, hD0⟩, hX9⟩ := hv
  have hx := B.exec
  have hb := B.bytes
  have hr := B.returns
  have hts := atoms_spec (ws := wsX0_store) B.pre
  have hg : ∀ w ∈ gw, w.before _ s = true := fun w h => hts w (List.mem_cons_of_mem _ h)
  have hown : s.vm.findClass RX0 = some m.cls := findClass_of_methodNamed B.named
  have hlocks := B.notSynchronized
  subst hsz
  have hD := hD0.self (sz := s.heap.size)
  generalize hAe : va_A (ws_sl a k rd wr ay ia mo wo so oi si mi wi ns nt nf np sl hs) s.heap.size = A at hD hX9 ⊢
  have hA : ∀ q : Nat, s.heap.size ≤ q → A q := fun q h => by rw [← hAe]; exact Or.inr h
  clear hAe
  refine w_in (fun H locs eH eL => ?_)
  have hS : va_S A s.heap H locs := by rw [eH, eL]; exact va_S.rf
  have hP : va_P (dC, dI) vwCl (ws_sl a k rd wr ay ia mo wo so oi si mi wi ns nt nf np sl hs) H := by rw [eH]; exact hP
  clear eH eL
  have hl := lv_entry ([.ref (a 0), .int p1, .int p2, .int p3]) (n := 4) (Nat.le_of_ble_eq_true rfl)
  rw [lg_entry_eq]
  generalize (lg_sl ([.ref (a 0), .int p1, .int p2, .int p3]) ++ List.replicate (4 - (lg_sl ([.ref (a 0), .int p1, .int p2, .int p3])).length) Slot.unset).toArray = ls at hl ⊢
  have hl : lv_has ls 4 [(0, .ref (a 0)), (1, .int p1), (2, .int p2), (3, .int p3)] := hl
  refine lv_iload_n hx hb dX0_store_0 rfl (lv_at hl 1 rfl) ?_
  rcases hq_1 : sl_requireArray p1 with ⟨⟩ | E_1
  · refine va_callv (va_runS (As := [.int p1]) (rest := []) ⟨hx, hb, hml, hown, hg⟩ (cs_requireArray l dC dI p1 hq_1) (va_cwS 1 hg (gi_S w_238 w_239 w_1 w_240) rfl rfl rfl (by decide +kernel) ⟨Nat.le_of_ble_eq_true rfl, Nat.le_of_ble_eq_true rfl⟩) ⟨(fun _ _ _ _ q => q), (fun _ _ _ => ⟨rfl, trivial⟩)⟩ rfl rfl hl.1 rfl (lv_room (Nat.le_of_ble_eq_true rfl)) dX0_store_1 ⟨Nat.le_of_ble_eq_true rfl, Nat.le_of_ble_eq_true rfl⟩) hS (fun q _ h => False.elim h) (fun q h => False.elim h) (fun u t H1 locs ht hvm hw hB hz1 hk1 hS => ?_)
    have hP := hP.kept (fun k q hq => hk1 q.1 (hP k q hq).lt (fun h => h))
    generalize H1 = H at hP hS ⊢
    have hP : va_P (dC, dI) vwCl (ws_sl a k rd wr ay ia mo wo so oi si mi wi ns nt nf np sl hs) H := hP
    have hD : va_D A (ws_sl a k rd wr ay ia mo wo so oi si mi wi ns nt nf np sl hs) := hD
    refine lv_iload_n hx hb dX0_store_4 rfl (lv_at hl 2 rfl) ?_
    rcases hq_5 : sl_requireReadable p2 with ⟨⟩ | E_5
    · refine va_callv (va_runS (As := [.int p2]) (rest := []) ⟨hx, hb, hml, hown, hg⟩ (cs_requireReadable l dC dI p2 hq_5) (va_cwS 1 hg (gi_S w_177 w_178 w_1 w_179) rfl rfl rfl (by decide +kernel) ⟨Nat.le_of_ble_eq_true rfl, Nat.le_of_ble_eq_true rfl⟩) ⟨(fun _ _ _ _ q => q), (fun _ _ _ => ⟨rfl, trivial⟩)⟩ rfl rfl hl.1 rfl (lv_room (Nat.le_of_ble_eq_true rfl)) dX0_store_5 ⟨Nat.le_of_ble_eq_true rfl, Nat.le_of_ble_eq_true rfl⟩) hS (fun q _ h => False.elim h) (fun q h => False.elim h) (fun u t H1 locs ht hvm hw hB hz1 hk1 hS => ?_)
      have hP := hP.kept (fun k q hq => hk1 q.1 (hP k q hq).lt (fun h => h))
      generalize H1 = H at hP hS ⊢
      have hP : va_P (dC, dI) vwCl (ws_sl a k rd wr ay ia mo wo so oi si mi wi ns nt nf np sl hs) H := hP
      have hD : va_D A (ws_sl a k rd wr ay ia mo wo so oi si mi wi ns nt nf np sl hs) := hD
      refine lv_iload_n hx hb dX0_store_8 rfl (lv_at hl 3 rfl) ?_
      rcases hq_9 : sl_requireReadable p3 with ⟨⟩ | E_9
      · refine va_callv (va_runS (As := [.int p3]) (rest := []) ⟨hx, hb, hml, hown, hg⟩ (cs_requireReadable l dC dI p3 hq_9) (va_cwS 1 hg (gi_S w_177 w_178 w_1 w_179) rfl rfl rfl (by decide +kernel) ⟨Nat.le_of_ble_eq_true rfl, Nat.le_of_ble_eq_true rfl⟩) ⟨(fun _ _ _ _ q => q), (fun _ _ _ => ⟨rfl, trivial⟩)⟩ rfl rfl hl.1 rfl (lv_room (Nat.le_of_ble_eq_true rfl)) dX0_store_9 ⟨Nat.le_of_ble_eq_true rfl, Nat.le_of_ble_eq_true rfl⟩) hS (fun q _ h => False.elim h) (fun q h => False.elim h) (fun u t H1 locs ht hvm hw hB hz1 hk1 hS => ?_)
        have hP := hP.kept (fun k q hq => hk1 q.1 (hP k q hq).lt (fun h => h))
        generalize H1 = H at hP hS ⊢
        have hP : va_P (dC, dI) vwCl (ws_sl a k rd wr ay ia mo wo so oi si mi wi ns nt nf np sl hs) H := hP
        have hD : va_D A (ws_sl a k rd wr ay ia mo wo so oi si mi wi ns nt nf np sl hs) := hD
        refine lv_aload_n hx hb dX0_store_12 rfl (lv_at hl 0 rfl) ?_
        refine lv_iload_n hx hb dX0_store_13 rfl (lv_at hl 2 rfl) ?_
        refine lv_iload_n hx hb dX0_store_14 rfl (lv_at hl 3 rfl) ?_
        refine lv_ior hx hb dX0_store_15 ?_
        refine va_calll (va_runS (As := [.int (p2 ||| p3)]) (rest := [.ref (a 0)]) ⟨hx, hb, hml, hown, hg⟩ (cs_reading l dC dI (p2 ||| p3)) (va_cwS 1 hg (gi_S w_184 w_185 w_1 w_186) rfl rfl rfl (by decide +kernel) ⟨Nat.le_of_ble_eq_true rfl, Nat.le_of_ble_eq_true rfl⟩) ⟨(fun _ _ _ _ q => q), (fun _ _ _ => ⟨rfl, trivial⟩)⟩ rfl rfl hl.1 rfl (lv_room (Nat.le_of_ble_eq_true rfl)) dX0_store_16 ⟨Nat.le_of_ble_eq_true rfl, Nat.le_of_ble_eq_true rfl⟩) hS (fun q _ h => False.elim h) (fun q h => False.elim h) (fun r_16 u t H1 locs ht hvm hw_16 hB hz1 hk1 hS => ?_)
        subst hw_16
        have hP := hP.kept (fun k q hq => hk1 q.1 (hP k q hq).lt (fun h => h))
        generalize H1 = H at hP hS ⊢
        have hP : va_P (dC, dI) vwCl (ws_sl a k rd wr ay ia mo wo so oi si mi wi ns nt nf np sl hs) H := hP
        have hD : va_D A (ws_sl a k rd wr ay ia mo wo so oi si mi wi ns nt nf np sl hs) := hD
        refine lv_lconst (v := 0) hx hb dX0_store_19 (by decide) ?_
        refine lv_iload_n hx hb dX0_store_20 rfl (lv_at hl 1 rfl) ?_
        refine lv_iload_n hx hb dX0_store_21 rfl (lv_at hl 2 rfl) ?_
        refine va_calli (va_runS (As := [.int p2]) (rest := [.int p1, .long 0, .long (sl_reading (p2 ||| p3)), .ref (a 0)]) ⟨hx, hb, hml, hown, hg⟩ (cs_costOf l dC dI p2) (va_cwS 1 hg (gi_S w_190 w_191 w_1 w_192) rfl rfl rfl (by decide +kernel) ⟨Nat.le_of_ble_eq_true rfl, Nat.le_of_ble_eq_true rfl⟩) ⟨(fun _ _ _ _ q => q), (fun _ _ _ => ⟨rfl, trivial⟩)⟩ rfl rfl hl.1 rfl (lv_room (Nat.le_of_ble_eq_true rfl)) dX0_store_22 ⟨Nat.le_of_ble_eq_true rfl, Nat.le_of_ble_eq_true rfl⟩) hS (fun q _ h => False.elim h) (fun q h => False.elim h) (fun r_22 u t H1 locs ht hvm hw_22 hB hz1 hk1 hS => ?_)
        subst hw_22
        have hP := hP.kept (fun k q hq => hk1 q.1 (hP k q hq).lt (fun h => h))
        generalize H1 = H at hP hS ⊢
        have hP : va_P (dC, dI) vwCl (ws_sl a k rd wr ay ia mo wo so oi si mi wi ns nt nf np sl hs) H := hP
        have hD : va_D A (ws_sl a k rd wr ay ia mo wo so oi si mi wi ns nt nf np sl hs) := hD
        refine lv_iload_n hx hb dX0_store_25 rfl (lv_at hl 3 rfl) ?_
        refine va_calli (va_runS (As := [.int p3]) (rest := [.int (sl_costOf p2), .int p1, .long 0, .long (sl_reading (p2 ||| p3)), .ref (a 0)]) ⟨hx, hb, hml, hown, hg⟩ (cs_costOf l dC dI p3) (va_cwS 1 hg (gi_S w_190 w_191 w_1 w_192) rfl rfl rfl (by decide +kernel) ⟨Nat.le_of_ble_eq_true rfl, Nat.le_of_ble_eq_true rfl⟩) ⟨(fun _ _ _ _ q => q), (fun _ _ _ => ⟨rfl, trivial⟩)⟩ rfl rfl hl.1 rfl (lv_room (Nat.le_of_ble_eq_true rfl)) dX0_store_26 ⟨Nat.le_of_ble_eq_true rfl, Nat.le_of_ble_eq_true rfl⟩) hS (fun q _ h => False.elim h) (fun q h => False.elim h) (fun r_26 u t H1 locs ht hvm hw_26 hB hz1 hk1 hS => ?_)
        subst hw_26
        have hP := hP.kept (fun k q hq => hk1 q.1 (hP k q hq).lt (fun h => h))
        generalize H1 = H at hP hS ⊢
        have hP : va_P (dC, dI) vwCl (ws_sl a k rd wr ay ia mo wo so oi si mi wi ns nt nf np sl hs) H := hP
        have hD : va_D A (ws_sl a k rd wr ay ia mo wo so oi si mi wi ns nt nf np sl hs) := hD
        refine lv_iadd hx hb dX0_store_29 ?_
        rcases hq_30 : sl_addStep rd wr ay ia mo wo oi ns nf np (sl_reading (p2 ||| p3)) 0 p1 ((sl_costOf p2) + (sl_costOf p3)) with ⟨r_30, rd_30, wr_30, ay_30, ia_30, mo_30, wo_30, ns_30, np_30, sl_30, hs_30⟩ | E_30
        · exfalso
          have h9 := hno
          unfold sl_store at h9
          rw [hq_1] at h9
          try dsimp only at h9
          rw [hq_5] at h9
          try dsimp only at h9
          rw [hq_9] at h9
          try dsimp only at h9
          rw [hq_30] at h9
          try dsimp only at h9
          first | (cases h9; done) | ((repeat' split at h9) <;> cases h9)
        · have hFc := va_free (wc := ws_sl a k rd wr ay ia mo wo so oi si mi wi ns nt nf np sl hs) hD hS hA [0, 1, 2, 3, 4, 5, 6, 7, 8, 9, 10, 11] rfl
          refine vx_calli (vx_runV (As := [.long (sl_reading (p2 ||| p3)), .long 0, .int p1, .int ((sl_costOf p2) + (sl_costOf p3))]) (rest := []) ⟨hx, hb, hml, hown, hg⟩ (cs_addStep_x l hl9 dC dI a k sx H.size rd wr ay ia mo wo so oi si mi wi ns nt nf np sl hs (sl_reading (p2 ||| p3)) 0 p1 ((sl_costOf p2) + (sl_costOf p3)) E_30 hq_30) (cwV 4 hg (gi_V w_202 w_204 s_2 w_1 w_205) rfl rfl rfl (by decide +kernel) ⟨Nat.le_of_ble_eq_true rfl, Nat.le_of_ble_eq_true rfl⟩) ⟨prx_bl, va_recv hK hP (ci := 0) (q0 := 0) rfl rfl, prx_ok hK hP hD hX9 hS hFc⟩ rfl rfl hl.1 rfl (lv_room (Nat.le_of_ble_eq_true rfl)) dX0_store_30 ⟨Nat.le_of_ble_eq_true rfl, Nat.le_of_ble_eq_true rfl⟩) hS (fun q _ h => hFc q h) hFc (fun q _ h => hFc q h) (fun E ce q9 u t H1 locs ht hvm hwx hB hz1 hk1 hS hce hcv hcl => ?_) (fun rr u t H1 locs ht hvm hwx hB hz1 hk1 hS => hwx.elim)
          obtain ⟨hE, hB⟩ := hB
          have hE := hE.symm
          subst hE
          obtain ⟨hP, hK1, hD1⟩ := hB
          rw [ht] at hP
          have hD := hD1.weaken (fun _ q _ h => hFc q.1 h)
          generalize H1 = H at hP hS hce ⊢
          have hP : va_P (dC, dI) vwCl (ws_sl a k rd wr ay ia mo wo so oi si mi wi ns nt nf np sl hs) H := hP
          have hD : va_D A (ws_sl a k rd wr ay ia mo wo so oi si mi wi ns nt nf np sl hs) := hD
          have hw : sl_store rd wr ay ia mo wo oi ns nf np p1 p2 p3 = .inr E_30 := by unfold sl_store; rw [hq_1]; try dsimp only; rw [hq_5]; try dsimp only; rw [hq_9]; try dsimp only; rw [hq_30]; try dsimp only; try rfl
          have he := Sum.inr.inj (hno.symm.trans hw)
          exact vx_out (fun x hx => (hEx x hx).elim) hlocks hce hcv hcl (fun t ht ha => ⟨(), trivial, ⟨he.symm, by rw [ht]; exact hP, va_K.moved ha hK, hD⟩, hS.F ht⟩) hS.2.2 (Nat.le_of_ble_eq_true rfl) (Nat.le_of_ble_eq_true rfl)
      · have hFc := va_free (wc := ([] : va_W)) hD hS hA [] rfl
        refine vx_callv (vx_runS (As := [.int p3]) (rest := []) ⟨hx, hb, hml, hown, hg⟩ (cs_requireReadable_x l hl9 dC dI sx H.size p3 E_9 hq_9) (va_cwS 1 hg (gi_S w_177 w_178 w_1 w_179) rfl rfl rfl (by decide +kernel) ⟨Nat.le_of_ble_eq_true rfl, Nat.le_of_ble_eq_true rfl⟩) ⟨prx0_bl, prx_ok0 hX9 hS hFc⟩ rfl rfl hl.1 rfl (lv_room (Nat.le_of_ble_eq_true rfl)) dX0_store_9 ⟨Nat.le_of_ble_eq_true rfl, Nat.le_of_ble_eq_true rfl⟩) hS (fun q _ h => hFc q h) hFc (fun q _ h => hFc q h) (fun E ce q9 u t H1 locs ht hvm hwx hB hz1 hk1 hS hce hcv hcl => ?_) (fun u t H1 locs ht hvm hwx hB hz1 hk1 hS => hwx.elim)
        have hB := hB.symm
        subst hB
        have hP := hP.kept (fun k q hq => hk1 q.1 (hP k q hq).lt (nA (hP k q hq).lt))
        generalize H1 = H at hP hS hce ⊢
        have hP : va_P (dC, dI) vwCl (ws_sl a k rd wr ay ia mo wo so oi si mi wi ns nt nf np sl hs) H := hP
        have hD : va_D A (ws_sl a k rd wr ay ia mo wo so oi si mi wi ns nt nf np sl hs) := hD
        have hw : sl_store rd wr ay ia mo wo oi ns nf np p1 p2 p3 = .inr E_9 := by unfold sl_store; rw [hq_1]; try dsimp only; rw [hq_5]; try dsimp only; rw [hq_9]; try dsimp only; try rfl
        have he := Sum.inr.inj (hno.symm.trans hw)
        exact vx_out (fun x hx => (hEx x hx).elim) hlocks hce hcv hcl (fun t ht ha => ⟨(), trivial, ⟨he.symm, by rw [ht]; exact hP, va_K.moved ha hK, hD⟩, hS.F ht⟩) hS.2.2 (Nat.le_of_ble_eq_true rfl) (Nat.le_of_ble_eq_true rfl)
    · have hFc := va_free (wc := ([] : va_W)) hD hS hA [] rfl
      refine vx_callv (vx_runS (As := [.int p2]) (rest := []) ⟨hx, hb, hml, hown, hg⟩ (cs_requireReadable_x l hl9 dC dI sx H.size p2 E_5 hq_5) (va_cwS 1 hg (gi_S w_177 w_178 w_1 w_179) rfl rfl rfl (by decide +kernel) ⟨Nat.le_of_ble_eq_true rfl, Nat.le_of_ble_eq_true rfl⟩) ⟨prx0_bl, prx_ok0 hX9 hS hFc⟩ rfl rfl hl.1 rfl (lv_room (Nat.le_of_ble_eq_true rfl)) dX0_store_5 ⟨Nat.le_of_ble_eq_true rfl, Nat.le_of_ble_eq_true rfl⟩) hS (fun q _ h => hFc q h) hFc (fun q _ h => hFc q h) (fun E ce q9 u t H1 locs ht hvm hwx hB hz1 hk1 hS hce hcv hcl => ?_) (fun u t H1 locs ht hvm hwx hB hz1 hk1 hS => hwx.elim)
      have hB := hB.symm
      subst hB
      have hP := hP.kept (fun k q hq => hk1 q.1 (hP k q hq).lt (nA (hP k q hq).lt))
      generalize H1 = H at hP hS hce ⊢
      have hP : va_P (dC, dI) vwCl (ws_sl a k rd wr ay ia mo wo so oi si mi wi ns nt nf np sl hs) H := hP
      have hD : va_D A (ws_sl a k rd wr ay ia mo wo so oi si mi wi ns nt nf np sl hs) := hD
      have hw : sl_store rd wr ay ia mo wo oi ns nf np p1 p2 p3 = .inr E_5 := by unfold sl_store; rw [hq_1]; try dsimp only; rw [hq_5]; try dsimp only; try rfl
      have he := Sum.inr.inj (hno.symm.trans hw)
      exact vx_out (fun x hx => (hEx x hx).elim) hlocks hce hcv hcl (fun t ht ha => ⟨(), trivial, ⟨he.symm, by rw [ht]; exact hP, va_K.moved ha hK, hD⟩, hS.F ht⟩) hS.2.2 (Nat.le_of_ble_eq_true rfl) (Nat.le_of_ble_eq_true rfl)
  · have hFc := va_free (wc := ([] : va_W)) hD hS hA [] rfl
    refine vx_callv (vx_runS (As := [.int p1]) (rest := []) ⟨hx, hb, hml, hown, hg⟩ (cs_requireArray_x l hl9 dC dI sx H.size p1 E_1 hq_1) (va_cwS 1 hg (gi_S w_238 w_239 w_1 w_240) rfl rfl rfl (by decide +kernel) ⟨Nat.le_of_ble_eq_true rfl, Nat.le_of_ble_eq_true rfl⟩) ⟨prx0_bl, prx_ok0 hX9 hS hFc⟩ rfl rfl hl.1 rfl (lv_room (Nat.le_of_ble_eq_true rfl)) dX0_store_1 ⟨Nat.le_of_ble_eq_true rfl, Nat.le_of_ble_eq_true rfl⟩) hS (fun q _ h => hFc q h) hFc (fun q _ h => hFc q h) (fun E ce q9 u t H1 locs ht hvm hwx hB hz1 hk1 hS hce hcv hcl => ?_) (fun u t H1 locs ht hvm hwx hB hz1 hk1 hS => hwx.elim)
    have hB := hB.symm
    subst hB
    have hP := hP.kept (fun k q hq => hk1 q.1 (hP k q hq).lt (nA (hP k q hq).lt))
    generalize H1 = H at hP hS hce ⊢
    have hP : va_P (dC, dI) vwCl (ws_sl a k rd wr ay ia mo wo so oi si mi wi ns nt nf np sl hs) H := hP
    have hD : va_D A (ws_sl a k rd wr ay ia mo wo so oi si mi wi ns nt nf np sl hs) := hD
    have hw : sl_store rd wr ay ia mo wo oi ns nf np p1 p2 p3 = .inr E_1 := by unfold sl_store; rw [hq_1]; try dsimp only; try rfl
    have he := Sum.inr.inj (hno.symm.trans hw)
    exact vx_out (fun x hx => (hEx x hx).elim) hlocks hce hcv hcl (fun t ht ha => ⟨(), trivial, ⟨he.symm, by rw [ht]; exact hP, va_K.moved ha hK, hD⟩, hS.F ht⟩) hS.2.2 (Nat.le_of_ble_eq_true rfl) (Nat.le_of_ble_eq_true rfl)
set_option maxHeartbeats 4000000 in
set_option maxRecDepth 100000 in
theorem cs_valid (l : Launch) (dC : Nat → ClassId) (dI : Nat → Nat → Nat) (a : Nat → Nat) (k : Nat → ClassId) (sz : Nat) (rd wr : Nat → Int64) (ay ia mo wo so oi si mi wi : Nat → Int32) (ns nt nf np sl hs : Int32) (p1 p2 : Int32) (r' : Int32) (rd' wr' : Nat → Int64) (ay' ia' mo' wo' : Nat → Int32) (ns' np' sl' hs' : Int32) (hok : sl_valid rd wr ay ia mo wo oi ns nf np p1 = .inl (r', rd', wr', ay', ia', mo', wo', ns', np', sl', hs')) : Met l yX0_valid wsX0_valid ({ frames := 7, cells := 0, slots := 0, locals := 109 } : Room) (va_Pc [.ref (a 0), .int p1, .int p2] (pr (dC, dI) (ws_sl a k rd wr ay ia mo wo so oi si mi wi ns nt nf np sl hs) (ty_sl k) sz)) (va_Qi (fun (r : Int32) (_ : Unit) => r = r') (fun (_ : Unit) t => po (dC, dI) (ws_sl a k rd' wr' ay' ia' mo' wo' so oi si mi wi ns' nt nf np' sl' hs') (ty_sl k) (va_A (ws_sl a k rd wr ay ia mo wo so oi si mi wi ns nt nf np sl hs) sz) t) (va_A (ws_sl a k rd wr ay ia mo wo so oi si mi wi ns nt nf np sl hs) sz)) 0 0 (va_A (ws_sl a k rd wr ay ia mo wo so oi si mi wi ns nt nf np sl hs) sz) := by
  refine Met.ofW (cc := cX0_valid) (maxL := 4) (ret := (some .int)) (by decide) rfl ?_
  intro p e s m args below meth c s₁ B hml hv
  obtain ⟨rfl, hsz, hP, hK, hD0⟩ := hv
  have hx := B.exec
  have hb := B.bytes
  have hr := B.returns
  have hts := atoms_spec (ws := wsX0_valid) B.pre
  have hg : ∀ w ∈ gw, w.before _ s = true := fun w h => hts w (List.mem_cons_of_mem _ h)
  have hown : s.vm.findClass RX0 = some m.cls := findClass_of_methodNamed B.named
  have hlocks := B.notSynchronized
  subst hsz
  have hD := hD0.self (sz := s.heap.size)
  generalize hAe : va_A (ws_sl a k rd wr ay ia mo wo so oi si mi wi ns nt nf np sl hs) s.heap.size = A at hD ⊢
  have hA : ∀ q : Nat, s.heap.size ≤ q → A q := fun q h => by rw [← hAe]; exact Or.inr h
  clear hAe
  refine w_in (fun H locs eH eL => ?_)
  have hS : va_S A s.heap H locs := by rw [eH, eL]; exact va_S.rf
  have hP : va_P (dC, dI) vwCl (ws_sl a k rd wr ay ia mo wo so oi si mi wi ns nt nf np sl hs) H := by rw [eH]; exact hP
  clear eH eL
  have hl := lv_entry ([.ref (a 0), .int p1, .int p2]) (n := 4) (Nat.le_of_ble_eq_true rfl)
  rw [lg_entry_eq]
  generalize (lg_sl ([.ref (a 0), .int p1, .int p2]) ++ List.replicate (4 - (lg_sl ([.ref (a 0), .int p1, .int p2])).length) Slot.unset).toArray = ls at hl ⊢
  have hl : lv_has ls 4 [(0, .ref (a 0)), (1, .int p1), (2, .int p2)] := hl
  refine lv_iload_n hx hb dX0_valid_0 rfl (lv_at hl 1 rfl) ?_
  refine lv_if_lt (tgt := 10) hx hb dX0_valid_1 (by decide) (fun c_1 => ?_) (fun c_1 => ?_)
  · have hw : sl_valid rd wr ay ia mo wo oi ns nf np p1 = .inr xIO := by unfold sl_valid; rw [if_pos c_1]; try rfl
    exact absurd (hw.symm.trans hok) (by intro h9; cases h9)
  · refine lv_iload_n hx hb dX0_valid_4 rfl (lv_at hl 1 rfl) ?_
    refine lv_bipush (v := 12) hx hb dX0_valid_5 (by decide) ?_
    refine lv_icmp_lt (tgt := 20) hx hb dX0_valid_7 (by decide) (fun c_7 => ?_) (fun c_7 => ?_)
    · refine lv_iconst (v := 1) hx hb dX0_valid_20 (by decide) ?_
      refine lv_bipush (v := 16) hx hb dX0_valid_21 (by decide) ?_
      refine lv_iload_n hx hb dX0_valid_23 rfl (lv_at hl 1 rfl) ?_
      refine lv_iadd hx hb dX0_valid_24 ?_
      refine lv_ishl hx hb dX0_valid_25 ?_
      refine lv_istore_n (lv' := [(3, .int (1 <<< ((16 + p1) &&& 31))), (0, .ref (a 0)), (1, .int p1), (2, .int p2)]) hx hb dX0_valid_26 rfl hl (by decide) rfl (fun ls hl => ?_)
      refine lv_aload_n hx hb dX0_valid_27 rfl (lv_at hl 1 rfl) ?_
      refine lv_iload_n hx hb dX0_valid_28 rfl (lv_at hl 0 rfl) ?_
      refine va_calll (va_runS (As := [.int (1 <<< ((16 + p1) &&& 31))]) (rest := [.ref (a 0)]) ⟨hx, hb, hml, hown, hg⟩ (cs_validitiesOf l dC dI (1 <<< ((16 + p1) &&& 31))) (va_cwS 1 hg (gi_S w_187 w_188 w_1 w_189) rfl rfl rfl (by decide +kernel) ⟨Nat.le_of_ble_eq_true rfl, Nat.le_of_ble_eq_true rfl⟩) ⟨(fun _ _ _ _ q => q), (fun _ _ _ => ⟨rfl, trivial⟩)⟩ rfl rfl hl.1 rfl (lv_room (Nat.le_of_ble_eq_true rfl)) dX0_valid_29 ⟨Nat.le_of_ble_eq_true rfl, Nat.le_of_ble_eq_true rfl⟩) hS (fun q _ h => False.elim h) (fun q h => False.elim h) (fun r_29 u t H1 locs ht hvm hw_29 hB hz1 hk1 hS => ?_)
      subst hw_29
      have hP := hP.kept (fun k q hq => hk1 q.1 (hP k q hq).lt (fun h => h))
      generalize H1 = H at hP hS ⊢
      have hP : va_P (dC, dI) vwCl (ws_sl a k rd wr ay ia mo wo so oi si mi wi ns nt nf np sl hs) H := hP
      have hD : va_D A (ws_sl a k rd wr ay ia mo wo so oi si mi wi ns nt nf np sl hs) := hD
      refine lv_iload_n hx hb dX0_valid_32 rfl (lv_at hl 0 rfl) ?_
      refine lv_i2l hx hb dX0_valid_33 rfl ?_
      refine lv_iload_n hx hb dX0_valid_34 rfl (lv_at hl 0 rfl) ?_
      refine va_calll (va_runS (As := [.int (1 <<< ((16 + p1) &&& 31))]) (rest := [.long ((1 <<< ((16 + p1) &&& 31)).toInt64), .long (sl_validitiesOf (1 <<< ((16 + p1) &&& 31))), .ref (a 0)]) ⟨hx, hb, hml, hown, hg⟩ (cs_validitiesOf l dC dI (1 <<< ((16 + p1) &&& 31))) (va_cwS 1 hg (gi_S w_187 w_188 w_1 w_189) rfl rfl rfl (by decide +kernel) ⟨Nat.le_of_ble_eq_true rfl, Nat.le_of_ble_eq_true rfl⟩) ⟨(fun _ _ _ _ q => q), (fun _ _ _ => ⟨rfl, trivial⟩)⟩ rfl rfl hl.1 rfl (lv_room (Nat.le_of_ble_eq_true rfl)) dX0_valid_35 ⟨Nat.le_of_ble_eq_true rfl, Nat.le_of_ble_eq_true rfl⟩) hS (fun q _ h => False.elim h) (fun q h => False.elim h) (fun r_35 u t H1 locs ht hvm hw_35 hB hz1 hk1 hS => ?_)
      subst hw_35
      have hP := hP.kept (fun k q hq => hk1 q.1 (hP k q hq).lt (fun h => h))
      generalize H1 = H at hP hS ⊢
      have hP : va_P (dC, dI) vwCl (ws_sl a k rd wr ay ia mo wo so oi si mi wi ns nt nf np sl hs) H := hP
      have hD : va_D A (ws_sl a k rd wr ay ia mo wo so oi si mi wi ns nt nf np sl hs) := hD
      refine lv_lor hx hb dX0_valid_38 ?_
      refine lv_iconst (v := (-1)) hx hb dX0_valid_39 (by decide) ?_
      refine lv_iconst (v := 0) hx hb dX0_valid_40 (by decide) ?_
      rcases hq_41 : sl_addStep rd wr ay ia mo wo oi ns nf np (sl_validitiesOf (1 <<< ((16 + p1) &&& 31))) (((1 <<< ((16 + p1) &&& 31)).toInt64) ||| (sl_validitiesOf (1 <<< ((16 + p1) &&& 31)))) (-1) 0 with ⟨r_41, rd_41, wr_41, ay_41, ia_41, mo_41, wo_41, ns_41, np_41, sl_41, hs_41⟩ | E_41
      · have hFc := va_free (wc := ws_sl a k rd wr ay ia mo wo so oi si mi wi ns nt nf np sl hs) hD hS hA [0, 1, 2, 3, 4, 5, 6, 7, 8, 9, 10, 11] rfl
        refine va_calli (va_runV (As := [.long (sl_validitiesOf (1 <<< ((16 + p1) &&& 31))), .long (((1 <<< ((16 + p1) &&& 31)).toInt64) ||| (sl_validitiesOf (1 <<< ((16 + p1) &&& 31)))), .int (-1), .int 0]) (rest := []) ⟨hx, hb, hml, hown, hg⟩ (cs_addStep l dC dI a k H.size rd wr ay ia mo wo so oi si mi wi ns nt nf np sl hs (sl_validitiesOf (1 <<< ((16 + p1) &&& 31))) (((1 <<< ((16 + p1) &&& 31)).toInt64) ||| (sl_validitiesOf (1 <<< ((16 + p1) &&& 31)))) (-1) 0 r_41 rd_41 wr_41 ay_41 ia_41 mo_41 wo_41 ns_41 np_41 sl_41 hs_41 hq_41) (cwV 4 hg (gi_V w_202 w_204 s_2 w_1 w_205) rfl rfl rfl (by decide +kernel) ⟨Nat.le_of_ble_eq_true rfl, Nat.le_of_ble_eq_true rfl⟩) ⟨pr_bl, va_recv hK hP (ci := 0) (q0 := 0) rfl rfl, pr_ok hK hP hD⟩ rfl rfl hl.1 rfl (lv_room (Nat.le_of_ble_eq_true rfl)) dX0_valid_41 ⟨Nat.le_of_ble_eq_true rfl, Nat.le_of_ble_eq_true rfl⟩) hS (fun q _ h => hFc q h) hFc (fun rr u t H1 locs ht hvm hw hB hz1 hk1 hS => ?_)
        have hw := hw.symm
        subst hw
        obtain ⟨hP, hK1, hD1⟩ := hB
        rw [ht] at hP
        have hD := hD1.weaken (fun _ q _ h => hFc q.1 h)
        generalize H1 = H at hP hS ⊢
        have hP : va_P (dC, dI) vwCl (ws_sl a k rd_41 wr_41 ay_41 ia_41 mo_41 wo_41 so oi si mi wi ns_41 nt nf np_41 sl_41 hs_41) H := hP
        have hD : va_D A (ws_sl a k rd_41 wr_41 ay_41 ia_41 mo_41 wo_41 so oi si mi wi ns_41 nt nf np_41 sl_41 hs_41) := hD
        have hw : sl_valid rd wr ay ia mo wo oi ns nf np p1 = .inl (r_41, rd_41, wr_41, ay_41, ia_41, mo_41, wo_41, ns_41, np_41, sl_41, hs_41) := by unfold sl_valid; rw [if_neg c_1, if_pos c_7, hq_41]; try dsimp only; try rfl
        have he := Sum.inl.inj (hok.symm.trans hw)
        simp only [Prod.mk.injEq] at he
        obtain ⟨e0, e1, e2, e3, e4, e5, e6, e7, e8, e9, e10⟩ := he
        exact W.iret (v := r_41) hx hb hr (fun t ht hW => ⟨⟨r_41, (), rfl, e0.symm, ⟨by rw [ht, e1, e2, e3, e4, e5, e6, e7, e8, e9, e10]; exact hP, va_K.moved hW.alike hK, by rw [e1, e2, e3, e4, e5, e6, e7, e8, e9, e10]; exact hD⟩⟩, hS.F ht⟩) hS.2.2 dX0_valid_44
      · have hw : sl_valid rd wr ay ia mo wo oi ns nf np p1 = .inr E_41 := by unfold sl_valid; rw [if_neg c_1, if_pos c_7, hq_41]; try dsimp only; try rfl
        exact absurd (hw.symm.trans hok) (by intro h9; cases h9)
    · have hw : sl_valid rd wr ay ia mo wo oi ns nf np p1 = .inr xIO := by unfold sl_valid; rw [if_neg c_1, if_neg c_7]; try rfl
      exact absurd (hw.symm.trans hok) (by intro h9; cases h9)
set_option maxHeartbeats 4000000 in
set_option maxRecDepth 100000 in
theorem cs_valid_x (l : Launch) (hl9 : l.stackTraces = false) (dC : Nat → ClassId) (dI : Nat → Nat → Nat) (a : Nat → Nat) (k : Nat → ClassId) (sx : Nat → Nat) (sz : Nat) (rd wr : Nat → Int64) (ay ia mo wo so oi si mi wi : Nat → Int32) (ns nt nf np sl hs : Int32) (p1 p2 : Int32) (E9 : String) (hno : sl_valid rd wr ay ia mo wo oi ns nf np p1 = .inr E9) : vx_Met l yX0_valid wsX0_valid ({ frames := 7, cells := 1, slots := 6, locals := 109 } : Room) (va_Pc [.ref (a 0), .int p1, .int p2] (prx (dC, dI) (ws_sl a k rd wr ay ia mo wo so oi si mi wi ns nt nf np sl hs) (ty_sl k) sz sx)) (va_Qi (fun (_ : Int32) (_ : Unit) => False) (fun (_ : Unit) _ => True) (va_A (ws_sl a k rd wr ay ia mo wo so oi si mi wi ns nt nf np sl hs) sz)) (vx_X (fun _ : Unit => True) (fun E _ t => E = E9 ∧ po (dC, dI) (ws_sl a k rd wr ay ia mo wo so oi si mi wi ns nt nf np sl hs) (ty_sl k) (va_A (ws_sl a k rd wr ay ia mo wo so oi si mi wi ns nt nf np sl hs) sz) t) (va_A (ws_sl a k rd wr ay ia mo wo so oi si mi wi ns nt nf np sl hs) sz)) 1 6 (va_A (ws_sl a k rd wr ay ia mo wo so oi si mi wi ns nt nf np sl hs) sz) := by
  refine vx_ofW (cc := cX0_valid) (maxL := 4) (ret := (some .int)) (by decide) rfl ?_
  intro p e s m args below meth c s₁ B hml hEx hv
  obtain ⟨rfl, ⟨hsz, hP, hK, hD0⟩, hX9⟩ := hv
  have hx := B.exec
  have hb := B.bytes
  have hr := B.returns
  have hts := atoms_spec (ws := wsX0_valid) B.pre
  have hg : ∀ w ∈ gw, w.before _ s = true := fun w h => hts w (List.mem_cons_of_mem _ h)
  have hown : s.vm.findClass RX0 = some m.cls := findClass_of_methodNamed B.named
  have hlocks := B.notSynchronized
  subst hsz
  have hD := hD0.self (sz := s.heap.size)
  generalize hAe : va_A (ws_sl a k rd wr ay ia mo wo so oi si mi wi ns nt nf np sl hs) s.heap.size = A at hD hX9 ⊢
  have hA : ∀ q : Nat, s.heap.size ≤ q → A q := fun q h => by rw [← hAe]; exact Or.inr h
  clear hAe
  refine w_in (fun H locs eH eL => ?_)
  have hS : va_S A s.heap H locs := by rw [eH, eL]; exact va_S.rf
  have hP : va_P (dC, dI) vwCl (ws_sl a k rd wr ay ia mo wo so oi si mi wi ns nt nf np sl hs) H := by rw [eH]; exact hP
  clear eH eL
  have hl := lv_entry ([.ref (a 0), .int p1, .int p2]) (n := 4) (Nat.le_of_ble_eq_true rfl)
  rw [lg_entry_eq]
  generalize (lg_sl ([.ref (a 0), .int p1, .int p2]) ++ List.replicate (4 - (lg_sl ([.ref (a 0), .int p1, .int p2])).length) Slot.unset).toArray = ls at hl ⊢
  have hl : lv_has ls 4 [(0, .ref (a 0)), (1, .int p1), (2, .int p2)] := hl
  refine lv_iload_n hx hb dX0_valid_0 rfl (lv_at hl 1 rfl) ?_
  refine lv_if_lt (tgt := 10) hx hb dX0_valid_1 (by decide) (fun c_1 => ?_) (fun c_1 => ?_)
  · have hw : sl_valid rd wr ay ia mo wo oi ns nf np p1 = .inr xIO := by unfold sl_valid; rw [if_pos c_1]; try rfl
    have he := Sum.inr.inj (hno.symm.trans hw)
    exact vx_throwS (own := RX0) (cls := "java/lang/IndexOutOfBoundsException") (names := ["java/lang/RuntimeException", "java/lang/Exception"]) hx hb hl9 hown (by decide +kernel) (by decide +kernel) (hg _ w_109) (hg _ w_6) (hX9.2.2.1 (91, "no such instance") (by decide +kernel)) (hat_xIO_93 hg hX9) (by decide +kernel) hX9.1 hX9.2.1 hS (hl.1.trans hml.symm) dX0_valid_10 dX0_valid_13 dX0_valid_14 dX0_valid_16 dX0_valid_19 (fun x hx => (hEx x hx).elim) (Nat.le_of_ble_eq_true rfl) (Nat.le_of_ble_eq_true rfl) (Nat.le_of_ble_eq_true rfl) (Nat.le_of_ble_eq_true rfl) hlocks (fun t ha hsz hk => ⟨(), trivial, ⟨he.symm, hP.kept (fun k q hq => hk q.1 (hP k q hq).lt), va_K.moved ha hK, hD⟩, Nat.le_trans hS.1 hsz, fun q h1 h2 => (hk q (Nat.lt_of_lt_of_le h1 hS.1)).trans (hS.2.1 q h1 h2)⟩) hS.2.2 (Nat.le_of_ble_eq_true rfl) (Nat.le_of_ble_eq_true rfl)
  · refine lv_iload_n hx hb dX0_valid_4 rfl (lv_at hl 1 rfl) ?_
    refine lv_bipush (v := 12) hx hb dX0_valid_5 (by decide) ?_
    refine lv_icmp_lt (tgt := 20) hx hb dX0_valid_7 (by decide) (fun c_7 => ?_) (fun c_7 => ?_)
    · refine lv_iconst (v := 1) hx hb dX0_valid_20 (by decide) ?_
      refine lv_bipush (v := 16) hx hb dX0_valid_21 (by decide) ?_
      refine lv_iload_n hx hb dX0_valid_23 rfl (lv_at hl 1 rfl) ?_
      refine lv_iadd hx hb dX0_valid_24 ?_
      refine lv_ishl hx hb dX0_valid_25 ?_
      refine lv_istore_n (lv' := [(3, .int (1 <<< ((16 + p1) &&& 31))), (0, .ref (a 0)), (1, .int p1), (2, .int p2)]) hx hb dX0_valid_26 rfl hl (by decide) rfl (fun ls hl => ?_)
      refine lv_aload_n hx hb dX0_valid_27 rfl (lv_at hl 1 rfl) ?_
      refine lv_iload_n hx hb dX0_valid_28 rfl (lv_at hl 0 rfl) ?_
      refine va_calll (va_runS (As := [.int (1 <<< ((16 + p1) &&& 31))]) (rest := [.ref (a 0)]) ⟨hx, hb, hml, hown, hg⟩ (cs_validitiesOf l dC dI (1 <<< ((16 + p1) &&& 31))) (va_cwS 1 hg (gi_S w_187 w_188 w_1 w_189) rfl rfl rfl (by decide +kernel) ⟨Nat.le_of_ble_eq_true rfl, Nat.le_of_ble_eq_true rfl⟩) ⟨(fun _ _ _ _ q => q), (fun _ _ _ => ⟨rfl, trivial⟩)⟩ rfl rfl hl.1 rfl (lv_room (Nat.le_of_ble_eq_true rfl)) dX0_valid_29 ⟨Nat.le_of_ble_eq_true rfl, Nat.le_of_ble_eq_true rfl⟩) hS (fun q _ h => False.elim h) (fun q h => False.elim h) (fun r_29 u t H1 locs ht hvm hw_29 hB hz1 hk1 hS => ?_)
      subst hw_29
      have hP := hP.kept (fun k q hq => hk1 q.1 (hP k q hq).lt (fun h => h))
      generalize H1 = H at hP hS ⊢
      have hP : va_P (dC, dI) vwCl (ws_sl a k rd wr ay ia mo wo so oi si mi wi ns nt nf np sl hs) H := hP
      have hD : va_D A (ws_sl a k rd wr ay ia mo wo so oi si mi wi ns nt nf np sl hs) := hD
      refine lv_iload_n hx hb dX0_valid_32 rfl (lv_at hl 0 rfl) ?_
      refine lv_i2l hx hb dX0_valid_33 rfl ?_
      refine lv_iload_n hx hb dX0_valid_34 rfl (lv_at hl 0 rfl) ?_
      refine va_calll (va_runS (As := [.int (1 <<< ((16 + p1) &&& 31))]) (rest := [.long ((1 <<< ((16 + p1) &&& 31)).toInt64), .long (sl_validitiesOf (1 <<< ((16 + p1) &&& 31))), .ref (a 0)]) ⟨hx, hb, hml, hown, hg⟩ (cs_validitiesOf l dC dI (1 <<< ((16 + p1) &&& 31))) (va_cwS 1 hg (gi_S w_187 w_188 w_1 w_189) rfl rfl rfl (by decide +kernel) ⟨Nat.le_of_ble_eq_true rfl, Nat.le_of_ble_eq_true rfl⟩) ⟨(fun _ _ _ _ q => q), (fun _ _ _ => ⟨rfl, trivial⟩)⟩ rfl rfl hl.1 rfl (lv_room (Nat.le_of_ble_eq_true rfl)) dX0_valid_35 ⟨Nat.le_of_ble_eq_true rfl, Nat.le_of_ble_eq_true rfl⟩) hS (fun q _ h => False.elim h) (fun q h => False.elim h) (fun r_35 u t H1 locs ht hvm hw_35 hB hz1 hk1 hS => ?_)
      subst hw_35
      have hP := hP.kept (fun k q hq => hk1 q.1 (hP k q hq).lt (fun h => h))
      generalize H1 = H at hP hS ⊢
      have hP : va_P (dC, dI) vwCl (ws_sl a k rd wr ay ia mo wo so oi si mi wi ns nt nf np sl hs) H := hP
      have hD : va_D A (ws_sl a k rd wr ay ia mo wo so oi si mi wi ns nt nf np sl hs) := hD
      refine lv_lor hx hb dX0_valid_38 ?_
      refine lv_iconst (v := (-1)) hx hb dX0_valid_39 (by decide) ?_
      refine lv_iconst (v := 0) hx hb dX0_valid_40 (by decide) ?_
      rcases hq_41 : sl_addStep rd wr ay ia mo wo oi ns nf np (sl_validitiesOf (1 <<< ((16 + p1) &&& 31))) (((1 <<< ((16 + p1) &&& 31)).toInt64) ||| (sl_validitiesOf (1 <<< ((16 + p1) &&& 31)))) (-1) 0 with ⟨r_41, rd_41, wr_41, ay_41, ia_41, mo_41, wo_41, ns_41, np_41, sl_41, hs_41⟩ | E_41
      · exfalso
        have h9 := hno
        unfold sl_valid at h9
        rw [if_neg c_1, if_pos c_7, hq_41] at h9
        try dsimp only at h9
        first | (cases h9; done) | ((repeat' split at h9) <;> cases h9)
      · have hFc := va_free (wc := ws_sl a k rd wr ay ia mo wo so oi si mi wi ns nt nf np sl hs) hD hS hA [0, 1, 2, 3, 4, 5, 6, 7, 8, 9, 10, 11] rfl
        refine vx_calli (vx_runV (As := [.long (sl_validitiesOf (1 <<< ((16 + p1) &&& 31))), .long (((1 <<< ((16 + p1) &&& 31)).toInt64) ||| (sl_validitiesOf (1 <<< ((16 + p1) &&& 31)))), .int (-1), .int 0]) (rest := []) ⟨hx, hb, hml, hown, hg⟩ (cs_addStep_x l hl9 dC dI a k sx H.size rd wr ay ia mo wo so oi si mi wi ns nt nf np sl hs (sl_validitiesOf (1 <<< ((16 + p1) &&& 31))) (((1 <<< ((16 + p1) &&& 31)).toInt64) ||| (sl_validitiesOf (1 <<< ((16 + p1) &&& 31)))) (-1) 0 E_41 hq_41) (cwV 4 hg (gi_V w_202 w_204 s_2 w_1 w_205) rfl rfl rfl (by decide +kernel) ⟨Nat.le_of_ble_eq_true rfl, Nat.le_of_ble_eq_true rfl⟩) ⟨prx_bl, va_recv hK hP (ci := 0) (q0 := 0) rfl rfl, prx_ok hK hP hD hX9 hS hFc⟩ rfl rfl hl.1 rfl (lv_room (Nat.le_of_ble_eq_true rfl)) dX0_valid_41 ⟨Nat.le_of_ble_eq_true rfl, Nat.le_of_ble_eq_true rfl⟩) hS (fun q _ h => hFc q h) hFc (fun q _ h => hFc q h) (fun E ce q9 u t H1 locs ht hvm hwx hB hz1 hk1 hS hce hcv hcl => ?_) (fun rr u t H1 locs ht hvm hwx hB hz1 hk1 hS => hwx.elim)
        obtain ⟨hE, hB⟩ := hB
        have hE := hE.symm
        subst hE
        obtain ⟨hP, hK1, hD1⟩ := hB
        rw [ht] at hP
        have hD := hD1.weaken (fun _ q _ h => hFc q.1 h)
        generalize H1 = H at hP hS hce ⊢
        have hP : va_P (dC, dI) vwCl (ws_sl a k rd wr ay ia mo wo so oi si mi wi ns nt nf np sl hs) H := hP
        have hD : va_D A (ws_sl a k rd wr ay ia mo wo so oi si mi wi ns nt nf np sl hs) := hD
        have hw : sl_valid rd wr ay ia mo wo oi ns nf np p1 = .inr E_41 := by unfold sl_valid; rw [if_neg c_1, if_pos c_7, hq_41]; try dsimp only; try rfl
        have he := Sum.inr.inj (hno.symm.trans hw)
        exact vx_out (fun x hx => (hEx x hx).elim) hlocks hce hcv hcl (fun t ht ha => ⟨(), trivial, ⟨he.symm, by rw [ht]; exact hP, va_K.moved ha hK, hD⟩, hS.F ht⟩) hS.2.2 (Nat.le_of_ble_eq_true rfl) (Nat.le_of_ble_eq_true rfl)
    · have hw : sl_valid rd wr ay ia mo wo oi ns nf np p1 = .inr xIO := by unfold sl_valid; rw [if_neg c_1, if_neg c_7]; try rfl
      have he := Sum.inr.inj (hno.symm.trans hw)
      exact vx_throwS (own := RX0) (cls := "java/lang/IndexOutOfBoundsException") (names := ["java/lang/RuntimeException", "java/lang/Exception"]) hx hb hl9 hown (by decide +kernel) (by decide +kernel) (hg _ w_109) (hg _ w_6) (hX9.2.2.1 (91, "no such instance") (by decide +kernel)) (hat_xIO_93 hg hX9) (by decide +kernel) hX9.1 hX9.2.1 hS (hl.1.trans hml.symm) dX0_valid_10 dX0_valid_13 dX0_valid_14 dX0_valid_16 dX0_valid_19 (fun x hx => (hEx x hx).elim) (Nat.le_of_ble_eq_true rfl) (Nat.le_of_ble_eq_true rfl) (Nat.le_of_ble_eq_true rfl) (Nat.le_of_ble_eq_true rfl) hlocks (fun t ha hsz hk => ⟨(), trivial, ⟨he.symm, hP.kept (fun k q hq => hk q.1 (hP k q hq).lt), va_K.moved ha hK, hD⟩, Nat.le_trans hS.1 hsz, fun q h1 h2 => (hk q (Nat.lt_of_lt_of_le h1 hS.1)).trans (hS.2.1 q h1 h2)⟩) hS.2.2 (Nat.le_of_ble_eq_true rfl) (Nat.le_of_ble_eq_true rfl)
set_option maxHeartbeats 4000000 in
set_option maxRecDepth 100000 in
theorem cs_drop (l : Launch) (dC : Nat → ClassId) (dI : Nat → Nat → Nat) (a : Nat → Nat) (k : Nat → ClassId) (sz : Nat) (rd wr : Nat → Int64) (ay ia mo wo so oi si mi wi : Nat → Int32) (ns nt nf np sl hs : Int32)  (r' : Int32) (rd' wr' : Nat → Int64) (ay' ia' mo' wo' : Nat → Int32) (ns' np' sl' hs' : Int32) (hok : sl_drop rd wr ay ia mo wo oi ns nf np = .inl (r', rd', wr', ay', ia', mo', wo', ns', np', sl', hs')) : Met l yX0_drop wsX0_drop ({ frames := 7, cells := 0, slots := 0, locals := 109 } : Room) (va_Pc [.ref (a 0)] (pr (dC, dI) (ws_sl a k rd wr ay ia mo wo so oi si mi wi ns nt nf np sl hs) (ty_sl k) sz)) (va_Qi (fun (r : Int32) (_ : Unit) => r = r') (fun (_ : Unit) t => po (dC, dI) (ws_sl a k rd' wr' ay' ia' mo' wo' so oi si mi wi ns' nt nf np' sl' hs') (ty_sl k) (va_A (ws_sl a k rd wr ay ia mo wo so oi si mi wi ns nt nf np sl hs) sz) t) (va_A (ws_sl a k rd wr ay ia mo wo so oi si mi wi ns nt nf np sl hs) sz)) 0 0 (va_A (ws_sl a k rd wr ay ia mo wo so oi si mi wi ns nt nf np sl hs) sz) := by
  refine Met.ofW (cc := cX0_drop) (maxL := 1) (ret := (some .int)) (by decide) rfl ?_
  intro p e s m args below meth c s₁ B hml hv
  obtain ⟨rfl, hsz, hP, hK, hD0⟩ := hv
  have hx := B.exec
  have hb := B.bytes
  have hr := B.returns
  have hts := atoms_spec (ws := wsX0_drop) B.pre
  have hg : ∀ w ∈ gw, w.before _ s = true := fun w h => hts w (List.mem_cons_of_mem _ h)
  have hown : s.vm.findClass RX0 = some m.cls := findClass_of_methodNamed B.named
  have hlocks := B.notSynchronized
  subst hsz
  have hD := hD0.self (sz := s.heap.size)
  generalize hAe : va_A (ws_sl a k rd wr ay ia mo wo so oi si mi wi ns nt nf np sl hs) s.heap.size = A at hD ⊢
  have hA : ∀ q : Nat, s.heap.size ≤ q → A q := fun q h => by rw [← hAe]; exact Or.inr h
  clear hAe
  refine w_in (fun H locs eH eL => ?_)
  have hS : va_S A s.heap H locs := by rw [eH, eL]; exact va_S.rf
  have hP : va_P (dC, dI) vwCl (ws_sl a k rd wr ay ia mo wo so oi si mi wi ns nt nf np sl hs) H := by rw [eH]; exact hP
  clear eH eL
  have hl := lv_entry ([.ref (a 0)]) (n := 1) (Nat.le_of_ble_eq_true rfl)
  rw [lg_entry_eq]
  generalize (lg_sl ([.ref (a 0)]) ++ List.replicate (1 - (lg_sl ([.ref (a 0)])).length) Slot.unset).toArray = ls at hl ⊢
  have hl : lv_has ls 1 [(0, .ref (a 0))] := hl
  refine lv_aload_n hx hb dX0_drop_0 rfl (lv_at hl 0 rfl) ?_
  refine lv_lconst (v := 0) hx hb dX0_drop_1 (by decide) ?_
  refine lv_ldc2 (v := 1099511627776) hx hb hown (hg _ w_264) dX0_drop_2 ?_
  refine lv_iconst (v := (-1)) hx hb dX0_drop_5 (by decide) ?_
  refine lv_iconst (v := 0) hx hb dX0_drop_6 (by decide) ?_
  rcases hq_7 : sl_addStep rd wr ay ia mo wo oi ns nf np 0 1099511627776 (-1) 0 with ⟨r_7, rd_7, wr_7, ay_7, ia_7, mo_7, wo_7, ns_7, np_7, sl_7, hs_7⟩ | E_7
  · have hFc := va_free (wc := ws_sl a k rd wr ay ia mo wo so oi si mi wi ns nt nf np sl hs) hD hS hA [0, 1, 2, 3, 4, 5, 6, 7, 8, 9, 10, 11] rfl
    refine va_calli (va_runV (As := [.long 0, .long 1099511627776, .int (-1), .int 0]) (rest := []) ⟨hx, hb, hml, hown, hg⟩ (cs_addStep l dC dI a k H.size rd wr ay ia mo wo so oi si mi wi ns nt nf np sl hs 0 1099511627776 (-1) 0 r_7 rd_7 wr_7 ay_7 ia_7 mo_7 wo_7 ns_7 np_7 sl_7 hs_7 hq_7) (cwV 4 hg (gi_V w_202 w_204 s_2 w_1 w_205) rfl rfl rfl (by decide +kernel) ⟨Nat.le_of_ble_eq_true rfl, Nat.le_of_ble_eq_true rfl⟩) ⟨pr_bl, va_recv hK hP (ci := 0) (q0 := 0) rfl rfl, pr_ok hK hP hD⟩ rfl rfl hl.1 rfl (lv_room (Nat.le_of_ble_eq_true rfl)) dX0_drop_7 ⟨Nat.le_of_ble_eq_true rfl, Nat.le_of_ble_eq_true rfl⟩) hS (fun q _ h => hFc q h) hFc (fun rr u t H1 locs ht hvm hw hB hz1 hk1 hS => ?_)
    have hw := hw.symm
    subst hw
    obtain ⟨hP, hK1, hD1⟩ := hB
    rw [ht] at hP
    have hD := hD1.weaken (fun _ q _ h => hFc q.1 h)
    generalize H1 = H at hP hS ⊢
    have hP : va_P (dC, dI) vwCl (ws_sl a k rd_7 wr_7 ay_7 ia_7 mo_7 wo_7 so oi si mi wi ns_7 nt nf np_7 sl_7 hs_7) H := hP
    have hD : va_D A (ws_sl a k rd_7 wr_7 ay_7 ia_7 mo_7 wo_7 so oi si mi wi ns_7 nt nf np_7 sl_7 hs_7) := hD
    have hw : sl_drop rd wr ay ia mo wo oi ns nf np = .inl (r_7, rd_7, wr_7, ay_7, ia_7, mo_7, wo_7, ns_7, np_7, sl_7, hs_7) := by unfold sl_drop; rw [hq_7]; try dsimp only; try rfl
    have he := Sum.inl.inj (hok.symm.trans hw)
    simp only [Prod.mk.injEq] at he
    obtain ⟨e0, e1, e2, e3, e4, e5, e6, e7, e8, e9, e10⟩ := he
    exact W.iret (v := r_7) hx hb hr (fun t ht hW => ⟨⟨r_7, (), rfl, e0.symm, ⟨by rw [ht, e1, e2, e3, e4, e5, e6, e7, e8, e9, e10]; exact hP, va_K.moved hW.alike hK, by rw [e1, e2, e3, e4, e5, e6, e7, e8, e9, e10]; exact hD⟩⟩, hS.F ht⟩) hS.2.2 dX0_drop_10
  · have hw : sl_drop rd wr ay ia mo wo oi ns nf np = .inr E_7 := by unfold sl_drop; rw [hq_7]; try dsimp only; try rfl
    exact absurd (hw.symm.trans hok) (by intro h9; cases h9)
set_option maxHeartbeats 4000000 in
set_option maxRecDepth 100000 in
theorem cs_drop_x (l : Launch) (hl9 : l.stackTraces = false) (dC : Nat → ClassId) (dI : Nat → Nat → Nat) (a : Nat → Nat) (k : Nat → ClassId) (sx : Nat → Nat) (sz : Nat) (rd wr : Nat → Int64) (ay ia mo wo so oi si mi wi : Nat → Int32) (ns nt nf np sl hs : Int32)  (E9 : String) (hno : sl_drop rd wr ay ia mo wo oi ns nf np = .inr E9) : vx_Met l yX0_drop wsX0_drop ({ frames := 7, cells := 1, slots := 6, locals := 109 } : Room) (va_Pc [.ref (a 0)] (prx (dC, dI) (ws_sl a k rd wr ay ia mo wo so oi si mi wi ns nt nf np sl hs) (ty_sl k) sz sx)) (va_Qi (fun (_ : Int32) (_ : Unit) => False) (fun (_ : Unit) _ => True) (va_A (ws_sl a k rd wr ay ia mo wo so oi si mi wi ns nt nf np sl hs) sz)) (vx_X (fun _ : Unit => True) (fun E _ t => E = E9 ∧ po (dC, dI) (ws_sl a k rd wr ay ia mo wo so oi si mi wi ns nt nf np sl hs) (ty_sl k) (va_A (ws_sl a k rd wr ay ia mo wo so oi si mi wi ns nt nf np sl hs) sz) t) (va_A (ws_sl a k rd wr ay ia mo wo so oi si mi wi ns nt nf np sl hs) sz)) 1 6 (va_A (ws_sl a k rd wr ay ia mo wo so oi si mi wi ns nt nf np sl hs) sz) := by
  refine vx_ofW (cc := cX0_drop) (maxL := 1) (ret := (some .int)) (by decide) rfl ?_
  intro p e s m args below meth c s₁ B hml hEx hv
  obtain ⟨rfl, ⟨hsz, hP, hK, hD0⟩, hX9⟩ := hv
  have hx := B.exec
  have hb := B.bytes
  have hr := B.returns
  have hts := atoms_spec (ws := wsX0_drop) B.pre
  have hg : ∀ w ∈ gw, w.before _ s = true := fun w h => hts w (List.mem_cons_of_mem _ h)
  have hown : s.vm.findClass RX0 = some m.cls := findClass_of_methodNamed B.named
  have hlocks := B.notSynchronized
  subst hsz
  have hD := hD0.self (sz := s.heap.size)
  generalize hAe : va_A (ws_sl a k rd wr ay ia mo wo so oi si mi wi ns nt nf np sl hs) s.heap.size = A at hD hX9 ⊢
  have hA : ∀ q : Nat, s.heap.size ≤ q → A q := fun q h => by rw [← hAe]; exact Or.inr h
  clear hAe
  refine w_in (fun H locs eH eL => ?_)
  have hS : va_S A s.heap H locs := by rw [eH, eL]; exact va_S.rf
  have hP : va_P (dC, dI) vwCl (ws_sl a k rd wr ay ia mo wo so oi si mi wi ns nt nf np sl hs) H := by rw [eH]; exact hP
  clear eH eL
  have hl := lv_entry ([.ref (a 0)]) (n := 1) (Nat.le_of_ble_eq_true rfl)
  rw [lg_entry_eq]
  generalize (lg_sl ([.ref (a 0)]) ++ List.replicate (1 - (lg_sl ([.ref (a 0)])).length) Slot.unset).toArray = ls at hl ⊢
  have hl : lv_has ls 1 [(0, .ref (a 0))] := hl
  refine lv_aload_n hx hb dX0_drop_0 rfl (lv_at hl 0 rfl) ?_
  refine lv_lconst (v := 0) hx hb dX0_drop_1 (by decide) ?_
  refine lv_ldc2 (v := 1099511627776) hx hb hown (hg _ w_264) dX0_drop_2 ?_
  refine lv_iconst (v := (-1)) hx hb dX0_drop_5 (by decide) ?_
  refine lv_iconst (v := 0) hx hb dX0_drop_6 (by decide) ?_
  rcases hq_7 : sl_addStep rd wr ay ia mo wo oi ns nf np 0 1099511627776 (-1) 0 with ⟨r_7, rd_7, wr_7, ay_7, ia_7, mo_7, wo_7, ns_7, np_7, sl_7, hs_7⟩ | E_7
  · exfalso
    have h9 := hno
    unfold sl_drop at h9
    rw [hq_7] at h9
    try dsimp only at h9
    first | (cases h9; done) | ((repeat' split at h9) <;> cases h9)
  · have hFc := va_free (wc := ws_sl a k rd wr ay ia mo wo so oi si mi wi ns nt nf np sl hs) hD hS hA [0, 1, 2, 3, 4, 5, 6, 7, 8, 9, 10, 11] rfl
    refine vx_calli (vx_runV (As := [.long 0, .long 1099511627776, .int (-1), .int 0]) (rest := []) ⟨hx, hb, hml, hown, hg⟩ (cs_addStep_x l hl9 dC dI a k sx H.size rd wr ay ia mo wo so oi si mi wi ns nt nf np sl hs 0 1099511627776 (-1) 0 E_7 hq_7) (cwV 4 hg (gi_V w_202 w_204 s_2 w_1 w_205) rfl rfl rfl (by decide +kernel) ⟨Nat.le_of_ble_eq_true rfl, Nat.le_of_ble_eq_true rfl⟩) ⟨prx_bl, va_recv hK hP (ci := 0) (q0 := 0) rfl rfl, prx_ok hK hP hD hX9 hS hFc⟩ rfl rfl hl.1 rfl (lv_room (Nat.le_of_ble_eq_true rfl)) dX0_drop_7 ⟨Nat.le_of_ble_eq_true rfl, Nat.le_of_ble_eq_true rfl⟩) hS (fun q _ h => hFc q h) hFc (fun q _ h => hFc q h) (fun E ce q9 u t H1 locs ht hvm hwx hB hz1 hk1 hS hce hcv hcl => ?_) (fun rr u t H1 locs ht hvm hwx hB hz1 hk1 hS => hwx.elim)
    obtain ⟨hE, hB⟩ := hB
    have hE := hE.symm
    subst hE
    obtain ⟨hP, hK1, hD1⟩ := hB
    rw [ht] at hP
    have hD := hD1.weaken (fun _ q _ h => hFc q.1 h)
    generalize H1 = H at hP hS hce ⊢
    have hP : va_P (dC, dI) vwCl (ws_sl a k rd wr ay ia mo wo so oi si mi wi ns nt nf np sl hs) H := hP
    have hD : va_D A (ws_sl a k rd wr ay ia mo wo so oi si mi wi ns nt nf np sl hs) := hD
    have hw : sl_drop rd wr ay ia mo wo oi ns nf np = .inr E_7 := by unfold sl_drop; rw [hq_7]; try dsimp only; try rfl
    have he := Sum.inr.inj (hno.symm.trans hw)
    exact vx_out (fun x hx => (hEx x hx).elim) hlocks hce hcv hcl (fun t ht ha => ⟨(), trivial, ⟨he.symm, by rw [ht]; exact hP, va_K.moved ha hK, hD⟩, hS.F ht⟩) hS.2.2 (Nat.le_of_ble_eq_true rfl) (Nat.le_of_ble_eq_true rfl)
end
section
set_option maxHeartbeats 4000000 in
set_option maxRecDepth 100000 in
theorem cs_open (l : Launch) (dC : Nat → ClassId) (dI : Nat → Nat → Nat) (a : Nat → Nat) (k : Nat → ClassId) (sz : Nat) (rd wr : Nat → Int64) (ay ia mo wo so oi si mi wi : Nat → Int32) (ns nt nf np sl hs : Int32) (p1 : Int32) (r' : Int32) (rd' wr' : Nat → Int64) (ay' ia' mo' wo' oi' : Nat → Int32) (ns' nf' np' sl' hs' : Int32) (hok : sl_open rd wr ay ia mo wo oi ns nf np p1 = .inl (r', rd', wr', ay', ia', mo', wo', oi', ns', nf', np', sl', hs')) : Met l yX0_open wsX0_open ({ frames := 7, cells := 0, slots := 0, locals := 109 } : Room) (va_Pc [.ref (a 0), .int p1] (pr (dC, dI) (ws_sl a k rd wr ay ia mo wo so oi si mi wi ns nt nf np sl hs) (ty_sl k) sz)) (va_Qi (fun (r : Int32) (_ : Unit) => r = r') (fun (_ : Unit) t => po (dC, dI) (ws_sl a k rd' wr' ay' ia' mo' wo' so oi' si mi wi ns' nt nf' np' sl' hs') (ty_sl k) (va_A (ws_sl a k rd wr ay ia mo wo so oi si mi wi ns nt nf np sl hs) sz) t) (va_A (ws_sl a k rd wr ay ia mo wo so oi si mi wi ns nt nf np sl hs) sz)) 0 0 (va_A (ws_sl a k rd wr ay ia mo wo so oi si mi wi ns nt nf np sl hs) sz) := by
  refine Met.ofW (cc := cX0_open) (maxL := 3) (ret := (some .int)) (by decide) rfl ?_
  intro p e s m args below meth c s₁ B hml hv
  obtain ⟨rfl, hsz, hP, hK, hD0⟩ := hv
  have hx := B.exec
  have hb := B.bytes
  have hr := B.returns
  have hts := atoms_spec (ws := wsX0_open) B.pre
  have hg : ∀ w ∈ gw, w.before _ s = true := fun w h => hts w (List.mem_cons_of_mem _ h)
  have hown : s.vm.findClass RX0 = some m.cls := findClass_of_methodNamed B.named
  have hlocks := B.notSynchronized
  subst hsz
  have hD := hD0.self (sz := s.heap.size)
  generalize hAe : va_A (ws_sl a k rd wr ay ia mo wo so oi si mi wi ns nt nf np sl hs) s.heap.size = A at hD ⊢
  have hA : ∀ q : Nat, s.heap.size ≤ q → A q := fun q h => by rw [← hAe]; exact Or.inr h
  clear hAe
  refine w_in (fun H locs eH eL => ?_)
  have hS : va_S A s.heap H locs := by rw [eH, eL]; exact va_S.rf
  have hP : va_P (dC, dI) vwCl (ws_sl a k rd wr ay ia mo wo so oi si mi wi ns nt nf np sl hs) H := by rw [eH]; exact hP
  clear eH eL
  have hl := lv_entry ([.ref (a 0), .int p1]) (n := 3) (Nat.le_of_ble_eq_true rfl)
  rw [lg_entry_eq]
  generalize (lg_sl ([.ref (a 0), .int p1]) ++ List.replicate (3 - (lg_sl ([.ref (a 0), .int p1])).length) Slot.unset).toArray = ls at hl ⊢
  have hl : lv_has ls 3 [(0, .ref (a 0)), (1, .int p1)] := hl
  refine lv_iload_n hx hb dX0_open_0 rfl (lv_at hl 1 rfl) ?_
  rcases hq_1 : sl_requireReadable p1 with ⟨⟩ | E_1
  · refine va_callv (va_runS (As := [.int p1]) (rest := []) ⟨hx, hb, hml, hown, hg⟩ (cs_requireReadable l dC dI p1 hq_1) (va_cwS 1 hg (gi_S w_177 w_178 w_1 w_179) rfl rfl rfl (by decide +kernel) ⟨Nat.le_of_ble_eq_true rfl, Nat.le_of_ble_eq_true rfl⟩) ⟨(fun _ _ _ _ q => q), (fun _ _ _ => ⟨rfl, trivial⟩)⟩ rfl rfl hl.1 rfl (lv_room (Nat.le_of_ble_eq_true rfl)) dX0_open_1 ⟨Nat.le_of_ble_eq_true rfl, Nat.le_of_ble_eq_true rfl⟩) hS (fun q _ h => False.elim h) (fun q h => False.elim h) (fun u t H1 locs ht hvm hw hB hz1 hk1 hS => ?_)
    have hP := hP.kept (fun k q hq => hk1 q.1 (hP k q hq).lt (fun h => h))
    generalize H1 = H at hP hS ⊢
    have hP : va_P (dC, dI) vwCl (ws_sl a k rd wr ay ia mo wo so oi si mi wi ns nt nf np sl hs) H := hP
    have hD : va_D A (ws_sl a k rd wr ay ia mo wo so oi si mi wi ns nt nf np sl hs) := hD
    refine lv_aload_n hx hb dX0_open_4 rfl (lv_at hl 0 rfl) ?_
    refine va_get (D := (dC, dI)) (ci := 0) (v := .int nf) (C := RX0) (T := TX0) (N := 17) hx hb hg inX0 hown hK hP 0 rfl rfl 13 (by decide) (hg _ w_32) (fun _ h9 => h9) rfl dX0_open_5 ?_
    refine lv_if_lt (tgt := 20) hx hb dX0_open_8 (by decide) (fun c_8 => ?_) (fun c_8 => ?_)
    · have hw : sl_open rd wr ay ia mo wo oi ns nf np p1 = .inr xIS := by unfold sl_open; rw [hq_1]; try dsimp only; rw [if_pos c_8]; try rfl
      exact absurd (hw.symm.trans hok) (by intro h9; cases h9)
    · refine lv_aload_n hx hb dX0_open_11 rfl (lv_at hl 0 rfl) ?_
      refine va_get (D := (dC, dI)) (ci := 0) (v := .int nf) (C := RX0) (T := TX0) (N := 17) hx hb hg inX0 hown hK hP 0 rfl rfl 13 (by decide) (hg _ w_32) (fun _ h9 => h9) rfl dX0_open_12 ?_
      refine lv_bipush (v := 8) hx hb dX0_open_15 (by decide) ?_
      refine lv_icmp_lt (tgt := 30) hx hb dX0_open_17 (by decide) (fun c_17 => ?_) (fun c_17 => ?_)
      · refine lv_aload_n hx hb dX0_open_30 rfl (lv_at hl 0 rfl) ?_
        refine lv_iload_n hx hb dX0_open_31 rfl (lv_at hl 1 rfl) ?_
        refine va_calll (va_runS (As := [.int p1]) (rest := [.ref (a 0)]) ⟨hx, hb, hml, hown, hg⟩ (cs_reading l dC dI p1) (va_cwS 1 hg (gi_S w_184 w_185 w_1 w_186) rfl rfl rfl (by decide +kernel) ⟨Nat.le_of_ble_eq_true rfl, Nat.le_of_ble_eq_true rfl⟩) ⟨(fun _ _ _ _ q => q), (fun _ _ _ => ⟨rfl, trivial⟩)⟩ rfl rfl hl.1 rfl (lv_room (Nat.le_of_ble_eq_true rfl)) dX0_open_32 ⟨Nat.le_of_ble_eq_true rfl, Nat.le_of_ble_eq_true rfl⟩) hS (fun q _ h => False.elim h) (fun q h => False.elim h) (fun r_32 u t H1 locs ht hvm hw_32 hB hz1 hk1 hS => ?_)
        subst hw_32
        have hP := hP.kept (fun k q hq => hk1 q.1 (hP k q hq).lt (fun h => h))
        generalize H1 = H at hP hS ⊢
        have hP : va_P (dC, dI) vwCl (ws_sl a k rd wr ay ia mo wo so oi si mi wi ns nt nf np sl hs) H := hP
        have hD : va_D A (ws_sl a k rd wr ay ia mo wo so oi si mi wi ns nt nf np sl hs) := hD
        refine lv_lconst (v := 0) hx hb dX0_open_35 (by decide) ?_
        refine lv_iconst (v := (-1)) hx hb dX0_open_36 (by decide) ?_
        refine lv_iload_n hx hb dX0_open_37 rfl (lv_at hl 1 rfl) ?_
        refine va_calli (va_runS (As := [.int p1]) (rest := [.int (-1), .long 0, .long (sl_reading p1), .ref (a 0)]) ⟨hx, hb, hml, hown, hg⟩ (cs_costOf l dC dI p1) (va_cwS 1 hg (gi_S w_190 w_191 w_1 w_192) rfl rfl rfl (by decide +kernel) ⟨Nat.le_of_ble_eq_true rfl, Nat.le_of_ble_eq_true rfl⟩) ⟨(fun _ _ _ _ q => q), (fun _ _ _ => ⟨rfl, trivial⟩)⟩ rfl rfl hl.1 rfl (lv_room (Nat.le_of_ble_eq_true rfl)) dX0_open_38 ⟨Nat.le_of_ble_eq_true rfl, Nat.le_of_ble_eq_true rfl⟩) hS (fun q _ h => False.elim h) (fun q h => False.elim h) (fun r_38 u t H1 locs ht hvm hw_38 hB hz1 hk1 hS => ?_)
        subst hw_38
        have hP := hP.kept (fun k q hq => hk1 q.1 (hP k q hq).lt (fun h => h))
        generalize H1 = H at hP hS ⊢
        have hP : va_P (dC, dI) vwCl (ws_sl a k rd wr ay ia mo wo so oi si mi wi ns nt nf np sl hs) H := hP
        have hD : va_D A (ws_sl a k rd wr ay ia mo wo so oi si mi wi ns nt nf np sl hs) := hD
        rcases hq_41 : sl_addStep rd wr ay ia mo wo oi ns nf np (sl_reading p1) 0 (-1) (sl_costOf p1) with ⟨r_41, rd_41, wr_41, ay_41, ia_41, mo_41, wo_41, ns_41, np_41, sl_41, hs_41⟩ | E_41
        · have hFc := va_free (wc := ws_sl a k rd wr ay ia mo wo so oi si mi wi ns nt nf np sl hs) hD hS hA [0, 1, 2, 3, 4, 5, 6, 7, 8, 9, 10, 11] rfl
          refine va_calli (va_runV (As := [.long (sl_reading p1), .long 0, .int (-1), .int (sl_costOf p1)]) (rest := []) ⟨hx, hb, hml, hown, hg⟩ (cs_addStep l dC dI a k H.size rd wr ay ia mo wo so oi si mi wi ns nt nf np sl hs (sl_reading p1) 0 (-1) (sl_costOf p1) r_41 rd_41 wr_41 ay_41 ia_41 mo_41 wo_41 ns_41 np_41 sl_41 hs_41 hq_41) (cwV 4 hg (gi_V w_202 w_204 s_2 w_1 w_205) rfl rfl rfl (by decide +kernel) ⟨Nat.le_of_ble_eq_true rfl, Nat.le_of_ble_eq_true rfl⟩) ⟨pr_bl, va_recv hK hP (ci := 0) (q0 := 0) rfl rfl, pr_ok hK hP hD⟩ rfl rfl hl.1 rfl (lv_room (Nat.le_of_ble_eq_true rfl)) dX0_open_41 ⟨Nat.le_of_ble_eq_true rfl, Nat.le_of_ble_eq_true rfl⟩) hS (fun q _ h => hFc q h) hFc (fun rr u t H1 locs ht hvm hw hB hz1 hk1 hS => ?_)
          have hw := hw.symm
          subst hw
          obtain ⟨hP, hK1, hD1⟩ := hB
          rw [ht] at hP
          have hD := hD1.weaken (fun _ q _ h => hFc q.1 h)
          generalize H1 = H at hP hS ⊢
          have hP : va_P (dC, dI) vwCl (ws_sl a k rd_41 wr_41 ay_41 ia_41 mo_41 wo_41 so oi si mi wi ns_41 nt nf np_41 sl_41 hs_41) H := hP
          have hD : va_D A (ws_sl a k rd_41 wr_41 ay_41 ia_41 mo_41 wo_41 so oi si mi wi ns_41 nt nf np_41 sl_41 hs_41) := hD
          refine lv_istore_n (lv' := [(2, .int r_41), (0, .ref (a 0)), (1, .int p1)]) hx hb dX0_open_44 rfl hl (by decide) rfl (fun ls hl => ?_)
          refine lv_aload_n hx hb dX0_open_45 rfl (lv_at hl 1 rfl) ?_
          refine va_get (D := (dC, dI)) (ci := 0) (v := .ref (a 8)) (C := RX0) (T := TX0) (N := 17) hx hb hg inX0 hown hK hP 0 rfl rfl 7 (by decide) (hg _ w_26) (fun _ h9 => h9) rfl dX0_open_46 ?_
          refine lv_aload_n hx hb dX0_open_49 rfl (lv_at hl 1 rfl) ?_
          refine va_get (D := (dC, dI)) (ci := 0) (v := .int nf) (C := RX0) (T := TX0) (N := 17) hx hb hg inX0 hown hK hP 0 rfl rfl 13 (by decide) (hg _ w_32) (fun _ h9 => h9) rfl dX0_open_50 ?_
          refine lv_iload_n hx hb dX0_open_53 rfl (lv_at hl 0 rfl) ?_
          refine va_iast hx hb hK hP hD hS 8 7 rfl rfl (ix_lt c_8 c_17 (by decide)) dX0_open_54 (fun H locs hP hD hS => ?_)
          have hP : va_P (dC, dI) vwCl (ws_sl a k rd_41 wr_41 ay_41 ia_41 mo_41 wo_41 so (upd oi nf.toNatClampNeg r_41) si mi wi ns_41 nt nf np_41 sl_41 hs_41) H := hP
          have hD : va_D A (ws_sl a k rd_41 wr_41 ay_41 ia_41 mo_41 wo_41 so (upd oi nf.toNatClampNeg r_41) si mi wi ns_41 nt nf np_41 sl_41 hs_41) := hD
          refine lv_aload_n hx hb dX0_open_55 rfl (lv_at hl 1 rfl) ?_
          refine lv_dup hx hb dX0_open_56 rfl ?_
          refine va_get (D := (dC, dI)) (ci := 0) (v := .int nf) (C := RX0) (T := TX0) (N := 17) hx hb hg inX0 hown hK hP 0 rfl rfl 13 (by decide) (hg _ w_32) (fun _ h9 => h9) rfl dX0_open_57 ?_
          refine lv_iconst (v := 1) hx hb dX0_open_60 (by decide) ?_
          refine lv_iadd hx hb dX0_open_61 ?_
          refine va_put (D := (dC, dI)) (ci := 0) (v := .int (nf + 1)) (ty := .int) (C := RX0) (T := TX0) (N := 17) hx hb hg inX0 tyX0 tyX0_ok nmX0 hown hK hP hD hS 0 rfl rfl 13 (by decide) (hg _ w_32) (fun _ h9 => h9) rfl (by decide +kernel) rfl rfl (Nat.le_of_ble_eq_true rfl) dX0_open_62 (fun H locs hP hD hS => ?_)
          have hP : va_P (dC, dI) vwCl (ws_sl a k rd_41 wr_41 ay_41 ia_41 mo_41 wo_41 so (upd oi nf.toNatClampNeg r_41) si mi wi ns_41 nt (nf + 1) np_41 sl_41 hs_41) H := hP
          have hD : va_D A (ws_sl a k rd_41 wr_41 ay_41 ia_41 mo_41 wo_41 so (upd oi nf.toNatClampNeg r_41) si mi wi ns_41 nt (nf + 1) np_41 sl_41 hs_41) := hD
          refine lv_iload_n hx hb dX0_open_65 rfl (lv_at hl 0 rfl) ?_
          have hw : sl_open rd wr ay ia mo wo oi ns nf np p1 = .inl (r_41, rd_41, wr_41, ay_41, ia_41, mo_41, wo_41, upd oi nf.toNatClampNeg r_41, ns_41, nf + 1, np_41, sl_41, hs_41) := by unfold sl_open; rw [hq_1]; try dsimp only; rw [if_neg c_8, if_pos c_17, hq_41]; try dsimp only; try rfl
          have he := Sum.inl.inj (hok.symm.trans hw)
          simp only [Prod.mk.injEq] at he
          obtain ⟨e0, e1, e2, e3, e4, e5, e6, e7, e8, e9, e10, e11, e12⟩ := he
          exact W.iret (v := r_41) hx hb hr (fun t ht hW => ⟨⟨r_41, (), rfl, e0.symm, ⟨by rw [ht, e1, e2, e3, e4, e5, e6, e7, e8, e9, e10, e11, e12]; exact hP, va_K.moved hW.alike hK, by rw [e1, e2, e3, e4, e5, e6, e7, e8, e9, e10, e11, e12]; exact hD⟩⟩, hS.F ht⟩) hS.2.2 dX0_open_66
        · have hw : sl_open rd wr ay ia mo wo oi ns nf np p1 = .inr E_41 := by unfold sl_open; rw [hq_1]; try dsimp only; rw [if_neg c_8, if_pos c_17, hq_41]; try dsimp only; try rfl
          exact absurd (hw.symm.trans hok) (by intro h9; cases h9)
      · have hw : sl_open rd wr ay ia mo wo oi ns nf np p1 = .inr xIS := by unfold sl_open; rw [hq_1]; try dsimp only; rw [if_neg c_8, if_neg c_17]; try rfl
        exact absurd (hw.symm.trans hok) (by intro h9; cases h9)
  · have hw : sl_open rd wr ay ia mo wo oi ns nf np p1 = .inr E_1 := by unfold sl_open; rw [hq_1]; try dsimp only; try rfl
    exact absurd (hw.symm.trans hok) (by intro h9; cases h9)
set_option maxHeartbeats 4000000 in
set_option maxRecDepth 100000 in
theorem cs_open_x (l : Launch) (hl9 : l.stackTraces = false) (dC : Nat → ClassId) (dI : Nat → Nat → Nat) (a : Nat → Nat) (k : Nat → ClassId) (sx : Nat → Nat) (sz : Nat) (rd wr : Nat → Int64) (ay ia mo wo so oi si mi wi : Nat → Int32) (ns nt nf np sl hs : Int32) (p1 : Int32) (E9 : String) (hno : sl_open rd wr ay ia mo wo oi ns nf np p1 = .inr E9) : vx_Met l yX0_open wsX0_open ({ frames := 7, cells := 1, slots := 6, locals := 109 } : Room) (va_Pc [.ref (a 0), .int p1] (prx (dC, dI) (ws_sl a k rd wr ay ia mo wo so oi si mi wi ns nt nf np sl hs) (ty_sl k) sz sx)) (va_Qi (fun (_ : Int32) (_ : Unit) => False) (fun (_ : Unit) _ => True) (va_A (ws_sl a k rd wr ay ia mo wo so oi si mi wi ns nt nf np sl hs) sz)) (vx_X (fun _ : Unit => True) (fun E _ t => E = E9 ∧ po (dC, dI) (ws_sl a k rd wr ay ia mo wo so oi si mi wi ns nt nf np sl hs) (ty_sl k) (va_A (ws_sl a k rd wr ay ia mo wo so oi si mi wi ns nt nf np sl hs) sz) t) (va_A (ws_sl a k rd wr ay ia mo wo so oi si mi wi ns nt nf np sl hs) sz)) 1 6 (va_A (ws_sl a k rd wr ay ia mo wo so oi si mi wi ns nt nf np sl hs) sz) := by
  refine vx_ofW (cc := cX0_open) (maxL := 3) (ret := (some .int)) (by decide) rfl ?_
  intro p e s m args below meth c s₁ B hml hEx hv
  obtain ⟨rfl, ⟨hsz, hP, hK, hD0⟩, hX9⟩ := hv
  have hx := B.exec
  have hb := B.bytes
  have hr := B.returns
  have hts := atoms_spec (ws := wsX0_open) B.pre
  have hg : ∀ w ∈ gw, w.before _ s = true := fun w h => hts w (List.mem_cons_of_mem _ h)
  have hown : s.vm.findClass RX0 = some m.cls := findClass_of_methodNamed B.named
  have hlocks := B.notSynchronized
  subst hsz
  have hD := hD0.self (sz := s.heap.size)
  generalize hAe : va_A (ws_sl a k rd wr ay ia mo wo so oi si mi wi ns nt nf np sl hs) s.heap.size = A at hD hX9 ⊢
  have hA : ∀ q : Nat, s.heap.size ≤ q → A q := fun q h => by rw [← hAe]; exact Or.inr h
  clear hAe
  refine w_in (fun H locs eH eL => ?_)
  have hS : va_S A s.heap H locs := by rw [eH, eL]; exact va_S.rf
  have hP : va_P (dC, dI) vwCl (ws_sl a k rd wr ay ia mo wo so oi si mi wi ns nt nf np sl hs) H := by rw [eH]; exact hP
  clear eH eL
  have hl := lv_entry ([.ref (a 0), .int p1]) (n := 3) (Nat.le_of_ble_eq_true rfl)
  rw [lg_entry_eq]
  generalize (lg_sl ([.ref (a 0), .int p1]) ++ List.replicate (3 - (lg_sl ([.ref (a 0), .int p1])).length) Slot.unset).toArray = ls at hl ⊢
  have hl : lv_has ls 3 [(0, .ref (a 0)), (1, .int p1)] := hl
  refine lv_iload_n hx hb dX0_open_0 rfl (lv_at hl 1 rfl) ?_
  rcases hq_1 : sl_requireReadable p1 with ⟨⟩ | E_1
  · refine va_callv (va_runS (As := [.int p1]) (rest := []) ⟨hx, hb, hml, hown, hg⟩ (cs_requireReadable l dC dI p1 hq_1) (va_cwS 1 hg (gi_S w_177 w_178 w_1 w_179) rfl rfl rfl (by decide +kernel) ⟨Nat.le_of_ble_eq_true rfl, Nat.le_of_ble_eq_true rfl⟩) ⟨(fun _ _ _ _ q => q), (fun _ _ _ => ⟨rfl, trivial⟩)⟩ rfl rfl hl.1 rfl (lv_room (Nat.le_of_ble_eq_true rfl)) dX0_open_1 ⟨Nat.le_of_ble_eq_true rfl, Nat.le_of_ble_eq_true rfl⟩) hS (fun q _ h => False.elim h) (fun q h => False.elim h) (fun u t H1 locs ht hvm hw hB hz1 hk1 hS => ?_)
    have hP := hP.kept (fun k q hq => hk1 q.1 (hP k q hq).lt (fun h => h))
    generalize H1 = H at hP hS ⊢
    have hP : va_P (dC, dI) vwCl (ws_sl a k rd wr ay ia mo wo so oi si mi wi ns nt nf np sl hs) H := hP
    have hD : va_D A (ws_sl a k rd wr ay ia mo wo so oi si mi wi ns nt nf np sl hs) := hD
    refine lv_aload_n hx hb dX0_open_4 rfl (lv_at hl 0 rfl) ?_
    refine va_get (D := (dC, dI)) (ci := 0) (v := .int nf) (C := RX0) (T := TX0) (N := 17) hx hb hg inX0 hown hK hP 0 rfl rfl 13 (by decide) (hg _ w_32) (fun _ h9 => h9) rfl dX0_open_5 ?_
    refine lv_if_lt (tgt := 20) hx hb dX0_open_8 (by decide) (fun c_8 => ?_) (fun c_8 => ?_)
    · have hw : sl_open rd wr ay ia mo wo oi ns nf np p1 = .inr xIS := by unfold sl_open; rw [hq_1]; try dsimp only; rw [if_pos c_8]; try rfl
      have he := Sum.inr.inj (hno.symm.trans hw)
      exact vx_throwS (own := RX0) (cls := "java/lang/IllegalStateException") (names := ["java/lang/RuntimeException", "java/lang/Exception"]) hx hb hl9 hown (by decide +kernel) (by decide +kernel) (hg _ w_206) (hg _ w_9) (hX9.2.2.1 (103, "too many IFs are open") (by decide +kernel)) (hat_xIS_105 hg hX9) (by decide +kernel) hX9.1 hX9.2.1 hS (hl.1.trans hml.symm) dX0_open_20 dX0_open_23 dX0_open_24 dX0_open_26 dX0_open_29 (fun x hx => (hEx x hx).elim) (Nat.le_of_ble_eq_true rfl) (Nat.le_of_ble_eq_true rfl) (Nat.le_of_ble_eq_true rfl) (Nat.le_of_ble_eq_true rfl) hlocks (fun t ha hsz hk => ⟨(), trivial, ⟨he.symm, hP.kept (fun k q hq => hk q.1 (hP k q hq).lt), va_K.moved ha hK, hD⟩, Nat.le_trans hS.1 hsz, fun q h1 h2 => (hk q (Nat.lt_of_lt_of_le h1 hS.1)).trans (hS.2.1 q h1 h2)⟩) hS.2.2 (Nat.le_of_ble_eq_true rfl) (Nat.le_of_ble_eq_true rfl)
    · refine lv_aload_n hx hb dX0_open_11 rfl (lv_at hl 0 rfl) ?_
      refine va_get (D := (dC, dI)) (ci := 0) (v := .int nf) (C := RX0) (T := TX0) (N := 17) hx hb hg inX0 hown hK hP 0 rfl rfl 13 (by decide) (hg _ w_32) (fun _ h9 => h9) rfl dX0_open_12 ?_
      refine lv_bipush (v := 8) hx hb dX0_open_15 (by decide) ?_
      refine lv_icmp_lt (tgt := 30) hx hb dX0_open_17 (by decide) (fun c_17 => ?_) (fun c_17 => ?_)
      · refine lv_aload_n hx hb dX0_open_30 rfl (lv_at hl 0 rfl) ?_
        refine lv_iload_n hx hb dX0_open_31 rfl (lv_at hl 1 rfl) ?_
        refine va_calll (va_runS (As := [.int p1]) (rest := [.ref (a 0)]) ⟨hx, hb, hml, hown, hg⟩ (cs_reading l dC dI p1) (va_cwS 1 hg (gi_S w_184 w_185 w_1 w_186) rfl rfl rfl (by decide +kernel) ⟨Nat.le_of_ble_eq_true rfl, Nat.le_of_ble_eq_true rfl⟩) ⟨(fun _ _ _ _ q => q), (fun _ _ _ => ⟨rfl, trivial⟩)⟩ rfl rfl hl.1 rfl (lv_room (Nat.le_of_ble_eq_true rfl)) dX0_open_32 ⟨Nat.le_of_ble_eq_true rfl, Nat.le_of_ble_eq_true rfl⟩) hS (fun q _ h => False.elim h) (fun q h => False.elim h) (fun r_32 u t H1 locs ht hvm hw_32 hB hz1 hk1 hS => ?_)
        subst hw_32
        have hP := hP.kept (fun k q hq => hk1 q.1 (hP k q hq).lt (fun h => h))
        generalize H1 = H at hP hS ⊢
        have hP : va_P (dC, dI) vwCl (ws_sl a k rd wr ay ia mo wo so oi si mi wi ns nt nf np sl hs) H := hP
        have hD : va_D A (ws_sl a k rd wr ay ia mo wo so oi si mi wi ns nt nf np sl hs) := hD
        refine lv_lconst (v := 0) hx hb dX0_open_35 (by decide) ?_
        refine lv_iconst (v := (-1)) hx hb dX0_open_36 (by decide) ?_
        refine lv_iload_n hx hb dX0_open_37 rfl (lv_at hl 1 rfl) ?_
        refine va_calli (va_runS (As := [.int p1]) (rest := [.int (-1), .long 0, .long (sl_reading p1), .ref (a 0)]) ⟨hx, hb, hml, hown, hg⟩ (cs_costOf l dC dI p1) (va_cwS 1 hg (gi_S w_190 w_191 w_1 w_192) rfl rfl rfl (by decide +kernel) ⟨Nat.le_of_ble_eq_true rfl, Nat.le_of_ble_eq_true rfl⟩) ⟨(fun _ _ _ _ q => q), (fun _ _ _ => ⟨rfl, trivial⟩)⟩ rfl rfl hl.1 rfl (lv_room (Nat.le_of_ble_eq_true rfl)) dX0_open_38 ⟨Nat.le_of_ble_eq_true rfl, Nat.le_of_ble_eq_true rfl⟩) hS (fun q _ h => False.elim h) (fun q h => False.elim h) (fun r_38 u t H1 locs ht hvm hw_38 hB hz1 hk1 hS => ?_)
        subst hw_38
        have hP := hP.kept (fun k q hq => hk1 q.1 (hP k q hq).lt (fun h => h))
        generalize H1 = H at hP hS ⊢
        have hP : va_P (dC, dI) vwCl (ws_sl a k rd wr ay ia mo wo so oi si mi wi ns nt nf np sl hs) H := hP
        have hD : va_D A (ws_sl a k rd wr ay ia mo wo so oi si mi wi ns nt nf np sl hs) := hD
        rcases hq_41 : sl_addStep rd wr ay ia mo wo oi ns nf np (sl_reading p1) 0 (-1) (sl_costOf p1) with ⟨r_41, rd_41, wr_41, ay_41, ia_41, mo_41, wo_41, ns_41, np_41, sl_41, hs_41⟩ | E_41
        · exfalso
          have h9 := hno
          unfold sl_open at h9
          rw [hq_1] at h9
          try dsimp only at h9
          rw [if_neg c_8, if_pos c_17, hq_41] at h9
          try dsimp only at h9
          first | (cases h9; done) | ((repeat' split at h9) <;> cases h9)
        · have hFc := va_free (wc := ws_sl a k rd wr ay ia mo wo so oi si mi wi ns nt nf np sl hs) hD hS hA [0, 1, 2, 3, 4, 5, 6, 7, 8, 9, 10, 11] rfl
          refine vx_calli (vx_runV (As := [.long (sl_reading p1), .long 0, .int (-1), .int (sl_costOf p1)]) (rest := []) ⟨hx, hb, hml, hown, hg⟩ (cs_addStep_x l hl9 dC dI a k sx H.size rd wr ay ia mo wo so oi si mi wi ns nt nf np sl hs (sl_reading p1) 0 (-1) (sl_costOf p1) E_41 hq_41) (cwV 4 hg (gi_V w_202 w_204 s_2 w_1 w_205) rfl rfl rfl (by decide +kernel) ⟨Nat.le_of_ble_eq_true rfl, Nat.le_of_ble_eq_true rfl⟩) ⟨prx_bl, va_recv hK hP (ci := 0) (q0 := 0) rfl rfl, prx_ok hK hP hD hX9 hS hFc⟩ rfl rfl hl.1 rfl (lv_room (Nat.le_of_ble_eq_true rfl)) dX0_open_41 ⟨Nat.le_of_ble_eq_true rfl, Nat.le_of_ble_eq_true rfl⟩) hS (fun q _ h => hFc q h) hFc (fun q _ h => hFc q h) (fun E ce q9 u t H1 locs ht hvm hwx hB hz1 hk1 hS hce hcv hcl => ?_) (fun rr u t H1 locs ht hvm hwx hB hz1 hk1 hS => hwx.elim)
          obtain ⟨hE, hB⟩ := hB
          have hE := hE.symm
          subst hE
          obtain ⟨hP, hK1, hD1⟩ := hB
          rw [ht] at hP
          have hD := hD1.weaken (fun _ q _ h => hFc q.1 h)
          generalize H1 = H at hP hS hce ⊢
          have hP : va_P (dC, dI) vwCl (ws_sl a k rd wr ay ia mo wo so oi si mi wi ns nt nf np sl hs) H := hP
          have hD : va_D A (ws_sl a k rd wr ay ia mo wo so oi si mi wi ns nt nf np sl hs) := hD
          have hw : sl_open rd wr ay ia mo wo oi ns nf np p1 = .inr E_41 := by unfold sl_open; rw [hq_1]; try dsimp only; rw [if_neg c_8, if_pos c_17, hq_41]; try dsimp only; try rfl
          have he := Sum.inr.inj (hno.symm.trans hw)
          exact vx_out (fun x hx => (hEx x hx).elim) hlocks hce hcv hcl (fun t ht ha => ⟨(), trivial, ⟨he.symm, by rw [ht]; exact hP, va_K.moved ha hK, hD⟩, hS.F ht⟩) hS.2.2 (Nat.le_of_ble_eq_true rfl) (Nat.le_of_ble_eq_true rfl)
      · have hw : sl_open rd wr ay ia mo wo oi ns nf np p1 = .inr xIS := by unfold sl_open; rw [hq_1]; try dsimp only; rw [if_neg c_8, if_neg c_17]; try rfl
        have he := Sum.inr.inj (hno.symm.trans hw)
        exact vx_throwS (own := RX0) (cls := "java/lang/IllegalStateException") (names := ["java/lang/RuntimeException", "java/lang/Exception"]) hx hb hl9 hown (by decide +kernel) (by decide +kernel) (hg _ w_206) (hg _ w_9) (hX9.2.2.1 (103, "too many IFs are open") (by decide +kernel)) (hat_xIS_105 hg hX9) (by decide +kernel) hX9.1 hX9.2.1 hS (hl.1.trans hml.symm) dX0_open_20 dX0_open_23 dX0_open_24 dX0_open_26 dX0_open_29 (fun x hx => (hEx x hx).elim) (Nat.le_of_ble_eq_true rfl) (Nat.le_of_ble_eq_true rfl) (Nat.le_of_ble_eq_true rfl) (Nat.le_of_ble_eq_true rfl) hlocks (fun t ha hsz hk => ⟨(), trivial, ⟨he.symm, hP.kept (fun k q hq => hk q.1 (hP k q hq).lt), va_K.moved ha hK, hD⟩, Nat.le_trans hS.1 hsz, fun q h1 h2 => (hk q (Nat.lt_of_lt_of_le h1 hS.1)).trans (hS.2.1 q h1 h2)⟩) hS.2.2 (Nat.le_of_ble_eq_true rfl) (Nat.le_of_ble_eq_true rfl)
  · have hFc := va_free (wc := ([] : va_W)) hD hS hA [] rfl
    refine vx_callv (vx_runS (As := [.int p1]) (rest := []) ⟨hx, hb, hml, hown, hg⟩ (cs_requireReadable_x l hl9 dC dI sx H.size p1 E_1 hq_1) (va_cwS 1 hg (gi_S w_177 w_178 w_1 w_179) rfl rfl rfl (by decide +kernel) ⟨Nat.le_of_ble_eq_true rfl, Nat.le_of_ble_eq_true rfl⟩) ⟨prx0_bl, prx_ok0 hX9 hS hFc⟩ rfl rfl hl.1 rfl (lv_room (Nat.le_of_ble_eq_true rfl)) dX0_open_1 ⟨Nat.le_of_ble_eq_true rfl, Nat.le_of_ble_eq_true rfl⟩) hS (fun q _ h => hFc q h) hFc (fun q _ h => hFc q h) (fun E ce q9 u t H1 locs ht hvm hwx hB hz1 hk1 hS hce hcv hcl => ?_) (fun u t H1 locs ht hvm hwx hB hz1 hk1 hS => hwx.elim)
    have hB := hB.symm
    subst hB
    have hP := hP.kept (fun k q hq => hk1 q.1 (hP k q hq).lt (nA (hP k q hq).lt))
    generalize H1 = H at hP hS hce ⊢
    have hP : va_P (dC, dI) vwCl (ws_sl a k rd wr ay ia mo wo so oi si mi wi ns nt nf np sl hs) H := hP
    have hD : va_D A (ws_sl a k rd wr ay ia mo wo so oi si mi wi ns nt nf np sl hs) := hD
    have hw : sl_open rd wr ay ia mo wo oi ns nf np p1 = .inr E_1 := by unfold sl_open; rw [hq_1]; try dsimp only; try rfl
    have he := Sum.inr.inj (hno.symm.trans hw)
    exact vx_out (fun x hx => (hEx x hx).elim) hlocks hce hcv hcl (fun t ht ha => ⟨(), trivial, ⟨he.symm, by rw [ht]; exact hP, va_K.moved ha hK, hD⟩, hS.F ht⟩) hS.2.2 (Nat.le_of_ble_eq_true rfl) (Nat.le_of_ble_eq_true rfl)
set_option maxHeartbeats 4000000 in
set_option maxRecDepth 100000 in
theorem cs_close (l : Launch) (dC : Nat → ClassId) (dI : Nat → Nat → Nat) (a : Nat → Nat) (k : Nat → ClassId) (sz : Nat) (rd wr : Nat → Int64) (ay ia mo wo so oi si mi wi : Nat → Int32) (ns nt nf np sl hs : Int32)  (r' nf' : Int32) (hok : sl_close oi nf = .inl (r', nf')) : Met l yX0_close wsX0_close ({ frames := 6, cells := 0, slots := 0, locals := 82 } : Room) (va_Pc [.ref (a 0)] (pr (dC, dI) (ws_sl a k rd wr ay ia mo wo so oi si mi wi ns nt nf np sl hs) (ty_sl k) sz)) (va_Qi (fun (r : Int32) (_ : Unit) => r = r') (fun (_ : Unit) t => po (dC, dI) (ws_sl a k rd wr ay ia mo wo so oi si mi wi ns nt nf' np sl hs) (ty_sl k) (va_A (ws_sl a k rd wr ay ia mo wo so oi si mi wi ns nt nf np sl hs) sz) t) (va_A (ws_sl a k rd wr ay ia mo wo so oi si mi wi ns nt nf np sl hs) sz)) 0 0 (va_A (ws_sl a k rd wr ay ia mo wo so oi si mi wi ns nt nf np sl hs) sz) := by
  refine Met.ofW (cc := cX0_close) (maxL := 1) (ret := (some .int)) (by decide) rfl ?_
  intro p e s m args below meth c s₁ B hml hv
  obtain ⟨rfl, hsz, hP, hK, hD0⟩ := hv
  have hx := B.exec
  have hb := B.bytes
  have hr := B.returns
  have hts := atoms_spec (ws := wsX0_close) B.pre
  have hg : ∀ w ∈ gw, w.before _ s = true := fun w h => hts w (List.mem_cons_of_mem _ h)
  have hown : s.vm.findClass RX0 = some m.cls := findClass_of_methodNamed B.named
  have hlocks := B.notSynchronized
  subst hsz
  have hD := hD0.self (sz := s.heap.size)
  generalize hAe : va_A (ws_sl a k rd wr ay ia mo wo so oi si mi wi ns nt nf np sl hs) s.heap.size = A at hD ⊢
  have hA : ∀ q : Nat, s.heap.size ≤ q → A q := fun q h => by rw [← hAe]; exact Or.inr h
  clear hAe
  refine w_in (fun H locs eH eL => ?_)
  have hS : va_S A s.heap H locs := by rw [eH, eL]; exact va_S.rf
  have hP : va_P (dC, dI) vwCl (ws_sl a k rd wr ay ia mo wo so oi si mi wi ns nt nf np sl hs) H := by rw [eH]; exact hP
  clear eH eL
  have hl := lv_entry ([.ref (a 0)]) (n := 1) (Nat.le_of_ble_eq_true rfl)
  rw [lg_entry_eq]
  generalize (lg_sl ([.ref (a 0)]) ++ List.replicate (1 - (lg_sl ([.ref (a 0)])).length) Slot.unset).toArray = ls at hl ⊢
  have hl : lv_has ls 1 [(0, .ref (a 0))] := hl
  refine lv_aload_n hx hb dX0_close_0 rfl (lv_at hl 0 rfl) ?_
  refine va_get (D := (dC, dI)) (ci := 0) (v := .int nf) (C := RX0) (T := TX0) (N := 17) hx hb hg inX0 hown hK hP 0 rfl rfl 13 (by decide) (hg _ w_32) (fun _ h9 => h9) rfl dX0_close_1 ?_
  refine lv_iconst (v := 1) hx hb dX0_close_4 (by decide) ?_
  refine lv_icmp_lt (tgt := 17) hx hb dX0_close_5 (by decide) (fun c_5 => ?_) (fun c_5 => ?_)
  · have hw : sl_close oi nf = .inr xIS := by unfold sl_close; rw [if_pos c_5]; try rfl
    exact absurd (hw.symm.trans hok) (by intro h9; cases h9)
  · refine lv_aload_n hx hb dX0_close_8 rfl (lv_at hl 0 rfl) ?_
    refine va_get (D := (dC, dI)) (ci := 0) (v := .int nf) (C := RX0) (T := TX0) (N := 17) hx hb hg inX0 hown hK hP 0 rfl rfl 13 (by decide) (hg _ w_32) (fun _ h9 => h9) rfl dX0_close_9 ?_
    refine lv_bipush (v := 8) hx hb dX0_close_12 (by decide) ?_
    refine lv_icmp_le (tgt := 27) hx hb dX0_close_14 (by decide) (fun c_14 => ?_) (fun c_14 => ?_)
    · refine lv_aload_n hx hb dX0_close_27 rfl (lv_at hl 0 rfl) ?_
      refine lv_dup hx hb dX0_close_28 rfl ?_
      refine va_get (D := (dC, dI)) (ci := 0) (v := .int nf) (C := RX0) (T := TX0) (N := 17) hx hb hg inX0 hown hK hP 0 rfl rfl 13 (by decide) (hg _ w_32) (fun _ h9 => h9) rfl dX0_close_29 ?_
      refine lv_iconst (v := 1) hx hb dX0_close_32 (by decide) ?_
      refine lv_isub hx hb dX0_close_33 ?_
      refine va_put (D := (dC, dI)) (ci := 0) (v := .int (nf - 1)) (ty := .int) (C := RX0) (T := TX0) (N := 17) hx hb hg inX0 tyX0 tyX0_ok nmX0 hown hK hP hD hS 0 rfl rfl 13 (by decide) (hg _ w_32) (fun _ h9 => h9) rfl (by decide +kernel) rfl rfl (Nat.le_of_ble_eq_true rfl) dX0_close_34 (fun H locs hP hD hS => ?_)
      have hP : va_P (dC, dI) vwCl (ws_sl a k rd wr ay ia mo wo so oi si mi wi ns nt (nf - 1) np sl hs) H := hP
      have hD : va_D A (ws_sl a k rd wr ay ia mo wo so oi si mi wi ns nt (nf - 1) np sl hs) := hD
      refine lv_aload_n hx hb dX0_close_37 rfl (lv_at hl 0 rfl) ?_
      refine va_get (D := (dC, dI)) (ci := 0) (v := .ref (a 8)) (C := RX0) (T := TX0) (N := 17) hx hb hg inX0 hown hK hP 0 rfl rfl 7 (by decide) (hg _ w_26) (fun _ h9 => h9) rfl dX0_close_38 ?_
      refine lv_aload_n hx hb dX0_close_41 rfl (lv_at hl 0 rfl) ?_
      refine va_get (D := (dC, dI)) (ci := 0) (v := .int (nf - 1)) (C := RX0) (T := TX0) (N := 17) hx hb hg inX0 hown hK hP 0 rfl rfl 13 (by decide) (hg _ w_32) (fun _ h9 => h9) rfl dX0_close_42 ?_
      refine va_iald hx hb hK hP 8 7 rfl rfl (ix_m2 c_5 c_14) dX0_close_45 ?_
      have hw : sl_close oi nf = .inl (oi (nf - 1).toNatClampNeg, nf - 1) := by unfold sl_close; rw [if_neg c_5, if_pos c_14]; try rfl
      have he := Sum.inl.inj (hok.symm.trans hw)
      simp only [Prod.mk.injEq] at he
      obtain ⟨e0, e1⟩ := he
      exact W.iret (v := oi (nf - 1).toNatClampNeg) hx hb hr (fun t ht hW => ⟨⟨(oi (nf - 1).toNatClampNeg), (), rfl, e0.symm, ⟨by rw [ht, e1]; exact hP, va_K.moved hW.alike hK, by rw [e1]; exact hD⟩⟩, hS.F ht⟩) hS.2.2 dX0_close_46
    · have hw : sl_close oi nf = .inr xIS := by unfold sl_close; rw [if_neg c_5, if_neg c_14]; try rfl
      exact absurd (hw.symm.trans hok) (by intro h9; cases h9)
set_option maxHeartbeats 4000000 in
set_option maxRecDepth 100000 in
theorem cs_close_x (l : Launch) (hl9 : l.stackTraces = false) (dC : Nat → ClassId) (dI : Nat → Nat → Nat) (a : Nat → Nat) (k : Nat → ClassId) (sx : Nat → Nat) (sz : Nat) (rd wr : Nat → Int64) (ay ia mo wo so oi si mi wi : Nat → Int32) (ns nt nf np sl hs : Int32)  (E9 : String) (hno : sl_close oi nf = .inr E9) : vx_Met l yX0_close wsX0_close ({ frames := 6, cells := 1, slots := 6, locals := 82 } : Room) (va_Pc [.ref (a 0)] (prx (dC, dI) (ws_sl a k rd wr ay ia mo wo so oi si mi wi ns nt nf np sl hs) (ty_sl k) sz sx)) (va_Qi (fun (_ : Int32) (_ : Unit) => False) (fun (_ : Unit) _ => True) (va_A (ws_sl a k rd wr ay ia mo wo so oi si mi wi ns nt nf np sl hs) sz)) (vx_X (fun _ : Unit => True) (fun E _ t => E = E9 ∧ po (dC, dI) (ws_sl a k rd wr ay ia mo wo so oi si mi wi ns nt nf np sl hs) (ty_sl k) (va_A (ws_sl a k rd wr ay ia mo wo so oi si mi wi ns nt nf np sl hs) sz) t) (va_A (ws_sl a k rd wr ay ia mo wo so oi si mi wi ns nt nf np sl hs) sz)) 1 6 (va_A (ws_sl a k rd wr ay ia mo wo so oi si mi wi ns nt nf np sl hs) sz) := by
  refine vx_ofW (cc := cX0_close) (maxL := 1) (ret := (some .int)) (by decide) rfl ?_
  intro p e s m args below meth c s₁ B hml hEx hv
  obtain ⟨rfl, ⟨hsz, hP, hK, hD0⟩, hX9⟩ := hv
  have hx := B.exec
  have hb := B.bytes
  have hr := B.returns
  have hts := atoms_spec (ws := wsX0_close) B.pre
  have hg : ∀ w ∈ gw, w.before _ s = true := fun w h => hts w (List.mem_cons_of_mem _ h)
  have hown : s.vm.findClass RX0 = some m.cls := findClass_of_methodNamed B.named
  have hlocks := B.notSynchronized
  subst hsz
  have hD := hD0.self (sz := s.heap.size)
  generalize hAe : va_A (ws_sl a k rd wr ay ia mo wo so oi si mi wi ns nt nf np sl hs) s.heap.size = A at hD hX9 ⊢
  have hA : ∀ q : Nat, s.heap.size ≤ q → A q := fun q h => by rw [← hAe]; exact Or.inr h
  clear hAe
  refine w_in (fun H locs eH eL => ?_)
  have hS : va_S A s.heap H locs := by rw [eH, eL]; exact va_S.rf
  have hP : va_P (dC, dI) vwCl (ws_sl a k rd wr ay ia mo wo so oi si mi wi ns nt nf np sl hs) H := by rw [eH]; exact hP
  clear eH eL
  have hl := lv_entry ([.ref (a 0)]) (n := 1) (Nat.le_of_ble_eq_true rfl)
  rw [lg_entry_eq]
  generalize (lg_sl ([.ref (a 0)]) ++ List.replicate (1 - (lg_sl ([.ref (a 0)])).length) Slot.unset).toArray = ls at hl ⊢
  have hl : lv_has ls 1 [(0, .ref (a 0))] := hl
  refine lv_aload_n hx hb dX0_close_0 rfl (lv_at hl 0 rfl) ?_
  refine va_get (D := (dC, dI)) (ci := 0) (v := .int nf) (C := RX0) (T := TX0) (N := 17) hx hb hg inX0 hown hK hP 0 rfl rfl 13 (by decide) (hg _ w_32) (fun _ h9 => h9) rfl dX0_close_1 ?_
  refine lv_iconst (v := 1) hx hb dX0_close_4 (by decide) ?_
  refine lv_icmp_lt (tgt := 17) hx hb dX0_close_5 (by decide) (fun c_5 => ?_) (fun c_5 => ?_)
  · have hw : sl_close oi nf = .inr xIS := by unfold sl_close; rw [if_pos c_5]; try rfl
    have he := Sum.inr.inj (hno.symm.trans hw)
    exact vx_throwS (own := RX0) (cls := "java/lang/IllegalStateException") (names := ["java/lang/RuntimeException", "java/lang/Exception"]) hx hb hl9 hown (by decide +kernel) (by decide +kernel) (hg _ w_206) (hg _ w_9) (hX9.2.2.1 (106, "no IF is open") (by decide +kernel)) (hat_xIS_105 hg hX9) (by decide +kernel) hX9.1 hX9.2.1 hS (hl.1.trans hml.symm) dX0_close_17 dX0_close_20 dX0_close_21 dX0_close_23 dX0_close_26 (fun x hx => (hEx x hx).elim) (Nat.le_of_ble_eq_true rfl) (Nat.le_of_ble_eq_true rfl) (Nat.le_of_ble_eq_true rfl) (Nat.le_of_ble_eq_true rfl) hlocks (fun t ha hsz hk => ⟨(), trivial, ⟨he.symm, hP.kept (fun k q hq => hk q.1 (hP k q hq).lt), va_K.moved ha hK, hD⟩, Nat.le_trans hS.1 hsz, fun q h1 h2 => (hk q (Nat.lt_of_lt_of_le h1 hS.1)).trans (hS.2.1 q h1 h2)⟩) hS.2.2 (Nat.le_of_ble_eq_true rfl) (Nat.le_of_ble_eq_true rfl)
  · refine lv_aload_n hx hb dX0_close_8 rfl (lv_at hl 0 rfl) ?_
    refine va_get (D := (dC, dI)) (ci := 0) (v := .int nf) (C := RX0) (T := TX0) (N := 17) hx hb hg inX0 hown hK hP 0 rfl rfl 13 (by decide) (hg _ w_32) (fun _ h9 => h9) rfl dX0_close_9 ?_
    refine lv_bipush (v := 8) hx hb dX0_close_12 (by decide) ?_
    refine lv_icmp_le (tgt := 27) hx hb dX0_close_14 (by decide) (fun c_14 => ?_) (fun c_14 => ?_)
    · exfalso
      have h9 := hno
      unfold sl_close at h9
      rw [if_neg c_5, if_pos c_14] at h9
      first | (cases h9; done) | ((repeat' split at h9) <;> cases h9)
    · have hw : sl_close oi nf = .inr xIS := by unfold sl_close; rw [if_neg c_5, if_neg c_14]; try rfl
      have he := Sum.inr.inj (hno.symm.trans hw)
      exact vx_throwS (own := RX0) (cls := "java/lang/IllegalStateException") (names := ["java/lang/RuntimeException", "java/lang/Exception"]) hx hb hl9 hown (by decide +kernel) (by decide +kernel) (hg _ w_206) (hg _ w_9) (hX9.2.2.1 (106, "no IF is open") (by decide +kernel)) (hat_xIS_105 hg hX9) (by decide +kernel) hX9.1 hX9.2.1 hS (hl.1.trans hml.symm) dX0_close_17 dX0_close_20 dX0_close_21 dX0_close_23 dX0_close_26 (fun x hx => (hEx x hx).elim) (Nat.le_of_ble_eq_true rfl) (Nat.le_of_ble_eq_true rfl) (Nat.le_of_ble_eq_true rfl) (Nat.le_of_ble_eq_true rfl) hlocks (fun t ha hsz hk => ⟨(), trivial, ⟨he.symm, hP.kept (fun k q hq => hk q.1 (hP k q hq).lt), va_K.moved ha hK, hD⟩, Nat.le_trans hS.1 hsz, fun q h1 h2 => (hk q (Nat.lt_of_lt_of_le h1 hS.1)).trans (hS.2.1 q h1 h2)⟩) hS.2.2 (Nat.le_of_ble_eq_true rfl) (Nat.le_of_ble_eq_true rfl)
set_option maxHeartbeats 4000000 in
set_option maxRecDepth 100000 in
theorem cs_apply (l : Launch) (dC : Nat → ClassId) (dI : Nat → Nat → Nat) (a : Nat → Nat) (k : Nat → ClassId) (sz : Nat) (rd wr : Nat → Int64) (ay ia mo wo so oi si mi wi : Nat → Int32) (ns nt nf np sl hs : Int32) (p1 p2 p3 : Int32) (r' : Int32) (rd' wr' : Nat → Int64) (ay' ia' mo' wo' : Nat → Int32) (ns' nt' np' sl' hs' : Int32) (hok : sl_apply rd wr ay ia mo wo oi ns nt nf np p1 p2 p3 = .inl (r', rd', wr', ay', ia', mo', wo', ns', nt', np', sl', hs')) : Met l yX0_apply wsX0_apply ({ frames := 7, cells := 0, slots := 0, locals := 109 } : Room) (va_Pc [.ref (a 0), .int p1, .int p2, .int p3] (pr (dC, dI) (ws_sl a k rd wr ay ia mo wo so oi si mi wi ns nt nf np sl hs) (ty_sl k) sz)) (va_Qi (fun (r : Int32) (_ : Unit) => r = r') (fun (_ : Unit) t => po (dC, dI) (ws_sl a k rd' wr' ay' ia' mo' wo' so oi si mi wi ns' nt' nf np' sl' hs') (ty_sl k) (va_A (ws_sl a k rd wr ay ia mo wo so oi si mi wi ns nt nf np sl hs) sz) t) (va_A (ws_sl a k rd wr ay ia mo wo so oi si mi wi ns nt nf np sl hs) sz)) 0 0 (va_A (ws_sl a k rd wr ay ia mo wo so oi si mi wi ns nt nf np sl hs) sz) := by
  refine Met.ofW (cc := cX0_apply) (maxL := 7) (ret := (some .int)) (by decide) rfl ?_
  intro p e s m args below meth c s₁ B hml hv
  obtain ⟨rfl, hsz, hP, hK, hD0⟩ := hv
  have hx := B.exec
  have hb := B.bytes
  have hr := B.returns
  have hts := atoms_spec (ws := wsX0_apply) B.pre
  have hg : ∀ w ∈ gw, w.before _ s = true := fun w h => hts w (List.mem_cons_of_mem _ h)
  have hown : s.vm.findClass RX0 = some m.cls := findClass_of_methodNamed B.named
  have hlocks := B.notSynchronized
  subst hsz
  have hD := hD0.self (sz := s.heap.size)
  generalize hAe : va_A (ws_sl a k rd wr ay ia mo wo so oi si mi wi ns nt nf np sl hs) s.heap.size = A at hD ⊢
  have hA : ∀ q : Nat, s.heap.size ≤ q → A q := fun q h => by rw [← hAe]; exact Or.inr h
  clear hAe
  refine w_in (fun H locs eH eL => ?_)
  have hS : va_S A s.heap H locs := by rw [eH, eL]; exact va_S.rf
  have hP : va_P (dC, dI) vwCl (ws_sl a k rd wr ay ia mo wo so oi si mi wi ns nt nf np sl hs) H := by rw [eH]; exact hP
  clear eH eL
  have hl := lv_entry ([.ref (a 0), .int p1, .int p2, .int p3]) (n := 7) (Nat.le_of_ble_eq_true rfl)
  rw [lg_entry_eq]
  generalize (lg_sl ([.ref (a 0), .int p1, .int p2, .int p3]) ++ List.replicate (7 - (lg_sl ([.ref (a 0), .int p1, .int p2, .int p3])).length) Slot.unset).toArray = ls at hl ⊢
  have hl : lv_has ls 7 [(0, .ref (a 0)), (1, .int p1), (2, .int p2), (3, .int p3)] := hl
  refine lv_iload_n hx hb dX0_apply_0 rfl (lv_at hl 3 rfl) ?_
  rcases hq_1 : sl_requirePlace p3 with ⟨⟩ | E_1
  · refine va_callv (va_runS (As := [.int p3]) (rest := []) ⟨hx, hb, hml, hown, hg⟩ (cs_requirePlace l dC dI p3 hq_1) (va_cwS 1 hg (gi_S w_106 w_107 w_1 w_108) rfl rfl rfl (by decide +kernel) ⟨Nat.le_of_ble_eq_true rfl, Nat.le_of_ble_eq_true rfl⟩) ⟨(fun _ _ _ _ q => q), (fun _ _ _ => ⟨rfl, trivial⟩)⟩ rfl rfl hl.1 rfl (lv_room (Nat.le_of_ble_eq_true rfl)) dX0_apply_1 ⟨Nat.le_of_ble_eq_true rfl, Nat.le_of_ble_eq_true rfl⟩) hS (fun q _ h => False.elim h) (fun q h => False.elim h) (fun u t H1 locs ht hvm hw hB hz1 hk1 hS => ?_)
    have hP := hP.kept (fun k q hq => hk1 q.1 (hP k q hq).lt (fun h => h))
    generalize H1 = H at hP hS ⊢
    have hP : va_P (dC, dI) vwCl (ws_sl a k rd wr ay ia mo wo so oi si mi wi ns nt nf np sl hs) H := hP
    have hD : va_D A (ws_sl a k rd wr ay ia mo wo so oi si mi wi ns nt nf np sl hs) := hD
    refine lv_iload_n hx hb dX0_apply_4 rfl (lv_at hl 1 rfl) ?_
    rcases hq_5 : sl_requireReadable p1 with ⟨⟩ | E_5
    · refine va_callv (va_runS (As := [.int p1]) (rest := []) ⟨hx, hb, hml, hown, hg⟩ (cs_requireReadable l dC dI p1 hq_5) (va_cwS 1 hg (gi_S w_177 w_178 w_1 w_179) rfl rfl rfl (by decide +kernel) ⟨Nat.le_of_ble_eq_true rfl, Nat.le_of_ble_eq_true rfl⟩) ⟨(fun _ _ _ _ q => q), (fun _ _ _ => ⟨rfl, trivial⟩)⟩ rfl rfl hl.1 rfl (lv_room (Nat.le_of_ble_eq_true rfl)) dX0_apply_5 ⟨Nat.le_of_ble_eq_true rfl, Nat.le_of_ble_eq_true rfl⟩) hS (fun q _ h => False.elim h) (fun q h => False.elim h) (fun u t H1 locs ht hvm hw hB hz1 hk1 hS => ?_)
      have hP := hP.kept (fun k q hq => hk1 q.1 (hP k q hq).lt (fun h => h))
      generalize H1 = H at hP hS ⊢
      have hP : va_P (dC, dI) vwCl (ws_sl a k rd wr ay ia mo wo so oi si mi wi ns nt nf np sl hs) H := hP
      have hD : va_D A (ws_sl a k rd wr ay ia mo wo so oi si mi wi ns nt nf np sl hs) := hD
      refine lv_iload_n hx hb dX0_apply_8 rfl (lv_at hl 1 rfl) ?_
      refine va_calli (va_runS (As := [.int p1]) (rest := []) ⟨hx, hb, hml, hown, hg⟩ (ci_count l dC dI p1) (va_cwS 1 hg (gi_S w_193 w_194 w_7 w_195) rfl rfl rfl (by decide +kernel) ⟨Nat.le_of_ble_eq_true rfl, Nat.le_of_ble_eq_true rfl⟩) ⟨(fun _ _ _ _ q => q), (fun _ _ _ => ⟨rfl, trivial⟩)⟩ rfl rfl hl.1 rfl (lv_room (Nat.le_of_ble_eq_true rfl)) dX0_apply_9 ⟨Nat.le_of_ble_eq_true rfl, Nat.le_of_ble_eq_true rfl⟩) hS (fun q _ h => False.elim h) (fun q h => False.elim h) (fun r_9 u t H1 locs ht hvm hw_9 hB hz1 hk1 hS => ?_)
      subst hw_9
      have hP := hP.kept (fun k q hq => hk1 q.1 (hP k q hq).lt (fun h => h))
      generalize H1 = H at hP hS ⊢
      have hP : va_P (dC, dI) vwCl (ws_sl a k rd wr ay ia mo wo so oi si mi wi ns nt nf np sl hs) H := hP
      have hD : va_D A (ws_sl a k rd wr ay ia mo wo so oi si mi wi ns nt nf np sl hs) := hD
      refine lv_istore (lv' := [(4, .int (ib_count p1)), (0, .ref (a 0)), (1, .int p1), (2, .int p2), (3, .int p3)]) hx hb dX0_apply_12 hl (by decide) rfl (fun ls hl => ?_)
      refine lv_iload_n hx hb dX0_apply_14 rfl (lv_at hl 3 rfl) ?_
      refine lv_iconst (v := 1) hx hb dX0_apply_15 (by decide) ?_
      refine lv_icmp_lt (tgt := 25) hx hb dX0_apply_16 (by decide) (fun c_16 => ?_) (fun c_16 => ?_)
      · have hw : sl_apply rd wr ay ia mo wo oi ns nt nf np p1 p2 p3 = .inr xIA := by unfold sl_apply; rw [hq_1]; try dsimp only; rw [hq_5]; try dsimp only; rw [if_pos c_16]; try rfl
        exact absurd (hw.symm.trans hok) (by intro h9; cases h9)
      · refine lv_iload_n hx hb dX0_apply_19 rfl (lv_at hl 3 rfl) ?_
        refine lv_bipush (v := 32) hx hb dX0_apply_20 (by decide) ?_
        refine lv_icmp_le (tgt := 35) hx hb dX0_apply_22 (by decide) (fun c_22 => ?_) (fun c_22 => ?_)
        · refine lv_iload hx hb dX0_apply_35 (lv_at hl 0 rfl) ?_
          refine lv_iconst (v := 1) hx hb dX0_apply_37 (by decide) ?_
          refine lv_icmp_lt (tgt := 47) hx hb dX0_apply_38 (by decide) (fun c_38 => ?_) (fun c_38 => ?_)
          · have hw : sl_apply rd wr ay ia mo wo oi ns nt nf np p1 p2 p3 = .inr xIA := by unfold sl_apply; rw [hq_1]; try dsimp only; rw [hq_5]; try dsimp only; rw [if_neg c_16, if_pos c_22, if_pos c_38]; try rfl
            exact absurd (hw.symm.trans hok) (by intro h9; cases h9)
          · refine lv_iload hx hb dX0_apply_41 (lv_at hl 0 rfl) ?_
            refine lv_iconst (v := 4) hx hb dX0_apply_43 (by decide) ?_
            refine lv_icmp_le (tgt := 57) hx hb dX0_apply_44 (by decide) (fun c_44 => ?_) (fun c_44 => ?_)
            · refine lv_aload_n hx hb dX0_apply_57 rfl (lv_at hl 1 rfl) ?_
              refine va_get (D := (dC, dI)) (ci := 0) (v := .int nt) (C := RX0) (T := TX0) (N := 17) hx hb hg inX0 hown hK hP 0 rfl rfl 12 (by decide) (hg _ w_31) (fun _ h9 => h9) rfl dX0_apply_58 ?_
              refine lv_bipush (v := 8) hx hb dX0_apply_61 (by decide) ?_
              refine lv_icmp_lt (tgt := 76) hx hb dX0_apply_63 (by decide) (fun c_63 => ?_) (fun c_63 => ?_)
              · refine lv_iload_n hx hb dX0_apply_76 rfl (lv_at hl 2 rfl) ?_
                refine va_calli (va_runS (As := [.int p1]) (rest := []) ⟨hx, hb, hml, hown, hg⟩ (cs_costOf l dC dI p1) (va_cwS 1 hg (gi_S w_190 w_191 w_1 w_192) rfl rfl rfl (by decide +kernel) ⟨Nat.le_of_ble_eq_true rfl, Nat.le_of_ble_eq_true rfl⟩) ⟨(fun _ _ _ _ q => q), (fun _ _ _ => ⟨rfl, trivial⟩)⟩ rfl rfl hl.1 rfl (lv_room (Nat.le_of_ble_eq_true rfl)) dX0_apply_77 ⟨Nat.le_of_ble_eq_true rfl, Nat.le_of_ble_eq_true rfl⟩) hS (fun q _ h => False.elim h) (fun q h => False.elim h) (fun r_77 u t H1 locs ht hvm hw_77 hB hz1 hk1 hS => ?_)
                subst hw_77
                have hP := hP.kept (fun k q hq => hk1 q.1 (hP k q hq).lt (fun h => h))
                generalize H1 = H at hP hS ⊢
                have hP : va_P (dC, dI) vwCl (ws_sl a k rd wr ay ia mo wo so oi si mi wi ns nt nf np sl hs) H := hP
                have hD : va_D A (ws_sl a k rd wr ay ia mo wo so oi si mi wi ns nt nf np sl hs) := hD
                refine lv_iconst (v := 0) hx hb dX0_apply_80 (by decide) ?_
                refine va_calli (va_runS (As := [.int 0]) (rest := [.int (sl_costOf p1)]) ⟨hx, hb, hml, hown, hg⟩ (cs_costOf l dC dI 0) (va_cwS 1 hg (gi_S w_190 w_191 w_1 w_192) rfl rfl rfl (by decide +kernel) ⟨Nat.le_of_ble_eq_true rfl, Nat.le_of_ble_eq_true rfl⟩) ⟨(fun _ _ _ _ q => q), (fun _ _ _ => ⟨rfl, trivial⟩)⟩ rfl rfl hl.1 rfl (lv_room (Nat.le_of_ble_eq_true rfl)) dX0_apply_81 ⟨Nat.le_of_ble_eq_true rfl, Nat.le_of_ble_eq_true rfl⟩) hS (fun q _ h => False.elim h) (fun q h => False.elim h) (fun r_81 u t H1 locs ht hvm hw_81 hB hz1 hk1 hS => ?_)
                subst hw_81
                have hP := hP.kept (fun k q hq => hk1 q.1 (hP k q hq).lt (fun h => h))
                generalize H1 = H at hP hS ⊢
                have hP : va_P (dC, dI) vwCl (ws_sl a k rd wr ay ia mo wo so oi si mi wi ns nt nf np sl hs) H := hP
                have hD : va_D A (ws_sl a k rd wr ay ia mo wo so oi si mi wi ns nt nf np sl hs) := hD
                refine lv_iadd hx hb dX0_apply_84 ?_
                refine lv_istore (lv' := [(5, .int ((sl_costOf p1) + (sl_costOf 0))), (4, .int (ib_count p1)), (0, .ref (a 0)), (1, .int p1), (2, .int p2), (3, .int p3)]) hx hb dX0_apply_85 hl (by decide) rfl (fun ls hl => ?_)
                refine lv_aload_n hx hb dX0_apply_87 rfl (lv_at hl 2 rfl) ?_
                refine lv_iload_n hx hb dX0_apply_88 rfl (lv_at hl 3 rfl) ?_
                refine lv_iload_n hx hb dX0_apply_89 rfl (lv_at hl 5 rfl) ?_
                refine va_calll (va_runS (As := [.int p1, .int p3]) (rest := [.ref (a 0)]) ⟨hx, hb, hml, hown, hg⟩ (cs_readingAndWriting l dC dI p1 p3) (va_cwS 2 hg (gi_S w_181 w_182 w_1 w_183) rfl rfl rfl (by decide +kernel) ⟨Nat.le_of_ble_eq_true rfl, Nat.le_of_ble_eq_true rfl⟩) ⟨(fun _ _ _ _ q => q), (fun _ _ _ => ⟨rfl, trivial⟩)⟩ rfl rfl hl.1 rfl (lv_room (Nat.le_of_ble_eq_true rfl)) dX0_apply_90 ⟨Nat.le_of_ble_eq_true rfl, Nat.le_of_ble_eq_true rfl⟩) hS (fun q _ h => False.elim h) (fun q h => False.elim h) (fun r_90 u t H1 locs ht hvm hw_90 hB hz1 hk1 hS => ?_)
                subst hw_90
                have hP := hP.kept (fun k q hq => hk1 q.1 (hP k q hq).lt (fun h => h))
                generalize H1 = H at hP hS ⊢
                have hP : va_P (dC, dI) vwCl (ws_sl a k rd wr ay ia mo wo so oi si mi wi ns nt nf np sl hs) H := hP
                have hD : va_D A (ws_sl a k rd wr ay ia mo wo so oi si mi wi ns nt nf np sl hs) := hD
                refine lv_lconst (v := 1) hx hb dX0_apply_93 (by decide) ?_
                refine lv_iload_n hx hb dX0_apply_94 rfl (lv_at hl 5 rfl) ?_
                refine lv_lshl (v := jl 1 p3) hx hb dX0_apply_95 rfl ?_
                refine lv_iconst (v := (-1)) hx hb dX0_apply_96 (by decide) ?_
                refine lv_iload hx hb dX0_apply_97 (lv_at hl 0 rfl) ?_
                rcases hq_99 : sl_addStep rd wr ay ia mo wo oi ns nf np (sl_readingAndWriting p1 p3) (jl 1 p3) (-1) ((sl_costOf p1) + (sl_costOf 0)) with ⟨r_99, rd_99, wr_99, ay_99, ia_99, mo_99, wo_99, ns_99, np_99, sl_99, hs_99⟩ | E_99
                · have hFc := va_free (wc := ws_sl a k rd wr ay ia mo wo so oi si mi wi ns nt nf np sl hs) hD hS hA [0, 1, 2, 3, 4, 5, 6, 7, 8, 9, 10, 11] rfl
                  refine va_calli (va_runV (As := [.long (sl_readingAndWriting p1 p3), .long (jl 1 p3), .int (-1), .int ((sl_costOf p1) + (sl_costOf 0))]) (rest := []) ⟨hx, hb, hml, hown, hg⟩ (cs_addStep l dC dI a k H.size rd wr ay ia mo wo so oi si mi wi ns nt nf np sl hs (sl_readingAndWriting p1 p3) (jl 1 p3) (-1) ((sl_costOf p1) + (sl_costOf 0)) r_99 rd_99 wr_99 ay_99 ia_99 mo_99 wo_99 ns_99 np_99 sl_99 hs_99 hq_99) (cwV 4 hg (gi_V w_202 w_204 s_2 w_1 w_205) rfl rfl rfl (by decide +kernel) ⟨Nat.le_of_ble_eq_true rfl, Nat.le_of_ble_eq_true rfl⟩) ⟨pr_bl, va_recv hK hP (ci := 0) (q0 := 0) rfl rfl, pr_ok hK hP hD⟩ rfl rfl hl.1 rfl (lv_room (Nat.le_of_ble_eq_true rfl)) dX0_apply_99 ⟨Nat.le_of_ble_eq_true rfl, Nat.le_of_ble_eq_true rfl⟩) hS (fun q _ h => hFc q h) hFc (fun rr u t H1 locs ht hvm hw hB hz1 hk1 hS => ?_)
                  have hw := hw.symm
                  subst hw
                  obtain ⟨hP, hK1, hD1⟩ := hB
                  rw [ht] at hP
                  have hD := hD1.weaken (fun _ q _ h => hFc q.1 h)
                  generalize H1 = H at hP hS ⊢
                  have hP : va_P (dC, dI) vwCl (ws_sl a k rd_99 wr_99 ay_99 ia_99 mo_99 wo_99 so oi si mi wi ns_99 nt nf np_99 sl_99 hs_99) H := hP
                  have hD : va_D A (ws_sl a k rd_99 wr_99 ay_99 ia_99 mo_99 wo_99 so oi si mi wi ns_99 nt nf np_99 sl_99 hs_99) := hD
                  refine lv_istore (lv' := [(6, .int r_99), (5, .int ((sl_costOf p1) + (sl_costOf 0))), (4, .int (ib_count p1)), (0, .ref (a 0)), (1, .int p1), (2, .int p2), (3, .int p3)]) hx hb dX0_apply_102 hl (by decide) rfl (fun ls hl => ?_)
                  refine lv_aload_n hx hb dX0_apply_104 rfl (lv_at hl 3 rfl) ?_
                  refine lv_iload hx hb dX0_apply_105 (lv_at hl 0 rfl) ?_
                  refine lv_iload_n hx hb dX0_apply_107 rfl (lv_at hl 5 rfl) ?_
                  refine lv_bipush (v := 16) hx hb dX0_apply_108 (by decide) ?_
                  refine lv_iload hx hb dX0_apply_110 (lv_at hl 2 rfl) ?_
                  refine lv_imul hx hb dX0_apply_112 ?_
                  refine lv_bipush (v := 8) hx hb dX0_apply_113 (by decide) ?_
                  refine lv_iadd hx hb dX0_apply_115 ?_
                  refine lv_imul hx hb dX0_apply_116 ?_
                  refine lv_bipush (v := 8) hx hb dX0_apply_117 (by decide) ?_
                  refine lv_iload hx hb dX0_apply_119 (lv_at hl 2 rfl) ?_
                  refine lv_imul hx hb dX0_apply_121 ?_
                  have hFc := va_free (wc := ws_sl a k rd_99 wr_99 ay_99 ia_99 mo_99 wo_99 so oi si mi wi ns_99 nt nf np_99 sl_99 hs_99) hD hS hA [0, 1, 2, 3, 4, 5, 6, 7, 8, 9, 10, 11] rfl
                  refine va_callv (va_runV (As := [.int r_99, .int (p2 * ((16 * (ib_count p1)) + 8)), .int (8 * (ib_count p1))]) (rest := []) ⟨hx, hb, hml, hown, hg⟩ (cs_need l dC dI a k H.size rd_99 wr_99 ay_99 ia_99 mo_99 wo_99 so oi si mi wi ns_99 nt nf np_99 sl_99 hs_99 r_99 (p2 * ((16 * (ib_count p1)) + 8)) (8 * (ib_count p1))) (cwV 3 hg (gi_V w_227 w_229 s_4 w_1 w_230) rfl rfl rfl (by decide +kernel) ⟨Nat.le_of_ble_eq_true rfl, Nat.le_of_ble_eq_true rfl⟩) ⟨pr_bl, va_recv hK hP (ci := 0) (q0 := 0) rfl rfl, pr_ok hK hP hD⟩ rfl rfl hl.1 rfl (lv_room (Nat.le_of_ble_eq_true rfl)) dX0_apply_122 ⟨Nat.le_of_ble_eq_true rfl, Nat.le_of_ble_eq_true rfl⟩) hS (fun q _ h => hFc q h) hFc (fun u t H1 locs ht hvm hw_122 hB hz1 hk1 hS => ?_)
                  obtain ⟨mo_122, wo_122⟩ := u
                  obtain ⟨hP, hK1, hD1⟩ := hB
                  rw [ht] at hP
                  have hD := hD1.weaken (fun _ q _ h => hFc q.1 h)
                  generalize H1 = H at hP hS ⊢
                  have hP : va_P (dC, dI) vwCl (ws_sl a k rd_99 wr_99 ay_99 ia_99 mo_122 wo_122 so oi si mi wi ns_99 nt nf np_99 sl_99 hs_99) H := hP
                  have hD : va_D A (ws_sl a k rd_99 wr_99 ay_99 ia_99 mo_122 wo_122 so oi si mi wi ns_99 nt nf np_99 sl_99 hs_99) := hD
                  refine lv_aload_n hx hb dX0_apply_125 rfl (lv_at hl 3 rfl) ?_
                  refine lv_dup hx hb dX0_apply_126 rfl ?_
                  refine va_get (D := (dC, dI)) (ci := 0) (v := .int nt) (C := RX0) (T := TX0) (N := 17) hx hb hg inX0 hown hK hP 0 rfl rfl 12 (by decide) (hg _ w_31) (fun _ h9 => h9) rfl dX0_apply_127 ?_
                  refine lv_iconst (v := 1) hx hb dX0_apply_130 (by decide) ?_
                  refine lv_iadd hx hb dX0_apply_131 ?_
                  refine va_put (D := (dC, dI)) (ci := 0) (v := .int (nt + 1)) (ty := .int) (C := RX0) (T := TX0) (N := 17) hx hb hg inX0 tyX0 tyX0_ok nmX0 hown hK hP hD hS 0 rfl rfl 12 (by decide) (hg _ w_31) (fun _ h9 => h9) rfl (by decide +kernel) rfl rfl (Nat.le_of_ble_eq_true rfl) dX0_apply_132 (fun H locs hP hD hS => ?_)
                  have hP : va_P (dC, dI) vwCl (ws_sl a k rd_99 wr_99 ay_99 ia_99 mo_122 wo_122 so oi si mi wi ns_99 (nt + 1) nf np_99 sl_99 hs_99) H := hP
                  have hD : va_D A (ws_sl a k rd_99 wr_99 ay_99 ia_99 mo_122 wo_122 so oi si mi wi ns_99 (nt + 1) nf np_99 sl_99 hs_99) := hD
                  refine lv_iload hx hb dX0_apply_135 (lv_at hl 0 rfl) ?_
                  have hw : sl_apply rd wr ay ia mo wo oi ns nt nf np p1 p2 p3 = .inl (r_99, rd_99, wr_99, ay_99, ia_99, mo_122, wo_122, ns_99, nt + 1, np_99, sl_99, hs_99) := by unfold sl_apply; rw [hq_1]; try dsimp only; rw [hq_5]; try dsimp only; rw [if_neg c_16, if_pos c_22, if_neg c_38, if_pos c_44, if_pos c_63, hq_99]; try dsimp only; rw [hw_122]; try dsimp only; try rfl
                  have he := Sum.inl.inj (hok.symm.trans hw)
                  simp only [Prod.mk.injEq] at he
                  obtain ⟨e0, e1, e2, e3, e4, e5, e6, e7, e8, e9, e10, e11⟩ := he
                  exact W.iret (v := r_99) hx hb hr (fun t ht hW => ⟨⟨r_99, (), rfl, e0.symm, ⟨by rw [ht, e1, e2, e3, e4, e5, e6, e7, e8, e9, e10, e11]; exact hP, va_K.moved hW.alike hK, by rw [e1, e2, e3, e4, e5, e6, e7, e8, e9, e10, e11]; exact hD⟩⟩, hS.F ht⟩) hS.2.2 dX0_apply_137
                · have hw : sl_apply rd wr ay ia mo wo oi ns nt nf np p1 p2 p3 = .inr E_99 := by unfold sl_apply; rw [hq_1]; try dsimp only; rw [hq_5]; try dsimp only; rw [if_neg c_16, if_pos c_22, if_neg c_38, if_pos c_44, if_pos c_63, hq_99]; try dsimp only; try rfl
                  exact absurd (hw.symm.trans hok) (by intro h9; cases h9)
              · have hw : sl_apply rd wr ay ia mo wo oi ns nt nf np p1 p2 p3 = .inr xIS := by unfold sl_apply; rw [hq_1]; try dsimp only; rw [hq_5]; try dsimp only; rw [if_neg c_16, if_pos c_22, if_neg c_38, if_pos c_44, if_neg c_63]; try rfl
                exact absurd (hw.symm.trans hok) (by intro h9; cases h9)
            · have hw : sl_apply rd wr ay ia mo wo oi ns nt nf np p1 p2 p3 = .inr xIA := by unfold sl_apply; rw [hq_1]; try dsimp only; rw [hq_5]; try dsimp only; rw [if_neg c_16, if_pos c_22, if_neg c_38, if_neg c_44]; try rfl
              exact absurd (hw.symm.trans hok) (by intro h9; cases h9)
        · have hw : sl_apply rd wr ay ia mo wo oi ns nt nf np p1 p2 p3 = .inr xIA := by unfold sl_apply; rw [hq_1]; try dsimp only; rw [hq_5]; try dsimp only; rw [if_neg c_16, if_neg c_22]; try rfl
          exact absurd (hw.symm.trans hok) (by intro h9; cases h9)
    · have hw : sl_apply rd wr ay ia mo wo oi ns nt nf np p1 p2 p3 = .inr E_5 := by unfold sl_apply; rw [hq_1]; try dsimp only; rw [hq_5]; try dsimp only; try rfl
      exact absurd (hw.symm.trans hok) (by intro h9; cases h9)
  · have hw : sl_apply rd wr ay ia mo wo oi ns nt nf np p1 p2 p3 = .inr E_1 := by unfold sl_apply; rw [hq_1]; try dsimp only; try rfl
    exact absurd (hw.symm.trans hok) (by intro h9; cases h9)
set_option maxHeartbeats 4000000 in
set_option maxRecDepth 100000 in
theorem cs_apply_x (l : Launch) (hl9 : l.stackTraces = false) (dC : Nat → ClassId) (dI : Nat → Nat → Nat) (a : Nat → Nat) (k : Nat → ClassId) (sx : Nat → Nat) (sz : Nat) (rd wr : Nat → Int64) (ay ia mo wo so oi si mi wi : Nat → Int32) (ns nt nf np sl hs : Int32) (p1 p2 p3 : Int32) (E9 : String) (hno : sl_apply rd wr ay ia mo wo oi ns nt nf np p1 p2 p3 = .inr E9) : vx_Met l yX0_apply wsX0_apply ({ frames := 7, cells := 1, slots := 6, locals := 109 } : Room) (va_Pc [.ref (a 0), .int p1, .int p2, .int p3] (prx (dC, dI) (ws_sl a k rd wr ay ia mo wo so oi si mi wi ns nt nf np sl hs) (ty_sl k) sz sx)) (va_Qi (fun (_ : Int32) (_ : Unit) => False) (fun (_ : Unit) _ => True) (va_A (ws_sl a k rd wr ay ia mo wo so oi si mi wi ns nt nf np sl hs) sz)) (vx_X (fun _ : Unit => True) (fun E _ t => E = E9 ∧ po (dC, dI) (ws_sl a k rd wr ay ia mo wo so oi si mi wi ns nt nf np sl hs) (ty_sl k) (va_A (ws_sl a k rd wr ay ia mo wo so oi si mi wi ns nt nf np sl hs) sz) t) (va_A (ws_sl a k rd wr ay ia mo wo so oi si mi wi ns nt nf np sl hs) sz)) 1 6 (va_A (ws_sl a k rd wr ay ia mo wo so oi si mi wi ns nt nf np sl hs) sz) := by
  refine vx_ofW (cc := cX0_apply) (maxL := 7) (ret := (some .int)) (by decide) rfl ?_
  intro p e s m args below meth c s₁ B hml hEx hv
  obtain ⟨rfl, ⟨hsz, hP, hK, hD0⟩, hX9⟩ := hv
  have hx := B.exec
  have hb := B.bytes
  have hr := B.returns
  have hts := atoms_spec (ws := wsX0_apply) B.pre
  have hg : ∀ w ∈ gw, w.before _ s = true := fun w h => hts w (List.mem_cons_of_mem _ h)
  have hown : s.vm.findClass RX0 = some m.cls := findClass_of_methodNamed B.named
  have hlocks := B.notSynchronized
  subst hsz
  have hD := hD0.self (sz := s.heap.size)
  generalize hAe : va_A (ws_sl a k rd wr ay ia mo wo so oi si mi wi ns nt nf np sl hs) s.heap.size = A at hD hX9 ⊢
  have hA : ∀ q : Nat, s.heap.size ≤ q → A q := fun q h => by rw [← hAe]; exact Or.inr h
  clear hAe
  refine w_in (fun H locs eH eL => ?_)
  have hS : va_S A s.heap H locs := by rw [eH, eL]; exact va_S.rf
  have hP : va_P (dC, dI) vwCl (ws_sl a k rd wr ay ia mo wo so oi si mi wi ns nt nf np sl hs) H := by rw [eH]; exact hP
  clear eH eL
  have hl := lv_entry ([.ref (a 0), .int p1, .int p2, .int p3]) (n := 7) (Nat.le_of_ble_eq_true rfl)
  rw [lg_entry_eq]
  generalize (lg_sl ([.ref (a 0), .int p1, .int p2, .int p3]) ++ List.replicate (7 - (lg_sl ([.ref (a 0), .int p1, .int p2, .int p3])).length) Slot.unset).toArray = ls at hl ⊢
  have hl : lv_has ls 7 [(0, .ref (a 0)), (1, .int p1), (2, .int p2), (3, .int p3)] := hl
  refine lv_iload_n hx hb dX0_apply_0 rfl (lv_at hl 3 rfl) ?_
  rcases hq_1 : sl_requirePlace p3 with ⟨⟩ | E_1
  · refine va_callv (va_runS (As := [.int p3]) (rest := []) ⟨hx, hb, hml, hown, hg⟩ (cs_requirePlace l dC dI p3 hq_1) (va_cwS 1 hg (gi_S w_106 w_107 w_1 w_108) rfl rfl rfl (by decide +kernel) ⟨Nat.le_of_ble_eq_true rfl, Nat.le_of_ble_eq_true rfl⟩) ⟨(fun _ _ _ _ q => q), (fun _ _ _ => ⟨rfl, trivial⟩)⟩ rfl rfl hl.1 rfl (lv_room (Nat.le_of_ble_eq_true rfl)) dX0_apply_1 ⟨Nat.le_of_ble_eq_true rfl, Nat.le_of_ble_eq_true rfl⟩) hS (fun q _ h => False.elim h) (fun q h => False.elim h) (fun u t H1 locs ht hvm hw hB hz1 hk1 hS => ?_)
    have hP := hP.kept (fun k q hq => hk1 q.1 (hP k q hq).lt (fun h => h))
    generalize H1 = H at hP hS ⊢
    have hP : va_P (dC, dI) vwCl (ws_sl a k rd wr ay ia mo wo so oi si mi wi ns nt nf np sl hs) H := hP
    have hD : va_D A (ws_sl a k rd wr ay ia mo wo so oi si mi wi ns nt nf np sl hs) := hD
    refine lv_iload_n hx hb dX0_apply_4 rfl (lv_at hl 1 rfl) ?_
    rcases hq_5 : sl_requireReadable p1 with ⟨⟩ | E_5
    · refine va_callv (va_runS (As := [.int p1]) (rest := []) ⟨hx, hb, hml, hown, hg⟩ (cs_requireReadable l dC dI p1 hq_5) (va_cwS 1 hg (gi_S w_177 w_178 w_1 w_179) rfl rfl rfl (by decide +kernel) ⟨Nat.le_of_ble_eq_true rfl, Nat.le_of_ble_eq_true rfl⟩) ⟨(fun _ _ _ _ q => q), (fun _ _ _ => ⟨rfl, trivial⟩)⟩ rfl rfl hl.1 rfl (lv_room (Nat.le_of_ble_eq_true rfl)) dX0_apply_5 ⟨Nat.le_of_ble_eq_true rfl, Nat.le_of_ble_eq_true rfl⟩) hS (fun q _ h => False.elim h) (fun q h => False.elim h) (fun u t H1 locs ht hvm hw hB hz1 hk1 hS => ?_)
      have hP := hP.kept (fun k q hq => hk1 q.1 (hP k q hq).lt (fun h => h))
      generalize H1 = H at hP hS ⊢
      have hP : va_P (dC, dI) vwCl (ws_sl a k rd wr ay ia mo wo so oi si mi wi ns nt nf np sl hs) H := hP
      have hD : va_D A (ws_sl a k rd wr ay ia mo wo so oi si mi wi ns nt nf np sl hs) := hD
      refine lv_iload_n hx hb dX0_apply_8 rfl (lv_at hl 1 rfl) ?_
      refine va_calli (va_runS (As := [.int p1]) (rest := []) ⟨hx, hb, hml, hown, hg⟩ (ci_count l dC dI p1) (va_cwS 1 hg (gi_S w_193 w_194 w_7 w_195) rfl rfl rfl (by decide +kernel) ⟨Nat.le_of_ble_eq_true rfl, Nat.le_of_ble_eq_true rfl⟩) ⟨(fun _ _ _ _ q => q), (fun _ _ _ => ⟨rfl, trivial⟩)⟩ rfl rfl hl.1 rfl (lv_room (Nat.le_of_ble_eq_true rfl)) dX0_apply_9 ⟨Nat.le_of_ble_eq_true rfl, Nat.le_of_ble_eq_true rfl⟩) hS (fun q _ h => False.elim h) (fun q h => False.elim h) (fun r_9 u t H1 locs ht hvm hw_9 hB hz1 hk1 hS => ?_)
      subst hw_9
      have hP := hP.kept (fun k q hq => hk1 q.1 (hP k q hq).lt (fun h => h))
      generalize H1 = H at hP hS ⊢
      have hP : va_P (dC, dI) vwCl (ws_sl a k rd wr ay ia mo wo so oi si mi wi ns nt nf np sl hs) H := hP
      have hD : va_D A (ws_sl a k rd wr ay ia mo wo so oi si mi wi ns nt nf np sl hs) := hD
      refine lv_istore (lv' := [(4, .int (ib_count p1)), (0, .ref (a 0)), (1, .int p1), (2, .int p2), (3, .int p3)]) hx hb dX0_apply_12 hl (by decide) rfl (fun ls hl => ?_)
      refine lv_iload_n hx hb dX0_apply_14 rfl (lv_at hl 3 rfl) ?_
      refine lv_iconst (v := 1) hx hb dX0_apply_15 (by decide) ?_
      refine lv_icmp_lt (tgt := 25) hx hb dX0_apply_16 (by decide) (fun c_16 => ?_) (fun c_16 => ?_)
      · have hw : sl_apply rd wr ay ia mo wo oi ns nt nf np p1 p2 p3 = .inr xIA := by unfold sl_apply; rw [hq_1]; try dsimp only; rw [hq_5]; try dsimp only; rw [if_pos c_16]; try rfl
        have he := Sum.inr.inj (hno.symm.trans hw)
        exact vx_throwS (own := RX0) (cls := "java/lang/IllegalArgumentException") (names := ["java/lang/RuntimeException", "java/lang/Exception"]) hx hb hl9 hown (by decide +kernel) (by decide +kernel) (hg _ w_289) (hg _ w_10) (hX9.2.2.1 (115, "room is not 1 to 32") (by decide +kernel)) (hat_xIA_117 hg hX9) (by decide +kernel) hX9.1 hX9.2.1 hS (hl.1.trans hml.symm) dX0_apply_25 dX0_apply_28 dX0_apply_29 dX0_apply_31 dX0_apply_34 (fun x hx => (hEx x hx).elim) (Nat.le_of_ble_eq_true rfl) (Nat.le_of_ble_eq_true rfl) (Nat.le_of_ble_eq_true rfl) (Nat.le_of_ble_eq_true rfl) hlocks (fun t ha hsz hk => ⟨(), trivial, ⟨he.symm, hP.kept (fun k q hq => hk q.1 (hP k q hq).lt), va_K.moved ha hK, hD⟩, Nat.le_trans hS.1 hsz, fun q h1 h2 => (hk q (Nat.lt_of_lt_of_le h1 hS.1)).trans (hS.2.1 q h1 h2)⟩) hS.2.2 (Nat.le_of_ble_eq_true rfl) (Nat.le_of_ble_eq_true rfl)
      · refine lv_iload_n hx hb dX0_apply_19 rfl (lv_at hl 3 rfl) ?_
        refine lv_bipush (v := 32) hx hb dX0_apply_20 (by decide) ?_
        refine lv_icmp_le (tgt := 35) hx hb dX0_apply_22 (by decide) (fun c_22 => ?_) (fun c_22 => ?_)
        · refine lv_iload hx hb dX0_apply_35 (lv_at hl 0 rfl) ?_
          refine lv_iconst (v := 1) hx hb dX0_apply_37 (by decide) ?_
          refine lv_icmp_lt (tgt := 47) hx hb dX0_apply_38 (by decide) (fun c_38 => ?_) (fun c_38 => ?_)
          · have hw : sl_apply rd wr ay ia mo wo oi ns nt nf np p1 p2 p3 = .inr xIA := by unfold sl_apply; rw [hq_1]; try dsimp only; rw [hq_5]; try dsimp only; rw [if_neg c_16, if_pos c_22, if_pos c_38]; try rfl
            have he := Sum.inr.inj (hno.symm.trans hw)
            exact vx_throwS (own := RX0) (cls := "java/lang/IllegalArgumentException") (names := ["java/lang/RuntimeException", "java/lang/Exception"]) hx hb hl9 hown (by decide +kernel) (by decide +kernel) (hg _ w_289) (hg _ w_10) (hX9.2.2.1 (118, "not 1 to 4 keys") (by decide +kernel)) (hat_xIA_117 hg hX9) (by decide +kernel) hX9.1 hX9.2.1 hS (hl.1.trans hml.symm) dX0_apply_47 dX0_apply_50 dX0_apply_51 dX0_apply_53 dX0_apply_56 (fun x hx => (hEx x hx).elim) (Nat.le_of_ble_eq_true rfl) (Nat.le_of_ble_eq_true rfl) (Nat.le_of_ble_eq_true rfl) (Nat.le_of_ble_eq_true rfl) hlocks (fun t ha hsz hk => ⟨(), trivial, ⟨he.symm, hP.kept (fun k q hq => hk q.1 (hP k q hq).lt), va_K.moved ha hK, hD⟩, Nat.le_trans hS.1 hsz, fun q h1 h2 => (hk q (Nat.lt_of_lt_of_le h1 hS.1)).trans (hS.2.1 q h1 h2)⟩) hS.2.2 (Nat.le_of_ble_eq_true rfl) (Nat.le_of_ble_eq_true rfl)
          · refine lv_iload hx hb dX0_apply_41 (lv_at hl 0 rfl) ?_
            refine lv_iconst (v := 4) hx hb dX0_apply_43 (by decide) ?_
            refine lv_icmp_le (tgt := 57) hx hb dX0_apply_44 (by decide) (fun c_44 => ?_) (fun c_44 => ?_)
            · refine lv_aload_n hx hb dX0_apply_57 rfl (lv_at hl 1 rfl) ?_
              refine va_get (D := (dC, dI)) (ci := 0) (v := .int nt) (C := RX0) (T := TX0) (N := 17) hx hb hg inX0 hown hK hP 0 rfl rfl 12 (by decide) (hg _ w_31) (fun _ h9 => h9) rfl dX0_apply_58 ?_
              refine lv_bipush (v := 8) hx hb dX0_apply_61 (by decide) ?_
              refine lv_icmp_lt (tgt := 76) hx hb dX0_apply_63 (by decide) (fun c_63 => ?_) (fun c_63 => ?_)
              · refine lv_iload_n hx hb dX0_apply_76 rfl (lv_at hl 2 rfl) ?_
                refine va_calli (va_runS (As := [.int p1]) (rest := []) ⟨hx, hb, hml, hown, hg⟩ (cs_costOf l dC dI p1) (va_cwS 1 hg (gi_S w_190 w_191 w_1 w_192) rfl rfl rfl (by decide +kernel) ⟨Nat.le_of_ble_eq_true rfl, Nat.le_of_ble_eq_true rfl⟩) ⟨(fun _ _ _ _ q => q), (fun _ _ _ => ⟨rfl, trivial⟩)⟩ rfl rfl hl.1 rfl (lv_room (Nat.le_of_ble_eq_true rfl)) dX0_apply_77 ⟨Nat.le_of_ble_eq_true rfl, Nat.le_of_ble_eq_true rfl⟩) hS (fun q _ h => False.elim h) (fun q h => False.elim h) (fun r_77 u t H1 locs ht hvm hw_77 hB hz1 hk1 hS => ?_)
                subst hw_77
                have hP := hP.kept (fun k q hq => hk1 q.1 (hP k q hq).lt (fun h => h))
                generalize H1 = H at hP hS ⊢
                have hP : va_P (dC, dI) vwCl (ws_sl a k rd wr ay ia mo wo so oi si mi wi ns nt nf np sl hs) H := hP
                have hD : va_D A (ws_sl a k rd wr ay ia mo wo so oi si mi wi ns nt nf np sl hs) := hD
                refine lv_iconst (v := 0) hx hb dX0_apply_80 (by decide) ?_
                refine va_calli (va_runS (As := [.int 0]) (rest := [.int (sl_costOf p1)]) ⟨hx, hb, hml, hown, hg⟩ (cs_costOf l dC dI 0) (va_cwS 1 hg (gi_S w_190 w_191 w_1 w_192) rfl rfl rfl (by decide +kernel) ⟨Nat.le_of_ble_eq_true rfl, Nat.le_of_ble_eq_true rfl⟩) ⟨(fun _ _ _ _ q => q), (fun _ _ _ => ⟨rfl, trivial⟩)⟩ rfl rfl hl.1 rfl (lv_room (Nat.le_of_ble_eq_true rfl)) dX0_apply_81 ⟨Nat.le_of_ble_eq_true rfl, Nat.le_of_ble_eq_true rfl⟩) hS (fun q _ h => False.elim h) (fun q h => False.elim h) (fun r_81 u t H1 locs ht hvm hw_81 hB hz1 hk1 hS => ?_)
                subst hw_81
                have hP := hP.kept (fun k q hq => hk1 q.1 (hP k q hq).lt (fun h => h))
                generalize H1 = H at hP hS ⊢
                have hP : va_P (dC, dI) vwCl (ws_sl a k rd wr ay ia mo wo so oi si mi wi ns nt nf np sl hs) H := hP
                have hD : va_D A (ws_sl a k rd wr ay ia mo wo so oi si mi wi ns nt nf np sl hs) := hD
                refine lv_iadd hx hb dX0_apply_84 ?_
                refine lv_istore (lv' := [(5, .int ((sl_costOf p1) + (sl_costOf 0))), (4, .int (ib_count p1)), (0, .ref (a 0)), (1, .int p1), (2, .int p2), (3, .int p3)]) hx hb dX0_apply_85 hl (by decide) rfl (fun ls hl => ?_)
                refine lv_aload_n hx hb dX0_apply_87 rfl (lv_at hl 2 rfl) ?_
                refine lv_iload_n hx hb dX0_apply_88 rfl (lv_at hl 3 rfl) ?_
                refine lv_iload_n hx hb dX0_apply_89 rfl (lv_at hl 5 rfl) ?_
                refine va_calll (va_runS (As := [.int p1, .int p3]) (rest := [.ref (a 0)]) ⟨hx, hb, hml, hown, hg⟩ (cs_readingAndWriting l dC dI p1 p3) (va_cwS 2 hg (gi_S w_181 w_182 w_1 w_183) rfl rfl rfl (by decide +kernel) ⟨Nat.le_of_ble_eq_true rfl, Nat.le_of_ble_eq_true rfl⟩) ⟨(fun _ _ _ _ q => q), (fun _ _ _ => ⟨rfl, trivial⟩)⟩ rfl rfl hl.1 rfl (lv_room (Nat.le_of_ble_eq_true rfl)) dX0_apply_90 ⟨Nat.le_of_ble_eq_true rfl, Nat.le_of_ble_eq_true rfl⟩) hS (fun q _ h => False.elim h) (fun q h => False.elim h) (fun r_90 u t H1 locs ht hvm hw_90 hB hz1 hk1 hS => ?_)
                subst hw_90
                have hP := hP.kept (fun k q hq => hk1 q.1 (hP k q hq).lt (fun h => h))
                generalize H1 = H at hP hS ⊢
                have hP : va_P (dC, dI) vwCl (ws_sl a k rd wr ay ia mo wo so oi si mi wi ns nt nf np sl hs) H := hP
                have hD : va_D A (ws_sl a k rd wr ay ia mo wo so oi si mi wi ns nt nf np sl hs) := hD
                refine lv_lconst (v := 1) hx hb dX0_apply_93 (by decide) ?_
                refine lv_iload_n hx hb dX0_apply_94 rfl (lv_at hl 5 rfl) ?_
                refine lv_lshl (v := jl 1 p3) hx hb dX0_apply_95 rfl ?_
                refine lv_iconst (v := (-1)) hx hb dX0_apply_96 (by decide) ?_
                refine lv_iload hx hb dX0_apply_97 (lv_at hl 0 rfl) ?_
                rcases hq_99 : sl_addStep rd wr ay ia mo wo oi ns nf np (sl_readingAndWriting p1 p3) (jl 1 p3) (-1) ((sl_costOf p1) + (sl_costOf 0)) with ⟨r_99, rd_99, wr_99, ay_99, ia_99, mo_99, wo_99, ns_99, np_99, sl_99, hs_99⟩ | E_99
                · exfalso
                  have h9 := hno
                  unfold sl_apply at h9
                  rw [hq_1] at h9
                  try dsimp only at h9
                  rw [hq_5] at h9
                  try dsimp only at h9
                  rw [if_neg c_16, if_pos c_22, if_neg c_38, if_pos c_44, if_pos c_63, hq_99] at h9
                  try dsimp only at h9
                  first | (cases h9; done) | ((repeat' split at h9) <;> cases h9)
                · have hFc := va_free (wc := ws_sl a k rd wr ay ia mo wo so oi si mi wi ns nt nf np sl hs) hD hS hA [0, 1, 2, 3, 4, 5, 6, 7, 8, 9, 10, 11] rfl
                  refine vx_calli (vx_runV (As := [.long (sl_readingAndWriting p1 p3), .long (jl 1 p3), .int (-1), .int ((sl_costOf p1) + (sl_costOf 0))]) (rest := []) ⟨hx, hb, hml, hown, hg⟩ (cs_addStep_x l hl9 dC dI a k sx H.size rd wr ay ia mo wo so oi si mi wi ns nt nf np sl hs (sl_readingAndWriting p1 p3) (jl 1 p3) (-1) ((sl_costOf p1) + (sl_costOf 0)) E_99 hq_99) (cwV 4 hg (gi_V w_202 w_204 s_2 w_1 w_205) rfl rfl rfl (by decide +kernel) ⟨Nat.le_of_ble_eq_true rfl, Nat.le_of_ble_eq_true rfl⟩) ⟨prx_bl, va_recv hK hP (ci := 0) (q0 := 0) rfl rfl, prx_ok hK hP hD hX9 hS hFc⟩ rfl rfl hl.1 rfl (lv_room (Nat.le_of_ble_eq_true rfl)) dX0_apply_99 ⟨Nat.le_of_ble_eq_true rfl, Nat.le_of_ble_eq_true rfl⟩) hS (fun q _ h => hFc q h) hFc (fun q _ h => hFc q h) (fun E ce q9 u t H1 locs ht hvm hwx hB hz1 hk1 hS hce hcv hcl => ?_) (fun rr u t H1 locs ht hvm hwx hB hz1 hk1 hS => hwx.elim)
                  obtain ⟨hE, hB⟩ := hB
                  have hE := hE.symm
                  subst hE
                  obtain ⟨hP, hK1, hD1⟩ := hB
                  rw [ht] at hP
                  have hD := hD1.weaken (fun _ q _ h => hFc q.1 h)
                  generalize H1 = H at hP hS hce ⊢
                  have hP : va_P (dC, dI) vwCl (ws_sl a k rd wr ay ia mo wo so oi si mi wi ns nt nf np sl hs) H := hP
                  have hD : va_D A (ws_sl a k rd wr ay ia mo wo so oi si mi wi ns nt nf np sl hs) := hD
                  have hw : sl_apply rd wr ay ia mo wo oi ns nt nf np p1 p2 p3 = .inr E_99 := by unfold sl_apply; rw [hq_1]; try dsimp only; rw [hq_5]; try dsimp only; rw [if_neg c_16, if_pos c_22, if_neg c_38, if_pos c_44, if_pos c_63, hq_99]; try dsimp only; try rfl
                  have he := Sum.inr.inj (hno.symm.trans hw)
                  exact vx_out (fun x hx => (hEx x hx).elim) hlocks hce hcv hcl (fun t ht ha => ⟨(), trivial, ⟨he.symm, by rw [ht]; exact hP, va_K.moved ha hK, hD⟩, hS.F ht⟩) hS.2.2 (Nat.le_of_ble_eq_true rfl) (Nat.le_of_ble_eq_true rfl)
              · have hw : sl_apply rd wr ay ia mo wo oi ns nt nf np p1 p2 p3 = .inr xIS := by unfold sl_apply; rw [hq_1]; try dsimp only; rw [hq_5]; try dsimp only; rw [if_neg c_16, if_pos c_22, if_neg c_38, if_pos c_44, if_neg c_63]; try rfl
                have he := Sum.inr.inj (hno.symm.trans hw)
                exact vx_throwS (own := RX0) (cls := "java/lang/IllegalStateException") (names := ["java/lang/RuntimeException", "java/lang/Exception"]) hx hb hl9 hown (by decide +kernel) (by decide +kernel) (hg _ w_206) (hg _ w_9) (hX9.2.2.1 (120, "there are 8 tables") (by decide +kernel)) (hat_xIS_105 hg hX9) (by decide +kernel) hX9.1 hX9.2.1 hS (hl.1.trans hml.symm) dX0_apply_66 dX0_apply_69 dX0_apply_70 dX0_apply_72 dX0_apply_75 (fun x hx => (hEx x hx).elim) (Nat.le_of_ble_eq_true rfl) (Nat.le_of_ble_eq_true rfl) (Nat.le_of_ble_eq_true rfl) (Nat.le_of_ble_eq_true rfl) hlocks (fun t ha hsz hk => ⟨(), trivial, ⟨he.symm, hP.kept (fun k q hq => hk q.1 (hP k q hq).lt), va_K.moved ha hK, hD⟩, Nat.le_trans hS.1 hsz, fun q h1 h2 => (hk q (Nat.lt_of_lt_of_le h1 hS.1)).trans (hS.2.1 q h1 h2)⟩) hS.2.2 (Nat.le_of_ble_eq_true rfl) (Nat.le_of_ble_eq_true rfl)
            · have hw : sl_apply rd wr ay ia mo wo oi ns nt nf np p1 p2 p3 = .inr xIA := by unfold sl_apply; rw [hq_1]; try dsimp only; rw [hq_5]; try dsimp only; rw [if_neg c_16, if_pos c_22, if_neg c_38, if_neg c_44]; try rfl
              have he := Sum.inr.inj (hno.symm.trans hw)
              exact vx_throwS (own := RX0) (cls := "java/lang/IllegalArgumentException") (names := ["java/lang/RuntimeException", "java/lang/Exception"]) hx hb hl9 hown (by decide +kernel) (by decide +kernel) (hg _ w_289) (hg _ w_10) (hX9.2.2.1 (118, "not 1 to 4 keys") (by decide +kernel)) (hat_xIA_117 hg hX9) (by decide +kernel) hX9.1 hX9.2.1 hS (hl.1.trans hml.symm) dX0_apply_47 dX0_apply_50 dX0_apply_51 dX0_apply_53 dX0_apply_56 (fun x hx => (hEx x hx).elim) (Nat.le_of_ble_eq_true rfl) (Nat.le_of_ble_eq_true rfl) (Nat.le_of_ble_eq_true rfl) (Nat.le_of_ble_eq_true rfl) hlocks (fun t ha hsz hk => ⟨(), trivial, ⟨he.symm, hP.kept (fun k q hq => hk q.1 (hP k q hq).lt), va_K.moved ha hK, hD⟩, Nat.le_trans hS.1 hsz, fun q h1 h2 => (hk q (Nat.lt_of_lt_of_le h1 hS.1)).trans (hS.2.1 q h1 h2)⟩) hS.2.2 (Nat.le_of_ble_eq_true rfl) (Nat.le_of_ble_eq_true rfl)
        · have hw : sl_apply rd wr ay ia mo wo oi ns nt nf np p1 p2 p3 = .inr xIA := by unfold sl_apply; rw [hq_1]; try dsimp only; rw [hq_5]; try dsimp only; rw [if_neg c_16, if_neg c_22]; try rfl
          have he := Sum.inr.inj (hno.symm.trans hw)
          exact vx_throwS (own := RX0) (cls := "java/lang/IllegalArgumentException") (names := ["java/lang/RuntimeException", "java/lang/Exception"]) hx hb hl9 hown (by decide +kernel) (by decide +kernel) (hg _ w_289) (hg _ w_10) (hX9.2.2.1 (115, "room is not 1 to 32") (by decide +kernel)) (hat_xIA_117 hg hX9) (by decide +kernel) hX9.1 hX9.2.1 hS (hl.1.trans hml.symm) dX0_apply_25 dX0_apply_28 dX0_apply_29 dX0_apply_31 dX0_apply_34 (fun x hx => (hEx x hx).elim) (Nat.le_of_ble_eq_true rfl) (Nat.le_of_ble_eq_true rfl) (Nat.le_of_ble_eq_true rfl) (Nat.le_of_ble_eq_true rfl) hlocks (fun t ha hsz hk => ⟨(), trivial, ⟨he.symm, hP.kept (fun k q hq => hk q.1 (hP k q hq).lt), va_K.moved ha hK, hD⟩, Nat.le_trans hS.1 hsz, fun q h1 h2 => (hk q (Nat.lt_of_lt_of_le h1 hS.1)).trans (hS.2.1 q h1 h2)⟩) hS.2.2 (Nat.le_of_ble_eq_true rfl) (Nat.le_of_ble_eq_true rfl)
    · have hFc := va_free (wc := ([] : va_W)) hD hS hA [] rfl
      refine vx_callv (vx_runS (As := [.int p1]) (rest := []) ⟨hx, hb, hml, hown, hg⟩ (cs_requireReadable_x l hl9 dC dI sx H.size p1 E_5 hq_5) (va_cwS 1 hg (gi_S w_177 w_178 w_1 w_179) rfl rfl rfl (by decide +kernel) ⟨Nat.le_of_ble_eq_true rfl, Nat.le_of_ble_eq_true rfl⟩) ⟨prx0_bl, prx_ok0 hX9 hS hFc⟩ rfl rfl hl.1 rfl (lv_room (Nat.le_of_ble_eq_true rfl)) dX0_apply_5 ⟨Nat.le_of_ble_eq_true rfl, Nat.le_of_ble_eq_true rfl⟩) hS (fun q _ h => hFc q h) hFc (fun q _ h => hFc q h) (fun E ce q9 u t H1 locs ht hvm hwx hB hz1 hk1 hS hce hcv hcl => ?_) (fun u t H1 locs ht hvm hwx hB hz1 hk1 hS => hwx.elim)
      have hB := hB.symm
      subst hB
      have hP := hP.kept (fun k q hq => hk1 q.1 (hP k q hq).lt (nA (hP k q hq).lt))
      generalize H1 = H at hP hS hce ⊢
      have hP : va_P (dC, dI) vwCl (ws_sl a k rd wr ay ia mo wo so oi si mi wi ns nt nf np sl hs) H := hP
      have hD : va_D A (ws_sl a k rd wr ay ia mo wo so oi si mi wi ns nt nf np sl hs) := hD
      have hw : sl_apply rd wr ay ia mo wo oi ns nt nf np p1 p2 p3 = .inr E_5 := by unfold sl_apply; rw [hq_1]; try dsimp only; rw [hq_5]; try dsimp only; try rfl
      have he := Sum.inr.inj (hno.symm.trans hw)
      exact vx_out (fun x hx => (hEx x hx).elim) hlocks hce hcv hcl (fun t ht ha => ⟨(), trivial, ⟨he.symm, by rw [ht]; exact hP, va_K.moved ha hK, hD⟩, hS.F ht⟩) hS.2.2 (Nat.le_of_ble_eq_true rfl) (Nat.le_of_ble_eq_true rfl)
  · have hFc := va_free (wc := ([] : va_W)) hD hS hA [] rfl
    refine vx_callv (vx_runS (As := [.int p3]) (rest := []) ⟨hx, hb, hml, hown, hg⟩ (cs_requirePlace_x l hl9 dC dI sx H.size p3 E_1 hq_1) (va_cwS 1 hg (gi_S w_106 w_107 w_1 w_108) rfl rfl rfl (by decide +kernel) ⟨Nat.le_of_ble_eq_true rfl, Nat.le_of_ble_eq_true rfl⟩) ⟨prx0_bl, prx_ok0 hX9 hS hFc⟩ rfl rfl hl.1 rfl (lv_room (Nat.le_of_ble_eq_true rfl)) dX0_apply_1 ⟨Nat.le_of_ble_eq_true rfl, Nat.le_of_ble_eq_true rfl⟩) hS (fun q _ h => hFc q h) hFc (fun q _ h => hFc q h) (fun E ce q9 u t H1 locs ht hvm hwx hB hz1 hk1 hS hce hcv hcl => ?_) (fun u t H1 locs ht hvm hwx hB hz1 hk1 hS => hwx.elim)
    have hB := hB.symm
    subst hB
    have hP := hP.kept (fun k q hq => hk1 q.1 (hP k q hq).lt (nA (hP k q hq).lt))
    generalize H1 = H at hP hS hce ⊢
    have hP : va_P (dC, dI) vwCl (ws_sl a k rd wr ay ia mo wo so oi si mi wi ns nt nf np sl hs) H := hP
    have hD : va_D A (ws_sl a k rd wr ay ia mo wo so oi si mi wi ns nt nf np sl hs) := hD
    have hw : sl_apply rd wr ay ia mo wo oi ns nt nf np p1 p2 p3 = .inr E_1 := by unfold sl_apply; rw [hq_1]; try dsimp only; try rfl
    have he := Sum.inr.inj (hno.symm.trans hw)
    exact vx_out (fun x hx => (hEx x hx).elim) hlocks hce hcv hcl (fun t ht ha => ⟨(), trivial, ⟨he.symm, by rw [ht]; exact hP, va_K.moved ha hK, hD⟩, hS.F ht⟩) hS.2.2 (Nat.le_of_ble_eq_true rfl) (Nat.le_of_ble_eq_true rfl)
end
section
set_option maxHeartbeats 4000000 in
set_option maxRecDepth 100000 in
theorem cs_lay_L53 {p : Program} {l : Launch} {e : Env} {s : State} {m : MethodId} {args : Array Value} {below : List Frame} {meth : Method} {c : Code} {Q : State → Prop} {dC : Nat → ClassId} {dI : Nat → Nat → Nat} {a : Nat → Nat} {k : Nat → ClassId} {A : Nat → Prop} (rd wr : Nat → Int64) (ay ia mo wo so oi si mi wi : Nat → Int32) (ns nt nf np sl hs : Int32) (p1 p2 p3 : Int32) (hx : p.tables.exec = Jvm.exec) (hb : c.code = cX0_lay) (hml : c.maxLocals = 7) (hown : s.vm.findClass RX0 = some m.cls) (hg : ∀ w ∈ gw, w.before args s = true) (hA : ∀ q : Nat, s.heap.size ≤ q → A q) (hK : va_K (dC, dI) vwCl (ty_sl k) s) (h12 : 1 ≤ p1.toInt ∧ p1.toInt ≤ 12) :
    ∀ (n : Nat) (x4 x5 : Int32) (so si mi wi : Nat → Int32) (hs : Int32) (H : Heap) (locs : List Loc) (ls : Array Slot), (cnt ns x5 n ∧ ∀ j : Nat, j < x5.toNatClampNeg → 0 ≤ (so j).toInt ∧ (so j).toInt < 12) → va_P (dC, dI) vwCl (ws_sl a k rd wr ay ia mo wo so oi si mi wi ns nt nf np sl hs) H → va_D A (ws_sl a k rd wr ay ia mo wo so oi si mi wi ns nt nf np sl hs) → va_S A s.heap H locs → lv_has ls 7 [(0, .ref (a 0)), (1, .int p1), (2, .int p2), (3, .int p3), (4, .int x4), (5, .int x5)] →
      (∀ (x4_o53 : Int32) (so_o53 si_o53 mi_o53 wi_o53 : Nat → Int32) (hs_o53 : Int32), sl_lay_L53 rd wr ay ia mo wo ns p1 p2 p3 n x4 x5 so si mi wi hs = .inl (x4_o53, so_o53, si_o53, mi_o53, wi_o53, hs_o53) → ∀ (H : Heap) (locs : List Loc) (ls : Array Slot), va_P (dC, dI) vwCl (ws_sl a k rd wr ay ia mo wo so_o53 oi si_o53 mi_o53 wi_o53 ns nt nf np sl hs_o53) H → va_D A (ws_sl a k rd wr ay ia mo wo so_o53 oi si_o53 mi_o53 wi_o53 ns nt nf np sl hs_o53) → va_S A s.heap H locs → lv_has ls 7 [(0, .ref (a 0)), (1, .int p1), (2, .int p2), (3, .int p3), (4, .int x4_o53)] → W p l e (headSpec wsX0_lay ({ frames := 6, cells := 0, slots := 0, locals := 82 } : Room)).room s m args below meth c H locs 0 0 Q (F0 m 112 ls [])) →
      (∀ (r0_o53 : Int32) (so_o53 si_o53 mi_o53 wi_o53 : Nat → Int32) (hs_o53 : Int32), sl_lay_L53 rd wr ay ia mo wo ns p1 p2 p3 n x4 x5 so si mi wi hs = .inr (r0_o53, so_o53, si_o53, mi_o53, wi_o53, hs_o53) → ∀ (H : Heap) (locs : List Loc) (ls : Array Slot), va_P (dC, dI) vwCl (ws_sl a k rd wr ay ia mo wo so_o53 oi si_o53 mi_o53 wi_o53 ns nt nf np sl hs_o53) H → va_D A (ws_sl a k rd wr ay ia mo wo so_o53 oi si_o53 mi_o53 wi_o53 ns nt nf np sl hs_o53) → va_S A s.heap H locs → lv_has ls 7 [(0, .ref (a 0)), (1, .int p1), (2, .int p2), (3, .int p3)] → W p l e (headSpec wsX0_lay ({ frames := 6, cells := 0, slots := 0, locals := 82 } : Room)).room s m args below meth c H locs 0 0 Q (F0 m 86 ls [.int r0_o53])) →
      W p l e (headSpec wsX0_lay ({ frames := 6, cells := 0, slots := 0, locals := 82 } : Room)).room s m args below meth c H locs 0 0 Q (F0 m 53 ls []) := by
  intro n
  induction n with
  | zero =>
    intro x4 x5 so si mi wi hs H locs ls hinv
    exact absurd hinv (fun h => cnt_z h.1)
  | succ n ih =>
    intro x4 x5 so si mi wi hs H locs ls hinv hP hD hS hl k0 k1
    refine lv_iload hx hb dX0_lay_53 (lv_at hl 5 rfl) ?_
    refine lv_aload_n hx hb dX0_lay_55 rfl (lv_at hl 0 rfl) ?_
    refine va_get (D := (dC, dI)) (ci := 0) (v := .int ns) (C := RX0) (T := TX0) (N := 17) hx hb hg inX0 hown hK hP 0 rfl rfl 11 (by decide) (hg _ w_30) (fun _ h9 => h9) rfl dX0_lay_56 ?_
    refine lv_icmp_ge (tgt := 112) hx hb dX0_lay_59 (by decide) (fun c_59 => ?_) (fun c_59 => ?_)
    · exact k0 x4 so si mi wi hs (by rw [sl_lay_L53_s]; rw [if_pos c_59]; try rfl) H locs ls hP hD hS (lv_sub hl [0, 1, 2, 3, 4] rfl)
    · refine lv_aload_n hx hb dX0_lay_62 rfl (lv_at hl 0 rfl) ?_
      refine lv_iload hx hb dX0_lay_63 (lv_at hl 5 rfl) ?_
      refine lv_iload_n hx hb dX0_lay_65 rfl (lv_at hl 1 rfl) ?_
      refine lv_iload_n hx hb dX0_lay_66 rfl (lv_at hl 2 rfl) ?_
      refine lv_iload_n hx hb dX0_lay_67 rfl (lv_at hl 3 rfl) ?_
      have hFc := va_free (wc := ws_sl a k rd wr ay ia mo wo so oi si mi wi ns nt nf np sl hs) hD hS hA [0, 1, 2, 3, 4, 5, 6, 7, 8, 9, 10, 11] rfl
      refine va_calli (va_runV (As := [.int x5, .int p1, .int p2, .int p3]) (rest := []) ⟨hx, hb, hml, hown, hg⟩ (cs_findStage l dC dI a k H.size rd wr ay ia mo wo so oi si mi wi ns nt nf np sl hs x5 p1 p2 p3 hinv.2 h12) (cwV 4 hg (gi_V w_320 w_322 s_6 w_1 w_323) rfl rfl rfl (by decide +kernel) ⟨Nat.le_of_ble_eq_true rfl, Nat.le_of_ble_eq_true rfl⟩) ⟨pr_bl, va_recv hK hP (ci := 0) (q0 := 0) rfl rfl, pr_ok hK hP hD⟩ rfl rfl hl.1 rfl (lv_room (Nat.le_of_ble_eq_true rfl)) dX0_lay_68 ⟨Nat.le_of_ble_eq_true rfl, Nat.le_of_ble_eq_true rfl⟩) hS (fun q _ h => hFc q h) hFc (fun r_68 u t H1 locs ht hvm hw_68 hB hz1 hk1 hS => ?_)
      subst hw_68
      obtain ⟨hP, hK1, hD1⟩ := hB
      rw [ht] at hP
      have hD := hD1.weaken (fun _ q _ h => hFc q.1 h)
      generalize H1 = H at hP hS ⊢
      have hP : va_P (dC, dI) vwCl (ws_sl a k rd wr ay ia mo wo so oi si mi wi ns nt nf np sl hs) H := hP
      have hD : va_D A (ws_sl a k rd wr ay ia mo wo so oi si mi wi ns nt nf np sl hs) := hD
      refine lv_istore (lv' := [(6, .int (sl_findStage rd wr ay ia mo wo so si mi wi x5 p1 p2 p3)), (0, .ref (a 0)), (1, .int p1), (2, .int p2), (3, .int p3), (4, .int x4), (5, .int x5)]) hx hb dX0_lay_71 hl (by decide) rfl (fun ls hl => ?_)
      refine lv_iload hx hb dX0_lay_73 (lv_at hl 0 rfl) ?_
      refine lv_iconst (v := (-1)) hx hb dX0_lay_75 (by decide) ?_
      refine lv_icmp_ne (tgt := 87) hx hb dX0_lay_76 (by decide) (fun c_76 => ?_) (fun c_76 => ?_)
      · refine lv_aload_n hx hb dX0_lay_87 rfl (lv_at hl 1 rfl) ?_
        refine lv_iload hx hb dX0_lay_88 (lv_at hl 6 rfl) ?_
        refine lv_iload hx hb dX0_lay_90 (lv_at hl 0 rfl) ?_
        have hFc := va_free (wc := ws_sl a k rd wr ay ia mo wo so oi si mi wi ns nt nf np sl hs) hD hS hA [0, 1, 2, 3, 4, 5, 6, 7, 8, 9, 10, 11] rfl
        refine va_callv (va_runV (As := [.int x5, .int (sl_findStage rd wr ay ia mo wo so si mi wi x5 p1 p2 p3)]) (rest := []) ⟨hx, hb, hml, hown, hg⟩ (cs_settle l dC dI a k H.size rd wr ay ia mo wo so oi si mi wi ns nt nf np sl hs x5 (sl_findStage rd wr ay ia mo wo so si mi wi x5 p1 p2 p3)) (cwV 2 hg (gi_V w_336 w_338 s_10 w_1 w_339) rfl rfl rfl (by decide +kernel) ⟨Nat.le_of_ble_eq_true rfl, Nat.le_of_ble_eq_true rfl⟩) ⟨pr_bl, va_recv hK hP (ci := 0) (q0 := 0) rfl rfl, pr_ok hK hP hD⟩ rfl rfl hl.1 rfl (lv_room (Nat.le_of_ble_eq_true rfl)) dX0_lay_92 ⟨Nat.le_of_ble_eq_true rfl, Nat.le_of_ble_eq_true rfl⟩) hS (fun q _ h => hFc q h) hFc (fun u t H1 locs ht hvm hw_92 hB hz1 hk1 hS => ?_)
        obtain ⟨so_92, si_92, mi_92, wi_92⟩ := u
        obtain ⟨hP, hK1, hD1⟩ := hB
        rw [ht] at hP
        have hD := hD1.weaken (fun _ q _ h => hFc q.1 h)
        generalize H1 = H at hP hS ⊢
        have hP : va_P (dC, dI) vwCl (ws_sl a k rd wr ay ia mo wo so_92 oi si_92 mi_92 wi_92 ns nt nf np sl hs) H := hP
        have hD : va_D A (ws_sl a k rd wr ay ia mo wo so_92 oi si_92 mi_92 wi_92 ns nt nf np sl hs) := hD
        refine lv_iload hx hb dX0_lay_95 (lv_at hl 5 rfl) ?_
        refine lv_iload hx hb dX0_lay_97 (lv_at hl 0 rfl) ?_
        refine lv_iconst (v := 1) hx hb dX0_lay_99 (by decide) ?_
        refine lv_iadd hx hb dX0_lay_100 ?_
        refine va_mmax hx hb (hml.trans hl.1.symm) hown (hg _ w_199) (hg _ w_200) (hg _ w_8) (hg _ w_201) (Nat.le_of_ble_eq_true rfl) (Nat.le_of_ble_eq_true rfl) (Nat.le_of_ble_eq_true rfl) (Nat.le_of_ble_eq_true rfl) dX0_lay_101 ?_
        refine lv_istore (lv' := [(4, .int (if x4 < ((sl_findStage rd wr ay ia mo wo so si mi wi x5 p1 p2 p3) + 1) then ((sl_findStage rd wr ay ia mo wo so si mi wi x5 p1 p2 p3) + 1) else x4)), (6, .int (sl_findStage rd wr ay ia mo wo so si mi wi x5 p1 p2 p3)), (0, .ref (a 0)), (1, .int p1), (2, .int p2), (3, .int p3), (5, .int x5)]) hx hb dX0_lay_104 hl (by decide) rfl (fun ls hl => ?_)
        refine lv_iinc (v := x5 + 1) (lv' := [(5, .int (x5 + 1)), (4, .int (if x4 < ((sl_findStage rd wr ay ia mo wo so si mi wi x5 p1 p2 p3) + 1) then ((sl_findStage rd wr ay ia mo wo so si mi wi x5 p1 p2 p3) + 1) else x4)), (6, .int (sl_findStage rd wr ay ia mo wo so si mi wi x5 p1 p2 p3)), (0, .ref (a 0)), (1, .int p1), (2, .int p2), (3, .int p3)]) hx hb dX0_lay_106 hl (k := 6) rfl rfl (by decide) rfl (fun ls hl => ?_)
        refine lv_goto (tgt := 53) hx hb dX0_lay_109 (by decide) ?_
        exact ih (if x4 < ((sl_findStage rd wr ay ia mo wo so si mi wi x5 p1 p2 p3) + 1) then ((sl_findStage rd wr ay ia mo wo so si mi wi x5 p1 p2 p3) + 1) else x4) (x5 + 1) so_92 si_92 mi_92 wi_92 hs H locs ls (lay_step hinv c_59 c_76 hw_92) hP hD hS (lv_sub hl [3, 4, 5, 6, 1, 0] rfl) (fun x4_o53 so_o53 si_o53 mi_o53 wi_o53 hs_o53 hw H locs ls hP hD hS hl => k0 x4_o53 so_o53 si_o53 mi_o53 wi_o53 hs_o53 (by rw [sl_lay_L53_s]; rw [if_neg c_59, if_neg c_76, hw_92]; try dsimp only; exact hw) H locs ls hP hD hS hl) (fun r0_o53 so_o53 si_o53 mi_o53 wi_o53 hs_o53 hw H locs ls hP hD hS hl => k1 r0_o53 so_o53 si_o53 mi_o53 wi_o53 hs_o53 (by rw [sl_lay_L53_s]; rw [if_neg c_59, if_neg c_76, hw_92]; try dsimp only; exact hw) H locs ls hP hD hS hl)
      · refine lv_aload_n hx hb dX0_lay_79 rfl (lv_at hl 1 rfl) ?_
        refine lv_iload hx hb dX0_lay_80 (lv_at hl 6 rfl) ?_
        refine va_put (D := (dC, dI)) (ci := 0) (v := .int x5) (ty := .int) (C := RX0) (T := TX0) (N := 17) hx hb hg inX0 tyX0 tyX0_ok nmX0 hown hK hP hD hS 0 rfl rfl 16 (by decide) (hg _ w_35) (fun _ h9 => h9) rfl (by decide +kernel) rfl rfl (Nat.le_of_ble_eq_true rfl) dX0_lay_82 (fun H locs hP hD hS => ?_)
        have hP : va_P (dC, dI) vwCl (ws_sl a k rd wr ay ia mo wo so oi si mi wi ns nt nf np sl x5) H := hP
        have hD : va_D A (ws_sl a k rd wr ay ia mo wo so oi si mi wi ns nt nf np sl x5) := hD
        refine lv_iconst (v := (-1)) hx hb dX0_lay_85 (by decide) ?_
        exact k1 (-1) so si mi wi x5 (by rw [sl_lay_L53_s]; rw [if_neg c_59, if_pos c_76]; try rfl) H locs ls hP hD hS (lv_sub hl [1, 2, 3, 4] rfl)
set_option maxHeartbeats 4000000 in
set_option maxRecDepth 100000 in
theorem cs_lay (l : Launch) (dC : Nat → ClassId) (dI : Nat → Nat → Nat) (a : Nat → Nat) (k : Nat → ClassId) (sz : Nat) (rd wr : Nat → Int64) (ay ia mo wo so oi si mi wi : Nat → Int32) (ns nt nf np sl hs : Int32) (p1 p2 p3 : Int32) (r' : Int32) (so' si' mi' wi' : Nat → Int32) (sl' hs' : Int32) (hok : sl_lay rd wr ay ia mo wo so si mi wi ns p1 p2 p3 = .inl (r', so', si', mi', wi', sl', hs')) (hns : 0 ≤ ns.toInt ∧ ns.toInt ≤ 48) : Met l yX0_lay wsX0_lay ({ frames := 6, cells := 0, slots := 0, locals := 82 } : Room) (va_Pc [.ref (a 0), .int p1, .int p2, .int p3] (pr (dC, dI) (ws_sl a k rd wr ay ia mo wo so oi si mi wi ns nt nf np sl hs) (ty_sl k) sz)) (va_Qi (fun (r : Int32) (_ : Unit) => r = r') (fun (_ : Unit) t => po (dC, dI) (ws_sl a k rd wr ay ia mo wo so' oi si' mi' wi' ns nt nf np sl' hs') (ty_sl k) (va_A (ws_sl a k rd wr ay ia mo wo so oi si mi wi ns nt nf np sl hs) sz) t) (va_A (ws_sl a k rd wr ay ia mo wo so oi si mi wi ns nt nf np sl hs) sz)) 0 0 (va_A (ws_sl a k rd wr ay ia mo wo so oi si mi wi ns nt nf np sl hs) sz) := by
  refine Met.ofW (cc := cX0_lay) (maxL := 7) (ret := (some .int)) (by decide) rfl ?_
  intro p e s m args below meth c s₁ B hml hv
  obtain ⟨rfl, hsz, hP, hK, hD0⟩ := hv
  have hx := B.exec
  have hb := B.bytes
  have hr := B.returns
  have hts := atoms_spec (ws := wsX0_lay) B.pre
  have hg : ∀ w ∈ gw, w.before _ s = true := fun w h => hts w (List.mem_cons_of_mem _ h)
  have hown : s.vm.findClass RX0 = some m.cls := findClass_of_methodNamed B.named
  have hlocks := B.notSynchronized
  subst hsz
  have hD := hD0.self (sz := s.heap.size)
  generalize hAe : va_A (ws_sl a k rd wr ay ia mo wo so oi si mi wi ns nt nf np sl hs) s.heap.size = A at hD ⊢
  have hA : ∀ q : Nat, s.heap.size ≤ q → A q := fun q h => by rw [← hAe]; exact Or.inr h
  clear hAe
  refine w_in (fun H locs eH eL => ?_)
  have hS : va_S A s.heap H locs := by rw [eH, eL]; exact va_S.rf
  have hP : va_P (dC, dI) vwCl (ws_sl a k rd wr ay ia mo wo so oi si mi wi ns nt nf np sl hs) H := by rw [eH]; exact hP
  clear eH eL
  have hl := lv_entry ([.ref (a 0), .int p1, .int p2, .int p3]) (n := 7) (Nat.le_of_ble_eq_true rfl)
  rw [lg_entry_eq]
  generalize (lg_sl ([.ref (a 0), .int p1, .int p2, .int p3]) ++ List.replicate (7 - (lg_sl ([.ref (a 0), .int p1, .int p2, .int p3])).length) Slot.unset).toArray = ls at hl ⊢
  have hl : lv_has ls 7 [(0, .ref (a 0)), (1, .int p1), (2, .int p2), (3, .int p3)] := hl
  refine lv_iload_n hx hb dX0_lay_0 rfl (lv_at hl 1 rfl) ?_
  refine lv_iconst (v := 1) hx hb dX0_lay_1 (by decide) ?_
  refine lv_icmp_lt (tgt := 11) hx hb dX0_lay_2 (by decide) (fun c_2 => ?_) (fun c_2 => ?_)
  · have hw : sl_lay rd wr ay ia mo wo so si mi wi ns p1 p2 p3 = .inr xIA := by unfold sl_lay; rw [if_pos c_2]; try rfl
    exact absurd (hw.symm.trans hok) (by intro h9; cases h9)
  · refine lv_iload_n hx hb dX0_lay_5 rfl (lv_at hl 1 rfl) ?_
    refine lv_bipush (v := 12) hx hb dX0_lay_6 (by decide) ?_
    refine lv_icmp_le (tgt := 21) hx hb dX0_lay_8 (by decide) (fun c_8 => ?_) (fun c_8 => ?_)
    · refine lv_iload_n hx hb dX0_lay_21 rfl (lv_at hl 2 rfl) ?_
      refine lv_if_lt (tgt := 29) hx hb dX0_lay_22 (by decide) (fun c_22 => ?_) (fun c_22 => ?_)
      · have hw : sl_lay rd wr ay ia mo wo so si mi wi ns p1 p2 p3 = .inr xIA := by unfold sl_lay; rw [if_neg c_2, if_pos c_8, if_pos c_22]; try rfl
        exact absurd (hw.symm.trans hok) (by intro h9; cases h9)
      · refine lv_iload_n hx hb dX0_lay_25 rfl (lv_at hl 3 rfl) ?_
        refine lv_if_ge (tgt := 39) hx hb dX0_lay_26 (by decide) (fun c_26 => ?_) (fun c_26 => ?_)
        · refine lv_aload_n hx hb dX0_lay_39 rfl (lv_at hl 0 rfl) ?_
          have hFc := va_free (wc := ws_sl a k rd wr ay ia mo wo so oi si mi wi ns nt nf np sl hs) hD hS hA [0, 1, 2, 3, 4, 5, 6, 7, 8, 9, 10, 11] rfl
          refine va_callv (va_runV (As := []) (rest := []) ⟨hx, hb, hml, hown, hg⟩ (cs_forgetStages l dC dI a k H.size rd wr ay ia mo wo so oi si mi wi ns nt nf np sl hs) (cwV 0 hg (gi_V w_77 w_79 s_0 w_1 w_80) rfl rfl rfl (by decide +kernel) ⟨Nat.le_of_ble_eq_true rfl, Nat.le_of_ble_eq_true rfl⟩) ⟨pr_bl, va_recv hK hP (ci := 0) (q0 := 0) rfl rfl, pr_ok hK hP hD⟩ rfl rfl hl.1 rfl (lv_room (Nat.le_of_ble_eq_true rfl)) dX0_lay_40 ⟨Nat.le_of_ble_eq_true rfl, Nat.le_of_ble_eq_true rfl⟩) hS (fun q _ h => hFc q h) hFc (fun u t H1 locs ht hvm hw_40 hB hz1 hk1 hS => ?_)
          obtain ⟨sl_40, hs_40⟩ := u
          obtain ⟨hP, hK1, hD1⟩ := hB
          rw [ht] at hP
          have hD := hD1.weaken (fun _ q _ h => hFc q.1 h)
          generalize H1 = H at hP hS ⊢
          have hP : va_P (dC, dI) vwCl (ws_sl a k rd wr ay ia mo wo so oi si mi wi ns nt nf np sl_40 hs_40) H := hP
          have hD : va_D A (ws_sl a k rd wr ay ia mo wo so oi si mi wi ns nt nf np sl_40 hs_40) := hD
          refine lv_aload_n hx hb dX0_lay_43 rfl (lv_at hl 0 rfl) ?_
          have hFc := va_free (wc := ws_sl a k rd wr ay ia mo wo so oi si mi wi ns nt nf np sl_40 hs_40) hD hS hA [0, 1, 2, 3, 4, 5, 6, 7, 8, 9, 10, 11] rfl
          refine va_callv (va_runV (As := []) (rest := []) ⟨hx, hb, hml, hown, hg⟩ (cs_emptyStages l dC dI a k H.size rd wr ay ia mo wo so oi si mi wi ns nt nf np sl_40 hs_40) (cwV 0 hg (gi_V w_316 w_318 s_5 w_1 w_319) rfl rfl rfl (by decide +kernel) ⟨Nat.le_of_ble_eq_true rfl, Nat.le_of_ble_eq_true rfl⟩) ⟨pr_bl, va_recv hK hP (ci := 0) (q0 := 0) rfl rfl, pr_ok hK hP hD⟩ rfl rfl hl.1 rfl (lv_room (Nat.le_of_ble_eq_true rfl)) dX0_lay_44 ⟨Nat.le_of_ble_eq_true rfl, Nat.le_of_ble_eq_true rfl⟩) hS (fun q _ h => hFc q h) hFc (fun u t H1 locs ht hvm hw_44 hB hz1 hk1 hS => ?_)
          obtain ⟨si_44, mi_44, wi_44⟩ := u
          obtain ⟨hP, hK1, hD1⟩ := hB
          rw [ht] at hP
          have hD := hD1.weaken (fun _ q _ h => hFc q.1 h)
          generalize H1 = H at hP hS ⊢
          have hP : va_P (dC, dI) vwCl (ws_sl a k rd wr ay ia mo wo so oi si_44 mi_44 wi_44 ns nt nf np sl_40 hs_40) H := hP
          have hD : va_D A (ws_sl a k rd wr ay ia mo wo so oi si_44 mi_44 wi_44 ns nt nf np sl_40 hs_40) := hD
          refine lv_iconst (v := 1) hx hb dX0_lay_47 (by decide) ?_
          refine lv_istore (lv' := [(4, .int 1), (0, .ref (a 0)), (1, .int p1), (2, .int p2), (3, .int p3)]) hx hb dX0_lay_48 hl (by decide) rfl (fun ls hl => ?_)
          refine lv_iconst (v := 0) hx hb dX0_lay_50 (by decide) ?_
          refine lv_istore (lv' := [(5, .int 0), (4, .int 1), (0, .ref (a 0)), (1, .int p1), (2, .int p2), (3, .int p3)]) hx hb dX0_lay_51 hl (by decide) rfl (fun ls hl => ?_)
          refine cs_lay_L53 rd wr ay ia mo wo so oi si_44 mi_44 wi_44 ns nt nf np sl_40 hs_40 p1 p2 p3 hx hb hml hown hg hA hK (⟨ge1 c_2, le_ofle c_8 (by decide)⟩) 49 1 0 so si_44 mi_44 wi_44 hs_40 H locs ls (⟨cnt_0 hns.1 (by have := hns.2; omega), fun j h => absurd h (Nat.not_lt_zero j)⟩) hP hD hS (lv_sub hl [2, 3, 4, 5, 1, 0] rfl) (fun x4_o53 so_o53 si_o53 mi_o53 wi_o53 hs_o53 hw_53 H locs ls hP hD hS hl => ?_) (fun r0_o53 so_o53 si_o53 mi_o53 wi_o53 hs_o53 hw_53 H locs ls hP hD hS hl => ?_)
          · refine lv_aload_n hx hb dX0_lay_112 rfl (lv_at hl 0 rfl) ?_
            refine lv_iload hx hb dX0_lay_113 (lv_at hl 4 rfl) ?_
            refine va_put (D := (dC, dI)) (ci := 0) (v := .int x4_o53) (ty := .int) (C := RX0) (T := TX0) (N := 17) hx hb hg inX0 tyX0 tyX0_ok nmX0 hown hK hP hD hS 0 rfl rfl 15 (by decide) (hg _ w_34) (fun _ h9 => h9) rfl (by decide +kernel) rfl rfl (Nat.le_of_ble_eq_true rfl) dX0_lay_115 (fun H locs hP hD hS => ?_)
            have hP : va_P (dC, dI) vwCl (ws_sl a k rd wr ay ia mo wo so_o53 oi si_o53 mi_o53 wi_o53 ns nt nf np x4_o53 hs_o53) H := hP
            have hD : va_D A (ws_sl a k rd wr ay ia mo wo so_o53 oi si_o53 mi_o53 wi_o53 ns nt nf np x4_o53 hs_o53) := hD
            refine lv_iload hx hb dX0_lay_118 (lv_at hl 4 rfl) ?_
            have hw : sl_lay rd wr ay ia mo wo so si mi wi ns p1 p2 p3 = .inl (x4_o53, so_o53, si_o53, mi_o53, wi_o53, x4_o53, hs_o53) := by unfold sl_lay; rw [if_neg c_2, if_pos c_8, if_neg c_22, if_pos c_26, hw_40]; try dsimp only; rw [hw_44]; try dsimp only; rw [hw_53]; try dsimp only; try rfl
            have he := Sum.inl.inj (hok.symm.trans hw)
            simp only [Prod.mk.injEq] at he
            obtain ⟨e0, e1, e2, e3, e4, e5, e6⟩ := he
            exact W.iret (v := x4_o53) hx hb hr (fun t ht hW => ⟨⟨x4_o53, (), rfl, e0.symm, ⟨by rw [ht, e1, e2, e3, e4, e5, e6]; exact hP, va_K.moved hW.alike hK, by rw [e1, e2, e3, e4, e5, e6]; exact hD⟩⟩, hS.F ht⟩) hS.2.2 dX0_lay_120
          · have hw : sl_lay rd wr ay ia mo wo so si mi wi ns p1 p2 p3 = .inl (r0_o53, so_o53, si_o53, mi_o53, wi_o53, sl_40, hs_o53) := by unfold sl_lay; rw [if_neg c_2, if_pos c_8, if_neg c_22, if_pos c_26, hw_40]; try dsimp only; rw [hw_44]; try dsimp only; rw [hw_53]; try dsimp only; try rfl
            have he := Sum.inl.inj (hok.symm.trans hw)
            simp only [Prod.mk.injEq] at he
            obtain ⟨e0, e1, e2, e3, e4, e5, e6⟩ := he
            exact W.iret (v := r0_o53) hx hb hr (fun t ht hW => ⟨⟨r0_o53, (), rfl, e0.symm, ⟨by rw [ht, e1, e2, e3, e4, e5, e6]; exact hP, va_K.moved hW.alike hK, by rw [e1, e2, e3, e4, e5, e6]; exact hD⟩⟩, hS.F ht⟩) hS.2.2 dX0_lay_86
        · have hw : sl_lay rd wr ay ia mo wo so si mi wi ns p1 p2 p3 = .inr xIA := by unfold sl_lay; rw [if_neg c_2, if_pos c_8, if_neg c_22, if_neg c_26]; try rfl
          exact absurd (hw.symm.trans hok) (by intro h9; cases h9)
    · have hw : sl_lay rd wr ay ia mo wo so si mi wi ns p1 p2 p3 = .inr xIA := by unfold sl_lay; rw [if_neg c_2, if_neg c_8]; try rfl
      exact absurd (hw.symm.trans hok) (by intro h9; cases h9)
set_option maxHeartbeats 4000000 in
set_option maxRecDepth 100000 in
theorem cs_lay_x (l : Launch) (hl9 : l.stackTraces = false) (dC : Nat → ClassId) (dI : Nat → Nat → Nat) (a : Nat → Nat) (k : Nat → ClassId) (sx : Nat → Nat) (sz : Nat) (rd wr : Nat → Int64) (ay ia mo wo so oi si mi wi : Nat → Int32) (ns nt nf np sl hs : Int32) (p1 p2 p3 : Int32) (E9 : String) (hno : sl_lay rd wr ay ia mo wo so si mi wi ns p1 p2 p3 = .inr E9) (hns : 0 ≤ ns.toInt ∧ ns.toInt ≤ 48) : vx_Met l yX0_lay wsX0_lay ({ frames := 6, cells := 1, slots := 6, locals := 82 } : Room) (va_Pc [.ref (a 0), .int p1, .int p2, .int p3] (prx (dC, dI) (ws_sl a k rd wr ay ia mo wo so oi si mi wi ns nt nf np sl hs) (ty_sl k) sz sx)) (va_Qi (fun (_ : Int32) (_ : Unit) => False) (fun (_ : Unit) _ => True) (va_A (ws_sl a k rd wr ay ia mo wo so oi si mi wi ns nt nf np sl hs) sz)) (vx_X (fun _ : Unit => True) (fun E _ t => E = E9 ∧ po (dC, dI) (ws_sl a k rd wr ay ia mo wo so oi si mi wi ns nt nf np sl hs) (ty_sl k) (va_A (ws_sl a k rd wr ay ia mo wo so oi si mi wi ns nt nf np sl hs) sz) t) (va_A (ws_sl a k rd wr ay ia mo wo so oi si mi wi ns nt nf np sl hs) sz)) 1 6 (va_A (ws_sl a k rd wr ay ia mo wo so oi si mi wi ns nt nf np sl hs) sz) := by
  refine vx_ofW (cc := cX0_lay) (maxL := 7) (ret := (some .int)) (by decide) rfl ?_
  intro p e s m args below meth c s₁ B hml hEx hv
  obtain ⟨rfl, ⟨hsz, hP, hK, hD0⟩, hX9⟩ := hv
  have hx := B.exec
  have hb := B.bytes
  have hr := B.returns
  have hts := atoms_spec (ws := wsX0_lay) B.pre
  have hg : ∀ w ∈ gw, w.before _ s = true := fun w h => hts w (List.mem_cons_of_mem _ h)
  have hown : s.vm.findClass RX0 = some m.cls := findClass_of_methodNamed B.named
  have hlocks := B.notSynchronized
  subst hsz
  have hD := hD0.self (sz := s.heap.size)
  generalize hAe : va_A (ws_sl a k rd wr ay ia mo wo so oi si mi wi ns nt nf np sl hs) s.heap.size = A at hD hX9 ⊢
  have hA : ∀ q : Nat, s.heap.size ≤ q → A q := fun q h => by rw [← hAe]; exact Or.inr h
  clear hAe
  refine w_in (fun H locs eH eL => ?_)
  have hS : va_S A s.heap H locs := by rw [eH, eL]; exact va_S.rf
  have hP : va_P (dC, dI) vwCl (ws_sl a k rd wr ay ia mo wo so oi si mi wi ns nt nf np sl hs) H := by rw [eH]; exact hP
  clear eH eL
  have hl := lv_entry ([.ref (a 0), .int p1, .int p2, .int p3]) (n := 7) (Nat.le_of_ble_eq_true rfl)
  rw [lg_entry_eq]
  generalize (lg_sl ([.ref (a 0), .int p1, .int p2, .int p3]) ++ List.replicate (7 - (lg_sl ([.ref (a 0), .int p1, .int p2, .int p3])).length) Slot.unset).toArray = ls at hl ⊢
  have hl : lv_has ls 7 [(0, .ref (a 0)), (1, .int p1), (2, .int p2), (3, .int p3)] := hl
  refine lv_iload_n hx hb dX0_lay_0 rfl (lv_at hl 1 rfl) ?_
  refine lv_iconst (v := 1) hx hb dX0_lay_1 (by decide) ?_
  refine lv_icmp_lt (tgt := 11) hx hb dX0_lay_2 (by decide) (fun c_2 => ?_) (fun c_2 => ?_)
  · have hw : sl_lay rd wr ay ia mo wo so si mi wi ns p1 p2 p3 = .inr xIA := by unfold sl_lay; rw [if_pos c_2]; try rfl
    have he := Sum.inr.inj (hno.symm.trans hw)
    exact vx_throwS (own := RX0) (cls := "java/lang/IllegalArgumentException") (names := ["java/lang/RuntimeException", "java/lang/Exception"]) hx hb hl9 hown (by decide +kernel) (by decide +kernel) (hg _ w_289) (hg _ w_10) (hX9.2.2.1 (126, "stages are not 1 to 12") (by decide +kernel)) (hat_xIA_117 hg hX9) (by decide +kernel) hX9.1 hX9.2.1 hS (hl.1.trans hml.symm) dX0_lay_11 dX0_lay_14 dX0_lay_15 dX0_lay_17 dX0_lay_20 (fun x hx => (hEx x hx).elim) (Nat.le_of_ble_eq_true rfl) (Nat.le_of_ble_eq_true rfl) (Nat.le_of_ble_eq_true rfl) (Nat.le_of_ble_eq_true rfl) hlocks (fun t ha hsz hk => ⟨(), trivial, ⟨he.symm, hP.kept (fun k q hq => hk q.1 (hP k q hq).lt), va_K.moved ha hK, hD⟩, Nat.le_trans hS.1 hsz, fun q h1 h2 => (hk q (Nat.lt_of_lt_of_le h1 hS.1)).trans (hS.2.1 q h1 h2)⟩) hS.2.2 (Nat.le_of_ble_eq_true rfl) (Nat.le_of_ble_eq_true rfl)
  · refine lv_iload_n hx hb dX0_lay_5 rfl (lv_at hl 1 rfl) ?_
    refine lv_bipush (v := 12) hx hb dX0_lay_6 (by decide) ?_
    refine lv_icmp_le (tgt := 21) hx hb dX0_lay_8 (by decide) (fun c_8 => ?_) (fun c_8 => ?_)
    · refine lv_iload_n hx hb dX0_lay_21 rfl (lv_at hl 2 rfl) ?_
      refine lv_if_lt (tgt := 29) hx hb dX0_lay_22 (by decide) (fun c_22 => ?_) (fun c_22 => ?_)
      · have hw : sl_lay rd wr ay ia mo wo so si mi wi ns p1 p2 p3 = .inr xIA := by unfold sl_lay; rw [if_neg c_2, if_pos c_8, if_pos c_22]; try rfl
        have he := Sum.inr.inj (hno.symm.trans hw)
        exact vx_throwS (own := RX0) (cls := "java/lang/IllegalArgumentException") (names := ["java/lang/RuntimeException", "java/lang/Exception"]) hx hb hl9 hown (by decide +kernel) (by decide +kernel) (hg _ w_289) (hg _ w_10) (hX9.2.2.1 (128, "memory or wires below 0") (by decide +kernel)) (hat_xIA_117 hg hX9) (by decide +kernel) hX9.1 hX9.2.1 hS (hl.1.trans hml.symm) dX0_lay_29 dX0_lay_32 dX0_lay_33 dX0_lay_35 dX0_lay_38 (fun x hx => (hEx x hx).elim) (Nat.le_of_ble_eq_true rfl) (Nat.le_of_ble_eq_true rfl) (Nat.le_of_ble_eq_true rfl) (Nat.le_of_ble_eq_true rfl) hlocks (fun t ha hsz hk => ⟨(), trivial, ⟨he.symm, hP.kept (fun k q hq => hk q.1 (hP k q hq).lt), va_K.moved ha hK, hD⟩, Nat.le_trans hS.1 hsz, fun q h1 h2 => (hk q (Nat.lt_of_lt_of_le h1 hS.1)).trans (hS.2.1 q h1 h2)⟩) hS.2.2 (Nat.le_of_ble_eq_true rfl) (Nat.le_of_ble_eq_true rfl)
      · refine lv_iload_n hx hb dX0_lay_25 rfl (lv_at hl 3 rfl) ?_
        refine lv_if_ge (tgt := 39) hx hb dX0_lay_26 (by decide) (fun c_26 => ?_) (fun c_26 => ?_)
        · exfalso
          have h9 := hno
          unfold sl_lay at h9
          rw [if_neg c_2, if_pos c_8, if_neg c_22, if_pos c_26] at h9
          first | (cases h9; done) | ((repeat' split at h9) <;> cases h9)
        · have hw : sl_lay rd wr ay ia mo wo so si mi wi ns p1 p2 p3 = .inr xIA := by unfold sl_lay; rw [if_neg c_2, if_pos c_8, if_neg c_22, if_neg c_26]; try rfl
          have he := Sum.inr.inj (hno.symm.trans hw)
          exact vx_throwS (own := RX0) (cls := "java/lang/IllegalArgumentException") (names := ["java/lang/RuntimeException", "java/lang/Exception"]) hx hb hl9 hown (by decide +kernel) (by decide +kernel) (hg _ w_289) (hg _ w_10) (hX9.2.2.1 (128, "memory or wires below 0") (by decide +kernel)) (hat_xIA_117 hg hX9) (by decide +kernel) hX9.1 hX9.2.1 hS (hl.1.trans hml.symm) dX0_lay_29 dX0_lay_32 dX0_lay_33 dX0_lay_35 dX0_lay_38 (fun x hx => (hEx x hx).elim) (Nat.le_of_ble_eq_true rfl) (Nat.le_of_ble_eq_true rfl) (Nat.le_of_ble_eq_true rfl) (Nat.le_of_ble_eq_true rfl) hlocks (fun t ha hsz hk => ⟨(), trivial, ⟨he.symm, hP.kept (fun k q hq => hk q.1 (hP k q hq).lt), va_K.moved ha hK, hD⟩, Nat.le_trans hS.1 hsz, fun q h1 h2 => (hk q (Nat.lt_of_lt_of_le h1 hS.1)).trans (hS.2.1 q h1 h2)⟩) hS.2.2 (Nat.le_of_ble_eq_true rfl) (Nat.le_of_ble_eq_true rfl)
    · have hw : sl_lay rd wr ay ia mo wo so si mi wi ns p1 p2 p3 = .inr xIA := by unfold sl_lay; rw [if_neg c_2, if_neg c_8]; try rfl
      have he := Sum.inr.inj (hno.symm.trans hw)
      exact vx_throwS (own := RX0) (cls := "java/lang/IllegalArgumentException") (names := ["java/lang/RuntimeException", "java/lang/Exception"]) hx hb hl9 hown (by decide +kernel) (by decide +kernel) (hg _ w_289) (hg _ w_10) (hX9.2.2.1 (126, "stages are not 1 to 12") (by decide +kernel)) (hat_xIA_117 hg hX9) (by decide +kernel) hX9.1 hX9.2.1 hS (hl.1.trans hml.symm) dX0_lay_11 dX0_lay_14 dX0_lay_15 dX0_lay_17 dX0_lay_20 (fun x hx => (hEx x hx).elim) (Nat.le_of_ble_eq_true rfl) (Nat.le_of_ble_eq_true rfl) (Nat.le_of_ble_eq_true rfl) (Nat.le_of_ble_eq_true rfl) hlocks (fun t ha hsz hk => ⟨(), trivial, ⟨he.symm, hP.kept (fun k q hq => hk q.1 (hP k q hq).lt), va_K.moved ha hK, hD⟩, Nat.le_trans hS.1 hsz, fun q h1 h2 => (hk q (Nat.lt_of_lt_of_le h1 hS.1)).trans (hS.2.1 q h1 h2)⟩) hS.2.2 (Nat.le_of_ble_eq_true rfl) (Nat.le_of_ble_eq_true rfl)
set_option maxHeartbeats 4000000 in
set_option maxRecDepth 100000 in
theorem cs_homeless (l : Launch) (dC : Nat → ClassId) (dI : Nat → Nat → Nat) (a : Nat → Nat) (k : Nat → ClassId) (sz : Nat) (rd wr : Nat → Int64) (ay ia mo wo so oi si mi wi : Nat → Int32) (ns nt nf np sl hs : Int32)  : Met l yX0_homeless wsX0_homeless ({ frames := 0, cells := 0, slots := 0, locals := 0 } : Room) (va_Pc [.ref (a 0)] (pr (dC, dI) (ws_sl a k rd wr ay ia mo wo so oi si mi wi ns nt nf np sl hs) (ty_sl k) sz)) (va_Qi (fun (r : Int32) (_ : Unit) => r = sl_homeless hs) (fun (_ : Unit) t => po (dC, dI) (ws_sl a k rd wr ay ia mo wo so oi si mi wi ns nt nf np sl hs) (ty_sl k) (va_A (ws_sl a k rd wr ay ia mo wo so oi si mi wi ns nt nf np sl hs) sz) t) (va_A (ws_sl a k rd wr ay ia mo wo so oi si mi wi ns nt nf np sl hs) sz)) 0 0 (va_A (ws_sl a k rd wr ay ia mo wo so oi si mi wi ns nt nf np sl hs) sz) := by
  refine Met.ofW (cc := cX0_homeless) (maxL := 1) (ret := (some .int)) (by decide) rfl ?_
  intro p e s m args below meth c s₁ B hml hv
  obtain ⟨rfl, hsz, hP, hK, hD0⟩ := hv
  have hx := B.exec
  have hb := B.bytes
  have hr := B.returns
  have hts := atoms_spec (ws := wsX0_homeless) B.pre
  have hg : ∀ w ∈ gw, w.before _ s = true := fun w h => hts w (List.mem_cons_of_mem _ h)
  have hown : s.vm.findClass RX0 = some m.cls := findClass_of_methodNamed B.named
  have hlocks := B.notSynchronized
  subst hsz
  have hD := hD0.self (sz := s.heap.size)
  generalize hAe : va_A (ws_sl a k rd wr ay ia mo wo so oi si mi wi ns nt nf np sl hs) s.heap.size = A at hD ⊢
  have hA : ∀ q : Nat, s.heap.size ≤ q → A q := fun q h => by rw [← hAe]; exact Or.inr h
  clear hAe
  refine w_in (fun H locs eH eL => ?_)
  have hS : va_S A s.heap H locs := by rw [eH, eL]; exact va_S.rf
  have hP : va_P (dC, dI) vwCl (ws_sl a k rd wr ay ia mo wo so oi si mi wi ns nt nf np sl hs) H := by rw [eH]; exact hP
  clear eH eL
  have hl := lv_entry ([.ref (a 0)]) (n := 1) (Nat.le_of_ble_eq_true rfl)
  rw [lg_entry_eq]
  generalize (lg_sl ([.ref (a 0)]) ++ List.replicate (1 - (lg_sl ([.ref (a 0)])).length) Slot.unset).toArray = ls at hl ⊢
  have hl : lv_has ls 1 [(0, .ref (a 0))] := hl
  refine lv_aload_n hx hb dX0_homeless_0 rfl (lv_at hl 0 rfl) ?_
  refine va_get (D := (dC, dI)) (ci := 0) (v := .int hs) (C := RX0) (T := TX0) (N := 17) hx hb hg inX0 hown hK hP 0 rfl rfl 16 (by decide) (hg _ w_35) (fun _ h9 => h9) rfl dX0_homeless_1 ?_
  have hw : hs = sl_homeless hs := rfl
  exact W.iret (v := hs) hx hb hr (fun t ht hW => ⟨⟨hs, (), rfl, hw, ⟨by rw [ht]; exact hP, va_K.moved hW.alike hK, hD⟩⟩, hS.F ht⟩) hS.2.2 dX0_homeless_4
set_option maxHeartbeats 4000000 in
set_option maxRecDepth 100000 in
theorem cs_stage (l : Launch) (dC : Nat → ClassId) (dI : Nat → Nat → Nat) (a : Nat → Nat) (k : Nat → ClassId) (sz : Nat) (rd wr : Nat → Int64) (ay ia mo wo so oi si mi wi : Nat → Int32) (ns nt nf np sl hs : Int32) (p1 : Int32) : Met l yX0_stage wsX0_stage ({ frames := 0, cells := 0, slots := 0, locals := 0 } : Room) (va_Pc [.ref (a 0), .int p1] (pr (dC, dI) (ws_sl a k rd wr ay ia mo wo so oi si mi wi ns nt nf np sl hs) (ty_sl k) sz)) (va_Qi (fun (r : Int32) (_ : Unit) => r = sl_stage so ns sl p1) (fun (_ : Unit) t => po (dC, dI) (ws_sl a k rd wr ay ia mo wo so oi si mi wi ns nt nf np sl hs) (ty_sl k) (va_A (ws_sl a k rd wr ay ia mo wo so oi si mi wi ns nt nf np sl hs) sz) t) (va_A (ws_sl a k rd wr ay ia mo wo so oi si mi wi ns nt nf np sl hs) sz)) 0 0 (va_A (ws_sl a k rd wr ay ia mo wo so oi si mi wi ns nt nf np sl hs) sz) := by
  refine Met.ofW (cc := cX0_stage) (maxL := 2) (ret := (some .int)) (by decide) rfl ?_
  intro p e s m args below meth c s₁ B hml hv
  obtain ⟨rfl, hsz, hP, hK, hD0⟩ := hv
  have hx := B.exec
  have hb := B.bytes
  have hr := B.returns
  have hts := atoms_spec (ws := wsX0_stage) B.pre
  have hg : ∀ w ∈ gw, w.before _ s = true := fun w h => hts w (List.mem_cons_of_mem _ h)
  have hown : s.vm.findClass RX0 = some m.cls := findClass_of_methodNamed B.named
  have hlocks := B.notSynchronized
  subst hsz
  have hD := hD0.self (sz := s.heap.size)
  generalize hAe : va_A (ws_sl a k rd wr ay ia mo wo so oi si mi wi ns nt nf np sl hs) s.heap.size = A at hD ⊢
  have hA : ∀ q : Nat, s.heap.size ≤ q → A q := fun q h => by rw [← hAe]; exact Or.inr h
  clear hAe
  refine w_in (fun H locs eH eL => ?_)
  have hS : va_S A s.heap H locs := by rw [eH, eL]; exact va_S.rf
  have hP : va_P (dC, dI) vwCl (ws_sl a k rd wr ay ia mo wo so oi si mi wi ns nt nf np sl hs) H := by rw [eH]; exact hP
  clear eH eL
  have hl := lv_entry ([.ref (a 0), .int p1]) (n := 2) (Nat.le_of_ble_eq_true rfl)
  rw [lg_entry_eq]
  generalize (lg_sl ([.ref (a 0), .int p1]) ++ List.replicate (2 - (lg_sl ([.ref (a 0), .int p1])).length) Slot.unset).toArray = ls at hl ⊢
  have hl : lv_has ls 2 [(0, .ref (a 0)), (1, .int p1)] := hl
  refine lv_aload_n hx hb dX0_stage_0 rfl (lv_at hl 0 rfl) ?_
  refine va_get (D := (dC, dI)) (ci := 0) (v := .int sl) (C := RX0) (T := TX0) (N := 17) hx hb hg inX0 hown hK hP 0 rfl rfl 15 (by decide) (hg _ w_34) (fun _ h9 => h9) rfl dX0_stage_1 ?_
  refine lv_if_eq (tgt := 25) hx hb dX0_stage_4 (by decide) (fun c_4 => ?_) (fun c_4 => ?_)
  · refine lv_iconst (v := (-1)) hx hb dX0_stage_25 (by decide) ?_
    have hw : (-1) = sl_stage so ns sl p1 := by unfold sl_stage; rw [if_pos c_4]; try rfl
    exact W.iret (v := (-1)) hx hb hr (fun t ht hW => ⟨⟨(-1), (), rfl, hw, ⟨by rw [ht]; exact hP, va_K.moved hW.alike hK, hD⟩⟩, hS.F ht⟩) hS.2.2 dX0_stage_26
  · refine lv_iload_n hx hb dX0_stage_7 rfl (lv_at hl 1 rfl) ?_
    refine lv_if_lt (tgt := 25) hx hb dX0_stage_8 (by decide) (fun c_8 => ?_) (fun c_8 => ?_)
    · refine lv_iconst (v := (-1)) hx hb dX0_stage_25 (by decide) ?_
      have hw : (-1) = sl_stage so ns sl p1 := by unfold sl_stage; rw [if_neg c_4, if_pos c_8]; try rfl
      exact W.iret (v := (-1)) hx hb hr (fun t ht hW => ⟨⟨(-1), (), rfl, hw, ⟨by rw [ht]; exact hP, va_K.moved hW.alike hK, hD⟩⟩, hS.F ht⟩) hS.2.2 dX0_stage_26
    · refine lv_iload_n hx hb dX0_stage_11 rfl (lv_at hl 1 rfl) ?_
      refine lv_aload_n hx hb dX0_stage_12 rfl (lv_at hl 0 rfl) ?_
      refine va_get (D := (dC, dI)) (ci := 0) (v := .int ns) (C := RX0) (T := TX0) (N := 17) hx hb hg inX0 hown hK hP 0 rfl rfl 11 (by decide) (hg _ w_30) (fun _ h9 => h9) rfl dX0_stage_13 ?_
      refine lv_icmp_ge (tgt := 25) hx hb dX0_stage_16 (by decide) (fun c_16 => ?_) (fun c_16 => ?_)
      · refine lv_iconst (v := (-1)) hx hb dX0_stage_25 (by decide) ?_
        have hw : (-1) = sl_stage so ns sl p1 := by unfold sl_stage; rw [if_neg c_4, if_neg c_8, if_pos c_16]; try rfl
        exact W.iret (v := (-1)) hx hb hr (fun t ht hW => ⟨⟨(-1), (), rfl, hw, ⟨by rw [ht]; exact hP, va_K.moved hW.alike hK, hD⟩⟩, hS.F ht⟩) hS.2.2 dX0_stage_26
      · refine lv_iload_n hx hb dX0_stage_19 rfl (lv_at hl 1 rfl) ?_
        refine lv_bipush (v := 48) hx hb dX0_stage_20 (by decide) ?_
        refine lv_icmp_lt (tgt := 27) hx hb dX0_stage_22 (by decide) (fun c_22 => ?_) (fun c_22 => ?_)
        · refine lv_aload_n hx hb dX0_stage_27 rfl (lv_at hl 0 rfl) ?_
          refine va_get (D := (dC, dI)) (ci := 0) (v := .ref (a 7)) (C := RX0) (T := TX0) (N := 17) hx hb hg inX0 hown hK hP 0 rfl rfl 6 (by decide) (hg _ w_25) (fun _ h9 => h9) rfl dX0_stage_28 ?_
          refine lv_iload_n hx hb dX0_stage_31 rfl (lv_at hl 1 rfl) ?_
          refine va_iald hx hb hK hP 7 6 rfl rfl (ix_lt c_8 c_22 (by decide)) dX0_stage_32 ?_
          have hw : (so p1.toNatClampNeg) = sl_stage so ns sl p1 := by unfold sl_stage; rw [if_neg c_4, if_neg c_8, if_neg c_16, if_pos c_22]; try rfl
          exact W.iret (v := so p1.toNatClampNeg) hx hb hr (fun t ht hW => ⟨⟨(so p1.toNatClampNeg), (), rfl, hw, ⟨by rw [ht]; exact hP, va_K.moved hW.alike hK, hD⟩⟩, hS.F ht⟩) hS.2.2 dX0_stage_33
        · refine lv_iconst (v := (-1)) hx hb dX0_stage_25 (by decide) ?_
          have hw : (-1) = sl_stage so ns sl p1 := by unfold sl_stage; rw [if_neg c_4, if_neg c_8, if_neg c_16, if_neg c_22]; try rfl
          exact W.iret (v := (-1)) hx hb hr (fun t ht hW => ⟨⟨(-1), (), rfl, hw, ⟨by rw [ht]; exact hP, va_K.moved hW.alike hK, hD⟩⟩, hS.F ht⟩) hS.2.2 dX0_stage_26
set_option maxHeartbeats 4000000 in
set_option maxRecDepth 100000 in
theorem cs_used (l : Launch) (dC : Nat → ClassId) (dI : Nat → Nat → Nat) (a : Nat → Nat) (k : Nat → ClassId) (sz : Nat) (rd wr : Nat → Int64) (ay ia mo wo so oi si mi wi : Nat → Int32) (ns nt nf np sl hs : Int32) (p1 p2 : Int32) : Met l yX0_used wsX0_used ({ frames := 0, cells := 0, slots := 0, locals := 0 } : Room) (va_Pc [.ref (a 0), .int p1, .int p2] (pr (dC, dI) (ws_sl a k rd wr ay ia mo wo so oi si mi wi ns nt nf np sl hs) (ty_sl k) sz)) (va_Qi (fun (r : Int32) (_ : Unit) => r = sl_used si mi wi sl p1 p2) (fun (_ : Unit) t => po (dC, dI) (ws_sl a k rd wr ay ia mo wo so oi si mi wi ns nt nf np sl hs) (ty_sl k) (va_A (ws_sl a k rd wr ay ia mo wo so oi si mi wi ns nt nf np sl hs) sz) t) (va_A (ws_sl a k rd wr ay ia mo wo so oi si mi wi ns nt nf np sl hs) sz)) 0 0 (va_A (ws_sl a k rd wr ay ia mo wo so oi si mi wi ns nt nf np sl hs) sz) := by
  refine Met.ofW (cc := cX0_used) (maxL := 3) (ret := (some .int)) (by decide) rfl ?_
  intro p e s m args below meth c s₁ B hml hv
  obtain ⟨rfl, hsz, hP, hK, hD0⟩ := hv
  have hx := B.exec
  have hb := B.bytes
  have hr := B.returns
  have hts := atoms_spec (ws := wsX0_used) B.pre
  have hg : ∀ w ∈ gw, w.before _ s = true := fun w h => hts w (List.mem_cons_of_mem _ h)
  have hown : s.vm.findClass RX0 = some m.cls := findClass_of_methodNamed B.named
  have hlocks := B.notSynchronized
  subst hsz
  have hD := hD0.self (sz := s.heap.size)
  generalize hAe : va_A (ws_sl a k rd wr ay ia mo wo so oi si mi wi ns nt nf np sl hs) s.heap.size = A at hD ⊢
  have hA : ∀ q : Nat, s.heap.size ≤ q → A q := fun q h => by rw [← hAe]; exact Or.inr h
  clear hAe
  refine w_in (fun H locs eH eL => ?_)
  have hS : va_S A s.heap H locs := by rw [eH, eL]; exact va_S.rf
  have hP : va_P (dC, dI) vwCl (ws_sl a k rd wr ay ia mo wo so oi si mi wi ns nt nf np sl hs) H := by rw [eH]; exact hP
  clear eH eL
  have hl := lv_entry ([.ref (a 0), .int p1, .int p2]) (n := 3) (Nat.le_of_ble_eq_true rfl)
  rw [lg_entry_eq]
  generalize (lg_sl ([.ref (a 0), .int p1, .int p2]) ++ List.replicate (3 - (lg_sl ([.ref (a 0), .int p1, .int p2])).length) Slot.unset).toArray = ls at hl ⊢
  have hl : lv_has ls 3 [(0, .ref (a 0)), (1, .int p1), (2, .int p2)] := hl
  refine lv_iload_n hx hb dX0_used_0 rfl (lv_at hl 1 rfl) ?_
  refine lv_if_lt (tgt := 18) hx hb dX0_used_1 (by decide) (fun c_1 => ?_) (fun c_1 => ?_)
  · refine lv_iconst (v := (-1)) hx hb dX0_used_18 (by decide) ?_
    have hw : (-1) = sl_used si mi wi sl p1 p2 := by unfold sl_used; rw [if_pos c_1]; try rfl
    exact W.iret (v := (-1)) hx hb hr (fun t ht hW => ⟨⟨(-1), (), rfl, hw, ⟨by rw [ht]; exact hP, va_K.moved hW.alike hK, hD⟩⟩, hS.F ht⟩) hS.2.2 dX0_used_19
  · refine lv_iload_n hx hb dX0_used_4 rfl (lv_at hl 1 rfl) ?_
    refine lv_aload_n hx hb dX0_used_5 rfl (lv_at hl 0 rfl) ?_
    refine va_get (D := (dC, dI)) (ci := 0) (v := .int sl) (C := RX0) (T := TX0) (N := 17) hx hb hg inX0 hown hK hP 0 rfl rfl 15 (by decide) (hg _ w_34) (fun _ h9 => h9) rfl dX0_used_6 ?_
    refine lv_icmp_ge (tgt := 18) hx hb dX0_used_9 (by decide) (fun c_9 => ?_) (fun c_9 => ?_)
    · refine lv_iconst (v := (-1)) hx hb dX0_used_18 (by decide) ?_
      have hw : (-1) = sl_used si mi wi sl p1 p2 := by unfold sl_used; rw [if_neg c_1, if_pos c_9]; try rfl
      exact W.iret (v := (-1)) hx hb hr (fun t ht hW => ⟨⟨(-1), (), rfl, hw, ⟨by rw [ht]; exact hP, va_K.moved hW.alike hK, hD⟩⟩, hS.F ht⟩) hS.2.2 dX0_used_19
    · refine lv_iload_n hx hb dX0_used_12 rfl (lv_at hl 1 rfl) ?_
      refine lv_bipush (v := 12) hx hb dX0_used_13 (by decide) ?_
      refine lv_icmp_lt (tgt := 20) hx hb dX0_used_15 (by decide) (fun c_15 => ?_) (fun c_15 => ?_)
      · refine lv_iload_n hx hb dX0_used_20 rfl (lv_at hl 2 rfl) ?_
        by_cases c_21_0 : p2 = 0
        · refine lv_tableIn (off := 27) (tgt := 48) hx hb dX0_used_21 (by rw [c_21_0]; decide) (by rw [c_21_0]; decide) (by rw [c_21_0]; rfl) (by decide) ?_
          refine lv_aload_n hx hb dX0_used_48 rfl (lv_at hl 0 rfl) ?_
          refine va_get (D := (dC, dI)) (ci := 0) (v := .ref (a 9)) (C := RX0) (T := TX0) (N := 17) hx hb hg inX0 hown hK hP 0 rfl rfl 8 (by decide) (hg _ w_27) (fun _ h9 => h9) rfl dX0_used_49 ?_
          refine lv_iload_n hx hb dX0_used_52 rfl (lv_at hl 1 rfl) ?_
          refine va_iald hx hb hK hP 9 8 rfl rfl (ix_lt c_1 c_15 (by decide)) dX0_used_53 ?_
          have hw : (si p1.toNatClampNeg) = sl_used si mi wi sl p1 p2 := by unfold sl_used; rw [if_neg c_1, if_neg c_9, if_pos c_15, if_pos c_21_0]; try rfl
          exact W.iret (v := si p1.toNatClampNeg) hx hb hr (fun t ht hW => ⟨⟨(si p1.toNatClampNeg), (), rfl, hw, ⟨by rw [ht]; exact hP, va_K.moved hW.alike hK, hD⟩⟩, hS.F ht⟩) hS.2.2 dX0_used_54
        · by_cases c_21_1 : p2 = 1
          · refine lv_tableIn (off := 34) (tgt := 55) hx hb dX0_used_21 (by rw [c_21_1]; decide) (by rw [c_21_1]; decide) (by rw [c_21_1]; rfl) (by decide) ?_
            refine lv_aload_n hx hb dX0_used_55 rfl (lv_at hl 0 rfl) ?_
            refine va_get (D := (dC, dI)) (ci := 0) (v := .ref (a 10)) (C := RX0) (T := TX0) (N := 17) hx hb hg inX0 hown hK hP 0 rfl rfl 9 (by decide) (hg _ w_28) (fun _ h9 => h9) rfl dX0_used_56 ?_
            refine lv_iload_n hx hb dX0_used_59 rfl (lv_at hl 1 rfl) ?_
            refine va_iald hx hb hK hP 10 9 rfl rfl (ix_lt c_1 c_15 (by decide)) dX0_used_60 ?_
            have hw : (mi p1.toNatClampNeg) = sl_used si mi wi sl p1 p2 := by unfold sl_used; rw [if_neg c_1, if_neg c_9, if_pos c_15, if_neg c_21_0, if_pos c_21_1]; try rfl
            exact W.iret (v := mi p1.toNatClampNeg) hx hb hr (fun t ht hW => ⟨⟨(mi p1.toNatClampNeg), (), rfl, hw, ⟨by rw [ht]; exact hP, va_K.moved hW.alike hK, hD⟩⟩, hS.F ht⟩) hS.2.2 dX0_used_61
          · by_cases c_21_2 : p2 = 2
            · refine lv_tableIn (off := 41) (tgt := 62) hx hb dX0_used_21 (by rw [c_21_2]; decide) (by rw [c_21_2]; decide) (by rw [c_21_2]; rfl) (by decide) ?_
              refine lv_aload_n hx hb dX0_used_62 rfl (lv_at hl 0 rfl) ?_
              refine va_get (D := (dC, dI)) (ci := 0) (v := .ref (a 11)) (C := RX0) (T := TX0) (N := 17) hx hb hg inX0 hown hK hP 0 rfl rfl 10 (by decide) (hg _ w_29) (fun _ h9 => h9) rfl dX0_used_63 ?_
              refine lv_iload_n hx hb dX0_used_66 rfl (lv_at hl 1 rfl) ?_
              refine va_iald hx hb hK hP 11 10 rfl rfl (ix_lt c_1 c_15 (by decide)) dX0_used_67 ?_
              have hw : (wi p1.toNatClampNeg) = sl_used si mi wi sl p1 p2 := by unfold sl_used; rw [if_neg c_1, if_neg c_9, if_pos c_15, if_neg c_21_0, if_neg c_21_1, if_pos c_21_2]; try rfl
              exact W.iret (v := wi p1.toNatClampNeg) hx hb hr (fun t ht hW => ⟨⟨(wi p1.toNatClampNeg), (), rfl, hw, ⟨by rw [ht]; exact hP, va_K.moved hW.alike hK, hD⟩⟩, hS.F ht⟩) hS.2.2 dX0_used_68
            · have nc_21_0 := lv_neT c_21_0 (a := 0) rfl
              have nc_21_1 := lv_neT c_21_1 (a := 1) rfl
              have nc_21_2 := lv_neT c_21_2 (a := 2) rfl
              refine lv_tableOut (tgt := 69) hx hb dX0_used_21 (by omega) (by decide) ?_
              refine lv_iconst (v := (-1)) hx hb dX0_used_69 (by decide) ?_
              have hw : (-1) = sl_used si mi wi sl p1 p2 := by unfold sl_used; rw [if_neg c_1, if_neg c_9, if_pos c_15, if_neg c_21_0, if_neg c_21_1, if_neg c_21_2]; try rfl
              exact W.iret (v := (-1)) hx hb hr (fun t ht hW => ⟨⟨(-1), (), rfl, hw, ⟨by rw [ht]; exact hP, va_K.moved hW.alike hK, hD⟩⟩, hS.F ht⟩) hS.2.2 dX0_used_70
      · refine lv_iconst (v := (-1)) hx hb dX0_used_18 (by decide) ?_
        have hw : (-1) = sl_used si mi wi sl p1 p2 := by unfold sl_used; rw [if_neg c_1, if_neg c_9, if_neg c_15]; try rfl
        exact W.iret (v := (-1)) hx hb hr (fun t ht hW => ⟨⟨(-1), (), rfl, hw, ⟨by rw [ht]; exact hP, va_K.moved hW.alike hK, hD⟩⟩, hS.F ht⟩) hS.2.2 dX0_used_19
set_option maxHeartbeats 4000000 in
set_option maxRecDepth 100000 in
theorem cs_count (l : Launch) (dC : Nat → ClassId) (dI : Nat → Nat → Nat) (a : Nat → Nat) (k : Nat → ClassId) (sz : Nat) (rd wr : Nat → Int64) (ay ia mo wo so oi si mi wi : Nat → Int32) (ns nt nf np sl hs : Int32) (p1 : Int32) : Met l yX0_count wsX0_count ({ frames := 0, cells := 0, slots := 0, locals := 0 } : Room) (va_Pc [.ref (a 0), .int p1] (pr (dC, dI) (ws_sl a k rd wr ay ia mo wo so oi si mi wi ns nt nf np sl hs) (ty_sl k) sz)) (va_Qi (fun (r : Int32) (_ : Unit) => r = sl_count ns nt nf p1) (fun (_ : Unit) t => po (dC, dI) (ws_sl a k rd wr ay ia mo wo so oi si mi wi ns nt nf np sl hs) (ty_sl k) (va_A (ws_sl a k rd wr ay ia mo wo so oi si mi wi ns nt nf np sl hs) sz) t) (va_A (ws_sl a k rd wr ay ia mo wo so oi si mi wi ns nt nf np sl hs) sz)) 0 0 (va_A (ws_sl a k rd wr ay ia mo wo so oi si mi wi ns nt nf np sl hs) sz) := by
  refine Met.ofW (cc := cX0_count) (maxL := 2) (ret := (some .int)) (by decide) rfl ?_
  intro p e s m args below meth c s₁ B hml hv
  obtain ⟨rfl, hsz, hP, hK, hD0⟩ := hv
  have hx := B.exec
  have hb := B.bytes
  have hr := B.returns
  have hts := atoms_spec (ws := wsX0_count) B.pre
  have hg : ∀ w ∈ gw, w.before _ s = true := fun w h => hts w (List.mem_cons_of_mem _ h)
  have hown : s.vm.findClass RX0 = some m.cls := findClass_of_methodNamed B.named
  have hlocks := B.notSynchronized
  subst hsz
  have hD := hD0.self (sz := s.heap.size)
  generalize hAe : va_A (ws_sl a k rd wr ay ia mo wo so oi si mi wi ns nt nf np sl hs) s.heap.size = A at hD ⊢
  have hA : ∀ q : Nat, s.heap.size ≤ q → A q := fun q h => by rw [← hAe]; exact Or.inr h
  clear hAe
  refine w_in (fun H locs eH eL => ?_)
  have hS : va_S A s.heap H locs := by rw [eH, eL]; exact va_S.rf
  have hP : va_P (dC, dI) vwCl (ws_sl a k rd wr ay ia mo wo so oi si mi wi ns nt nf np sl hs) H := by rw [eH]; exact hP
  clear eH eL
  have hl := lv_entry ([.ref (a 0), .int p1]) (n := 2) (Nat.le_of_ble_eq_true rfl)
  rw [lg_entry_eq]
  generalize (lg_sl ([.ref (a 0), .int p1]) ++ List.replicate (2 - (lg_sl ([.ref (a 0), .int p1])).length) Slot.unset).toArray = ls at hl ⊢
  have hl : lv_has ls 2 [(0, .ref (a 0)), (1, .int p1)] := hl
  refine lv_iload_n hx hb dX0_count_0 rfl (lv_at hl 1 rfl) ?_
  by_cases c_1_0 : p1 = 0
  · refine lv_tableIn (off := 27) (tgt := 28) hx hb dX0_count_1 (by rw [c_1_0]; decide) (by rw [c_1_0]; decide) (by rw [c_1_0]; rfl) (by decide) ?_
    refine lv_aload_n hx hb dX0_count_28 rfl (lv_at hl 0 rfl) ?_
    refine va_get (D := (dC, dI)) (ci := 0) (v := .int ns) (C := RX0) (T := TX0) (N := 17) hx hb hg inX0 hown hK hP 0 rfl rfl 11 (by decide) (hg _ w_30) (fun _ h9 => h9) rfl dX0_count_29 ?_
    have hw : ns = sl_count ns nt nf p1 := by unfold sl_count; rw [if_pos c_1_0]; try rfl
    exact W.iret (v := ns) hx hb hr (fun t ht hW => ⟨⟨ns, (), rfl, hw, ⟨by rw [ht]; exact hP, va_K.moved hW.alike hK, hD⟩⟩, hS.F ht⟩) hS.2.2 dX0_count_32
  · by_cases c_1_1 : p1 = 1
    · refine lv_tableIn (off := 32) (tgt := 33) hx hb dX0_count_1 (by rw [c_1_1]; decide) (by rw [c_1_1]; decide) (by rw [c_1_1]; rfl) (by decide) ?_
      refine lv_aload_n hx hb dX0_count_33 rfl (lv_at hl 0 rfl) ?_
      refine va_get (D := (dC, dI)) (ci := 0) (v := .int nt) (C := RX0) (T := TX0) (N := 17) hx hb hg inX0 hown hK hP 0 rfl rfl 12 (by decide) (hg _ w_31) (fun _ h9 => h9) rfl dX0_count_34 ?_
      have hw : nt = sl_count ns nt nf p1 := by unfold sl_count; rw [if_neg c_1_0, if_pos c_1_1]; try rfl
      exact W.iret (v := nt) hx hb hr (fun t ht hW => ⟨⟨nt, (), rfl, hw, ⟨by rw [ht]; exact hP, va_K.moved hW.alike hK, hD⟩⟩, hS.F ht⟩) hS.2.2 dX0_count_37
    · by_cases c_1_2 : p1 = 2
      · refine lv_tableIn (off := 37) (tgt := 38) hx hb dX0_count_1 (by rw [c_1_2]; decide) (by rw [c_1_2]; decide) (by rw [c_1_2]; rfl) (by decide) ?_
        refine lv_aload_n hx hb dX0_count_38 rfl (lv_at hl 0 rfl) ?_
        refine va_get (D := (dC, dI)) (ci := 0) (v := .int nf) (C := RX0) (T := TX0) (N := 17) hx hb hg inX0 hown hK hP 0 rfl rfl 13 (by decide) (hg _ w_32) (fun _ h9 => h9) rfl dX0_count_39 ?_
        have hw : nf = sl_count ns nt nf p1 := by unfold sl_count; rw [if_neg c_1_0, if_neg c_1_1, if_pos c_1_2]; try rfl
        exact W.iret (v := nf) hx hb hr (fun t ht hW => ⟨⟨nf, (), rfl, hw, ⟨by rw [ht]; exact hP, va_K.moved hW.alike hK, hD⟩⟩, hS.F ht⟩) hS.2.2 dX0_count_42
      · have nc_1_0 := lv_neT c_1_0 (a := 0) rfl
        have nc_1_1 := lv_neT c_1_1 (a := 1) rfl
        have nc_1_2 := lv_neT c_1_2 (a := 2) rfl
        refine lv_tableOut (tgt := 43) hx hb dX0_count_1 (by omega) (by decide) ?_
        refine lv_iconst (v := (-1)) hx hb dX0_count_43 (by decide) ?_
        have hw : (-1) = sl_count ns nt nf p1 := by unfold sl_count; rw [if_neg c_1_0, if_neg c_1_1, if_neg c_1_2]; try rfl
        exact W.iret (v := (-1)) hx hb hr (fun t ht hW => ⟨⟨(-1), (), rfl, hw, ⟨by rw [ht]; exact hP, va_K.moved hW.alike hK, hD⟩⟩, hS.F ht⟩) hS.2.2 dX0_count_44
end
