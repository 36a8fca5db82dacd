section
-- ===== PART A: goes FIRST, ahead of the names: the tables' words, and 'selects' of the private methods out of them =====
/-- a private method of a class that the tables say can be made, by its rows of tables_1 -/
def lw_okq (q : MethodName × Nat) : Prop := (q.1.cls ≠ "java/lang/invoke/MethodHandle" ∧ q.1.cls ≠ "java/lang/invoke/VarHandle") ∧ Cond.instantiable q.1.cls q.2 ∈ tables_1 ∧ Cond.privateMethod q.1 ∈ tables_1 ∧ Cond.instanceMethod q.1 ∈ tables_1
theorem lw_p0 : lw_okq (⟨"java/lang/Throwable", "fillInStackTrace", "(I)Ljava/lang/Throwable;"⟩, 6) := ⟨⟨by decide +kernel, by decide +kernel⟩, List.mem_of_getElem? (i := 269) (by decide +kernel), List.mem_of_getElem? (i := 267) (by decide +kernel), List.mem_of_getElem? (i := 268) (by decide +kernel)⟩
theorem lw_p1 : lw_okq (⟨"OnboardingWorks", "isAhead", "(I)Z"⟩, 7) := ⟨⟨by decide +kernel, by decide +kernel⟩, List.mem_of_getElem? (i := 16) (by decide +kernel), List.mem_of_getElem? (i := 363) (by decide +kernel), List.mem_of_getElem? (i := 364) (by decide +kernel)⟩
theorem lw_p2 : lw_okq (⟨"OnboardingWorks", "bookAll", "()V"⟩, 7) := ⟨⟨by decide +kernel, by decide +kernel⟩, List.mem_of_getElem? (i := 16) (by decide +kernel), List.mem_of_getElem? (i := 384) (by decide +kernel), List.mem_of_getElem? (i := 385) (by decide +kernel)⟩
theorem lw_p3 : lw_okq (⟨"OnboardingWorks", "joinerAt", "(I)LOnboardingWorks$Joiner;"⟩, 7) := ⟨⟨by decide +kernel, by decide +kernel⟩, List.mem_of_getElem? (i := 16) (by decide +kernel), List.mem_of_getElem? (i := 403) (by decide +kernel), List.mem_of_getElem? (i := 404) (by decide +kernel)⟩
theorem lw_p4 : lw_okq (⟨"OnboardingWorks", "bookFor", "(LOnboardingWorks$Joiner;)V"⟩, 7) := ⟨⟨by decide +kernel, by decide +kernel⟩, List.mem_of_getElem? (i := 16) (by decide +kernel), List.mem_of_getElem? (i := 408) (by decide +kernel), List.mem_of_getElem? (i := 409) (by decide +kernel)⟩
theorem lw_p5 : lw_okq (⟨"OnboardingWorks$Forecast", "beginOf", "(LOnboardingWorks$Joiner;I)I"⟩, 7) := ⟨⟨by decide +kernel, by decide +kernel⟩, List.mem_of_getElem? (i := 117) (by decide +kernel), List.mem_of_getElem? (i := 416) (by decide +kernel), List.mem_of_getElem? (i := 417) (by decide +kernel)⟩
theorem lw_p6 : lw_okq (⟨"OnboardingWorks$Forecast", "withSupply", "(II)I"⟩, 7) := ⟨⟨by decide +kernel, by decide +kernel⟩, List.mem_of_getElem? (i := 117) (by decide +kernel), List.mem_of_getElem? (i := 430) (by decide +kernel), List.mem_of_getElem? (i := 431) (by decide +kernel)⟩
theorem lw_p7 : lw_okq (⟨"OnboardingWorks", "countWaitingFor", "(I)I"⟩, 7) := ⟨⟨by decide +kernel, by decide +kernel⟩, List.mem_of_getElem? (i := 16) (by decide +kernel), List.mem_of_getElem? (i := 469) (by decide +kernel), List.mem_of_getElem? (i := 470) (by decide +kernel)⟩
theorem lw_p8 : lw_okq (⟨"OnboardingWorks", "isReady", "(LOnboardingWorks$Joiner;I)Z"⟩, 7) := ⟨⟨by decide +kernel, by decide +kernel⟩, List.mem_of_getElem? (i := 16) (by decide +kernel), List.mem_of_getElem? (i := 473) (by decide +kernel), List.mem_of_getElem? (i := 474) (by decide +kernel)⟩
theorem lw_p9 : lw_okq (⟨"OnboardingWorks", "beginSteps", "(LOnboardingWorks$Joiner;)V"⟩, 7) := ⟨⟨by decide +kernel, by decide +kernel⟩, List.mem_of_getElem? (i := 16) (by decide +kernel), List.mem_of_getElem? (i := 516) (by decide +kernel), List.mem_of_getElem? (i := 517) (by decide +kernel)⟩
theorem lw_p10 : lw_okq (⟨"OnboardingWorks", "canBegin", "(LOnboardingWorks$Joiner;I)Z"⟩, 7) := ⟨⟨by decide +kernel, by decide +kernel⟩, List.mem_of_getElem? (i := 16) (by decide +kernel), List.mem_of_getElem? (i := 520) (by decide +kernel), List.mem_of_getElem? (i := 521) (by decide +kernel)⟩
theorem lw_p11 : lw_okq (⟨"OnboardingWorks", "loseSessions", "(LOnboardingWorks$Joiner;)V"⟩, 7) := ⟨⟨by decide +kernel, by decide +kernel⟩, List.mem_of_getElem? (i := 16) (by decide +kernel), List.mem_of_getElem? (i := 532) (by decide +kernel), List.mem_of_getElem? (i := 533) (by decide +kernel)⟩
theorem lw_p12 : lw_okq (⟨"OnboardingWorks", "takeBackStep", "(LOnboardingWorks$Joiner;)V"⟩, 7) := ⟨⟨by decide +kernel, by decide +kernel⟩, List.mem_of_getElem? (i := 16) (by decide +kernel), List.mem_of_getElem? (i := 536) (by decide +kernel), List.mem_of_getElem? (i := 537) (by decide +kernel)⟩
theorem lw_p13 : lw_okq (⟨"OnboardingWorks", "foreseenOfJoiner", "(LOnboardingWorks$Joiner;I)I"⟩, 7) := ⟨⟨by decide +kernel, by decide +kernel⟩, List.mem_of_getElem? (i := 16) (by decide +kernel), List.mem_of_getElem? (i := 555) (by decide +kernel), List.mem_of_getElem? (i := 556) (by decide +kernel)⟩
theorem lw_p14 : lw_okq (⟨"OnboardingWorks", "countLeft", "()I"⟩, 7) := ⟨⟨by decide +kernel, by decide +kernel⟩, List.mem_of_getElem? (i := 16) (by decide +kernel), List.mem_of_getElem? (i := 572) (by decide +kernel), List.mem_of_getElem? (i := 573) (by decide +kernel)⟩
theorem lw_p15 : lw_okq (⟨"OnboardingWorks", "countStepsIn", "(I)I"⟩, 7) := ⟨⟨by decide +kernel, by decide +kernel⟩, List.mem_of_getElem? (i := 16) (by decide +kernel), List.mem_of_getElem? (i := 576) (by decide +kernel), List.mem_of_getElem? (i := 577) (by decide +kernel)⟩
def lw_privs_1 : List (MethodName × Nat) := [(⟨"java/lang/Throwable", "fillInStackTrace", "(I)Ljava/lang/Throwable;"⟩, 6), (⟨"OnboardingWorks", "isAhead", "(I)Z"⟩, 7), (⟨"OnboardingWorks", "bookAll", "()V"⟩, 7), (⟨"OnboardingWorks", "joinerAt", "(I)LOnboardingWorks$Joiner;"⟩, 7), (⟨"OnboardingWorks", "bookFor", "(LOnboardingWorks$Joiner;)V"⟩, 7), (⟨"OnboardingWorks$Forecast", "beginOf", "(LOnboardingWorks$Joiner;I)I"⟩, 7), (⟨"OnboardingWorks$Forecast", "withSupply", "(II)I"⟩, 7), (⟨"OnboardingWorks", "countWaitingFor", "(I)I"⟩, 7), (⟨"OnboardingWorks", "isReady", "(LOnboardingWorks$Joiner;I)Z"⟩, 7), (⟨"OnboardingWorks", "beginSteps", "(LOnboardingWorks$Joiner;)V"⟩, 7), (⟨"OnboardingWorks", "canBegin", "(LOnboardingWorks$Joiner;I)Z"⟩, 7), (⟨"OnboardingWorks", "loseSessions", "(LOnboardingWorks$Joiner;)V"⟩, 7), (⟨"OnboardingWorks", "takeBackStep", "(LOnboardingWorks$Joiner;)V"⟩, 7), (⟨"OnboardingWorks", "foreseenOfJoiner", "(LOnboardingWorks$Joiner;I)I"⟩, 7), (⟨"OnboardingWorks", "countLeft", "()I"⟩, 7), (⟨"OnboardingWorks", "countStepsIn", "(I)I"⟩, 7)]
theorem lw_r1 : ∀ q ∈ lw_privs_1, lw_okq q := List.forall_mem_cons.mpr ⟨lw_p0, List.forall_mem_cons.mpr ⟨lw_p1, List.forall_mem_cons.mpr ⟨lw_p2, List.forall_mem_cons.mpr ⟨lw_p3, List.forall_mem_cons.mpr ⟨lw_p4, List.forall_mem_cons.mpr ⟨lw_p5, List.forall_mem_cons.mpr ⟨lw_p6, List.forall_mem_cons.mpr ⟨lw_p7, List.forall_mem_cons.mpr ⟨lw_p8, List.forall_mem_cons.mpr ⟨lw_p9, List.forall_mem_cons.mpr ⟨lw_p10, List.forall_mem_cons.mpr ⟨lw_p11, List.forall_mem_cons.mpr ⟨lw_p12, List.forall_mem_cons.mpr ⟨lw_p13, List.forall_mem_cons.mpr ⟨lw_p14, List.forall_mem_cons.mpr ⟨lw_p15, fun _ h => absurd h List.not_mem_nil⟩⟩⟩⟩⟩⟩⟩⟩⟩⟩⟩⟩⟩⟩⟩⟩
theorem lw_p16 : lw_okq (⟨"OnboardingWorks", "countRights", "()I"⟩, 7) := ⟨⟨by decide +kernel, by decide +kernel⟩, List.mem_of_getElem? (i := 16) (by decide +kernel), List.mem_of_getElem? (i := 580) (by decide +kernel), List.mem_of_getElem? (i := 581) (by decide +kernel)⟩
theorem lw_p17 : lw_okq (⟨"OnboardingWorks", "nextStep", "(LOnboardingWorks$Joiner;)I"⟩, 7) := ⟨⟨by decide +kernel, by decide +kernel⟩, List.mem_of_getElem? (i := 16) (by decide +kernel), List.mem_of_getElem? (i := 603) (by decide +kernel), List.mem_of_getElem? (i := 604) (by decide +kernel)⟩
theorem lw_p18 : lw_okq (⟨"OnboardingWorks", "digestWith", "(JLOnboardingWorks$Joiner;)J"⟩, 7) := ⟨⟨by decide +kernel, by decide +kernel⟩, List.mem_of_getElem? (i := 16) (by decide +kernel), List.mem_of_getElem? (i := 621) (by decide +kernel), List.mem_of_getElem? (i := 622) (by decide +kernel)⟩
theorem lw_p19 : lw_okq (⟨"OnboardingWorks", "foreseenOfStep", "(LOnboardingWorks$Joiner;II)I"⟩, 7) := ⟨⟨by decide +kernel, by decide +kernel⟩, List.mem_of_getElem? (i := 16) (by decide +kernel), List.mem_of_getElem? (i := 626) (by decide +kernel), List.mem_of_getElem? (i := 627) (by decide +kernel)⟩
theorem lw_p20 : lw_okq (⟨"OnboardingWorks", "countWaitingOn", "(LOnboardingWorks$Joiner;I)I"⟩, 7) := ⟨⟨by decide +kernel, by decide +kernel⟩, List.mem_of_getElem? (i := 16) (by decide +kernel), List.mem_of_getElem? (i := 630) (by decide +kernel), List.mem_of_getElem? (i := 631) (by decide +kernel)⟩
def lw_privs_2 : List (MethodName × Nat) := [(⟨"OnboardingWorks", "countRights", "()I"⟩, 7), (⟨"OnboardingWorks", "nextStep", "(LOnboardingWorks$Joiner;)I"⟩, 7), (⟨"OnboardingWorks", "digestWith", "(JLOnboardingWorks$Joiner;)J"⟩, 7), (⟨"OnboardingWorks", "foreseenOfStep", "(LOnboardingWorks$Joiner;II)I"⟩, 7), (⟨"OnboardingWorks", "countWaitingOn", "(LOnboardingWorks$Joiner;I)I"⟩, 7)]
theorem lw_r2 : ∀ q ∈ lw_privs_2, lw_okq q := List.forall_mem_cons.mpr ⟨lw_p16, List.forall_mem_cons.mpr ⟨lw_p17, List.forall_mem_cons.mpr ⟨lw_p18, List.forall_mem_cons.mpr ⟨lw_p19, List.forall_mem_cons.mpr ⟨lw_p20, fun _ h => absurd h List.not_mem_nil⟩⟩⟩⟩⟩
def lw_privs : List (MethodName × Nat) := lw_privs_1 ++ (lw_privs_2)
def lw_tbl : List Cond := k2_sels lw_privs ++ tables_1
theorem lw_privs_ok : ∀ q ∈ lw_privs, lw_okq q := by
  show ∀ q ∈ lw_privs_1 ++ (lw_privs_2), lw_okq q
  exact List.forall_mem_append.mpr ⟨lw_r1, lw_r2⟩
end
section
/-! ===== BEGIN words of one list among another's, by their places ===== -/
theorem goodIn_r {big : List Cond} (ws : List Cond) (ps : List Nat) (hp : ws = ps.filterMap (fun i => big[i]?)) (h : ws.all goodWord = true) : GoodIn big ws := by
  intro w hw
  have h1 := List.all_eq_true.mp h w hw
  rw [hp] at hw
  obtain ⟨i, -, hi⟩ := List.mem_filterMap.mp hw
  have hm : w ∈ big := by first | exact List.mem_of_getElem? hi | exact List.getElem?_mem hi
  exact ⟨hm, good_of_word h1⟩
theorem goodIn_app {big a b : List Cond} (ha : GoodIn big a) (hb : GoodIn big b) : GoodIn big (a ++ b) := fun w h => (List.mem_append.mp h).elim (ha w) (hb w)
theorem goodIn_ca {big a b : List Cond} {c : Cond} (ha : GoodIn big (c :: a)) (hb : GoodIn big b) : GoodIn big (c :: (a ++ b)) := fun w h => (List.mem_cons.mp h).elim (fun e => ha w (List.mem_cons.mpr (Or.inl e))) (fun h => (List.mem_append.mp h).elim (fun h => ha w (List.mem_cons.mpr (Or.inr h))) (hb w))
theorem goodIn_sub {big ws : List Cond} (hm : ∀ w ∈ ws, w ∈ big) (h : ws.all goodWord = true) : GoodIn big ws := fun w hw => ⟨hm w hw, good_of_word (List.all_eq_true.mp h w hw)⟩
/-! ===== END ===== -/

/-! ===== BEGIN exceptions that leave a method, and their catching by the caller (launches without stack traces) ===== -/
section VXA
/-! The laws vx_back, vx_callV, vx_callS, vx_callSW, vx_throw0, vx_throwS follow proofs of the library, with one case more: JvmDerived/Free/Laws.lean (Back.of_free), Shelf42/LK1.lean (callV, callS), Shelf/KitTraced.lean (throwNew0V, throwNewS). -/
/-- where a method has thrown q: the class by its name, the cell, what was written, the world -/
def vx_T (XC : String → State → State → Prop) (st : State) (q : Addr) (t : State) (mc ms : Nat) (free : Addr → Prop) : Prop :=
  ∃ (E : String) (ce : Cell) (L : List Loc), XC E st t ∧ t.heap[q]? = some ce ∧ ce.vm = .none ∧ st.vm.findClass E = some ce.cls ∧ st.WarmedH t.vm ∧ st.sameButNew ({ t with vm := st.vm } : State) L mc ms ∧ ∀ z ∈ L, free z.base
def vx_Q (Qc : Array Value → State → Outcome → State → Prop) (XC : String → State → State → Prop) (mc ms : Nat) (free : Addr → Prop) : Array Value → State → Outcome → State → Prop := fun a st o t =>
  (Qc a st o t ∧ ∃ L, FrameEnd st o t L mc ms ∧ ∀ q ∈ L, free q.base) ∨ ∃ q, o = .threw q ∧ vx_T XC st q t mc ms free
/-- a callee that returns or throws -/
def vx_Met (l : Launch) (y : MethodName) (ws : List Cond) (rm : Room) (Pc : Array Value → State → Prop) (Qc : Array Value → State → Outcome → State → Prop) (XC : String → State → State → Prop) (mc ms : Nat) (free : Addr → Prop) : Prop :=
  MetFree l y (headSpec ws rm) Pc (fun _ _ _ _ _ => True) (vx_Q Qc XC mc ms free)
def vx_Post (XC : String → State → State → Prop) (mc ms : Nat) (free : Addr → Prop) : Pt → Array Value → Addr → Pt → Prop := fun A a q B =>
  ∃ (g : JFrame) (mk : MethodId) (t : State) (L : List Loc) (E : String) (ce : Cell), B.U.heap = t.heap ∧ B.U.vm = t.vm ∧ XC E (A.U.calling g mk a) t ∧ t.heap[q]? = some ce ∧ ce.vm = .none ∧ A.U.vm.findClass E = some ce.cls ∧ B.locs = A.locs ++ L ∧ (∀ z ∈ L, free z.base) ∧ B.cells = A.cells + mc ∧ B.slots = A.slots + ms
def vx_Back (l : Launch) (R : Room) (p : Program) (e : Env) (below : List Frame) (s : State) (sargs : Array Value) (y : MethodName) (len W9 : Nat)
    (Pre : Pt → Array Value → Prop) (Post : Pt → Array Value → Option Value → Pt → Prop) (PostX : Pt → Array Value → Addr → Pt → Prop) : Prop :=
  ∀ (m : MethodId) (meth : Method) (c : Code) (A : Pt) (g : JFrame) (ig : Instr) (mk : MethodId) (a : Array Value),
    Stand p l e R s m sargs below meth c A.U A.locs A.cells A.slots → g.method = m → g.locals.size = c.maxLocals → decode c.code g.pc = .ok (ig, len) →
    2 * g.monitorRoom + (g.stack.map fun v => v.category).sum ≤ W9 → A.U.methodNamed? y = some mk → Pre A a →
    (∃ (v : Option Value) (B : Pt), Stand p l e R s m sargs below meth c B.U B.locs B.cells B.slots ∧ Post A a v B ∧
      Steps p.tables e below (doInvoke e (A.U.setTop g) [] mk a).1 (B.U.setTop { g with pc := g.pc + len, stack := v.toList ++ g.stack })) ∨
    (∃ (q : Addr) (B : Pt), Stand p l e R s m sargs below meth c B.U B.locs B.cells B.slots ∧ PostX A a q B ∧
      Steps p.tables e below (doInvoke e (A.U.setTop g) [] mk a).1 ((B.U.setTop g).pushFrame (.throwing q)))
section Payer
variable {l : Launch} {R : Room} {p : Program} {e : Env} {below : List Frame} {s : State} {sargs : Array Value} {y : MethodName} {len W9 : Nat}
theorem vx_back {ws : List Cond} {rm : Room} {Pc : Array Value → State → Prop} {Qc : Array Value → State → Outcome → State → Prop} {XC : String → State → State → Prop} {mc ms : Nat} {free : Addr → Prop} {bytes : ByteArray} {maxL : Nat} {ret : Option FieldType}
    (hM : vx_Met l y ws rm Pc Qc XC mc ms free) (hblind : FrameBlind Pc) (hrc : rm.cells = mc) (hrs : rm.slots = ms)
    (hframes : rm.frames + 1 ≤ R.frames) (hlocals : W9 + (maxL + 11) + rm.locals ≤ R.locals)
    (hws : ∀ w ∈ ws, ∀ a' U, s.WarmedH U.vm → w.before a' U = true) (hcode : Cond.code y bytes maxL ret ∈ ws) (hinit : ∀ a' U, s.WarmedH U.vm → (Cond.initialized y.cls).before a' U = true) :
    vx_Back l R p e below s sargs y len W9 (PreOf R mc ms Pc) (PostOf Qc mc ms free) (vx_Post XC mc ms free) := by
  intro m meth c A g ig mk a X hg hsize hdg hW hn hp
  have h1 : (headSpec ws rm).pre.before a A.U = true := atoms_intro fun w hw => hws w hw _ _ X.warmed
  have h2 : (Cond.code y bytes maxL ret).before a A.U = true := hws _ hcode _ _ X.warmed
  have h3 : (Cond.initialized y.cls).before a A.U = true := hinit _ _ X.warmed
  have h4 : A.cells + (headSpec ws rm).room.cells ≤ R.cells := by rw [show (headSpec ws rm).room.cells = mc from hrc]; exact hp.1
  have h5 : A.slots + (headSpec ws rm).room.slots ≤ R.slots := by rw [show (headSpec ws rm).room.slots = ms from hrs]; exact hp.2.1
  have hPc : Pc a (A.U.calling g mk a) := hblind _ _ _ _ hp.2.2
  obtain ⟨U, Ls, c0, s0⟩ := A
  dsimp only [Pt.U, Pt.locs, Pt.cells, Pt.slots] at h1 h2 h3 h4 h5 X hn hPc ⊢
  obtain ⟨methY, cY, hmY, hcY, -, hlY, -, -, -, -⟩ := Cond.code_spec hn h2
  obtain ⟨kY, hkY, -⟩ := className_of_methodNamed hn
  have hinitY : kY.init = .initialized := Cond.initialized_spec (findClass_of_methodNamed hn) hkY h3
  have h : At U g.method c below := by rw [hg]; exact X.here
  have hlocals9 : W9 + (maxL + 11) + (headSpec ws rm).room.locals ≤ R.locals := hlocals
  have happ : (headSpec ws rm).appliesLoose y e.platform (U.calling g mk a) = true :=
    Spec.appliesLoose_calling (g := g) h hdg hn hkY hinitY
      (X.room_calling (g := g) (R' := (headSpec ws rm).room) hsize hmY hcY hframes (by rw [hlY]; omega) h4 h5) h1
  obtain ⟨mid, hmid⟩ := h.above
  have hfr : (U.setTop g).frames = (.java g :: mid) ++ below := by rw [State.frames_setTop' g h.top, hmid]; rfl
  obtain ⟨o, s₂, hsteps, -, hend, hq⟩ := Steps.callFree hM p X.admits X.cas X.clock (acts := []) hfr happ hPc trivial
  have hq' : vx_Q Qc XC mc ms free a (U.calling g mk a) o s₂ := hq
  rw [State.frames_setTop' g h.top] at hend
  obtain ⟨g₀, hg0⟩ := Option.isSome_iff_exists.mp h.top
  obtain ⟨r, hr⟩ := State.topJava?_eq_some.mp hg0
  have hr' : (({ U with heap := s₂.heap, slotsUsed := s₂.slotsUsed } : State).setVm s₂.vm).frames = .java g₀ :: r := hr
  rcases hq' with ⟨hqc, L, hfe, hL⟩ | ⟨q, rfl, E, ce, L, hx, hce, hcv, hcl, hW₂, hsm, hL⟩
  · obtain ⟨⟨v, rfl⟩, hW₂, e2, q2, q3, q4, q5, q6⟩ := id hfe
    have e3 : s₂ = ({ (U.calling g mk a).setFrames s₂.frames with heap := s₂.heap, slotsUsed := s₂.slotsUsed } : State).setVm s₂.vm := by
      have : s₂ = ({ s₂ with vm := (U.calling g mk a).vm } : State).setVm s₂.vm := rfl
      rw [e2] at this
      exact this
    obtain ⟨c₂, i₂, len₂, hc₂, hd₂, hf₂⟩ := hend
    have hW' : U.WarmedH s₂.vm := hW₂
    have hcc : c₂ = c := by
      have h1 : s₂.code? g.method = U.code? g.method := by
        rw [State.code?_eq, State.code?_eq, hW'.alike.method?]
      exact Option.some.inj (hc₂.symm.trans (h1.trans h.code))
    subst hcc
    have hlen : len₂ = len := by rw [hdg] at hd₂; cases hd₂; rfl
    subst hlen
    have hs₂ : s₂ = (({ U with heap := s₂.heap, slotsUsed := s₂.slotsUsed } : State).setVm s₂.vm).setTop { g with pc := g.pc + len₂, stack := v.toList ++ g.stack } := by
      refine e3.trans ?_
      rw [hf₂, State.calling_eq h.top, State.setFrames_setFrames, State.setTop_of_frames _ hr', hr]
      rfl
    have hsame : U.sameButNew ({ U with heap := s₂.heap, slotsUsed := s₂.slotsUsed } : State) L mc ms := by
      refine ⟨?_, q2, q3, q4, q5, q6⟩
      obtain ⟨t, ht, -⟩ := State.frames_cons hr
      show ({ U with heap := s₂.heap, slotsUsed := s₂.slotsUsed } : State) = { U.setFrames U.frames with heap := s₂.heap, slotsUsed := s₂.slotsUsed }
      rw [State.setFrames_self ht]
    subst hg
    refine Or.inl ⟨v, ⟨(({ U with heap := s₂.heap, slotsUsed := s₂.slotsUsed } : State).setVm s₂.vm), Ls ++ L, c0 + mc, s0 + ms⟩,
      ⟨X.admits, X.cas, X.clock, X.frames, X.room, X.hears, X.method, X.code, (X.here.setHeapUsed s₂.heap s₂.slotsUsed).setVm hW'.alike, X.tail, State.WarmedH.trans X.warmed hW', X.limits, X.bytes, X.same.trans (hsame.setVm s.vm)⟩,
      ⟨g, mk, s₂, L, rfl, rfl, hqc, rfl, hL, rfl, rfl⟩, ?_⟩
    show Steps p.tables e below _ ((({ U with heap := s₂.heap, slotsUsed := s₂.slotsUsed } : State).setVm s₂.vm).setTop { g with pc := g.pc + len₂, stack := v.toList ++ g.stack })
    rw [← hs₂]
    exact hsteps
  · obtain ⟨e2, q2, q3, q4, q5, q6⟩ := id hsm
    have e3 : s₂ = ({ (U.calling g mk a).setFrames s₂.frames with heap := s₂.heap, slotsUsed := s₂.slotsUsed } : State).setVm s₂.vm := by
      have : s₂ = ({ s₂ with vm := (U.calling g mk a).vm } : State).setVm s₂.vm := rfl
      rw [e2] at this
      exact this
    have hf₂ : s₂.frames = .throwing q :: .java g :: U.frames.tail := hend
    have hW' : U.WarmedH s₂.vm := hW₂
    have hs₂ : s₂ = ((({ U with heap := s₂.heap, slotsUsed := s₂.slotsUsed } : State).setVm s₂.vm).setTop g).pushFrame (.throwing q) := by
      refine e3.trans ?_
      rw [hf₂, State.calling_eq h.top, State.setFrames_setFrames, State.pushFrame, State.frames_setTop _ hr', State.setTop_of_frames _ hr', State.setFrames_setFrames, hr]
      rfl
    have hsame : U.sameButNew ({ U with heap := s₂.heap, slotsUsed := s₂.slotsUsed } : State) L mc ms := by
      refine ⟨?_, q2, q3, q4, q5, q6⟩
      obtain ⟨t, ht, -⟩ := State.frames_cons hr
      show ({ U with heap := s₂.heap, slotsUsed := s₂.slotsUsed } : State) = { U.setFrames U.frames with heap := s₂.heap, slotsUsed := s₂.slotsUsed }
      rw [State.setFrames_self ht]
    subst hg
    refine Or.inr ⟨q, ⟨(({ U with heap := s₂.heap, slotsUsed := s₂.slotsUsed } : State).setVm s₂.vm), Ls ++ L, c0 + mc, s0 + ms⟩,
      ⟨X.admits, X.cas, X.clock, X.frames, X.room, X.hears, X.method, X.code, (X.here.setHeapUsed s₂.heap s₂.slotsUsed).setVm hW'.alike, X.tail, State.WarmedH.trans X.warmed hW', X.limits, X.bytes, X.same.trans (hsame.setVm s.vm)⟩,
      ⟨g, mk, s₂, L, E, ce, rfl, rfl, hx, hce, hcv, hcl, rfl, hL, rfl, rfl⟩, ?_⟩
    show Steps p.tables e below _ (((({ U with heap := s₂.heap, slotsUsed := s₂.slotsUsed } : State).setVm s₂.vm).setTop g).pushFrame (.throwing q))
    rw [← hs₂]
    exact hsteps
end Payer
section Calls
variable {p : Program} {l : Launch} {e : Env} {R : Room} {s : State} {m : MethodId} {args : Array Value} {below : List Frame} {meth : Method} {c : Code} {T : State} {locs : List Loc} {cells slots : Nat}
theorem vx_callV (X : Stand p l e R s m args below meth c T locs cells slots) (hexec : p.tables.exec = Jvm.exec) {own C : String} {index : Nat} {y : MethodName} {bytes : ByteArray} {maxL : Nat} {ret : Option FieldType}
    (hown : s.vm.findClass own = some m.cls) (hlink : (Cond.methodLink own index y).before args s = true) (hinst : (Cond.instanceMethod y).before args s = true) (hsel : (Cond.selects C y y).before args s = true)
    (hcode : (Cond.code y bytes maxL ret).before args s = true) (hy : y.cls ≠ "java/lang/invoke/MethodHandle" ∧ y.cls ≠ "java/lang/invoke/VarHandle")
    {W9 : Nat} {Pre : Pt → Array Value → Prop} {Post : Pt → Array Value → Option Value → Pt → Prop} {PostX : Pt → Array Value → Addr → Pt → Prop} (hK : vx_Back l R p e below s args y 3 W9 Pre Post PostX)
    {b : Addr} {cellB : Cell} (hcell : T.heap[b]? = some cellB) (hobj : cellB.vm.isStatics = false) (hcls : s.vm.findClass C = some cellB.cls)
    {g : JFrame} (hg : g.method = m) (hsize : g.locals.size = c.maxLocals) {argsL rest : List Value} (hlen : ∀ sig, parseMethodDescriptor y.desc = some sig → argsL.length = sig.parameters.length)
    (hstack : g.stack = argsL.reverse ++ .ref b :: rest) (hW : 2 * g.monitorRoom + (rest.map fun v => v.category).sum ≤ W9) (hdg : decode c.code g.pc = .ok (.invokevirtual index, 3))
    (hpre : ∀ vm₁, s.WarmedH vm₁ → Pre ⟨T.setVm vm₁, locs, cells, slots⟩ (Value.ref b :: argsL).toArray) :
    (∃ (v : Option Value) (vm₁ : Vm) (B : Pt), s.WarmedH vm₁ ∧ Stand p l e R s m args below meth c B.U B.locs B.cells B.slots ∧ Post ⟨T.setVm vm₁, locs, cells, slots⟩ (Value.ref b :: argsL).toArray v B ∧
      ∀ target, Steps p.tables e below (B.U.setTop { g with pc := g.pc + 3, stack := v.toList ++ rest }) target → Steps p.tables e below (T.setTop g) target) ∨
    (∃ (q : Addr) (vm₁ : Vm) (B : Pt), s.WarmedH vm₁ ∧ Stand p l e R s m args below meth c B.U B.locs B.cells B.slots ∧ PostX ⟨T.setVm vm₁, locs, cells, slots⟩ (Value.ref b :: argsL).toArray q B ∧
      Steps p.tables e below (T.setTop g) ((B.U.setTop { g with stack := rest }).pushFrame (.throwing q))) := by
  obtain ⟨mk, methM, hnamed, hmethM, hstM, habM⟩ := Cond.instanceMethod_spec hinst
  obtain ⟨methM', cM, hmethM', -, -, -, -, -, -, hsigM⟩ := Cond.code_spec hnamed hcode
  cases hmethM.symm.trans hmethM'
  obtain ⟨c2, r2, m2, q1, q2, q3, q4, kP, hkP, hkPi⟩ := Cond.selects_spec hsel
  cases hcls.symm.trans q1
  cases (State.methodFound?_of_named hnamed hy).symm.trans q2
  cases hnamed.symm.trans q3
  have hselP : selectMethod e.platform s.vm cellB.cls mk = .method mk := by rw [Launch.admits_selectMethod X.admits]; exact q4
  obtain ⟨vm₁, X₁, hstep₁⟩ := X.invokevirtual hexec hown hlink hnamed hmethM hstM hkP hkPi hy (a := b) (cell := cellB) hcell
    (fun z h => by rw [h] at hobj; cases hobj) hselP hmethM habM hkP hkPi (g := g) hg (argsL := argsL) (rest := rest) (hlen _ hsigM) hstack hdg
  rcases hK m meth c ⟨T.setVm vm₁, locs, cells, slots⟩ { g with stack := rest } (.invokevirtual index) mk (Value.ref b :: argsL).toArray X₁ hg hsize hdg hW (X₁.named hnamed) (hpre vm₁ X₁.warmed) with ⟨v, B, X', hpost, hsteps⟩ | ⟨q, B, X', hpost, hsteps⟩
  · exact Or.inl ⟨v, vm₁, B, X₁.warmed, X', hpost, fun target h => hstep₁ _ fun acts => by rw [doInvoke_state]; exact hsteps.trans h⟩
  · exact Or.inr ⟨q, vm₁, B, X₁.warmed, X', hpost, hstep₁ _ fun acts => by rw [doInvoke_state]; exact hsteps⟩
theorem vx_callS (X : Stand p l e R s m args below meth c T locs cells slots) (hexec : p.tables.exec = Jvm.exec) {own : String} {index : Nat} {y : MethodName} {bytes : ByteArray} {maxL : Nat} {ret : Option FieldType}
    (hown : s.vm.findClass own = some m.cls) (hlink : (Cond.methodLink own index y).before args s = true) (hstat : (Cond.static y).before args s = true) (hinit : (Cond.initialized y.cls).before args s = true)
    (hcode : (Cond.code y bytes maxL ret).before args s = true) (hy : y.cls ≠ "java/lang/invoke/MethodHandle" ∧ y.cls ≠ "java/lang/invoke/VarHandle")
    {W9 : Nat} {Pre : Pt → Array Value → Prop} {Post : Pt → Array Value → Option Value → Pt → Prop} {PostX : Pt → Array Value → Addr → Pt → Prop} (hK : vx_Back l R p e below s args y 3 W9 Pre Post PostX)
    {g : JFrame} (hg : g.method = m) (hsize : g.locals.size = c.maxLocals) {argsL rest : List Value} (hlen : ∀ sig, parseMethodDescriptor y.desc = some sig → argsL.length = sig.parameters.length)
    (hstack : g.stack = argsL.reverse ++ rest) (hW : 2 * g.monitorRoom + (rest.map fun v => v.category).sum ≤ W9) (hdg : decode c.code g.pc = .ok (.invokestatic index, 3))
    (hpre : ∀ vm₁, s.WarmedH vm₁ → Pre ⟨T.setVm vm₁, locs, cells, slots⟩ argsL.toArray) :
    (∃ (v : Option Value) (vm₁ : Vm) (B : Pt), s.WarmedH vm₁ ∧ Stand p l e R s m args below meth c B.U B.locs B.cells B.slots ∧ Post ⟨T.setVm vm₁, locs, cells, slots⟩ argsL.toArray v B ∧
      ∀ target, Steps p.tables e below (B.U.setTop { g with pc := g.pc + 3, stack := v.toList ++ rest }) target → Steps p.tables e below (T.setTop g) target) ∨
    (∃ (q : Addr) (vm₁ : Vm) (B : Pt), s.WarmedH vm₁ ∧ Stand p l e R s m args below meth c B.U B.locs B.cells B.slots ∧ PostX ⟨T.setVm vm₁, locs, cells, slots⟩ argsL.toArray q B ∧
      Steps p.tables e below (T.setTop g) ((B.U.setTop { g with stack := rest }).pushFrame (.throwing q))) := by
  obtain ⟨mk, hnamed⟩ := Cond.code_named hcode
  obtain ⟨methM, cM, hmethM, -, -, -, -, -, -, hsigM⟩ := Cond.code_spec hnamed hcode
  have hstatic : methM.isStatic = true := Cond.static_spec hnamed hmethM hstat
  obtain ⟨kP, hkP, -⟩ := className_of_methodNamed hnamed
  have hinitP : kP.init = .initialized := Cond.initialized_spec (findClass_of_methodNamed hnamed) hkP hinit
  obtain ⟨vm₁, X₁, hstep₁⟩ := X.invokestatic hexec hown hlink hnamed hmethM hstatic hkP hinitP hy (g := g) hg (argsL := argsL) (rest := rest) (hlen _ hsigM) hstack hdg
  rcases hK m meth c ⟨T.setVm vm₁, locs, cells, slots⟩ { g with stack := rest } (.invokestatic index) mk argsL.toArray X₁ hg hsize hdg hW (X₁.named hnamed) (hpre vm₁ X₁.warmed) with ⟨v, B, X', hpost, hsteps⟩ | ⟨q, B, X', hpost, hsteps⟩
  · exact Or.inl ⟨v, vm₁, B, X₁.warmed, X', hpost, fun target h => hstep₁ _ fun acts => by rw [doInvoke_state]; exact hsteps.trans h⟩
  · exact Or.inr ⟨q, vm₁, B, X₁.warmed, X', hpost, hstep₁ _ fun acts => by rw [doInvoke_state]; exact hsteps⟩
end Calls
theorem vx_cls {s : State} {T : State} {vm₁ : Vm} {E : String} {k : ClassId} (hW : s.WarmedH vm₁) (h : (T.setVm vm₁).vm.findClass E = some k) : s.vm.findClass E = some k := by
  have h1 : vm₁.findClass E = some k := h
  rw [hW.alike.findClass] at h1
  exact h1
/-- the method's frame g, with q thrown over it -/
def vx_W (p : Program) (l : Launch) (e : Env) (R : Room) (s : State) (m : MethodId) (args : Array Value) (below : List Frame) (meth : Method) (c : Code) (H : Heap) (locs : List Loc) (cells slots : Nat) (Q : State → Prop) (g : JFrame) (q : Addr) : Prop :=
  ∀ T : State, T.heap = H → Stand p l e R s m args below meth c T locs cells slots → ∃ t, Steps p.tables e below ((T.setTop g).pushFrame (.throwing q)) t ∧ Q t
def vx_Run (p : Program) (l : Launch) (e : Env) (R : Room) (s : State) (m : MethodId) (args : Array Value) (below : List Frame) (meth : Method) (c : Code) (H : Heap) (locs : List Loc) (cells slots mc ms : Nat) (g : JFrame) (rest : List Value) (Qa : State → Outcome → State → Prop) (XC : String → State → State → Prop) (free : Addr → Prop) : Prop :=
  ∀ T : State, T.heap = H → Stand p l e R s m args below meth c T locs cells slots →
    (∃ (v : Option Value) (st₀ t T' : State) (L : List Loc), st₀.heap = H ∧ Stand p l e R s m args below meth c T' (locs ++ L) (cells + mc) (slots + ms) ∧ (∀ q ∈ L, free q.base) ∧ T'.heap = t.heap ∧ T'.vm = t.vm ∧ Qa st₀ (.returned v) t ∧
      Goes p e below T g T' { g with pc := g.pc + 3, stack := v.toList ++ rest }) ∨
    (∃ (q : Addr) (st₀ t T' : State) (L : List Loc) (E : String) (ce : Cell), st₀.heap = H ∧ Stand p l e R s m args below meth c T' (locs ++ L) (cells + mc) (slots + ms) ∧ (∀ z ∈ L, free z.base) ∧ T'.heap = t.heap ∧ T'.vm = t.vm ∧ XC E st₀ t ∧ t.heap[q]? = some ce ∧ ce.vm = .none ∧ s.vm.findClass E = some ce.cls ∧
      Steps p.tables e below (T.setTop g) ((T'.setTop { g with stack := rest }).pushFrame (.throwing q)))
def vx_X {S : Type} (px : S → Prop) (B : String → S → State → Prop) (A : Nat → Prop) : String → State → State → Prop := fun E st t => ∃ u : S, px u ∧ B E u t ∧ va_F A st t
section Runs
variable {p : Program} {l : Launch} {e : Env} {R : Room} {s : State} {m : MethodId} {args : Array Value} {below : List Frame} {meth : Method} {c : Code} {H : Heap} {locs : List Loc} {cells slots : Nat}
variable {y : MethodName} {bytes cc : ByteArray} {maxL nL mc ms n index : Nat} {ret : Option FieldType} {ws : List Cond} {rm : Room} {Pc : Array Value → State → Prop} {Qc : Array Value → State → Outcome → State → Prop} {XC : String → State → State → Prop} {free : Addr → Prop} {Ts : List Cond} {own C : String} {b : Addr} {As rest : List Value} {g : JFrame}
theorem vx_callBack (cb : CallB R s args own index y bytes maxL ret ws rm mc ms n) (hM : vx_Met l y ws rm Pc Qc XC mc ms free) (hbl : FrameBlind Pc) : vx_Back l R p e below s args y 3 8 (PreOf R mc ms Pc) (PostOf Qc mc ms free) (vx_Post XC mc ms free) := by
  obtain ⟨hrc, hrs, hfr, hlo, hws, hcw, -, hini, -⟩ := cb
  exact vx_back (bytes := bytes) (maxL := maxL) (ret := ret) hM hbl hrc hrs hfr hlo hws hcw (fun a' U hW => word_at hW (Or.inl (by first | rfl | simp [Cond.onTables, Cond.keeps, Cond.steady])) hini)
theorem vx_runV (S : CallFix p m c cc nL s args Ts own) (hM : vx_Met l y ws rm Pc Qc XC mc ms free) (cw : CallW R s args own C index y bytes maxL ret ws rm mc ms n) (hp : PreV s H C b Pc As)
    (hg : g.method = m) (hn : As.length = n) (hsize : g.locals.size = nL) (hstack : g.stack = As.reverse ++ .ref b :: rest) (hW : 2 * g.monitorRoom + (rest.map fun v => v.category).sum ≤ 8) (hdg : decode cc g.pc = .ok (.invokevirtual index, 3)) (hf : cells + mc ≤ R.cells ∧ slots + ms ≤ R.slots) :
    vx_Run p l e R s m args below meth c H locs cells slots mc ms g rest (Qc (Value.ref b :: As).toArray) XC free := by
  have hK : vx_Back l R p e below s args y 3 8 (PreOf R mc ms Pc) (PostOf Qc mc ms free) (vx_Post XC mc ms free) := vx_callBack cw.1 hM hp.1
  obtain ⟨⟨-, -, -, -, -, -, hcode, -, hy, hlen, hl⟩, hin, hse⟩ := cw
  obtain ⟨hx, hb, hml, ho, -⟩ := S
  obtain ⟨-, ⟨cellB, hcB, hoB, hclB⟩, hPc⟩ := hp
  intro T hT X
  rcases vx_callV X hx (C := C) (bytes := bytes) (maxL := maxL) (ret := ret) ho hl hin hse hcode hy hK (by rw [hT]; exact hcB) hoB hclB hg (hsize.trans hml.symm) (argsL := As) (rest := rest) (fun sig h => hn.trans (hlen sig h)) hstack hW (by rw [hb]; exact hdg)
    (fun vm₁ hW₁ => ⟨hf.1, hf.2, hPc (T.setVm vm₁) hT hW₁⟩) with ⟨v, vm₁, ⟨U', l2, c2, s2⟩, hW₁, X', ⟨g', mk, t, L, e1, e2, hq, h1, hL, h2, h3⟩, st⟩ | ⟨q, vm₁, ⟨U', l2, c2, s2⟩, hW₁, X', ⟨g', mk, t, L, E, ce, e1, e2, hq, hce, hcv, hcl, h1, hL, h2, h3⟩, st⟩
  · dsimp only [Pt.U, Pt.locs, Pt.cells, Pt.slots] at X' e1 e2 h1 h2 h3 st
    subst h1; subst h2; subst h3
    exact Or.inl ⟨v, (T.setVm vm₁).calling g' mk (Value.ref b :: As).toArray, t, U', L, hT, X', hL, e1, e2, hq, st⟩
  · dsimp only [Pt.U, Pt.locs, Pt.cells, Pt.slots] at X' e1 e2 h1 h2 h3 st hcl
    subst h1; subst h2; subst h3
    exact Or.inr ⟨q, (T.setVm vm₁).calling g' mk (Value.ref b :: As).toArray, t, U', L, E, ce, hT, X', hL, e1, e2, hq, hce, hcv, vx_cls hW₁ hcl, st⟩
theorem vx_runS (S : CallFix p m c cc nL s args Ts own) (hM : vx_Met l y ws rm Pc Qc XC mc ms free) (cw : CallB R s args own index y bytes maxL ret ws rm mc ms n ∧ (Cond.static y).before args s = true) (hp : PreS s H Pc As)
    (hg : g.method = m) (hn : As.length = n) (hsize : g.locals.size = nL) (hstack : g.stack = As.reverse ++ rest) (hW : 2 * g.monitorRoom + (rest.map fun v => v.category).sum ≤ 8) (hdg : decode cc g.pc = .ok (.invokestatic index, 3)) (hf : cells + mc ≤ R.cells ∧ slots + ms ≤ R.slots) :
    vx_Run p l e R s m args below meth c H locs cells slots mc ms g rest (Qc As.toArray) XC free := by
  have hK : vx_Back l R p e below s args y 3 8 (PreOf R mc ms Pc) (PostOf Qc mc ms free) (vx_Post XC mc ms free) := vx_callBack cw.1 hM hp.1
  obtain ⟨⟨-, -, -, -, -, -, hcode, hini, hy, hlen, hl⟩, hstt⟩ := cw
  obtain ⟨hx, hb, hml, ho, -⟩ := S
  intro T hT X
  rcases vx_callS X hx (bytes := bytes) (maxL := maxL) (ret := ret) ho hl hstt hini hcode hy hK hg (hsize.trans hml.symm) (argsL := As) (rest := rest) (fun sig h => hn.trans (hlen sig h)) hstack hW (by rw [hb]; exact hdg)
    (fun vm₁ hW₁ => ⟨hf.1, hf.2, hp.2 (T.setVm vm₁) hT hW₁⟩) with ⟨v, vm₁, ⟨U', l2, c2, s2⟩, hW₁, X', ⟨g', mk, t, L, e1, e2, hq, h1, hL, h2, h3⟩, st⟩ | ⟨q, vm₁, ⟨U', l2, c2, s2⟩, hW₁, X', ⟨g', mk, t, L, E, ce, e1, e2, hq, hce, hcv, hcl, h1, hL, h2, h3⟩, st⟩
  · dsimp only [Pt.U, Pt.locs, Pt.cells, Pt.slots] at X' e1 e2 h1 h2 h3 st
    subst h1; subst h2; subst h3
    exact Or.inl ⟨v, (T.setVm vm₁).calling g' mk As.toArray, t, U', L, hT, X', hL, e1, e2, hq, st⟩
  · dsimp only [Pt.U, Pt.locs, Pt.cells, Pt.slots] at X' e1 e2 h1 h2 h3 st hcl
    subst h1; subst h2; subst h3
    exact Or.inr ⟨q, (T.setVm vm₁).calling g' mk As.toArray, t, U', L, E, ce, hT, X', hL, e1, e2, hq, hce, hcv, vx_cls hW₁ hcl, st⟩
end Runs
section Rows
variable {p : Program} {l : Launch} {e : Env} {R : Room} {s : State} {m : MethodId} {args : Array Value} {below : List Frame} {meth : Method} {c : Code} {H : Heap} {locs : List Loc} {cells slots : Nat} {Q : State → Prop}
variable {mc ms : Nat} {free : Addr → Prop} {A0 A1 : Nat → Prop} {H0 : Heap} {a : Array Value} {pc : Nat} {ls : Array Slot} {st0 rest : List Value}
theorem vx_keep {st₀ t T' : State} {L : List Loc} (h0 : st₀.heap = H) (e1 : T'.heap = t.heap) (hS : va_S A0 H0 H locs) (hA : ∀ q, q < H.size → A1 q → A0 q) (hf : ∀ q, free q → A0 q) (hL : ∀ q ∈ L, free q.base) (hF : va_F A1 st₀ t) :
    H.size ≤ T'.heap.size ∧ (∀ q : Nat, q < H.size → ¬ A1 q → T'.heap[q]? = H[q]?) ∧ va_S A0 H0 T'.heap (locs ++ L) := by
  obtain ⟨hz, hk⟩ := hF
  rw [h0] at hz hk
  exact ⟨by rw [e1]; exact hz, fun q h1 h2 => by rw [e1]; exact hk q h1 h2,
    ⟨Nat.le_trans hS.1 (by rw [e1]; exact hz), fun q h1 h2 => by rw [e1, hk q (Nat.lt_of_lt_of_le h1 hS.1) (fun z => h2 (hA q (Nat.lt_of_lt_of_le h1 hS.1) z))]; exact hS.2.1 q h1 h2, fun q hq => by
      rcases List.mem_append.mp hq with h | h
      · exact hS.2.2 q h
      · exact hf _ (hL q h)⟩⟩
theorem vx_calli {S SX : Type} {post : Int32 → S → Prop} {px : SX → Prop} {B : S → State → Prop} {BX : String → SX → State → Prop} {AX : Nat → Prop} (hr : vx_Run p l e R s m args below meth c H locs cells slots mc ms (F0 m pc ls st0) rest (va_Qi post B A1 a) (vx_X px BX AX) free) (hS : va_S A0 H0 H locs) (hA : ∀ q, q < H.size → A1 q → A0 q) (hf : ∀ q, free q → A0 q) (hAX : ∀ q, q < H.size → AX q → A0 q)
    (kx : ∀ (E : String) (ce : Cell) (q9 : Addr) (u : SX) (t : State) (H1 : Heap) (locs1 : List Loc), t.heap = H1 → s.vm.Alike t.vm → px u → BX E u t → H.size ≤ H1.size → (∀ q : Nat, q < H.size → ¬ AX q → H1[q]? = H[q]?) → va_S A0 H0 H1 locs1 → H1[q9]? = some ce → ce.vm = .none → s.vm.findClass E = some ce.cls → vx_W p l e R s m args below meth c H1 locs1 (cells + mc) (slots + ms) Q (F0 m pc ls rest) q9)
    (kk : ∀ (r : Int32) (u : S) (t : State) (H1 : Heap) (locs1 : List Loc), t.heap = H1 → s.vm.Alike t.vm → post r u → B u t → H.size ≤ H1.size → (∀ q : Nat, q < H.size → ¬ A1 q → H1[q]? = H[q]?) → va_S A0 H0 H1 locs1 → W p l e R s m args below meth c H1 locs1 (cells + mc) (slots + ms) Q (F0 m (pc + 3) ls (.int r :: rest))) : W p l e R s m args below meth c H locs cells slots Q (F0 m pc ls st0) := by
  intro T hT X
  rcases hr T hT X with ⟨v, st₀, t, T', L, h0, X', hL, e1, e2, ⟨⟨r, u, hv, hp, hb⟩, hF⟩, st⟩ | ⟨q, st₀, t, T', L, E, ce, h0, X', hL, e1, e2, ⟨u, hp, hb, hF⟩, hce, hcv, hcl, st⟩
  · cases hv
    obtain ⟨k1, k2, k3⟩ := vx_keep h0 e1 hS hA hf hL hF
    obtain ⟨t2, a1, b1⟩ := kk r u t T'.heap (locs ++ L) e1.symm (by rw [← e2]; exact X'.warmed.alike) hp hb k1 k2 k3 T' rfl X'
    exact ⟨t2, st t2 a1, b1⟩
  · obtain ⟨k1, k2, k3⟩ := vx_keep h0 e1 hS hAX hf hL hF
    obtain ⟨t2, a1, b1⟩ := kx E ce q u t T'.heap (locs ++ L) e1.symm (by rw [← e2]; exact X'.warmed.alike) hp hb k1 k2 k3 (by rw [e1]; exact hce) hcv hcl T' rfl X'
    exact ⟨t2, st.trans a1, b1⟩
theorem vx_calll {S SX : Type} {post : Int64 → S → Prop} {px : SX → Prop} {B : S → State → Prop} {BX : String → SX → State → Prop} {AX : Nat → Prop} (hr : vx_Run p l e R s m args below meth c H locs cells slots mc ms (F0 m pc ls st0) rest (va_Ql post B A1 a) (vx_X px BX AX) free) (hS : va_S A0 H0 H locs) (hA : ∀ q, q < H.size → A1 q → A0 q) (hf : ∀ q, free q → A0 q) (hAX : ∀ q, q < H.size → AX q → A0 q)
    (kx : ∀ (E : String) (ce : Cell) (q9 : Addr) (u : SX) (t : State) (H1 : Heap) (locs1 : List Loc), t.heap = H1 → s.vm.Alike t.vm → px u → BX E u t → H.size ≤ H1.size → (∀ q : Nat, q < H.size → ¬ AX q → H1[q]? = H[q]?) → va_S A0 H0 H1 locs1 → H1[q9]? = some ce → ce.vm = .none → s.vm.findClass E = some ce.cls → vx_W p l e R s m args below meth c H1 locs1 (cells + mc) (slots + ms) Q (F0 m pc ls rest) q9)
    (kk : ∀ (r : Int64) (u : S) (t : State) (H1 : Heap) (locs1 : List Loc), t.heap = H1 → s.vm.Alike t.vm → post r u → B u t → H.size ≤ H1.size → (∀ q : Nat, q < H.size → ¬ A1 q → H1[q]? = H[q]?) → va_S A0 H0 H1 locs1 → W p l e R s m args below meth c H1 locs1 (cells + mc) (slots + ms) Q (F0 m (pc + 3) ls (.long r :: rest))) : W p l e R s m args below meth c H locs cells slots Q (F0 m pc ls st0) := by
  intro T hT X
  rcases hr T hT X with ⟨v, st₀, t, T', L, h0, X', hL, e1, e2, ⟨⟨r, u, hv, hp, hb⟩, hF⟩, st⟩ | ⟨q, st₀, t, T', L, E, ce, h0, X', hL, e1, e2, ⟨u, hp, hb, hF⟩, hce, hcv, hcl, st⟩
  · cases hv
    obtain ⟨k1, k2, k3⟩ := vx_keep h0 e1 hS hA hf hL hF
    obtain ⟨t2, a1, b1⟩ := kk r u t T'.heap (locs ++ L) e1.symm (by rw [← e2]; exact X'.warmed.alike) hp hb k1 k2 k3 T' rfl X'
    exact ⟨t2, st t2 a1, b1⟩
  · obtain ⟨k1, k2, k3⟩ := vx_keep h0 e1 hS hAX hf hL hF
    obtain ⟨t2, a1, b1⟩ := kx E ce q u t T'.heap (locs ++ L) e1.symm (by rw [← e2]; exact X'.warmed.alike) hp hb k1 k2 k3 (by rw [e1]; exact hce) hcv hcl T' rfl X'
    exact ⟨t2, st.trans a1, b1⟩
theorem vx_callf {S SX : Type} {post : UInt32 → S → Prop} {px : SX → Prop} {B : S → State → Prop} {BX : String → SX → State → Prop} {AX : Nat → Prop} (hr : vx_Run p l e R s m args below meth c H locs cells slots mc ms (F0 m pc ls st0) rest (va_Qf post B A1 a) (vx_X px BX AX) free) (hS : va_S A0 H0 H locs) (hA : ∀ q, q < H.size → A1 q → A0 q) (hf : ∀ q, free q → A0 q) (hAX : ∀ q, q < H.size → AX q → A0 q)
    (kx : ∀ (E : String) (ce : Cell) (q9 : Addr) (u : SX) (t : State) (H1 : Heap) (locs1 : List Loc), t.heap = H1 → s.vm.Alike t.vm → px u → BX E u t → H.size ≤ H1.size → (∀ q : Nat, q < H.size → ¬ AX q → H1[q]? = H[q]?) → va_S A0 H0 H1 locs1 → H1[q9]? = some ce → ce.vm = .none → s.vm.findClass E = some ce.cls → vx_W p l e R s m args below meth c H1 locs1 (cells + mc) (slots + ms) Q (F0 m pc ls rest) q9)
    (kk : ∀ (r : UInt32) (u : S) (t : State) (H1 : Heap) (locs1 : List Loc), t.heap = H1 → s.vm.Alike t.vm → post r u → B u t → H.size ≤ H1.size → (∀ q : Nat, q < H.size → ¬ A1 q → H1[q]? = H[q]?) → va_S A0 H0 H1 locs1 → W p l e R s m args below meth c H1 locs1 (cells + mc) (slots + ms) Q (F0 m (pc + 3) ls (.float r :: rest))) : W p l e R s m args below meth c H locs cells slots Q (F0 m pc ls st0) := by
  intro T hT X
  rcases hr T hT X with ⟨v, st₀, t, T', L, h0, X', hL, e1, e2, ⟨⟨r, u, hv, hp, hb⟩, hF⟩, st⟩ | ⟨q, st₀, t, T', L, E, ce, h0, X', hL, e1, e2, ⟨u, hp, hb, hF⟩, hce, hcv, hcl, st⟩
  · cases hv
    obtain ⟨k1, k2, k3⟩ := vx_keep h0 e1 hS hA hf hL hF
    obtain ⟨t2, a1, b1⟩ := kk r u t T'.heap (locs ++ L) e1.symm (by rw [← e2]; exact X'.warmed.alike) hp hb k1 k2 k3 T' rfl X'
    exact ⟨t2, st t2 a1, b1⟩
  · obtain ⟨k1, k2, k3⟩ := vx_keep h0 e1 hS hAX hf hL hF
    obtain ⟨t2, a1, b1⟩ := kx E ce q u t T'.heap (locs ++ L) e1.symm (by rw [← e2]; exact X'.warmed.alike) hp hb k1 k2 k3 (by rw [e1]; exact hce) hcv hcl T' rfl X'
    exact ⟨t2, st.trans a1, b1⟩
theorem vx_calld {S SX : Type} {post : UInt64 → S → Prop} {px : SX → Prop} {B : S → State → Prop} {BX : String → SX → State → Prop} {AX : Nat → Prop} (hr : vx_Run p l e R s m args below meth c H locs cells slots mc ms (F0 m pc ls st0) rest (va_Qd post B A1 a) (vx_X px BX AX) free) (hS : va_S A0 H0 H locs) (hA : ∀ q, q < H.size → A1 q → A0 q) (hf : ∀ q, free q → A0 q) (hAX : ∀ q, q < H.size → AX q → A0 q)
    (kx : ∀ (E : String) (ce : Cell) (q9 : Addr) (u : SX) (t : State) (H1 : Heap) (locs1 : List Loc), t.heap = H1 → s.vm.Alike t.vm → px u → BX E u t → H.size ≤ H1.size → (∀ q : Nat, q < H.size → ¬ AX q → H1[q]? = H[q]?) → va_S A0 H0 H1 locs1 → H1[q9]? = some ce → ce.vm = .none → s.vm.findClass E = some ce.cls → vx_W p l e R s m args below meth c H1 locs1 (cells + mc) (slots + ms) Q (F0 m pc ls rest) q9)
    (kk : ∀ (r : UInt64) (u : S) (t : State) (H1 : Heap) (locs1 : List Loc), t.heap = H1 → s.vm.Alike t.vm → post r u → B u t → H.size ≤ H1.size → (∀ q : Nat, q < H.size → ¬ A1 q → H1[q]? = H[q]?) → va_S A0 H0 H1 locs1 → W p l e R s m args below meth c H1 locs1 (cells + mc) (slots + ms) Q (F0 m (pc + 3) ls (.double r :: rest))) : W p l e R s m args below meth c H locs cells slots Q (F0 m pc ls st0) := by
  intro T hT X
  rcases hr T hT X with ⟨v, st₀, t, T', L, h0, X', hL, e1, e2, ⟨⟨r, u, hv, hp, hb⟩, hF⟩, st⟩ | ⟨q, st₀, t, T', L, E, ce, h0, X', hL, e1, e2, ⟨u, hp, hb, hF⟩, hce, hcv, hcl, st⟩
  · cases hv
    obtain ⟨k1, k2, k3⟩ := vx_keep h0 e1 hS hA hf hL hF
    obtain ⟨t2, a1, b1⟩ := kk r u t T'.heap (locs ++ L) e1.symm (by rw [← e2]; exact X'.warmed.alike) hp hb k1 k2 k3 T' rfl X'
    exact ⟨t2, st t2 a1, b1⟩
  · obtain ⟨k1, k2, k3⟩ := vx_keep h0 e1 hS hAX hf hL hF
    obtain ⟨t2, a1, b1⟩ := kx E ce q u t T'.heap (locs ++ L) e1.symm (by rw [← e2]; exact X'.warmed.alike) hp hb k1 k2 k3 (by rw [e1]; exact hce) hcv hcl T' rfl X'
    exact ⟨t2, st.trans a1, b1⟩
theorem vx_callv {S SX : Type} {post : S → Prop} {px : SX → Prop} {B : S → State → Prop} {BX : String → SX → State → Prop} {AX : Nat → Prop} (hr : vx_Run p l e R s m args below meth c H locs cells slots mc ms (F0 m pc ls st0) rest (va_Qv post B A1 a) (vx_X px BX AX) free) (hS : va_S A0 H0 H locs) (hA : ∀ q, q < H.size → A1 q → A0 q) (hf : ∀ q, free q → A0 q) (hAX : ∀ q, q < H.size → AX q → A0 q)
    (kx : ∀ (E : String) (ce : Cell) (q9 : Addr) (u : SX) (t : State) (H1 : Heap) (locs1 : List Loc), t.heap = H1 → s.vm.Alike t.vm → px u → BX E u t → H.size ≤ H1.size → (∀ q : Nat, q < H.size → ¬ AX q → H1[q]? = H[q]?) → va_S A0 H0 H1 locs1 → H1[q9]? = some ce → ce.vm = .none → s.vm.findClass E = some ce.cls → vx_W p l e R s m args below meth c H1 locs1 (cells + mc) (slots + ms) Q (F0 m pc ls rest) q9)
    (kk : ∀ (u : S) (t : State) (H1 : Heap) (locs1 : List Loc), t.heap = H1 → s.vm.Alike t.vm → post u → B u t → H.size ≤ H1.size → (∀ q : Nat, q < H.size → ¬ A1 q → H1[q]? = H[q]?) → va_S A0 H0 H1 locs1 → W p l e R s m args below meth c H1 locs1 (cells + mc) (slots + ms) Q (F0 m (pc + 3) ls (rest))) : W p l e R s m args below meth c H locs cells slots Q (F0 m pc ls st0) := by
  intro T hT X
  rcases hr T hT X with ⟨v, st₀, t, T', L, h0, X', hL, e1, e2, ⟨⟨u, hv, hp, hb⟩, hF⟩, st⟩ | ⟨q, st₀, t, T', L, E, ce, h0, X', hL, e1, e2, ⟨u, hp, hb, hF⟩, hce, hcv, hcl, st⟩
  · cases hv
    obtain ⟨k1, k2, k3⟩ := vx_keep h0 e1 hS hA hf hL hF
    obtain ⟨t2, a1, b1⟩ := kk u t T'.heap (locs ++ L) e1.symm (by rw [← e2]; exact X'.warmed.alike) hp hb k1 k2 k3 T' rfl X'
    exact ⟨t2, st t2 a1, b1⟩
  · obtain ⟨k1, k2, k3⟩ := vx_keep h0 e1 hS hAX hf hL hF
    obtain ⟨t2, a1, b1⟩ := kx E ce q u t T'.heap (locs ++ L) e1.symm (by rw [← e2]; exact X'.warmed.alike) hp hb k1 k2 k3 (by rw [e1]; exact hce) hcv hcl T' rfl X'
    exact ⟨t2, st.trans a1, b1⟩
/-- caught by the row x of this method's table; the rows ahead don't take it -/
theorem vx_catch {own name : String} {E : String} {ce : Cell} {q : Addr} (hown : s.vm.findClass own = some m.cls) (pre : List ExceptionTableEntry) (x : ExceptionTableEntry) (suf : List ExceptionTableEntry) (hsplit : c.exceptionTable.toList = pre ++ x :: suf)
    (hpass : ∀ z ∈ pre, covers z pc = false ∨ (z.catchType ≠ 0 ∧ ∃ nm : String, (Cond.classLink own z.catchType nm).before args s = true ∧ va_Nc E nm s)) (hx : covers x pc = true) (h0 : x.catchType ≠ 0)
    (hlink : (Cond.classLink own x.catchType name).before args s = true) (hcast : (Cond.castable E name).before args s = true) (hcell : H[q]? = some ce) (hv : ce.vm = .none) (hcl : s.vm.findClass E = some ce.cls)
    (kk : W p l e R s m args below meth c H locs cells slots Q (F0 m x.handlerPc ls [.ref q])) : vx_W p l e R s m args below meth c H locs cells slots Q (F0 m pc ls rest) q := by
  intro T hT X
  have hpl : e.platform.magicAccessors = ({} : Platform).magicAccessors := by rw [X.admits.platform]
  obtain ⟨c3, c4, hc3, hc4, hasg⟩ := Cond.castable_spec hcast
  cases Option.some.inj (hc3.symm.trans hcl)
  obtain ⟨c5, hc5, hcl5⟩ := Cond.classLink_spec hown hlink e.platform hpl
  cases Option.some.inj (hc4.symm.trans hc5)
  obtain ⟨vm', X', st⟩ := X.thenCaughtThrough q (g := F0 m pc ls rest) rfl (Steps.refl _) (by rw [hT]; exact hcell) (by rw [hv]; rfl) (by obtain ⟨k9, h9, -⟩ := Vm.findClass_spec hcl; exact ⟨k9, h9⟩) pre x suf hsplit
    (fun z hz => by
      rcases hpass z hz with h | ⟨hz0, nm, hl1, hn1⟩
      · exact Or.inl h
      · obtain ⟨c6, hc6, hcl6⟩ := Cond.classLink_spec hown hl1 e.platform hpl
        obtain ⟨a8, b8, h1, h2, h3⟩ := hn1
        cases Option.some.inj (h1.symm.trans hcl)
        cases Option.some.inj (h2.symm.trans hc6)
        exact Or.inr ⟨hz0, _, hcl6, h3⟩) hx (Or.inr ⟨h0, c4, hcl5, hasg⟩)
  obtain ⟨t, a1, b1⟩ := kk (T.setVm vm') hT X'
  exact ⟨t, st.trans a1, b1⟩
end Rows
section Ends
variable {p : Program} {l : Launch} {e : Env} {R : Room} {s : State} {m : MethodId} {args : Array Value} {below : List Frame} {meth : Method} {c : Code} {H : Heap} {locs : List Loc} {cells slots : Nat} {Q : State → Prop}
variable {mc ms : Nat} {free : Addr → Prop} {A0 A1 : Nat → Prop} {H0 : Heap} {a : Array Value} {ls : Array Slot} {st0 rest : List Value}
variable {Qc : Array Value → State → Outcome → State → Prop} {XC : String → State → State → Prop}
/-- what a body that may throw owes at its end -/
def vx_MQ (below : List Frame) (Qc : Array Value → State → Outcome → State → Prop) (XC : String → State → State → Prop) (a : Array Value) (s : State) (mc ms : Nat) (free : Addr → Prop) : State → Prop := fun t =>
  ∃ o, t.status = .running ∧ Ended t below o ∧ vx_Q Qc XC mc ms free a s o t
theorem vx_ret {g : JFrame} {mc ms : Nat} (k : W p l e R s m args below meth c H locs cells slots (MQ below Qc args s mc ms free) g) : W p l e R s m args below meth c H locs cells slots (vx_MQ below Qc XC args s mc ms free) g := by
  intro T hT X
  obtain ⟨t, a1, o, b1, b2, b3, b4⟩ := k T hT X
  exact ⟨t, a1, o, b1, b2, Or.inl ⟨b3, b4⟩⟩
/-- not caught here: it goes on to the caller -/
theorem vx_widen {g : JFrame} {q : Addr} {k n : Nat} (h1 : cells ≤ k) (h2 : slots ≤ n) (kk : vx_W p l e R s m args below meth c H locs k n Q g q) : vx_W p l e R s m args below meth c H locs cells slots Q g q := fun T hT X => kk T hT (stand_widen X h1 h2)
theorem vx_out {pc : Nat} {E : String} {ce : Cell} {q : Addr} {mc ms : Nat} (hout : ∀ x ∈ c.exceptionTable.toList, covers x pc = false) (hlocks : meth.locks = false) (hcell : H[q]? = some ce) (hv : ce.vm = .none) (hcl : s.vm.findClass E = some ce.cls)
    (hx : ∀ t : State, t.heap = H → s.vm.Alike t.vm → XC E s t) (hf : ∀ z ∈ locs, free z.base) (hc : cells ≤ mc) (hs : slots ≤ ms) :
    vx_W p l e R s m args below meth c H locs cells slots (vx_MQ below Qc XC args s mc ms free) (F0 m pc ls rest) q := by
  intro T hT X
  obtain ⟨st1, hrun, hend, hW, hsm⟩ := X.leaveThrown q (g := F0 m pc ls rest) rfl rfl rfl hout hlocks
  have hcell9 : (T.setFrames (.throwing q :: below)).heap[q]? = some ce := by
    show T.heap[q]? = some ce
    rw [hT]; exact hcell
  exact ⟨_, st1, .threw q, hrun, hend, Or.inr ⟨q, rfl, E, ce, locs, hx _ hT hW.alike, hcell9, hv, hcl, hW, hsm.mono hc hs, hf⟩⟩
theorem vx_frame {U : State} {k n : Nat} (h : s.sameButNew ({ U with vm := s.vm } : State) locs k n) : s.heap.size ≤ U.heap.size ∧ ∀ q : Nat, q < s.heap.size → (∀ z ∈ locs, z.base ≠ q) → U.heap[q]? = s.heap[q]? := by
  obtain ⟨-, h2, -, -, -, h6⟩ := h
  refine ⟨h2, fun q hq hz => ?_⟩
  obtain ⟨c9, e1, e2, e3, e4⟩ := h6 q _ (Array.getElem?_eq_getElem hq)
  have hs : c9.slots = (s.heap[q]).slots := Array.ext_getElem? fun i => e4 i fun hm => hz _ hm rfl
  have h9 : c9 = s.heap[q] := by
    rw [hs] at e2
    exact e2
  have e5 : U.heap[q]? = some c9 := e1
  rw [e5, h9, Array.getElem?_eq_getElem hq]
/-- the words of a throw but the four that speak of the heap -/
def vx_no (w : Cond) : Bool := decide (w ≠ .isRef (.static Bundle.tN "UNASSIGNED_STACK" Bundle.steD)) && decide (w ≠ .isRef (.static Bundle.tN "SUPPRESSED_SENTINEL" Bundle.listD)) && decide (w ≠ .laysStatic Bundle.tN "UNASSIGNED_STACK" Bundle.steD) && decide (w ≠ .laysStatic Bundle.tN "SUPPRESSED_SENTINEL" Bundle.listD)
def vx_at0 (own : String) (ic : Nat) (X : String) (names : List String) : List Cond := (Bundle.ownAtoms0 own ic X names).filter vx_no
def vx_atS (own : String) (ic : Nat) (X : String) (names : List String) : List Cond := (Bundle.ownAtoms own ic X names).filter vx_no
/-- a word that the tables alone decide, or a good one -/
def vx_ot (w : Cond) : Bool := w.onTables || goodWord w
theorem vx_ot_at {args a' : Array Value} {s U : State} {w : Cond} (hW : s.WarmedH U.vm) (hvm : s.vm = U.vm) (hg : vx_ot w = true) (h : w.before args s = true) : w.before a' U = true := by
  simp only [vx_ot, Bool.or_eq_true] at hg
  rcases hg with hg | hg
  · exact va_tabs hg hvm h
  · exact word_at hW (good_of_word hg) h
/-- a list's words: the good ones out of the method's own list, the others by premises of their own -/
theorem vx_hat {args : Array Value} {s : State} {L B : List Cond} (h1 : ∀ w ∈ L.filter goodWord, w.before args s = true) (h2 : ∀ w ∈ L.filter (fun w => !goodWord w), w ∈ B) (h3 : ∀ w ∈ B, w.before args s = true) : ∀ w ∈ L, w.before args s = true := by
  intro w hw
  by_cases g : goodWord w = true
  · exact h1 w (List.mem_filter.mpr ⟨hw, g⟩)
  · refine h3 w (h2 w (List.mem_filter.mpr ⟨hw, ?_⟩))
    show (!goodWord w) = true
    cases hgw : goodWord w
    · rfl
    · exact absurd hgw g
theorem vx_c {args : Array Value} {s : State} {w : Cond} {B : List Cond} (h : w.before args s = true) (t : ∀ w ∈ B, w.before args s = true) : ∀ w' ∈ w :: B, w'.before args s = true := fun w' h' => (List.mem_cons.mp h').elim (fun e => by rw [e]; exact h) (t w')
theorem vx_n {args : Array Value} {s : State} : ∀ w ∈ ([] : List Cond), w.before args s = true := fun _ h => nomatch h
theorem vx_own {args : Array Value} {s : State} {L : List Cond} (h1 : ∀ w ∈ L.filter vx_no, w.before args s = true)
    (hU : (Cond.isRef (.static Bundle.tN "UNASSIGNED_STACK" Bundle.steD)).before args s = true) (hN : (Cond.isRef (.static Bundle.tN "SUPPRESSED_SENTINEL" Bundle.listD)).before args s = true)
    (lU : (Cond.laysStatic Bundle.tN "UNASSIGNED_STACK" Bundle.steD).before args s = true) (lN : (Cond.laysStatic Bundle.tN "SUPPRESSED_SENTINEL" Bundle.listD).before args s = true) : ∀ w ∈ L, w.before args s = true := by
  intro w hw
  by_cases e1 : w = .isRef (.static Bundle.tN "UNASSIGNED_STACK" Bundle.steD)
  · rw [e1]; exact hU
  · by_cases e2 : w = .isRef (.static Bundle.tN "SUPPRESSED_SENTINEL" Bundle.listD)
    · rw [e2]; exact hN
    · by_cases e3 : w = .laysStatic Bundle.tN "UNASSIGNED_STACK" Bundle.steD
      · rw [e3]; exact lU
      · by_cases e4 : w = .laysStatic Bundle.tN "SUPPRESSED_SENTINEL" Bundle.listD
        · rw [e4]; exact lN
        · exact h1 w (List.mem_filter.mpr ⟨hw, by unfold vx_no; rw [decide_eq_true e1, decide_eq_true e2, decide_eq_true e3, decide_eq_true e4]; rfl⟩)
/-- where a static field lies, its class's statics cell in H -/
def vx_L (C n d : String) (A : Nat → Prop) (U : State) (H : Heap) : Prop := ∃ (c : ClassId) (k : Class) (i : Nat) (f : Field) (a : Nat) (cell : Cell), U.vm.findClass C = some c ∧ U.fieldFound? C n d = some (c, k, i, f) ∧ f.isStatic = true ∧ k.statics = some a ∧ H[a]? = some cell ∧ cell.vm.isStatics = true ∧ cell.cls = c ∧ f.slot < cell.slots.size ∧ k.staticTypes[f.slot]? = some f.type ∧ ¬ A a
theorem vx_L.moved {C n d : String} {A : Nat → Prop} {u U : State} {H : Heap} (hvm : u.vm.Alike U.vm) (h : vx_L C n d A u H) : vx_L C n d A U H := by
  obtain ⟨c, k, i, f, a, cell, h1, h2, h3, h4, h5, h6, h7, h8, h9, h10⟩ := h
  obtain ⟨k', hi', he⟩ := State.fieldFound?_setVm hvm h2
  exact ⟨c, k', i, f, a, cell, by rw [hvm.findClass]; exact h1, hi', h3, by rw [he]; exact h4, h5, h6, h7, h8, by rw [he]; exact h9, h10⟩
theorem vx_L.kept {C n d : String} {A : Nat → Prop} {U : State} {H H1 : Heap} (h : vx_L C n d A U H) (hq : ∀ a : Nat, a < H.size → ¬ A a → H1[a]? = H[a]?) : vx_L C n d A U H1 := by
  obtain ⟨c, k, i, f, a, cell, h1, h2, h3, h4, h5, h6, h7, h8, h9, h10⟩ := h
  exact ⟨c, k, i, f, a, cell, h1, h2, h3, h4, by rw [hq a (Array.getElem?_eq_some_iff.mp h5).1 h10]; exact h5, h6, h7, h8, h9, h10⟩
theorem vx_L.narrow {C n d : String} {A B : Nat → Prop} {U : State} {H : Heap} (h : vx_L C n d A U H) (hAB : ∀ q, B q → A q) : vx_L C n d B U H := by
  obtain ⟨c, k, i, f, a, cell, h1, h2, h3, h4, h5, h6, h7, h8, h9, h10⟩ := h
  exact ⟨c, k, i, f, a, cell, h1, h2, h3, h4, h5, h6, h7, h8, h9, fun z => h10 (hAB _ z)⟩
theorem vx_L.word {C n d : String} {A : Nat → Prop} {s : State} {args : Array Value} (h : vx_L C n d A s s.heap) : (Cond.laysStatic C n d).before args s = true := by
  obtain ⟨c, k, i, f, a, cell, h1, h2, h3, h4, h5, h6, h7, h8, h9, -⟩ := h
  show (Cond.laysStatic C n d).holds args s none s [] = true
  exact Cond.laysStatic_of h1 h2 h3 h4 h5 h6 h7 h8 h9
/-- .. and what it holds: null or some reference -/
def vx_Zq (C n d : String) (A : Nat → Prop) (U : State) (H : Heap) : Prop := va_Zq C n d A U H ∧ vx_L C n d A U H
theorem vx_Zq.moved {C n d : String} {A : Nat → Prop} {u U : State} {H : Heap} (hvm : u.vm.Alike U.vm) (h : vx_Zq C n d A u H) : vx_Zq C n d A U H := ⟨va_Zq.moved hvm h.1, vx_L.moved hvm h.2⟩
theorem vx_Zq.kept {C n d : String} {A : Nat → Prop} {U : State} {H H1 : Heap} (h : vx_Zq C n d A U H) (hq : ∀ a : Nat, a < H.size → ¬ A a → H1[a]? = H[a]?) : vx_Zq C n d A U H1 := ⟨va_Zq.kept h.1 hq, vx_L.kept h.2 hq⟩
theorem vx_Zq.narrow {C n d : String} {A B : Nat → Prop} {U : State} {H : Heap} (h : vx_Zq C n d A U H) (hAB : ∀ q, B q → A q) : vx_Zq C n d B U H := ⟨va_Zq.narrow h.1 hAB, vx_L.narrow h.2 hAB⟩
theorem vx_Zqof {args : Array Value} {s : State} {C n d : String} {A : Nat → Prop} (hl : (Cond.laysStatic C n d).before args s = true) (hini : (Cond.initialized C).before args s = true) (h : (Cond.isRef (.static C n d)).before args s = true) (hA : ∀ a : Nat, a < s.heap.size → ¬ A a) : vx_Zq C n d A s s.heap := by
  refine ⟨va_Zqof hl hini h hA, ?_⟩
  obtain ⟨c, k, i, f, a, cell, h1, h2, h3, h4, h5, h6, h7, h8, h9⟩ := Cond.laysStatic_spec hl
  exact ⟨c, k, i, f, a, cell, h1, h2, h3, h4, h5, h6, h7, h8, h9, hA a (Array.getElem?_eq_some_iff.mp h5).1⟩
theorem vx_isRef {C n d : String} {v : Value} {A : Nat → Prop} {s : State} {args : Array Value} (h : va_Z C n d v A s s.heap) (hv : v.isRef = true) : (Cond.isRef (.static C n d)).before args s = true := by
  obtain ⟨cf, kf, fi, f, a, cell, h1, h2, h3, h4, h5, h6, h7, -⟩ := h
  have he : (Term.static C n d).eval args s none [] s = some v := by
    simp [Term.eval, State.fieldNamed?, h1, h2, h4, h5, h6, h7]
  simp only [Cond.before, Cond.holds, Cond.value, he]
  cases v <;> simp_all [Value.isRef]
theorem vx_isRefq {C n d : String} {A : Nat → Prop} {s : State} {args : Array Value} (h : va_Zq C n d A s s.heap) : (Cond.isRef (.static C n d)).before args s = true := by
  rcases h with h | ⟨t, h⟩
  · exact vx_isRef h rfl
  · exact vx_isRef h rfl
/-- the same frame, seen from here: as if the method were called anew in this heap -/
theorem vx_rebase {T : State} (X : Stand p l e R s m args below meth c T locs cells slots) {R' : Room} (hf : R'.frames ≤ R.frames) (hl : R'.locals ≤ R.locals) (hc : cells + R'.cells ≤ R.cells) (hs : slots + R'.slots ≤ R.slots) :
    Stand p l e R' ((T.setVm s.vm).setFrames (.invoking m args :: below)) m args below meth c T [] 0 0 := by
  have htop : (T.setVm s.vm).topJava?.isSome := X.here.top
  have hF : ((T.setVm s.vm).setFrames (.invoking m args :: below)).frames = .invoking m args :: below := State.frames_setFrames _ (State.cur_lt_of_top htop)
  obtain ⟨g₀, hg0⟩ := Option.isSome_iff_exists.mp htop
  obtain ⟨r, hr⟩ := State.topJava?_eq_some.mp hg0
  have hl9 : e.platform.stackLimits (T.setVm s.vm).me = e.platform.stackLimits s.me := X.limits
  have hb9 : (T.setVm s.vm).me.stackBytes = s.me.stackBytes := X.bytes
  refine ⟨X.admits, X.cas, X.clock, hF, ?_, X.hears, X.method, X.code, X.here, X.tail, X.warmed, ?_, ?_, ?_⟩
  · have h := X.room
    have hU : ((T.setVm s.vm).setFrames (.invoking m args :: below)).localsInUse = s.localsInUse := by
      rw [State.localsInUse_invoking hF (meth := meth) (c := c) X.method X.code, State.localsInUse_invoking X.frames X.method X.code]
    simp only [State.hasRoom, Bool.and_eq_true, decide_eq_true_eq] at h ⊢
    obtain ⟨⟨⟨⟨h1, h2, h3, h4, h5, h6⟩, h7⟩, h8⟩, h9⟩ := h
    rw [X.frames, List.length_cons] at h2 h3
    have q1 := X.heapSize
    have q2 := X.used
    simp only [hF, hU, List.length_cons, State.stackLimits_setFrames, State.stackBytes_setFrames, hl9, hb9]
    refine ⟨⟨⟨⟨by omega, by omega, by omega, by omega, by omega, h6⟩, ?_⟩, ?_⟩, X.book⟩
    · show T.heap.size + R'.cells ≤ e.platform.maxCells
      omega
    · show T.slotsUsed + R'.slots ≤ e.platform.maxSlots
      omega
  · rw [State.stackLimits_setFrames]; rfl
  · rw [State.stackBytes_setFrames]; rfl
  · refine ⟨?_, Nat.le_refl _, Nat.le_refl _, ?_, ?_, fun a c9 h9 => ⟨c9, h9, rfl, rfl, fun _ _ => rfl⟩⟩
    · obtain ⟨t, ht, -⟩ := State.frames_cons hr
      show T.setVm s.vm = { ((T.setVm s.vm).setFrames (.invoking m args :: below)).setFrames (T.setVm s.vm).frames with heap := T.heap, slotsUsed := T.slotsUsed }
      rw [State.setFrames_setFrames, State.setFrames_self ht]
      rfl
    · show T.slotsUsed = T.slotsUsed + ((T.heap.toList.drop T.heap.size).map (·.slots.size)).sum
      rw [List.drop_eq_nil_of_le (Nat.le_of_eq Array.length_toList)]
      rfl
    · show ((T.heap.toList.drop T.heap.size).map (·.slots.size)).sum ≤ 0
      rw [List.drop_eq_nil_of_le (Nat.le_of_eq Array.length_toList)]
      exact Nat.le_refl _
/-- 'throw new E()': new; dup; invokespecial; athrow -/
theorem vx_throw0 {cc : ByteArray} {pc : Nat} (hexec : p.tables.exec = Jvm.exec) (hb : c.code = cc) (hl : l.stackTraces = false) {own cls : String} {names : List String} {ik ic mc ms : Nat} {A : Nat → Prop}
    (hown : s.vm.findClass own = some m.cls) (hcls : Bundle.fit cls = true) (hnames : ∀ n ∈ names, Bundle.fit n = true)
    (hk : (Cond.classLink own ik cls).before args s = true) (hini : (Cond.initialized cls).before args s = true) (hat : ∀ w ∈ vx_at0 own ic cls names, w.before args s = true)
    (hgood : ∀ w ∈ Cond.classLink own ik cls :: Cond.initialized cls :: vx_at0 own ic cls names, vx_ot w = true)
    (hU : vx_Zq Bundle.tN "UNASSIGNED_STACK" Bundle.steD A s s.heap) (hN : vx_Zq Bundle.tN "SUPPRESSED_SENTINEL" Bundle.listD A s s.heap) (hS : va_S A s.heap H locs) (hsize : ls.size = c.maxLocals)
    (d0 : decode cc pc = .ok (.new ik, 3)) (d3 : decode cc (pc + 3) = .ok (.dup, 1)) (d4 : decode cc (pc + 4) = .ok (.invokespecial ic, 3)) (d7 : decode cc (pc + 7) = .ok (.athrow, 1))
    (hout : ∀ x ∈ c.exceptionTable.toList, covers x (pc + 7) = false)
    (hRframes : names.length + 3 < R.frames) (hRlocals : (rest.map fun v => v.category).sum + (13 * (names.length + 1) + 42) ≤ R.locals) (hRcells : cells + 1 ≤ R.cells) (hRslots : slots + 6 ≤ R.slots) (hlocks : meth.locks = false)
    (hx : ∀ t : State, s.vm.Alike t.vm → H.size ≤ t.heap.size → (∀ q : Nat, q < H.size → t.heap[q]? = H[q]?) → XC cls s t)
    (hf : ∀ z ∈ locs, free z.base) (hc : cells + 1 ≤ mc) (hs : slots + 6 ≤ ms) :
    W p l e R s m args below meth c H locs cells slots (vx_MQ below Qc XC args s mc ms free) (F0 m pc ls rest) := by
  intro T hT X
  have htr : e.platform.stackTraces = false := (show e.platform.stackTraces = l.stackTraces by rw [X.admits.platform]).trans hl
  have Y := vx_rebase X (R' := { frames := R.frames, locals := R.locals, cells := 1, slots := 6 }) (Nat.le_refl _) (Nat.le_refl _) hRcells hRslots
  obtain ⟨s', hA⟩ : ∃ z, z = (T.setVm s.vm).setFrames (.invoking m args :: below) := ⟨_, rfl⟩
  rw [← hA] at Y
  have hvm : s'.vm = s.vm := by rw [hA]; rfl
  have hhp : s'.heap = H := by rw [hA]; exact hT
  have hW0 : s.WarmedH s'.vm := by rw [hvm]; exact State.WarmedH.refl s
  have hat' : ∀ w ∈ vx_at0 own ic cls names, w.before args s' = true := fun w hw => vx_ot_at hW0 hvm.symm (hgood w (List.mem_cons_of_mem _ (List.mem_cons_of_mem _ hw))) (hat w hw)
  have hk' : (Cond.classLink own ik cls).before args s' = true := vx_ot_at hW0 hvm.symm (hgood _ List.mem_cons_self) hk
  have hini' : (Cond.initialized cls).before args s' = true := vx_ot_at hW0 hvm.symm (hgood _ (List.mem_cons_of_mem _ List.mem_cons_self)) hini
  have hU' : vx_Zq Bundle.tN "UNASSIGNED_STACK" Bundle.steD A s' s'.heap := by rw [hhp]; exact vx_Zq.moved hW0.alike (hU.kept hS.2.1)
  have hN' : vx_Zq Bundle.tN "SUPPRESSED_SENTINEL" Bundle.listD A s' s'.heap := by rw [hhp]; exact vx_Zq.moved hW0.alike (hN.kept hS.2.1)
  have h : ∀ w ∈ Bundle.ownAtoms0 own ic cls names, w.before args s' = true := vx_own hat' (vx_isRefq hU'.1) (vx_isRefq hN'.1) hU'.2.word hN'.2.word
  have hown' : s'.vm.findClass own = some m.cls := by rw [hvm]; exact hown
  have hins : (Cond.instantiable cls 6).before args s' = true := h _ (by simp [Bundle.ownAtoms0])
  obtain ⟨vm₁, cX, kX, hfX, hkX, -, -, X₁, st1⟩ := Y.newCold hexec (own := own) (C := cls) (index := ik) (n := 6) hown' hk' hins hini'
    (g := F0 m pc ls rest) rfl (by rw [hb]; exact d0) (Nat.le_refl _) (Nat.le_refl _)
  generalize hT1 : (T.setVm vm₁).pushCell { cls := cX, slots := kX.instanceTypes.map defaultValue, vm := .none } = T1 at X₁ st1
  have hcat : (Value.ref T.heap.size).category = 1 := rfl
  have hcellA : T1.heap[T.heap.size]? = some (freshCell cX kX) := by rw [← hT1]; exact State.heap_pushCell_size _ _
  have d3' : decode c.code (pc + 3) = .ok (.dup, 1) := by rw [hb]; exact d3
  obtain ⟨U, hsteps, hrun, hend, hW, hsame, ce, hce, hO⟩ := X₁.ctorThrow0 hexec htr (own := own) (cls := cls) (names := names) (ic := ic) hown' hcls hnames h (fun x hx => nomatch hx) hfX hkX hcellA (by rw [hhp, hT]; exact Nat.le_refl _)
    (g := { method := m, pc := pc + 4, locals := ls, stack := .ref T.heap.size :: .ref T.heap.size :: rest, locked := none }) rfl hsize rfl rfl (rest := rest) rfl
    (by rw [hb]; exact d4) (by rw [hb]; exact d7) hout hRframes (by simp only [List.map_cons, List.sum_cons, hcat]; omega) hlocks
  obtain ⟨f1, f2⟩ := vx_frame hsame
  rw [hhp] at f1 f2
  have hWs : s.WarmedH U.vm := State.WarmedH.trans hW0 hW
  have hcl : s.vm.findClass cls = some ce.cls := by
    have h9 := hO.cls
    rw [hvm] at h9
    exact h9
  have hall : s.sameButNew ({ U with vm := s.vm } : State) locs mc ms := by
    subst hA
    obtain ⟨e1, e2⟩ := hsame
    rw [State.setFrames_setFrames] at e1
    have h2 : (T.setVm s.vm).sameButNew ({ U with vm := s.vm } : State) [] (0 + 1) (0 + 6) := ⟨e1, e2⟩
    have h3 := X.same.trans h2
    rw [List.append_nil] at h3
    exact h3.mono hc hs
  refine ⟨U, ?_, .threw T.heap.size, hrun, hend, Or.inr ⟨T.heap.size, rfl, cls, ce, locs, hx U hWs.alike f1 (fun q hq => f2 q hq (fun z hz => nomatch hz)), hce, hO.vm, hcl, hWs, hall, hf⟩⟩
  refine st1 _ ?_
  show Steps p.tables e below (T1.setTop { method := m, pc := pc + 3, locals := ls, stack := .ref T.heap.size :: rest, locked := none }) _
  jvm_step X₁.here [X₁.here.top, hexec, d3', Value.category]
  exact hsteps
/-- 'throw new E("text")': new; dup; ldc; invokespecial; athrow -/
theorem vx_throwS {cc : ByteArray} {pc : Nat} (hexec : p.tables.exec = Jvm.exec) (hb : c.code = cc) (hl : l.stackTraces = false) {own cls text : String} {names : List String} {ik is ic mc ms sa : Nat} {A : Nat → Prop}
    (hown : s.vm.findClass own = some m.cls) (hcls : Bundle.fit cls = true) (hnames : ∀ n ∈ names, Bundle.fit n = true)
    (hk : (Cond.classLink own ik cls).before args s = true) (hini : (Cond.initialized cls).before args s = true) (hstr : vk_R own is text sa s) (hat : ∀ w ∈ vx_atS own ic cls names, w.before args s = true)
    (hgood : ∀ w ∈ Cond.classLink own ik cls :: Cond.initialized cls :: vx_atS own ic cls names, vx_ot w = true)
    (hU : vx_Zq Bundle.tN "UNASSIGNED_STACK" Bundle.steD A s s.heap) (hN : vx_Zq Bundle.tN "SUPPRESSED_SENTINEL" Bundle.listD A s s.heap) (hS : va_S A s.heap H locs) (hsize : ls.size = c.maxLocals)
    (d0 : decode cc pc = .ok (.new ik, 3)) (d3 : decode cc (pc + 3) = .ok (.dup, 1)) (d4 : decode cc (pc + 4) = .ok (.ldc is, 2)) (d6 : decode cc (pc + 6) = .ok (.invokespecial ic, 3)) (d9 : decode cc (pc + 9) = .ok (.athrow, 1))
    (hout : ∀ x ∈ c.exceptionTable.toList, covers x (pc + 9) = false)
    (hRframes : names.length + 3 < R.frames) (hRlocals : (rest.map fun v => v.category).sum + (13 * (names.length + 1) + 43) ≤ R.locals) (hRcells : cells + 1 ≤ R.cells) (hRslots : slots + 6 ≤ R.slots) (hlocks : meth.locks = false)
    (hx : ∀ t : State, s.vm.Alike t.vm → H.size ≤ t.heap.size → (∀ q : Nat, q < H.size → t.heap[q]? = H[q]?) → XC cls s t)
    (hf : ∀ z ∈ locs, free z.base) (hc : cells + 1 ≤ mc) (hs : slots + 6 ≤ ms) :
    W p l e R s m args below meth c H locs cells slots (vx_MQ below Qc XC args s mc ms free) (F0 m pc ls rest) := by
  intro T hT X
  have htr : e.platform.stackTraces = false := (show e.platform.stackTraces = l.stackTraces by rw [X.admits.platform]).trans hl
  have Y := vx_rebase X (R' := { frames := R.frames, locals := R.locals, cells := 1, slots := 6 }) (Nat.le_refl _) (Nat.le_refl _) hRcells hRslots
  obtain ⟨s', hA⟩ : ∃ z, z = (T.setVm s.vm).setFrames (.invoking m args :: below) := ⟨_, rfl⟩
  rw [← hA] at Y
  have hvm : s'.vm = s.vm := by rw [hA]; rfl
  have hhp : s'.heap = H := by rw [hA]; exact hT
  have hW0 : s.WarmedH s'.vm := by rw [hvm]; exact State.WarmedH.refl s
  have hat' : ∀ w ∈ vx_atS own ic cls names, w.before args s' = true := fun w hw => vx_ot_at hW0 hvm.symm (hgood w (List.mem_cons_of_mem _ (List.mem_cons_of_mem _ hw))) (hat w hw)
  have hk' : (Cond.classLink own ik cls).before args s' = true := vx_ot_at hW0 hvm.symm (hgood _ List.mem_cons_self) hk
  have hini' : (Cond.initialized cls).before args s' = true := vx_ot_at hW0 hvm.symm (hgood _ (List.mem_cons_of_mem _ List.mem_cons_self)) hini
  have hU' : vx_Zq Bundle.tN "UNASSIGNED_STACK" Bundle.steD A s' s'.heap := by rw [hhp]; exact vx_Zq.moved hW0.alike (hU.kept hS.2.1)
  have hN' : vx_Zq Bundle.tN "SUPPRESSED_SENTINEL" Bundle.listD A s' s'.heap := by rw [hhp]; exact vx_Zq.moved hW0.alike (hN.kept hS.2.1)
  have h : ∀ w ∈ Bundle.ownAtoms own ic cls names, w.before args s' = true := vx_own hat' (vx_isRefq hU'.1) (vx_isRefq hN'.1) hU'.2.word hN'.2.word
  have hown' : s'.vm.findClass own = some m.cls := by rw [hvm]; exact hown
  have hins : (Cond.instantiable cls 6).before args s' = true := h _ (by simp [Bundle.ownAtoms])
  obtain ⟨vm₁, cX, kX, hfX, hkX, -, -, X₁, st1⟩ := Y.newCold hexec (own := own) (C := cls) (index := ik) (n := 6) hown' hk' hins hini'
    (g := F0 m pc ls rest) rfl (by rw [hb]; exact d0) (Nat.le_refl _) (Nat.le_refl _)
  generalize hT1 : (T.setVm vm₁).pushCell { cls := cX, slots := kX.instanceTypes.map defaultValue, vm := .none } = T1 at X₁ st1
  have hcat : (Value.ref T.heap.size).category = 1 := rfl
  have hcellA : T1.heap[T.heap.size]? = some (freshCell cX kX) := by rw [← hT1]; exact State.heap_pushCell_size _ _
  have d3' : decode c.code (pc + 3) = .ok (.dup, 1) := by rw [hb]; exact d3
  have d4' : decode c.code (pc + 4) = .ok (.ldc is, 2) := by rw [hb]; exact d4
  have hstr' : vk_R own is text sa s' := vk_R.warm hW0 hstr
  obtain ⟨U, hsteps, hrun, hend, hW, hsame, ce, hce, hO⟩ := X₁.ctorThrowS hexec htr (own := own) (cls := cls) (names := names) (ic := ic) hown' hcls hnames h (fun x hx => nomatch hx) hfX hkX hcellA (by rw [hhp, hT]; exact Nat.le_refl _) (msg := .ref sa) rfl
    (g := { method := m, pc := pc + 6, locals := ls, stack := .ref sa :: .ref T.heap.size :: .ref T.heap.size :: rest, locked := none }) rfl hsize rfl rfl (rest := rest) rfl
    (by rw [hb]; exact d6) (by rw [hb]; exact d9) hout hRframes (by simp only [List.map_cons, List.sum_cons, hcat]; omega) hlocks
  obtain ⟨f1, f2⟩ := vx_frame hsame
  rw [hhp] at f1 f2
  have hWs : s.WarmedH U.vm := State.WarmedH.trans hW0 hW
  have hcl : s.vm.findClass cls = some ce.cls := by
    have h9 := hO.cls
    rw [hvm] at h9
    exact h9
  have hall : s.sameButNew ({ U with vm := s.vm } : State) locs mc ms := by
    subst hA
    obtain ⟨e1, e2⟩ := hsame
    rw [State.setFrames_setFrames] at e1
    have h2 : (T.setVm s.vm).sameButNew ({ U with vm := s.vm } : State) [] (0 + 1) (0 + 6) := ⟨e1, e2⟩
    have h3 := X.same.trans h2
    rw [List.append_nil] at h3
    exact h3.mono hc hs
  refine ⟨U, ?_, .threw T.heap.size, hrun, hend, Or.inr ⟨T.heap.size, rfl, cls, ce, locs, hx U hWs.alike f1 (fun q hq => f2 q hq (fun z hz => nomatch hz)), hce, hO.vm, hcl, hWs, hall, hf⟩⟩
  refine st1 _ ?_
  show Steps p.tables e below (T1.setTop { method := m, pc := pc + 3, locals := ls, stack := .ref T.heap.size :: rest, locked := none }) _
  jvm_step X₁.here [X₁.here.top, hexec, d3', Value.category]
  exact X₁.ldcString hexec (own := own) (text := text) (index := is) (a := sa) hown' hstr'.1 hstr'.2
    (g := { method := m, pc := pc + 4, locals := ls, stack := .ref T.heap.size :: .ref T.heap.size :: rest, locked := none }) rfl d4' _ hsteps
/-- 'throw new E("text")', the text by a wide index -/
theorem vx_throwSW {cc : ByteArray} {pc : Nat} (hexec : p.tables.exec = Jvm.exec) (hb : c.code = cc) (hl : l.stackTraces = false) {own cls text : String} {names : List String} {ik is ic mc ms sa : Nat} {A : Nat → Prop}
    (hown : s.vm.findClass own = some m.cls) (hcls : Bundle.fit cls = true) (hnames : ∀ n ∈ names, Bundle.fit n = true)
    (hk : (Cond.classLink own ik cls).before args s = true) (hini : (Cond.initialized cls).before args s = true) (hstr : vk_R own is text sa s) (hat : ∀ w ∈ vx_atS own ic cls names, w.before args s = true)
    (hgood : ∀ w ∈ Cond.classLink own ik cls :: Cond.initialized cls :: vx_atS own ic cls names, vx_ot w = true)
    (hU : vx_Zq Bundle.tN "UNASSIGNED_STACK" Bundle.steD A s s.heap) (hN : vx_Zq Bundle.tN "SUPPRESSED_SENTINEL" Bundle.listD A s s.heap) (hS : va_S A s.heap H locs) (hsize : ls.size = c.maxLocals)
    (d0 : decode cc pc = .ok (.new ik, 3)) (d3 : decode cc (pc + 3) = .ok (.dup, 1)) (d4 : decode cc (pc + 4) = .ok (.ldc_w is, 3)) (d7 : decode cc (pc + 7) = .ok (.invokespecial ic, 3)) (d10 : decode cc (pc + 10) = .ok (.athrow, 1))
    (hout : ∀ x ∈ c.exceptionTable.toList, covers x (pc + 10) = false)
    (hRframes : names.length + 3 < R.frames) (hRlocals : (rest.map fun v => v.category).sum + (13 * (names.length + 1) + 43) ≤ R.locals) (hRcells : cells + 1 ≤ R.cells) (hRslots : slots + 6 ≤ R.slots) (hlocks : meth.locks = false)
    (hx : ∀ t : State, s.vm.Alike t.vm → H.size ≤ t.heap.size → (∀ q : Nat, q < H.size → t.heap[q]? = H[q]?) → XC cls s t)
    (hf : ∀ z ∈ locs, free z.base) (hc : cells + 1 ≤ mc) (hs : slots + 6 ≤ ms) :
    W p l e R s m args below meth c H locs cells slots (vx_MQ below Qc XC args s mc ms free) (F0 m pc ls rest) := by
  intro T hT X
  have htr : e.platform.stackTraces = false := (show e.platform.stackTraces = l.stackTraces by rw [X.admits.platform]).trans hl
  have Y := vx_rebase X (R' := { frames := R.frames, locals := R.locals, cells := 1, slots := 6 }) (Nat.le_refl _) (Nat.le_refl _) hRcells hRslots
  obtain ⟨s', hA⟩ : ∃ z, z = (T.setVm s.vm).setFrames (.invoking m args :: below) := ⟨_, rfl⟩
  rw [← hA] at Y
  have hvm : s'.vm = s.vm := by rw [hA]; rfl
  have hhp : s'.heap = H := by rw [hA]; exact hT
  have hW0 : s.WarmedH s'.vm := by rw [hvm]; exact State.WarmedH.refl s
  have hat' : ∀ w ∈ vx_atS own ic cls names, w.before args s' = true := fun w hw => vx_ot_at hW0 hvm.symm (hgood w (List.mem_cons_of_mem _ (List.mem_cons_of_mem _ hw))) (hat w hw)
  have hk' : (Cond.classLink own ik cls).before args s' = true := vx_ot_at hW0 hvm.symm (hgood _ List.mem_cons_self) hk
  have hini' : (Cond.initialized cls).before args s' = true := vx_ot_at hW0 hvm.symm (hgood _ (List.mem_cons_of_mem _ List.mem_cons_self)) hini
  have hU' : vx_Zq Bundle.tN "UNASSIGNED_STACK" Bundle.steD A s' s'.heap := by rw [hhp]; exact vx_Zq.moved hW0.alike (hU.kept hS.2.1)
  have hN' : vx_Zq Bundle.tN "SUPPRESSED_SENTINEL" Bundle.listD A s' s'.heap := by rw [hhp]; exact vx_Zq.moved hW0.alike (hN.kept hS.2.1)
  have h : ∀ w ∈ Bundle.ownAtoms own ic cls names, w.before args s' = true := vx_own hat' (vx_isRefq hU'.1) (vx_isRefq hN'.1) hU'.2.word hN'.2.word
  have hown' : s'.vm.findClass own = some m.cls := by rw [hvm]; exact hown
  have hins : (Cond.instantiable cls 6).before args s' = true := h _ (by simp [Bundle.ownAtoms])
  obtain ⟨vm₁, cX, kX, hfX, hkX, -, -, X₁, st1⟩ := Y.newCold hexec (own := own) (C := cls) (index := ik) (n := 6) hown' hk' hins hini'
    (g := F0 m pc ls rest) rfl (by rw [hb]; exact d0) (Nat.le_refl _) (Nat.le_refl _)
  generalize hT1 : (T.setVm vm₁).pushCell { cls := cX, slots := kX.instanceTypes.map defaultValue, vm := .none } = T1 at X₁ st1
  have hcat : (Value.ref T.heap.size).category = 1 := rfl
  have hcellA : T1.heap[T.heap.size]? = some (freshCell cX kX) := by rw [← hT1]; exact State.heap_pushCell_size _ _
  have d3' : decode c.code (pc + 3) = .ok (.dup, 1) := by rw [hb]; exact d3
  have d4' : decode c.code (pc + 4) = .ok (.ldc_w is, 3) := by rw [hb]; exact d4
  have hstr' : vk_R own is text sa s' := vk_R.warm hW0 hstr
  obtain ⟨U, hsteps, hrun, hend, hW, hsame, ce, hce, hO⟩ := X₁.ctorThrowS hexec htr (own := own) (cls := cls) (names := names) (ic := ic) hown' hcls hnames h (fun x hx => nomatch hx) hfX hkX hcellA (by rw [hhp, hT]; exact Nat.le_refl _) (msg := .ref sa) rfl
    (g := { method := m, pc := pc + 7, locals := ls, stack := .ref sa :: .ref T.heap.size :: .ref T.heap.size :: rest, locked := none }) rfl hsize rfl rfl (rest := rest) rfl
    (by rw [hb]; exact d7) (by rw [hb]; exact d10) hout hRframes (by simp only [List.map_cons, List.sum_cons, hcat]; omega) hlocks
  obtain ⟨f1, f2⟩ := vx_frame hsame
  rw [hhp] at f1 f2
  have hWs : s.WarmedH U.vm := State.WarmedH.trans hW0 hW
  have hcl : s.vm.findClass cls = some ce.cls := by
    have h9 := hO.cls
    rw [hvm] at h9
    exact h9
  have hall : s.sameButNew ({ U with vm := s.vm } : State) locs mc ms := by
    subst hA
    obtain ⟨e1, e2⟩ := hsame
    rw [State.setFrames_setFrames] at e1
    have h2 : (T.setVm s.vm).sameButNew ({ U with vm := s.vm } : State) [] (0 + 1) (0 + 6) := ⟨e1, e2⟩
    have h3 := X.same.trans h2
    rw [List.append_nil] at h3
    exact h3.mono hc hs
  refine ⟨U, ?_, .threw T.heap.size, hrun, hend, Or.inr ⟨T.heap.size, rfl, cls, ce, locs, hx U hWs.alike f1 (fun q hq => f2 q hq (fun z hz => nomatch hz)), hce, hO.vm, hcl, hWs, hall, hf⟩⟩
  refine st1 _ ?_
  show Steps p.tables e below (T1.setTop { method := m, pc := pc + 3, locals := ls, stack := .ref T.heap.size :: rest, locked := none }) _
  jvm_step X₁.here [X₁.here.top, hexec, d3', Value.category]
  exact X₁.ldcStringW hexec (own := own) (text := text) (index := is) (a := sa) hown' hstr'.1 hstr'.2
    (g := { method := m, pc := pc + 4, locals := ls, stack := .ref T.heap.size :: .ref T.heap.size :: rest, locked := none }) rfl d4' _ hsteps
end Ends
section Bodies
variable {l : Launch}
theorem vx_ofW {y : MethodName} {ws ws' : List Cond} {rm : Room} {Pc : Array Value → State → Prop} {Qc : Array Value → State → Outcome → State → Prop} {XC : String → State → State → Prop} {mc ms : Nat} {free : Addr → Prop} {cc : ByteArray} {maxL : Nat} {ret : Option FieldType}
    (hy : plainName y.cls = true) (hw : ws = Cond.code y cc maxL ret :: ws')
    (body : ∀ p e s m args below meth c s₁, BodyLoose p l y (headSpec ws rm) cc maxL ret e s m args below meth c s₁ → c.maxLocals = maxL → (∀ x ∈ c.exceptionTable.toList, False) → Pc args s →
      W p l e (headSpec ws rm).room s m args below meth c s.heap [] 0 0 (vx_MQ below Qc XC args s mc ms free) (entryFrame m args maxL)) : vx_Met l y ws rm Pc Qc XC mc ms free := by
  refine MetFree.of_bodyS (code := cc) (maxLocals := maxL) (ret := ret) hy ?_ ?_
  · intro args s m h hn
    obtain ⟨meth, c, h1, h2, h3, h4, h5, h6, -, -⟩ := Cond.code_spec hn (atoms_spec (ws := ws) h _ (by rw [hw]; exact List.mem_cons_self))
    exact ⟨meth, c, h1, h2, h3, h4, h5, h6⟩
  · intro p e s m args below meth c s₁ B hml hP _
    have hh0 : s₁.heap = s.heap := by rw [B.state]; rfl
    have ht : ∀ x ∈ c.exceptionTable.toList, False := by
      obtain ⟨meth9, c9, h1, h2, -, -, -, -, h7, -⟩ := Cond.code_spec B.named (atoms_spec (ws := ws) B.pre _ (by rw [hw]; exact List.mem_cons_self))
      cases Option.some.inj (h1.symm.trans B.method)
      cases Option.some.inj (h2.symm.trans (Stand.of_body B).code)
      intro x hx
      rw [Array.isEmpty_iff.mp h7] at hx
      cases hx
    obtain ⟨t, a1, o, b1, b2, b3⟩ := body p e s m args below meth c s₁ B hml ht hP s₁ hh0 (Stand.of_body B)
    exact ⟨t, o, a1, b1, b2, b3⟩
/-- the table of a body with handlers -/
theorem vx_table {p : Program} {x y : MethodName} {S : Spec} {cc bytes : ByteArray} {maxL maxL' : Nat} {ret ret' : Option FieldType} {e : Env} {s s₁ : State} {m : MethodId} {args : Array Value} {below : List Frame} {meth : Method} {c : Code} {hh : List (Nat × Nat × Nat × Nat)}
    (B : BodyLoose p l y S cc maxL ret e s m args below meth c s₁) (h : (Cond.codeWith y bytes maxL' ret' hh).before args s = true) : c.exceptionTable.toList = tableOf hh := by
  obtain ⟨m9, meth9, c9, hn9, h1, h2, -, -, h6, -⟩ := Cond.codeWith_spec h
  cases Option.some.inj (hn9.symm.trans B.named)
  cases Option.some.inj (h1.symm.trans B.method)
  cases Option.some.inj (h2.symm.trans (Stand.of_body B).code)
  rw [← h6, table_eq]
end Bodies
end VXA
/-! ===== END ===== -/
/-! ===== BEGIN a static call of a method with an exception table ===== -/
section VXS
variable {p : Program} {l : Launch} {e : Env} {R : Room} {s : State} {m : MethodId} {args : Array Value} {below : List Frame} {meth : Method} {c : Code} {T : State} {H : Heap} {locs : List Loc} {cells slots : Nat}
abbrev vx_CSW (R : Room) (s : State) (args : Array Value) (own : String) (index : Nat) (y : MethodName) (bytes : ByteArray) (maxL : Nat) (ret : Option FieldType) (hh : List (Nat × Nat × Nat × Nat)) (ws : List Cond) (rm : Room) (mc ms n : Nat) : Prop :=
  (rm.cells = mc ∧ rm.slots = ms ∧ rm.frames + 1 ≤ R.frames ∧ 8 + (maxL + 11) + rm.locals ≤ R.locals ∧ (∀ w ∈ ws, ∀ (a' : Array Value) (U : State), s.WarmedH U.vm → w.before a' U = true) ∧ Cond.codeWith y bytes maxL ret hh ∈ ws) ∧
  (Cond.codeWith y bytes maxL ret hh).before args s = true ∧ (Cond.initialized y.cls).before args s = true ∧ (y.cls ≠ "java/lang/invoke/MethodHandle" ∧ y.cls ≠ "java/lang/invoke/VarHandle") ∧
  (∀ sig, parseMethodDescriptor y.desc = some sig → n = sig.parameters.length) ∧ (Cond.methodLink own index y).before args s = true ∧ (Cond.static y).before args s = true
theorem vx_cwSW {own : String} {index maxL mc ms : Nat} {y : MethodName} {bytes : ByteArray} {ret : Option FieldType} {hh : List (Nat × Nat × Nat × Nat)} {Ts ws ws' : List Cond} {rm : Room} (n : Nat) (ht : ∀ w ∈ Ts, w.before args s = true) (hT : GoodIn Ts (va_wsS own index y ws)) (hw : ws = Cond.codeWith y bytes maxL ret hh :: ws') (hrc : rm.cells = mc) (hrs : rm.slots = ms)
    (hd : y.cls ≠ "java/lang/invoke/MethodHandle" ∧ y.cls ≠ "java/lang/invoke/VarHandle" ∧ (parseMethodDescriptor y.desc).map (fun d => d.parameters.length) = some n) (hR : rm.frames + 1 ≤ R.frames ∧ 8 + (maxL + 11) + rm.locals ≤ R.locals) :
    vx_CSW R s args own index y bytes maxL ret hh ws rm mc ms n := by
  have ok : ∀ w ∈ va_wsS own index y ws, w.before args s = true := fun w h => ht w (hT w h).1
  have hG : GoodIn Ts ws := fun w h => hT w (by unfold va_wsS; exact List.mem_append_right _ h)
  have hc : Cond.codeWith y bytes maxL ret hh ∈ ws := by rw [hw]; exact List.mem_cons_self
  refine ⟨⟨hrc, hrs, hR.1, hR.2, pay_in ht hG, hc⟩, ht _ (hG _ hc).1, ok _ (by simp [va_wsS]), ⟨hd.1, hd.2.1⟩, fun sig h => ?_, ok _ (by simp [va_wsS]), ok _ (by simp [va_wsS])⟩
  have h2 := hd.2.2
  rw [h] at h2
  exact (Option.some.inj h2).symm
theorem vx_callSW (X : Stand p l e R s m args below meth c T locs cells slots) (hexec : p.tables.exec = Jvm.exec) {own : String} {index : Nat} {y : MethodName} {bytes : ByteArray} {maxL : Nat} {ret : Option FieldType} {hh : List (Nat × Nat × Nat × Nat)}
    (hown : s.vm.findClass own = some m.cls) (hlink : (Cond.methodLink own index y).before args s = true) (hstat : (Cond.static y).before args s = true) (hinit : (Cond.initialized y.cls).before args s = true)
    (hcode : (Cond.codeWith y bytes maxL ret hh).before args s = true) (hy : y.cls ≠ "java/lang/invoke/MethodHandle" ∧ y.cls ≠ "java/lang/invoke/VarHandle")
    {W9 : Nat} {Pre : Pt → Array Value → Prop} {Post : Pt → Array Value → Option Value → Pt → Prop} (hK : Back l R p e below s args y 3 W9 Pre Post)
    {g : JFrame} (hg : g.method = m) (hsize : g.locals.size = c.maxLocals) {argsL rest : List Value} (hlen : ∀ sig, parseMethodDescriptor y.desc = some sig → argsL.length = sig.parameters.length)
    (hstack : g.stack = argsL.reverse ++ rest) (hW : 2 * g.monitorRoom + (rest.map fun v => v.category).sum ≤ W9) (hdg : decode c.code g.pc = .ok (.invokestatic index, 3))
    (hpre : ∀ vm₁, s.WarmedH vm₁ → Pre ⟨T.setVm vm₁, locs, cells, slots⟩ argsL.toArray) :
    ∃ (v : Option Value) (vm₁ : Vm) (B : Pt), s.WarmedH vm₁ ∧ Stand p l e R s m args below meth c B.U B.locs B.cells B.slots ∧ Post ⟨T.setVm vm₁, locs, cells, slots⟩ argsL.toArray v B ∧
      ∀ target, Steps p.tables e below (B.U.setTop { g with pc := g.pc + 3, stack := v.toList ++ rest }) target → Steps p.tables e below (T.setTop g) target := by
  obtain ⟨mk, methM, cM, hnamed, hmethM, -, -, -, -, -, -, hsigM⟩ := Cond.codeWith_spec hcode
  have hstatic : methM.isStatic = true := Cond.static_spec hnamed hmethM hstat
  obtain ⟨kP, hkP, -⟩ := className_of_methodNamed hnamed
  have hinitP : kP.init = .initialized := Cond.initialized_spec (findClass_of_methodNamed hnamed) hkP hinit
  obtain ⟨vm₁, X₁, hstep₁⟩ := X.invokestatic hexec hown hlink hnamed hmethM hstatic hkP hinitP hy (g := g) hg (argsL := argsL) (rest := rest) (hlen _ hsigM) hstack hdg
  obtain ⟨v, B, X', hpost, hsteps⟩ := hK m meth c ⟨T.setVm vm₁, locs, cells, slots⟩ { g with stack := rest } (.invokestatic index) mk argsL.toArray X₁ hg hsize hdg hW (X₁.named hnamed) (hpre vm₁ X₁.warmed)
  exact ⟨v, vm₁, B, X₁.warmed, X', hpost, fun target h => hstep₁ _ fun acts => by rw [doInvoke_state]; exact hsteps.trans h⟩
theorem vx_runSW {y : MethodName} {bytes cc : ByteArray} {maxL nL mc ms n index : Nat} {ret : Option FieldType} {hh : List (Nat × Nat × Nat × Nat)} {ws : List Cond} {rm : Room} {Pc : Array Value → State → Prop} {Qc : Array Value → State → Outcome → State → Prop} {free : Addr → Prop} {Ts : List Cond} {own : String} {As rest : List Value} {g : JFrame}
    (S : CallFix p m c cc nL s args Ts own) (hM : Met l y ws rm Pc Qc mc ms free) (cw : vx_CSW R s args own index y bytes maxL ret hh ws rm mc ms n) (hp : PreS s H Pc As)
    (hg : g.method = m) (hn : As.length = n) (hsize : g.locals.size = nL) (hstack : g.stack = As.reverse ++ rest) (hW : 2 * g.monitorRoom + (rest.map fun v => v.category).sum ≤ 8) (hdg : decode cc g.pc = .ok (.invokestatic index, 3)) (hf : cells + mc ≤ R.cells ∧ slots + ms ≤ R.slots) :
    va_Run p l e R s m args below meth c H locs cells slots mc ms g rest (Qc As.toArray) (free) := by
  obtain ⟨⟨hrc, hrs, hfr, hlo, hws, hcw⟩, hcode, hini, hy, hlen, hl, hstt⟩ := cw
  have hK : Back l R p e below s args y 3 8 (PreOf R mc ms Pc) (PostOf Qc mc ms free) := va_backW (hh := hh) (bytes := bytes) (maxL := maxL) (ret := ret) hM hp.1 hrc hrs hfr hlo hws hcw (fun a' U hW => word_at hW (Or.inl (by first | rfl | simp [Cond.onTables, Cond.keeps, Cond.steady])) hini)
  obtain ⟨hx, hb, hml, ho, -⟩ := S
  intro T hT X
  obtain ⟨v, vm₁, ⟨U', l2, c2, s2⟩, hW₁, X', ⟨g', mk, t, L, e1, e2, hq, h1, hL, h2, h3⟩, st⟩ := vx_callSW X hx (hh := hh) (bytes := bytes) (maxL := maxL) (ret := ret) ho hl hstt hini hcode hy hK hg (hsize.trans hml.symm) (argsL := As) (rest := rest) (fun sig h => hn.trans (hlen sig h)) hstack hW (by rw [hb]; exact hdg)
    (fun vm₁ hW₁ => ⟨hf.1, hf.2, hp.2 (T.setVm vm₁) hT hW₁⟩)
  dsimp only [Pt.U, Pt.locs, Pt.cells, Pt.slots] at X' e1 e2 h1 h2 h3 st
  subst h1; subst h2; subst h3
  exact ⟨v, (T.setVm vm₁).calling g' mk As.toArray, t, U', L, hT, X', hL, e1, e2, hq, st⟩
/-- not caught here, past rows that name other classes: it goes on to the caller -/
theorem vx_outP {p : Program} {l : Launch} {e : Env} {R : Room} {s : State} {m : MethodId} {args : Array Value} {below : List Frame} {meth : Method} {c : Code} {H : Heap} {locs : List Loc} {cells slots : Nat} {free : Addr → Prop} {ls : Array Slot} {rest : List Value} {Qc : Array Value → State → Outcome → State → Prop} {XC : String → State → State → Prop}
    {pc : Nat} {own E : String} {ce : Cell} {q : Addr} {mc ms : Nat} (hown : s.vm.findClass own = some m.cls) (hlocks : meth.locks = false)
    (hpass : ∀ z ∈ c.exceptionTable.toList, covers z pc = false ∨ (z.catchType ≠ 0 ∧ ∃ nm : String, (Cond.classLink own z.catchType nm).before args s = true ∧ va_Nc E nm s)) (hcell : H[q]? = some ce) (hv : ce.vm = .none) (hcl : s.vm.findClass E = some ce.cls)
    (hx : ∀ t : State, t.heap = H → s.vm.Alike t.vm → XC E s t) (hf : ∀ z ∈ locs, free z.base) (hc : cells ≤ mc) (hs : slots ≤ ms) :
    vx_W p l e R s m args below meth c H locs cells slots (vx_MQ below Qc XC args s mc ms free) (F0 m pc ls rest) q := by
  intro T hT X
  have hpl : e.platform.magicAccessors = ({} : Platform).magicAccessors := by rw [X.admits.platform]
  obtain ⟨vm', hW', X', st⟩ := X.outThrough hlocks q (g := F0 m pc ls rest) rfl rfl rfl (cell := ce) (by rw [hT]; exact hcell) (by rw [hv]; rfl)
    (by obtain ⟨k9, h9, -⟩ := Vm.findClass_spec hcl; exact ⟨k9, h9⟩) (fun z hz => by
      rcases hpass z hz with h | ⟨hz0, nm, hl1, hn1⟩
      · exact Or.inl h
      · obtain ⟨c6, hc6, hcl6⟩ := Cond.classLink_spec hown hl1 e.platform hpl
        obtain ⟨a8, b8, h1, h2, h3⟩ := hn1
        cases Option.some.inj (h1.symm.trans hcl)
        cases Option.some.inj (h2.symm.trans hc6)
        exact Or.inr ⟨hz0, _, hcl6, h3⟩)
  obtain ⟨g₀, hfr⟩ := X'.frames_eq
  have hcell9 : ((T.setVm vm').setFrames (.throwing q :: below)).heap[q]? = some ce := by
    show T.heap[q]? = some ce
    rw [hT]; exact hcell
  have hend : Ended ((T.setVm vm').setFrames (.throwing q :: below)) below (.threw q) := State.frames_setFrames _ (State.cur_lt_of_frames hfr)
  refine ⟨(T.setVm vm').setFrames (.throwing q :: below), ?_, .threw q, X'.here.running, hend, Or.inr ⟨q, rfl, E, ce, locs, hx _ hT (X'.ends _).1.alike, hcell9, hv, hcl, (X'.ends _).1, (X'.ends _).2.mono hc hs, hf⟩⟩
  rw [X.pushThrowing_eq]
  exact st
/-- a thing of a world lies in the heap -/
theorem vx_lt {D : va_G} {cl : List vw_C} {ws : va_W} {H1 : Heap} (h : va_P D cl ws H1) {k : Nat} {q : Nat × va_E} (hk : ws[k]? = some q) : q.1 < H1.size := (h k q hk).lt
end VXS
/-! ===== END ===== -/
/-! ===== BEGIN methods with a table of their own: called by a name, returning or throwing ===== -/
section VXH
/-! vx_backW, vx_callVX, vx_callSX, vx_callVW, vx_runVW, vx_runVX, vx_runSX, vx_ofWH follow the same proofs as their sisters above (Free/Laws.lean, Shelf42/LK1.lean); vx_outP calls Shelf42/NT130.lean (outThrough). -/
section
variable {l : Launch} {R : Room} {p : Program} {e : Env} {below : List Frame} {s : State} {sargs : Array Value} {y : MethodName} {len W9 : Nat}
theorem vx_backW {ws : List Cond} {rm : Room} {Pc : Array Value → State → Prop} {Qc : Array Value → State → Outcome → State → Prop} {XC : String → State → State → Prop} {mc ms : Nat} {free : Addr → Prop} {bytes : ByteArray} {maxL : Nat} {ret : Option FieldType} {hh : List (Nat × Nat × Nat × Nat)}
    (hM : vx_Met l y ws rm Pc Qc XC mc ms free) (hblind : FrameBlind Pc) (hrc : rm.cells = mc) (hrs : rm.slots = ms)
    (hframes : rm.frames + 1 ≤ R.frames) (hlocals : W9 + (maxL + 11) + rm.locals ≤ R.locals)
    (hws : ∀ w ∈ ws, ∀ a' U, s.WarmedH U.vm → w.before a' U = true) (hcode : Cond.codeWith y bytes maxL ret hh ∈ ws) (hinit : ∀ a' U, s.WarmedH U.vm → (Cond.initialized y.cls).before a' U = true) :
    vx_Back l R p e below s sargs y len W9 (PreOf R mc ms Pc) (PostOf Qc mc ms free) (vx_Post XC mc ms free) := by
  intro m meth c A g ig mk a X hg hsize hdg hW hn hp
  have h1 : (headSpec ws rm).pre.before a A.U = true := atoms_intro fun w hw => hws w hw _ _ X.warmed
  have h2 : (Cond.codeWith y bytes maxL ret hh).before a A.U = true := hws _ hcode _ _ X.warmed
  have h3 : (Cond.initialized y.cls).before a A.U = true := hinit _ _ X.warmed
  have h4 : A.cells + (headSpec ws rm).room.cells ≤ R.cells := by rw [show (headSpec ws rm).room.cells = mc from hrc]; exact hp.1
  have h5 : A.slots + (headSpec ws rm).room.slots ≤ R.slots := by rw [show (headSpec ws rm).room.slots = ms from hrs]; exact hp.2.1
  have hPc : Pc a (A.U.calling g mk a) := hblind _ _ _ _ hp.2.2
  obtain ⟨U, Ls, c0, s0⟩ := A
  dsimp only [Pt.U, Pt.locs, Pt.cells, Pt.slots] at h1 h2 h3 h4 h5 X hn hPc ⊢
  obtain ⟨m9, methY, cY, hn9, hmY, hcY, -, hlY, -⟩ := Cond.codeWith_spec h2
  cases Option.some.inj (hn9.symm.trans hn)
  obtain ⟨kY, hkY, -⟩ := className_of_methodNamed hn
  have hinitY : kY.init = .initialized := Cond.initialized_spec (findClass_of_methodNamed hn) hkY h3
  have h : At U g.method c below := by rw [hg]; exact X.here
  have hlocals9 : W9 + (maxL + 11) + (headSpec ws rm).room.locals ≤ R.locals := hlocals
  have happ : (headSpec ws rm).appliesLoose y e.platform (U.calling g mk a) = true :=
    Spec.appliesLoose_calling (g := g) h hdg hn hkY hinitY
      (X.room_calling (g := g) (R' := (headSpec ws rm).room) hsize hmY hcY hframes (by rw [hlY]; omega) h4 h5) h1
  obtain ⟨mid, hmid⟩ := h.above
  have hfr : (U.setTop g).frames = (.java g :: mid) ++ below := by rw [State.frames_setTop' g h.top, hmid]; rfl
  obtain ⟨o, s₂, hsteps, -, hend, hq⟩ := Steps.callFree hM p X.admits X.cas X.clock (acts := []) hfr happ hPc trivial
  have hq' : vx_Q Qc XC mc ms free a (U.calling g mk a) o s₂ := hq
  rw [State.frames_setTop' g h.top] at hend
  obtain ⟨g₀, hg0⟩ := Option.isSome_iff_exists.mp h.top
  obtain ⟨r, hr⟩ := State.topJava?_eq_some.mp hg0
  have hr' : (({ U with heap := s₂.heap, slotsUsed := s₂.slotsUsed } : State).setVm s₂.vm).frames = .java g₀ :: r := hr
  rcases hq' with ⟨hqc, L, hfe, hL⟩ | ⟨q, rfl, E, ce, L, hx, hce, hcv, hcl, hW₂, hsm, hL⟩
  · obtain ⟨⟨v, rfl⟩, hW₂, e2, q2, q3, q4, q5, q6⟩ := id hfe
    have e3 : s₂ = ({ (U.calling g mk a).setFrames s₂.frames with heap := s₂.heap, slotsUsed := s₂.slotsUsed } : State).setVm s₂.vm := by
      have : s₂ = ({ s₂ with vm := (U.calling g mk a).vm } : State).setVm s₂.vm := rfl
      rw [e2] at this
      exact this
    obtain ⟨c₂, i₂, len₂, hc₂, hd₂, hf₂⟩ := hend
    have hW' : U.WarmedH s₂.vm := hW₂
    have hcc : c₂ = c := by
      have h1 : s₂.code? g.method = U.code? g.method := by
        rw [State.code?_eq, State.code?_eq, hW'.alike.method?]
      exact Option.some.inj (hc₂.symm.trans (h1.trans h.code))
    subst hcc
    have hlen : len₂ = len := by rw [hdg] at hd₂; cases hd₂; rfl
    subst hlen
    have hs₂ : s₂ = (({ U with heap := s₂.heap, slotsUsed := s₂.slotsUsed } : State).setVm s₂.vm).setTop { g with pc := g.pc + len₂, stack := v.toList ++ g.stack } := by
      refine e3.trans ?_
      rw [hf₂, State.calling_eq h.top, State.setFrames_setFrames, State.setTop_of_frames _ hr', hr]
      rfl
    have hsame : U.sameButNew ({ U with heap := s₂.heap, slotsUsed := s₂.slotsUsed } : State) L mc ms := by
      refine ⟨?_, q2, q3, q4, q5, q6⟩
      obtain ⟨t, ht, -⟩ := State.frames_cons hr
      show ({ U with heap := s₂.heap, slotsUsed := s₂.slotsUsed } : State) = { U.setFrames U.frames with heap := s₂.heap, slotsUsed := s₂.slotsUsed }
      rw [State.setFrames_self ht]
    subst hg
    refine Or.inl ⟨v, ⟨(({ U with heap := s₂.heap, slotsUsed := s₂.slotsUsed } : State).setVm s₂.vm), Ls ++ L, c0 + mc, s0 + ms⟩,
      ⟨X.admits, X.cas, X.clock, X.frames, X.room, X.hears, X.method, X.code, (X.here.setHeapUsed s₂.heap s₂.slotsUsed).setVm hW'.alike, X.tail, State.WarmedH.trans X.warmed hW', X.limits, X.bytes, X.same.trans (hsame.setVm s.vm)⟩,
      ⟨g, mk, s₂, L, rfl, rfl, hqc, rfl, hL, rfl, rfl⟩, ?_⟩
    show Steps p.tables e below _ ((({ U with heap := s₂.heap, slotsUsed := s₂.slotsUsed } : State).setVm s₂.vm).setTop { g with pc := g.pc + len₂, stack := v.toList ++ g.stack })
    rw [← hs₂]
    exact hsteps
  · obtain ⟨e2, q2, q3, q4, q5, q6⟩ := id hsm
    have e3 : s₂ = ({ (U.calling g mk a).setFrames s₂.frames with heap := s₂.heap, slotsUsed := s₂.slotsUsed } : State).setVm s₂.vm := by
      have : s₂ = ({ s₂ with vm := (U.calling g mk a).vm } : State).setVm s₂.vm := rfl
      rw [e2] at this
      exact this
    have hf₂ : s₂.frames = .throwing q :: .java g :: U.frames.tail := hend
    have hW' : U.WarmedH s₂.vm := hW₂
    have hs₂ : s₂ = ((({ U with heap := s₂.heap, slotsUsed := s₂.slotsUsed } : State).setVm s₂.vm).setTop g).pushFrame (.throwing q) := by
      refine e3.trans ?_
      rw [hf₂, State.calling_eq h.top, State.setFrames_setFrames, State.pushFrame, State.frames_setTop _ hr', State.setTop_of_frames _ hr', State.setFrames_setFrames, hr]
      rfl
    have hsame : U.sameButNew ({ U with heap := s₂.heap, slotsUsed := s₂.slotsUsed } : State) L mc ms := by
      refine ⟨?_, q2, q3, q4, q5, q6⟩
      obtain ⟨t, ht, -⟩ := State.frames_cons hr
      show ({ U with heap := s₂.heap, slotsUsed := s₂.slotsUsed } : State) = { U.setFrames U.frames with heap := s₂.heap, slotsUsed := s₂.slotsUsed }
      rw [State.setFrames_self ht]
    subst hg
    refine Or.inr ⟨q, ⟨(({ U with heap := s₂.heap, slotsUsed := s₂.slotsUsed } : State).setVm s₂.vm), Ls ++ L, c0 + mc, s0 + ms⟩,
      ⟨X.admits, X.cas, X.clock, X.frames, X.room, X.hears, X.method, X.code, (X.here.setHeapUsed s₂.heap s₂.slotsUsed).setVm hW'.alike, X.tail, State.WarmedH.trans X.warmed hW', X.limits, X.bytes, X.same.trans (hsame.setVm s.vm)⟩,
      ⟨g, mk, s₂, L, E, ce, rfl, rfl, hx, hce, hcv, hcl, rfl, hL, rfl, rfl⟩, ?_⟩
    show Steps p.tables e below _ (((({ U with heap := s₂.heap, slotsUsed := s₂.slotsUsed } : State).setVm s₂.vm).setTop g).pushFrame (.throwing q))
    rw [← hs₂]
    exact hsteps
end
variable {p : Program} {l : Launch} {e : Env} {R : Room} {s : State} {m : MethodId} {args : Array Value} {below : List Frame} {meth : Method} {c : Code} {T : State} {H : Heap} {locs : List Loc} {cells slots : Nat}
theorem vx_callVX (X : Stand p l e R s m args below meth c T locs cells slots) (hexec : p.tables.exec = Jvm.exec) {own C : String} {index : Nat} {y : MethodName} {bytes : ByteArray} {maxL : Nat} {ret : Option FieldType} {hh : List (Nat × Nat × Nat × Nat)}
    (hown : s.vm.findClass own = some m.cls) (hlink : (Cond.methodLink own index y).before args s = true) (hinst : (Cond.instanceMethod y).before args s = true) (hsel : (Cond.selects C y y).before args s = true)
    (hcode : (Cond.codeWith y bytes maxL ret hh).before args s = true) (hy : y.cls ≠ "java/lang/invoke/MethodHandle" ∧ y.cls ≠ "java/lang/invoke/VarHandle")
    {W9 : Nat} {Pre : Pt → Array Value → Prop} {Post : Pt → Array Value → Option Value → Pt → Prop} {PostX : Pt → Array Value → Addr → Pt → Prop} (hK : vx_Back l R p e below s args y 3 W9 Pre Post PostX)
    {b : Addr} {cellB : Cell} (hcell : T.heap[b]? = some cellB) (hobj : cellB.vm.isStatics = false) (hcls : s.vm.findClass C = some cellB.cls)
    {g : JFrame} (hg : g.method = m) (hsize : g.locals.size = c.maxLocals) {argsL rest : List Value} (hlen : ∀ sig, parseMethodDescriptor y.desc = some sig → argsL.length = sig.parameters.length)
    (hstack : g.stack = argsL.reverse ++ .ref b :: rest) (hW : 2 * g.monitorRoom + (rest.map fun v => v.category).sum ≤ W9) (hdg : decode c.code g.pc = .ok (.invokevirtual index, 3))
    (hpre : ∀ vm₁, s.WarmedH vm₁ → Pre ⟨T.setVm vm₁, locs, cells, slots⟩ (Value.ref b :: argsL).toArray) :
    (∃ (v : Option Value) (vm₁ : Vm) (B : Pt), s.WarmedH vm₁ ∧ Stand p l e R s m args below meth c B.U B.locs B.cells B.slots ∧ Post ⟨T.setVm vm₁, locs, cells, slots⟩ (Value.ref b :: argsL).toArray v B ∧
      ∀ target, Steps p.tables e below (B.U.setTop { g with pc := g.pc + 3, stack := v.toList ++ rest }) target → Steps p.tables e below (T.setTop g) target) ∨
    (∃ (q : Addr) (vm₁ : Vm) (B : Pt), s.WarmedH vm₁ ∧ Stand p l e R s m args below meth c B.U B.locs B.cells B.slots ∧ PostX ⟨T.setVm vm₁, locs, cells, slots⟩ (Value.ref b :: argsL).toArray q B ∧
      Steps p.tables e below (T.setTop g) ((B.U.setTop { g with stack := rest }).pushFrame (.throwing q))) := by
  obtain ⟨mk, methM, hnamed, hmethM, hstM, habM⟩ := Cond.instanceMethod_spec hinst
  obtain ⟨m8, methM', cM, hn8, hmethM', -, -, -, -, -, -, hsigM⟩ := Cond.codeWith_spec hcode
  cases Option.some.inj (hn8.symm.trans hnamed)
  cases hmethM.symm.trans hmethM'
  obtain ⟨c2, r2, m2, q1, q2, q3, q4, kP, hkP, hkPi⟩ := Cond.selects_spec hsel
  cases hcls.symm.trans q1
  cases (State.methodFound?_of_named hnamed hy).symm.trans q2
  cases hnamed.symm.trans q3
  have hselP : selectMethod e.platform s.vm cellB.cls mk = .method mk := by rw [Launch.admits_selectMethod X.admits]; exact q4
  obtain ⟨vm₁, X₁, hstep₁⟩ := X.invokevirtual hexec hown hlink hnamed hmethM hstM hkP hkPi hy (a := b) (cell := cellB) hcell
    (fun z h => by rw [h] at hobj; cases hobj) hselP hmethM habM hkP hkPi (g := g) hg (argsL := argsL) (rest := rest) (hlen _ hsigM) hstack hdg
  rcases hK m meth c ⟨T.setVm vm₁, locs, cells, slots⟩ { g with stack := rest } (.invokevirtual index) mk (Value.ref b :: argsL).toArray X₁ hg hsize hdg hW (X₁.named hnamed) (hpre vm₁ X₁.warmed) with ⟨v, B, X', hpost, hsteps⟩ | ⟨q, B, X', hpost, hsteps⟩
  · exact Or.inl ⟨v, vm₁, B, X₁.warmed, X', hpost, fun target h => hstep₁ _ fun acts => by rw [doInvoke_state]; exact hsteps.trans h⟩
  · exact Or.inr ⟨q, vm₁, B, X₁.warmed, X', hpost, hstep₁ _ fun acts => by rw [doInvoke_state]; exact hsteps⟩
theorem vx_callSX (X : Stand p l e R s m args below meth c T locs cells slots) (hexec : p.tables.exec = Jvm.exec) {own : String} {index : Nat} {y : MethodName} {bytes : ByteArray} {maxL : Nat} {ret : Option FieldType} {hh : List (Nat × Nat × Nat × Nat)}
    (hown : s.vm.findClass own = some m.cls) (hlink : (Cond.methodLink own index y).before args s = true) (hstat : (Cond.static y).before args s = true) (hinit : (Cond.initialized y.cls).before args s = true)
    (hcode : (Cond.codeWith y bytes maxL ret hh).before args s = true) (hy : y.cls ≠ "java/lang/invoke/MethodHandle" ∧ y.cls ≠ "java/lang/invoke/VarHandle")
    {W9 : Nat} {Pre : Pt → Array Value → Prop} {Post : Pt → Array Value → Option Value → Pt → Prop} {PostX : Pt → Array Value → Addr → Pt → Prop} (hK : vx_Back l R p e below s args y 3 W9 Pre Post PostX)
    {g : JFrame} (hg : g.method = m) (hsize : g.locals.size = c.maxLocals) {argsL rest : List Value} (hlen : ∀ sig, parseMethodDescriptor y.desc = some sig → argsL.length = sig.parameters.length)
    (hstack : g.stack = argsL.reverse ++ rest) (hW : 2 * g.monitorRoom + (rest.map fun v => v.category).sum ≤ W9) (hdg : decode c.code g.pc = .ok (.invokestatic index, 3))
    (hpre : ∀ vm₁, s.WarmedH vm₁ → Pre ⟨T.setVm vm₁, locs, cells, slots⟩ argsL.toArray) :
    (∃ (v : Option Value) (vm₁ : Vm) (B : Pt), s.WarmedH vm₁ ∧ Stand p l e R s m args below meth c B.U B.locs B.cells B.slots ∧ Post ⟨T.setVm vm₁, locs, cells, slots⟩ argsL.toArray v B ∧
      ∀ target, Steps p.tables e below (B.U.setTop { g with pc := g.pc + 3, stack := v.toList ++ rest }) target → Steps p.tables e below (T.setTop g) target) ∨
    (∃ (q : Addr) (vm₁ : Vm) (B : Pt), s.WarmedH vm₁ ∧ Stand p l e R s m args below meth c B.U B.locs B.cells B.slots ∧ PostX ⟨T.setVm vm₁, locs, cells, slots⟩ argsL.toArray q B ∧
      Steps p.tables e below (T.setTop g) ((B.U.setTop { g with stack := rest }).pushFrame (.throwing q))) := by
  obtain ⟨mk, methM, cM, hnamed, hmethM, -, -, -, -, -, -, hsigM⟩ := Cond.codeWith_spec hcode
  have hstatic : methM.isStatic = true := Cond.static_spec hnamed hmethM hstat
  obtain ⟨kP, hkP, -⟩ := className_of_methodNamed hnamed
  have hinitP : kP.init = .initialized := Cond.initialized_spec (findClass_of_methodNamed hnamed) hkP hinit
  obtain ⟨vm₁, X₁, hstep₁⟩ := X.invokestatic hexec hown hlink hnamed hmethM hstatic hkP hinitP hy (g := g) hg (argsL := argsL) (rest := rest) (hlen _ hsigM) hstack hdg
  rcases hK m meth c ⟨T.setVm vm₁, locs, cells, slots⟩ { g with stack := rest } (.invokestatic index) mk argsL.toArray X₁ hg hsize hdg hW (X₁.named hnamed) (hpre vm₁ X₁.warmed) with ⟨v, B, X', hpost, hsteps⟩ | ⟨q, B, X', hpost, hsteps⟩
  · exact Or.inl ⟨v, vm₁, B, X₁.warmed, X', hpost, fun target h => hstep₁ _ fun acts => by rw [doInvoke_state]; exact hsteps.trans h⟩
  · exact Or.inr ⟨q, vm₁, B, X₁.warmed, X', hpost, hstep₁ _ fun acts => by rw [doInvoke_state]; exact hsteps⟩
theorem vx_callVW (X : Stand p l e R s m args below meth c T locs cells slots) (hexec : p.tables.exec = Jvm.exec) {own C : String} {index : Nat} {y : MethodName} {bytes : ByteArray} {maxL : Nat} {ret : Option FieldType} {hh : List (Nat × Nat × Nat × Nat)}
    (hown : s.vm.findClass own = some m.cls) (hlink : (Cond.methodLink own index y).before args s = true) (hinst : (Cond.instanceMethod y).before args s = true) (hsel : (Cond.selects C y y).before args s = true)
    (hcode : (Cond.codeWith y bytes maxL ret hh).before args s = true) (hy : y.cls ≠ "java/lang/invoke/MethodHandle" ∧ y.cls ≠ "java/lang/invoke/VarHandle")
    {W9 : Nat} {Pre : Pt → Array Value → Prop} {Post : Pt → Array Value → Option Value → Pt → Prop} (hK : Back l R p e below s args y 3 W9 Pre Post)
    {b : Addr} {cellB : Cell} (hcell : T.heap[b]? = some cellB) (hobj : cellB.vm.isStatics = false) (hcls : s.vm.findClass C = some cellB.cls)
    {g : JFrame} (hg : g.method = m) (hsize : g.locals.size = c.maxLocals) {argsL rest : List Value} (hlen : ∀ sig, parseMethodDescriptor y.desc = some sig → argsL.length = sig.parameters.length)
    (hstack : g.stack = argsL.reverse ++ .ref b :: rest) (hW : 2 * g.monitorRoom + (rest.map fun v => v.category).sum ≤ W9) (hdg : decode c.code g.pc = .ok (.invokevirtual index, 3))
    (hpre : ∀ vm₁, s.WarmedH vm₁ → Pre ⟨T.setVm vm₁, locs, cells, slots⟩ (Value.ref b :: argsL).toArray) :
    ∃ (v : Option Value) (vm₁ : Vm) (B : Pt), s.WarmedH vm₁ ∧ Stand p l e R s m args below meth c B.U B.locs B.cells B.slots ∧ Post ⟨T.setVm vm₁, locs, cells, slots⟩ (Value.ref b :: argsL).toArray v B ∧
      ∀ target, Steps p.tables e below (B.U.setTop { g with pc := g.pc + 3, stack := v.toList ++ rest }) target → Steps p.tables e below (T.setTop g) target := by
  obtain ⟨mk, methM, hnamed, hmethM, hstM, habM⟩ := Cond.instanceMethod_spec hinst
  obtain ⟨m8, methM', cM, hn8, hmethM', -, -, -, -, -, -, hsigM⟩ := Cond.codeWith_spec hcode
  cases Option.some.inj (hn8.symm.trans hnamed)
  cases hmethM.symm.trans hmethM'
  obtain ⟨c2, r2, m2, q1, q2, q3, q4, kP, hkP, hkPi⟩ := Cond.selects_spec hsel
  cases hcls.symm.trans q1
  cases (State.methodFound?_of_named hnamed hy).symm.trans q2
  cases hnamed.symm.trans q3
  have hselP : selectMethod e.platform s.vm cellB.cls mk = .method mk := by rw [Launch.admits_selectMethod X.admits]; exact q4
  obtain ⟨vm₁, X₁, hstep₁⟩ := X.invokevirtual hexec hown hlink hnamed hmethM hstM hkP hkPi hy (a := b) (cell := cellB) hcell
    (fun z h => by rw [h] at hobj; cases hobj) hselP hmethM habM hkP hkPi (g := g) hg (argsL := argsL) (rest := rest) (hlen _ hsigM) hstack hdg
  obtain ⟨v, B, X', hpost, hsteps⟩ := hK m meth c ⟨T.setVm vm₁, locs, cells, slots⟩ { g with stack := rest } (.invokevirtual index) mk (Value.ref b :: argsL).toArray X₁ hg hsize hdg hW (X₁.named hnamed) (hpre vm₁ X₁.warmed)
  exact ⟨v, vm₁, B, X₁.warmed, X', hpost, fun target h => hstep₁ _ fun acts => by rw [doInvoke_state]; exact hsteps.trans h⟩
abbrev vx_CVW (R : Room) (s : State) (args : Array Value) (own C : String) (index : Nat) (y : MethodName) (bytes : ByteArray) (maxL : Nat) (ret : Option FieldType) (hh : List (Nat × Nat × Nat × Nat)) (ws : List Cond) (rm : Room) (mc ms n : Nat) : Prop :=
  (rm.cells = mc ∧ rm.slots = ms ∧ rm.frames + 1 ≤ R.frames ∧ 8 + (maxL + 11) + rm.locals ≤ R.locals ∧ (∀ w ∈ ws, ∀ (a' : Array Value) (U : State), s.WarmedH U.vm → w.before a' U = true) ∧ Cond.codeWith y bytes maxL ret hh ∈ ws) ∧
  (Cond.codeWith y bytes maxL ret hh).before args s = true ∧ (Cond.initialized y.cls).before args s = true ∧ (y.cls ≠ "java/lang/invoke/MethodHandle" ∧ y.cls ≠ "java/lang/invoke/VarHandle") ∧
  (∀ sig, parseMethodDescriptor y.desc = some sig → n = sig.parameters.length) ∧ (Cond.methodLink own index y).before args s = true ∧ (Cond.instanceMethod y).before args s = true ∧ (Cond.selects C y y).before args s = true
theorem vx_cwVW {own C : String} {index maxL mc ms : Nat} {y : MethodName} {bytes : ByteArray} {ret : Option FieldType} {hh : List (Nat × Nat × Nat × Nat)} {Ts ws ws' : List Cond} {rm : Room} (n : Nat) (ht : ∀ w ∈ Ts, w.before args s = true) (hT : GoodIn Ts (wsV own index C y ws)) (hw : ws = Cond.codeWith y bytes maxL ret hh :: ws') (hrc : rm.cells = mc) (hrs : rm.slots = ms)
    (hd : y.cls = C ∧ y.cls ≠ "java/lang/invoke/MethodHandle" ∧ y.cls ≠ "java/lang/invoke/VarHandle" ∧ (parseMethodDescriptor y.desc).map (fun d => d.parameters.length) = some n) (hR : rm.frames + 1 ≤ R.frames ∧ 8 + (maxL + 11) + rm.locals ≤ R.locals) :
    vx_CVW R s args own C index y bytes maxL ret hh ws rm mc ms n := by
  obtain ⟨hC, hd⟩ := hd
  subst hC
  have ok : ∀ w ∈ wsV own index y.cls y ws, w.before args s = true := fun w h => ht w (hT w h).1
  have hG : GoodIn Ts ws := fun w h => hT w (by unfold wsV; exact List.mem_append_right _ h)
  have hc : Cond.codeWith y bytes maxL ret hh ∈ ws := by rw [hw]; exact List.mem_cons_self
  refine ⟨⟨hrc, hrs, hR.1, hR.2, pay_in ht hG, hc⟩, ht _ (hG _ hc).1, ok _ (by simp [wsV]), ⟨hd.1, hd.2.1⟩, fun sig h => ?_, ok _ (by simp [wsV]), ok _ (by simp [wsV]), ok _ (by simp [wsV])⟩
  have h2 := hd.2.2
  rw [h] at h2
  exact (Option.some.inj h2).symm
theorem vx_runVW {y : MethodName} {bytes cc : ByteArray} {maxL nL mc ms n index : Nat} {ret : Option FieldType} {hh : List (Nat × Nat × Nat × Nat)} {ws : List Cond} {rm : Room} {Pc : Array Value → State → Prop} {Qc : Array Value → State → Outcome → State → Prop} {free : Addr → Prop} {Ts : List Cond} {own C : String} {b : Addr} {As rest : List Value} {g : JFrame}
    (S : CallFix p m c cc nL s args Ts own) (hM : Met l y ws rm Pc Qc mc ms free) (cw : vx_CVW R s args own C index y bytes maxL ret hh ws rm mc ms n) (hp : PreV s H C b Pc As)
    (hg : g.method = m) (hn : As.length = n) (hsize : g.locals.size = nL) (hstack : g.stack = As.reverse ++ .ref b :: rest) (hW : 2 * g.monitorRoom + (rest.map fun v => v.category).sum ≤ 8) (hdg : decode cc g.pc = .ok (.invokevirtual index, 3)) (hf : cells + mc ≤ R.cells ∧ slots + ms ≤ R.slots) :
    va_Run p l e R s m args below meth c H locs cells slots mc ms g rest (Qc (Value.ref b :: As).toArray) free := by
  obtain ⟨⟨hrc, hrs, hfr, hlo, hws, hcw⟩, hcode, hini, hy, hlen, hl, hin, hse⟩ := cw
  have hK : Back l R p e below s args y 3 8 (PreOf R mc ms Pc) (PostOf Qc mc ms free) := va_backW (hh := hh) (bytes := bytes) (maxL := maxL) (ret := ret) hM hp.1 hrc hrs hfr hlo hws hcw (fun a' U hW => word_at hW (Or.inl (by first | rfl | simp [Cond.onTables, Cond.keeps, Cond.steady])) hini)
  obtain ⟨hx, hb, hml, ho, -⟩ := S
  obtain ⟨-, ⟨cellB, hcB, hoB, hclB⟩, hPc⟩ := hp
  intro T hT X
  obtain ⟨v, vm₁, ⟨U', l2, c2, s2⟩, hW₁, X', ⟨g', mk, t, L, e1, e2, hq, h1, hL, h2, h3⟩, st⟩ := vx_callVW X hx (C := C) (hh := hh) (bytes := bytes) (maxL := maxL) (ret := ret) ho hl hin hse hcode hy hK (by rw [hT]; exact hcB) hoB hclB hg (hsize.trans hml.symm) (argsL := As) (rest := rest) (fun sig h => hn.trans (hlen sig h)) hstack hW (by rw [hb]; exact hdg)
    (fun vm₁ hW₁ => ⟨hf.1, hf.2, hPc (T.setVm vm₁) hT hW₁⟩)
  dsimp only [Pt.U, Pt.locs, Pt.cells, Pt.slots] at X' e1 e2 h1 h2 h3 st
  subst h1; subst h2; subst h3
  exact ⟨v, (T.setVm vm₁).calling g' mk (Value.ref b :: As).toArray, t, U', L, hT, X', hL, e1, e2, hq, st⟩
section
variable {y : MethodName} {bytes cc : ByteArray} {maxL nL mc ms n index : Nat} {ret : Option FieldType} {ws : List Cond} {rm : Room} {Pc : Array Value → State → Prop} {Qc : Array Value → State → Outcome → State → Prop} {XC : String → State → State → Prop} {free : Addr → Prop} {Ts : List Cond} {own C : String} {b : Addr} {As rest : List Value} {g : JFrame}
theorem vx_runVX {hh : List (Nat × Nat × Nat × Nat)} (S : CallFix p m c cc nL s args Ts own) (hM : vx_Met l y ws rm Pc Qc XC mc ms free) (cw : vx_CVW R s args own C index y bytes maxL ret hh ws rm mc ms n) (hp : PreV s H C b Pc As)
    (hg : g.method = m) (hn : As.length = n) (hsize : g.locals.size = nL) (hstack : g.stack = As.reverse ++ .ref b :: rest) (hW : 2 * g.monitorRoom + (rest.map fun v => v.category).sum ≤ 8) (hdg : decode cc g.pc = .ok (.invokevirtual index, 3)) (hf : cells + mc ≤ R.cells ∧ slots + ms ≤ R.slots) :
    vx_Run p l e R s m args below meth c H locs cells slots mc ms g rest (Qc (Value.ref b :: As).toArray) XC free := by
  obtain ⟨⟨hrc, hrs, hfr, hlo, hws, hcw⟩, hcode, hini, hy, hlen, hl, hin, hse⟩ := cw
  have hK : vx_Back l R p e below s args y 3 8 (PreOf R mc ms Pc) (PostOf Qc mc ms free) (vx_Post XC mc ms free) := vx_backW (hh := hh) (bytes := bytes) (maxL := maxL) (ret := ret) hM hp.1 hrc hrs hfr hlo hws hcw (fun a' U hW => word_at hW (Or.inl (by first | rfl | simp [Cond.onTables, Cond.keeps, Cond.steady])) hini)
  obtain ⟨hx, hb, hml, ho, -⟩ := S
  obtain ⟨-, ⟨cellB, hcB, hoB, hclB⟩, hPc⟩ := hp
  intro T hT X
  rcases vx_callVX X hx (C := C) (hh := hh) (bytes := bytes) (maxL := maxL) (ret := ret) ho hl hin hse hcode hy hK (by rw [hT]; exact hcB) hoB hclB hg (hsize.trans hml.symm) (argsL := As) (rest := rest) (fun sig h => hn.trans (hlen sig h)) hstack hW (by rw [hb]; exact hdg)
    (fun vm₁ hW₁ => ⟨hf.1, hf.2, hPc (T.setVm vm₁) hT hW₁⟩) with ⟨v, vm₁, ⟨U', l2, c2, s2⟩, hW₁, X', ⟨g', mk, t, L, e1, e2, hq, h1, hL, h2, h3⟩, st⟩ | ⟨q, vm₁, ⟨U', l2, c2, s2⟩, hW₁, X', ⟨g', mk, t, L, E, ce, e1, e2, hq, hce, hcv, hcl, h1, hL, h2, h3⟩, st⟩
  · dsimp only [Pt.U, Pt.locs, Pt.cells, Pt.slots] at X' e1 e2 h1 h2 h3 st
    subst h1; subst h2; subst h3
    exact Or.inl ⟨v, (T.setVm vm₁).calling g' mk (Value.ref b :: As).toArray, t, U', L, hT, X', hL, e1, e2, hq, st⟩
  · dsimp only [Pt.U, Pt.locs, Pt.cells, Pt.slots] at X' e1 e2 h1 h2 h3 st hcl
    subst h1; subst h2; subst h3
    exact Or.inr ⟨q, (T.setVm vm₁).calling g' mk (Value.ref b :: As).toArray, t, U', L, E, ce, hT, X', hL, e1, e2, hq, hce, hcv, vx_cls hW₁ hcl, st⟩
theorem vx_runSX {hh : List (Nat × Nat × Nat × Nat)} (S : CallFix p m c cc nL s args Ts own) (hM : vx_Met l y ws rm Pc Qc XC mc ms free) (cw : vx_CSW R s args own index y bytes maxL ret hh ws rm mc ms n) (hp : PreS s H Pc As)
    (hg : g.method = m) (hn : As.length = n) (hsize : g.locals.size = nL) (hstack : g.stack = As.reverse ++ rest) (hW : 2 * g.monitorRoom + (rest.map fun v => v.category).sum ≤ 8) (hdg : decode cc g.pc = .ok (.invokestatic index, 3)) (hf : cells + mc ≤ R.cells ∧ slots + ms ≤ R.slots) :
    vx_Run p l e R s m args below meth c H locs cells slots mc ms g rest (Qc As.toArray) XC free := by
  obtain ⟨⟨hrc, hrs, hfr, hlo, hws, hcw⟩, hcode, hini, hy, hlen, hl, hstt⟩ := cw
  have hK : vx_Back l R p e below s args y 3 8 (PreOf R mc ms Pc) (PostOf Qc mc ms free) (vx_Post XC mc ms free) := vx_backW (hh := hh) (bytes := bytes) (maxL := maxL) (ret := ret) hM hp.1 hrc hrs hfr hlo hws hcw (fun a' U hW => word_at hW (Or.inl (by first | rfl | simp [Cond.onTables, Cond.keeps, Cond.steady])) hini)
  obtain ⟨hx, hb, hml, ho, -⟩ := S
  intro T hT X
  rcases vx_callSX X hx (hh := hh) (bytes := bytes) (maxL := maxL) (ret := ret) ho hl hstt hini hcode hy hK hg (hsize.trans hml.symm) (argsL := As) (rest := rest) (fun sig h => hn.trans (hlen sig h)) hstack hW (by rw [hb]; exact hdg)
    (fun vm₁ hW₁ => ⟨hf.1, hf.2, hp.2 (T.setVm vm₁) hT hW₁⟩) with ⟨v, vm₁, ⟨U', l2, c2, s2⟩, hW₁, X', ⟨g', mk, t, L, e1, e2, hq, h1, hL, h2, h3⟩, st⟩ | ⟨q, vm₁, ⟨U', l2, c2, s2⟩, hW₁, X', ⟨g', mk, t, L, E, ce, e1, e2, hq, hce, hcv, hcl, h1, hL, h2, h3⟩, st⟩
  · dsimp only [Pt.U, Pt.locs, Pt.cells, Pt.slots] at X' e1 e2 h1 h2 h3 st
    subst h1; subst h2; subst h3
    exact Or.inl ⟨v, (T.setVm vm₁).calling g' mk As.toArray, t, U', L, hT, X', hL, e1, e2, hq, st⟩
  · dsimp only [Pt.U, Pt.locs, Pt.cells, Pt.slots] at X' e1 e2 h1 h2 h3 st hcl
    subst h1; subst h2; subst h3
    exact Or.inr ⟨q, (T.setVm vm₁).calling g' mk As.toArray, t, U', L, E, ce, hT, X', hL, e1, e2, hq, hce, hcv, vx_cls hW₁ hcl, st⟩
end
end VXH
theorem vx_ofWH {l : Launch} {y : MethodName} {ws ws' : List Cond} {rm : Room} {Pc : Array Value → State → Prop} {Qc : Array Value → State → Outcome → State → Prop} {XC : String → State → State → Prop} {mc ms : Nat} {free : Addr → Prop} {cc : ByteArray} {maxL : Nat} {ret : Option FieldType} {hh : List (Nat × Nat × Nat × Nat)}
    (hy : plainName y.cls = true) (hw : ws = Cond.codeWith y cc maxL ret hh :: ws')
    (body : ∀ p e s m args below meth c s₁, BodyLoose p l y (headSpec ws rm) cc maxL ret e s m args below meth c s₁ → c.maxLocals = maxL → Pc args s →
      W p l e (headSpec ws rm).room s m args below meth c s.heap [] 0 0 (vx_MQ below Qc XC args s mc ms free) (entryFrame m args maxL)) : vx_Met l y ws rm Pc Qc XC mc ms free := by
  refine MetFree.of_bodyS (code := cc) (maxLocals := maxL) (ret := ret) hy ?_ ?_
  · intro args s m h hn
    obtain ⟨m9, meth, c, hn9, h1, h2, h3, h4, -, h5, h6, -⟩ := Cond.codeWith_spec (atoms_spec (ws := ws) h _ (by rw [hw]; exact List.mem_cons_self))
    cases hn.symm.trans hn9
    exact ⟨meth, c, h1, h2, h3, h4, h5, h6⟩
  · intro p e s m args below meth c s₁ B hml hP _
    have hh0 : s₁.heap = s.heap := by rw [B.state]; rfl
    obtain ⟨t, a1, o, b1, b2, b3⟩ := body p e s m args below meth c s₁ B hml hP s₁ hh0 (Stand.of_body B)
    exact ⟨t, o, a1, b1, b2, b3⟩
/-! ===== END ===== -/
end
section
/-! ===== BEGIN printed: names, fields, word lists, decode rows ===== -/
def RX0 : String := "OnboardingWorks$Forecast"
def TX0 : u_T := fun k => match k with
  | 0 => ("OnboardingWorks$Forecast", "plan", "LOnboardingWorks$Plan;", true)
  | 1 => ("OnboardingWorks$Forecast", "storeroom", "LOnboardingWorks$Storeroom;", true)
  | 2 => ("OnboardingWorks$Forecast", "timetable", "LOnboardingWorks$Timetable;", true)
  | 3 => ("OnboardingWorks$Forecast", "supplyDays", "[I", true)
  | 4 => ("OnboardingWorks$Forecast", "begins", "[I", true)
  | 5 => ("OnboardingWorks$Forecast", "ends", "[I", true)
  | _ => ("OnboardingWorks$Forecast", "tomorrow", "I", false)
def tyX0 : Nat → FieldType := fun k => match k with
  | 0 => .object "OnboardingWorks$Plan"
  | 1 => .object "OnboardingWorks$Storeroom"
  | 2 => .object "OnboardingWorks$Timetable"
  | 3 => .array .int
  | 4 => .array .int
  | 5 => .array .int
  | _ => .int
theorem nmX0 : ∀ a, a < 7 → ∀ b, b < 7 → a ≠ b → (TX0 a).2.1 ≠ (TX0 b).2.1 := by decide +kernel
theorem tyX0_ok : ∀ k, k < 7 → parseFieldDescriptor (TX0 k).2.2.1 = some (tyX0 k) := by decide +kernel
abbrev cX0_init : ByteArray := prog_2_method_1_code
def yX0_init : MethodName := ⟨RX0, "<init>", "(LOnboardingWorks$Plan;LOnboardingWorks$Storeroom;LOnboardingWorks$Timetable;)V"⟩
abbrev cX0_foresee : ByteArray := prog_2_method_2_code
def yX0_foresee : MethodName := ⟨RX0, "foresee", "(LOnboardingWorks$Joiner;III)V"⟩
abbrev cX0_lookFrom : ByteArray := prog_2_method_3_code
def yX0_lookFrom : MethodName := ⟨RX0, "lookFrom", "(III)V"⟩
abbrev cX0_foreseeStep : ByteArray := prog_2_method_4_code
def yX0_foreseeStep : MethodName := ⟨RX0, "foreseeStep", "(LOnboardingWorks$Joiner;I)V"⟩
abbrev cX0_beginOf : ByteArray := prog_2_method_5_code
def yX0_beginOf : MethodName := ⟨RX0, "beginOf", "(LOnboardingWorks$Joiner;I)I"⟩
abbrev cX0_withSupply : ByteArray := prog_2_method_6_code
def yX0_withSupply : MethodName := ⟨RX0, "withSupply", "(II)I"⟩
abbrev cX0_dayBehind : ByteArray := prog_2_method_7_code
def yX0_dayBehind : MethodName := ⟨RX0, "dayBehind", "(I)I"⟩
abbrev cX0_greatestEnd : ByteArray := prog_2_method_8_code
def yX0_greatestEnd : MethodName := ⟨RX0, "greatestEnd", "(I)I"⟩
def RX1 : String := "OnboardingWorks$Joiner"
def TX1 : u_T := fun k => match k with
  | 0 => ("OnboardingWorks$Joiner", "states", "[I", true)
  | 1 => ("OnboardingWorks$Joiner", "begins", "[I", true)
  | 2 => ("OnboardingWorks$Joiner", "lengths", "[I", true)
  | 3 => ("OnboardingWorks$Joiner", "booked", "[I", true)
  | 4 => ("OnboardingWorks$Joiner", "losses", "[I", true)
  | 5 => ("OnboardingWorks$Joiner", "steps", "I", false)
  | 6 => ("OnboardingWorks$Joiner", "start", "I", false)
  | _ => ("OnboardingWorks$Joiner", "left", "Z", false)
def tyX1 : Nat → FieldType := fun k => match k with
  | 0 => .array .int
  | 1 => .array .int
  | 2 => .array .int
  | 3 => .array .int
  | 4 => .array .int
  | 5 => .int
  | 6 => .int
  | _ => .boolean
theorem nmX1 : ∀ a, a < 8 → ∀ b, b < 8 → a ≠ b → (TX1 a).2.1 ≠ (TX1 b).2.1 := by decide +kernel
theorem tyX1_ok : ∀ k, k < 8 → parseFieldDescriptor (TX1 k).2.2.1 = some (tyX1 k) := by decide +kernel
abbrev cX1_init : ByteArray := prog_3_method_1_code
def yX1_init : MethodName := ⟨RX1, "<init>", "()V"⟩
abbrev cX1_isIn : ByteArray := prog_3_method_2_code
def yX1_isIn : MethodName := ⟨RX1, "isIn", "(II)Z"⟩
abbrev cX1_stepsIn : ByteArray := prog_3_method_3_code
def yX1_stepsIn : MethodName := ⟨RX1, "stepsIn", "(I)I"⟩
abbrev cX1_countIn : ByteArray := prog_3_method_4_code
def yX1_countIn : MethodName := ⟨RX1, "countIn", "(I)I"⟩
abbrev cX1_finishSteps : ByteArray := prog_3_method_5_code
def yX1_finishSteps : MethodName := ⟨RX1, "finishSteps", "(I)I"⟩
abbrev cX1_lastBegun : ByteArray := prog_3_method_6_code
def yX1_lastBegun : MethodName := ⟨RX1, "lastBegun", "()I"⟩
def RX2 : String := "OnboardingWorks$Plan"
def TX2 : u_T := fun k => match k with
  | 0 => ("OnboardingWorks$Plan", "kinds", "[I", true)
  | 1 => ("OnboardingWorks$Plan", "baseLengths", "[I", true)
  | 2 => ("OnboardingWorks$Plan", "needs", "[I", true)
  | 3 => ("OnboardingWorks$Plan", "ofs", "[I", true)
  | 4 => ("OnboardingWorks$Plan", "roles", "[I", true)
  | 5 => ("OnboardingWorks$Plan", "rights", "[I", true)
  | 6 => ("OnboardingWorks$Plan", "stepCount", "I", false)
  | _ => ("OnboardingWorks$Plan", "rightCount", "I", false)
def tyX2 : Nat → FieldType := fun k => match k with
  | 0 => .array .int
  | 1 => .array .int
  | 2 => .array .int
  | 3 => .array .int
  | 4 => .array .int
  | 5 => .array .int
  | 6 => .int
  | _ => .int
theorem nmX2 : ∀ a, a < 8 → ∀ b, b < 8 → a ≠ b → (TX2 a).2.1 ≠ (TX2 b).2.1 := by decide +kernel
theorem tyX2_ok : ∀ k, k < 8 → parseFieldDescriptor (TX2 k).2.2.1 = some (tyX2 k) := by decide +kernel
abbrev cX2_init : ByteArray := prog_4_method_1_code
def yX2_init : MethodName := ⟨RX2, "<init>", "()V"⟩
abbrev cX2_knows : ByteArray := prog_4_method_2_code
def yX2_knows : MethodName := ⟨RX2, "knows", "(I)Z"⟩
abbrev cX2_addStep : ByteArray := prog_4_method_3_code
def yX2_addStep : MethodName := ⟨RX2, "addStep", "(IIII)I"⟩
abbrev cX2_addRight : ByteArray := prog_4_method_4_code
def yX2_addRight : MethodName := ⟨RX2, "addRight", "(I)I"⟩
abbrev cX2_needsAreDone : ByteArray := prog_4_method_5_code
def yX2_needsAreDone : MethodName := ⟨RX2, "needsAreDone", "(LOnboardingWorks$Joiner;I)Z"⟩
abbrev cX2_lengthFor : ByteArray := prog_4_method_6_code
def yX2_lengthFor : MethodName := ⟨RX2, "lengthFor", "(LOnboardingWorks$Joiner;I)I"⟩
abbrev cX2_rightsOf : ByteArray := prog_4_method_7_code
def yX2_rightsOf : MethodName := ⟨RX2, "rightsOf", "(LOnboardingWorks$Joiner;)I"⟩
def RX3 : String := "OnboardingWorks$Storeroom"
def TX3 : u_T := fun k => match k with
  | 0 => ("OnboardingWorks$Storeroom", "pieces", "[I", true)
  | 1 => ("OnboardingWorks$Storeroom", "orderItems", "[I", true)
  | 2 => ("OnboardingWorks$Storeroom", "orderPieces", "[I", true)
  | 3 => ("OnboardingWorks$Storeroom", "orderDays", "[I", true)
  | _ => ("OnboardingWorks$Storeroom", "orderCount", "I", false)
def tyX3 : Nat → FieldType := fun k => match k with
  | 0 => .array .int
  | 1 => .array .int
  | 2 => .array .int
  | 3 => .array .int
  | _ => .int
theorem nmX3 : ∀ a, a < 5 → ∀ b, b < 5 → a ≠ b → (TX3 a).2.1 ≠ (TX3 b).2.1 := by decide +kernel
theorem tyX3_ok : ∀ k, k < 5 → parseFieldDescriptor (TX3 k).2.2.1 = some (tyX3 k) := by decide +kernel
abbrev cX3_init : ByteArray := prog_5_method_1_code
def yX3_init : MethodName := ⟨RX3, "<init>", "()V"⟩
abbrev cX3_hasPiece : ByteArray := prog_5_method_2_code
def yX3_hasPiece : MethodName := ⟨RX3, "hasPiece", "(I)Z"⟩
abbrev cX3_putIn : ByteArray := prog_5_method_3_code
def yX3_putIn : MethodName := ⟨RX3, "putIn", "(II)V"⟩
abbrev cX3_takeOne : ByteArray := prog_5_method_4_code
def yX3_takeOne : MethodName := ⟨RX3, "takeOne", "(I)V"⟩
abbrev cX3_addOrder : ByteArray := prog_5_method_5_code
def yX3_addOrder : MethodName := ⟨RX3, "addOrder", "(III)I"⟩
abbrev cX3_receive : ByteArray := prog_5_method_7_code
def yX3_receive : MethodName := ⟨RX3, "receive", "(I)V"⟩
abbrev cX3_piecesToCome : ByteArray := prog_5_method_8_code
def yX3_piecesToCome : MethodName := ⟨RX3, "piecesToCome", "(II)I"⟩
abbrev cX3_earliestToCome : ByteArray := prog_5_method_9_code
def yX3_earliestToCome : MethodName := ⟨RX3, "earliestToCome", "(IIII)I"⟩
def RX4 : String := "OnboardingWorks$Timetable"
def TX4 : u_T := fun k => match k with
  | 0 => ("OnboardingWorks$Timetable", "courses", "[I", true)
  | 1 => ("OnboardingWorks$Timetable", "days", "[I", true)
  | 2 => ("OnboardingWorks$Timetable", "seats", "[I", true)
  | 3 => ("OnboardingWorks$Timetable", "taken", "[I", true)
  | _ => ("OnboardingWorks$Timetable", "sessionCount", "I", false)
def tyX4 : Nat → FieldType := fun k => match k with
  | 0 => .array .int
  | 1 => .array .int
  | 2 => .array .int
  | 3 => .array .int
  | _ => .int
theorem nmX4 : ∀ a, a < 5 → ∀ b, b < 5 → a ≠ b → (TX4 a).2.1 ≠ (TX4 b).2.1 := by decide +kernel
theorem tyX4_ok : ∀ k, k < 5 → parseFieldDescriptor (TX4 k).2.2.1 = some (tyX4 k) := by decide +kernel
abbrev cX4_init : ByteArray := prog_6_method_1_code
def yX4_init : MethodName := ⟨RX4, "<init>", "()V"⟩
abbrev cX4_addSession : ByteArray := prog_6_method_2_code
def yX4_addSession : MethodName := ⟨RX4, "addSession", "(III)I"⟩
abbrev cX4_dayOf : ByteArray := prog_6_method_3_code
def yX4_dayOf : MethodName := ⟨RX4, "dayOf", "(I)I"⟩
abbrev cX4_book : ByteArray := prog_6_method_4_code
def yX4_book : MethodName := ⟨RX4, "book", "(II)I"⟩
abbrev cX4_release : ByteArray := prog_6_method_5_code
def yX4_release : MethodName := ⟨RX4, "release", "(I)V"⟩
abbrev cX4_seatsTaken : ByteArray := prog_6_method_6_code
def yX4_seatsTaken : MethodName := ⟨RX4, "seatsTaken", "()I"⟩
def RX5 : String := "OnboardingWorks"
def TX5 : u_T := fun k => match k with
  | 0 => ("OnboardingWorks", "plan", "LOnboardingWorks$Plan;", true)
  | 1 => ("OnboardingWorks", "storeroom", "LOnboardingWorks$Storeroom;", true)
  | 2 => ("OnboardingWorks", "timetable", "LOnboardingWorks$Timetable;", true)
  | 3 => ("OnboardingWorks", "forecast", "LOnboardingWorks$Forecast;", true)
  | 4 => ("OnboardingWorks", "joiners", "[LOnboardingWorks$Joiner;", true)
  | 5 => ("OnboardingWorks", "joinerCount", "I", false)
  | _ => ("OnboardingWorks", "today", "I", false)
def tyX5 : Nat → FieldType := fun k => match k with
  | 0 => .object "OnboardingWorks$Plan"
  | 1 => .object "OnboardingWorks$Storeroom"
  | 2 => .object "OnboardingWorks$Timetable"
  | 3 => .object "OnboardingWorks$Forecast"
  | 4 => .array (.object "OnboardingWorks$Joiner")
  | 5 => .int
  | _ => .int
theorem nmX5 : ∀ a, a < 7 → ∀ b, b < 7 → a ≠ b → (TX5 a).2.1 ≠ (TX5 b).2.1 := by decide +kernel
theorem tyX5_ok : ∀ k, k < 7 → parseFieldDescriptor (TX5 k).2.2.1 = some (tyX5 k) := by decide +kernel
abbrev cX5_init : ByteArray := prog_1_method_1_code
def yX5_init : MethodName := ⟨RX5, "<init>", "()V"⟩
abbrev cX5_step : ByteArray := prog_1_method_2_code
def yX5_step : MethodName := ⟨RX5, "step", "(IIII)I"⟩
abbrev cX5_role : ByteArray := prog_1_method_3_code
def yX5_role : MethodName := ⟨RX5, "role", "(II)I"⟩
abbrev cX5_right : ByteArray := prog_1_method_4_code
def yX5_right : MethodName := ⟨RX5, "right", "(I)I"⟩
abbrev cX5_stock : ByteArray := prog_1_method_5_code
def yX5_stock : MethodName := ⟨RX5, "stock", "(II)I"⟩
abbrev cX5_order : ByteArray := prog_1_method_6_code
def yX5_order : MethodName := ⟨RX5, "order", "(III)I"⟩
abbrev cX5_session : ByteArray := prog_1_method_8_code
def yX5_session : MethodName := ⟨RX5, "session", "(III)I"⟩
abbrev cX5_ofSession : ByteArray := prog_1_method_9_code
def yX5_ofSession : MethodName := ⟨RX5, "ofSession", "(II)I"⟩
abbrev cX5_ofItem : ByteArray := prog_1_method_10_code
def yX5_ofItem : MethodName := ⟨RX5, "ofItem", "(II)I"⟩
abbrev cX5_join : ByteArray := prog_1_method_11_code
def yX5_join : MethodName := ⟨RX5, "join", "(II)I"⟩
abbrev cX5_leave : ByteArray := prog_1_method_12_code
def yX5_leave : MethodName := ⟨RX5, "leave", "(I)I"⟩
abbrev cX5_day : ByteArray := prog_1_method_13_code
def yX5_day : MethodName := ⟨RX5, "day", "()I"⟩
abbrev cX5_ofStep : ByteArray := prog_1_method_14_code
def yX5_ofStep : MethodName := ⟨RX5, "ofStep", "(III)I"⟩
abbrev cX5_ofJoiner : ByteArray := prog_1_method_15_code
def yX5_ofJoiner : MethodName := ⟨RX5, "ofJoiner", "(II)I"⟩
abbrev cX5_many : ByteArray := prog_1_method_16_code
def yX5_many : MethodName := ⟨RX5, "many", "(I)I"⟩
abbrev cX5_rightOn : ByteArray := prog_1_method_18_code
def yX5_rightOn : MethodName := ⟨RX5, "rightOn", "(II)I"⟩
abbrev cX5_next : ByteArray := prog_1_method_20_code
def yX5_next : MethodName := ⟨RX5, "next", "(I)I"⟩
abbrev cX5_digest : ByteArray := prog_1_method_22_code
def yX5_digest : MethodName := ⟨RX5, "digest", "()J"⟩
abbrev cX5_has : ByteArray := prog_1_method_23_code
def yX5_has : MethodName := ⟨RX5, "has", "(II)Z"⟩
abbrev cX5_isWithin : ByteArray := prog_1_method_24_code
def yX5_isWithin : MethodName := ⟨RX5, "isWithin", "(III)Z"⟩
abbrev cX5_isOfKind : ByteArray := prog_1_method_25_code
def yX5_isOfKind : MethodName := ⟨RX5, "isOfKind", "(II)Z"⟩
abbrev cX5_isAhead : ByteArray := prog_1_method_26_code
def yX5_isAhead : MethodName := ⟨RX5, "isAhead", "(I)Z"⟩
abbrev cX5_joinerAt : ByteArray := prog_1_method_28_code
def yX5_joinerAt : MethodName := ⟨RX5, "joinerAt", "(I)LOnboardingWorks$Joiner;"⟩
abbrev cX5_beginSteps : ByteArray := prog_1_method_29_code
def yX5_beginSteps : MethodName := ⟨RX5, "beginSteps", "(LOnboardingWorks$Joiner;)V"⟩
abbrev cX5_isReady : ByteArray := prog_1_method_30_code
def yX5_isReady : MethodName := ⟨RX5, "isReady", "(LOnboardingWorks$Joiner;I)Z"⟩
abbrev cX5_canBegin : ByteArray := prog_1_method_31_code
def yX5_canBegin : MethodName := ⟨RX5, "canBegin", "(LOnboardingWorks$Joiner;I)Z"⟩
abbrev cX5_loseSessions : ByteArray := prog_1_method_32_code
def yX5_loseSessions : MethodName := ⟨RX5, "loseSessions", "(LOnboardingWorks$Joiner;)V"⟩
abbrev cX5_bookAll : ByteArray := prog_1_method_33_code
def yX5_bookAll : MethodName := ⟨RX5, "bookAll", "()V"⟩
abbrev cX5_bookFor : ByteArray := prog_1_method_34_code
def yX5_bookFor : MethodName := ⟨RX5, "bookFor", "(LOnboardingWorks$Joiner;)V"⟩
abbrev cX5_takeBackStep : ByteArray := prog_1_method_35_code
def yX5_takeBackStep : MethodName := ⟨RX5, "takeBackStep", "(LOnboardingWorks$Joiner;)V"⟩
abbrev cX5_foreseenOfStep : ByteArray := prog_1_method_36_code
def yX5_foreseenOfStep : MethodName := ⟨RX5, "foreseenOfStep", "(LOnboardingWorks$Joiner;II)I"⟩
abbrev cX5_foreseenOfJoiner : ByteArray := prog_1_method_37_code
def yX5_foreseenOfJoiner : MethodName := ⟨RX5, "foreseenOfJoiner", "(LOnboardingWorks$Joiner;I)I"⟩
abbrev cX5_nextStep : ByteArray := prog_1_method_38_code
def yX5_nextStep : MethodName := ⟨RX5, "nextStep", "(LOnboardingWorks$Joiner;)I"⟩
abbrev cX5_countWaitingOn : ByteArray := prog_1_method_39_code
def yX5_countWaitingOn : MethodName := ⟨RX5, "countWaitingOn", "(LOnboardingWorks$Joiner;I)I"⟩
abbrev cX5_countWaitingFor : ByteArray := prog_1_method_40_code
def yX5_countWaitingFor : MethodName := ⟨RX5, "countWaitingFor", "(I)I"⟩
abbrev cX5_countLeft : ByteArray := prog_1_method_41_code
def yX5_countLeft : MethodName := ⟨RX5, "countLeft", "()I"⟩
abbrev cX5_countStepsIn : ByteArray := prog_1_method_42_code
def yX5_countStepsIn : MethodName := ⟨RX5, "countStepsIn", "(I)I"⟩
abbrev cX5_countRights : ByteArray := prog_1_method_43_code
def yX5_countRights : MethodName := ⟨RX5, "countRights", "()I"⟩
abbrev cX5_digestWith : ByteArray := prog_1_method_44_code
def yX5_digestWith : MethodName := ⟨RX5, "digestWith", "(JLOnboardingWorks$Joiner;)J"⟩
def RX6 : String := "OnboardingWorksModel$Joiner"
def TX6 : u_T := fun k => match k with
  | _ => ("", "", "", false)
def tyX6 : Nat → FieldType := fun k => match k with
  | _ => .int
theorem nmX6 : ∀ a, a < 0 → ∀ b, b < 0 → a ≠ b → (TX6 a).2.1 ≠ (TX6 b).2.1 := by decide +kernel
theorem tyX6_ok : ∀ k, k < 0 → parseFieldDescriptor (TX6 k).2.2.1 = some (tyX6 k) := by decide +kernel
def RX7 : String := "OnboardingWorksModel$Order"
def TX7 : u_T := fun k => match k with
  | _ => ("", "", "", false)
def tyX7 : Nat → FieldType := fun k => match k with
  | _ => .int
theorem nmX7 : ∀ a, a < 0 → ∀ b, b < 0 → a ≠ b → (TX7 a).2.1 ≠ (TX7 b).2.1 := by decide +kernel
theorem tyX7_ok : ∀ k, k < 0 → parseFieldDescriptor (TX7 k).2.2.1 = some (tyX7 k) := by decide +kernel
def RX8 : String := "OnboardingWorksModel$Session"
def TX8 : u_T := fun k => match k with
  | _ => ("", "", "", false)
def tyX8 : Nat → FieldType := fun k => match k with
  | _ => .int
theorem nmX8 : ∀ a, a < 0 → ∀ b, b < 0 → a ≠ b → (TX8 a).2.1 ≠ (TX8 b).2.1 := by decide +kernel
theorem tyX8_ok : ∀ k, k < 0 → parseFieldDescriptor (TX8 k).2.2.1 = some (tyX8 k) := by decide +kernel
def RX9 : String := "OnboardingWorksModel$Step"
def TX9 : u_T := fun k => match k with
  | _ => ("", "", "", false)
def tyX9 : Nat → FieldType := fun k => match k with
  | _ => .int
theorem nmX9 : ∀ a, a < 0 → ∀ b, b < 0 → a ≠ b → (TX9 a).2.1 ≠ (TX9 b).2.1 := by decide +kernel
theorem tyX9_ok : ∀ k, k < 0 → parseFieldDescriptor (TX9 k).2.2.1 = some (tyX9 k) := by decide +kernel
def RX10 : String := "OnboardingWorksModel"
def TX10 : u_T := fun k => match k with
  | _ => ("", "", "", false)
def tyX10 : Nat → FieldType := fun k => match k with
  | _ => .int
theorem nmX10 : ∀ a, a < 0 → ∀ b, b < 0 → a ≠ b → (TX10 a).2.1 ≠ (TX10 b).2.1 := by decide +kernel
theorem tyX10_ok : ∀ k, k < 0 → parseFieldDescriptor (TX10 k).2.2.1 = some (tyX10 k) := by decide +kernel
def RJx145de : String := "java/io/Serializable"
def TJx145de : u_T := fun k => match k with
  | _ => ("", "", "", false)
def tyJx145de : Nat → FieldType := fun k => match k with
  | _ => .int
theorem nmJx145de : ∀ a, a < 0 → ∀ b, b < 0 → a ≠ b → (TJx145de a).2.1 ≠ (TJx145de b).2.1 := by decide +kernel
theorem tyJx145de_ok : ∀ k, k < 0 → parseFieldDescriptor (TJx145de k).2.2.1 = some (tyJx145de k) := by decide +kernel
def RJ6 : String := "java/lang/Integer"
def TJ6 : u_T := fun k => match k with
  | _ => ("", "", "", false)
def tyJ6 : Nat → FieldType := fun k => match k with
  | _ => .int
theorem nmJ6 : ∀ a, a < 0 → ∀ b, b < 0 → a ≠ b → (TJ6 a).2.1 ≠ (TJ6 b).2.1 := by decide +kernel
theorem tyJ6_ok : ∀ k, k < 0 → parseFieldDescriptor (TJ6 k).2.2.1 = some (tyJ6 k) := by decide +kernel
abbrev cJ6_bitCount_0f7a4 : ByteArray := prog_17_method_49_code
def yJ6_bitCount_0f7a4 : MethodName := ⟨RJ6, "bitCount", "(I)I"⟩
def RJ9 : String := "java/lang/Math"
def TJ9 : u_T := fun k => match k with
  | _ => ("", "", "", false)
def tyJ9 : Nat → FieldType := fun k => match k with
  | _ => .int
theorem nmJ9 : ∀ a, a < 0 → ∀ b, b < 0 → a ≠ b → (TJ9 a).2.1 ≠ (TJ9 b).2.1 := by decide +kernel
theorem tyJ9_ok : ∀ k, k < 0 → parseFieldDescriptor (TJ9 k).2.2.1 = some (tyJ9 k) := by decide +kernel
abbrev cJ9_max_7cf53 : ByteArray := prog_18_method_65_code
def yJ9_max_7cf53 : MethodName := ⟨RJ9, "max", "(II)I"⟩
abbrev cJ9_min_7cf53 : ByteArray := prog_18_method_69_code
def yJ9_min_7cf53 : MethodName := ⟨RJ9, "min", "(II)I"⟩
def RJ0 : String := "java/lang/String"
def TJ0 : u_T := fun k => match k with
  | _ => ("", "", "", false)
def tyJ0 : Nat → FieldType := fun k => match k with
  | _ => .int
theorem nmJ0 : ∀ a, a < 0 → ∀ b, b < 0 → a ≠ b → (TJ0 a).2.1 ≠ (TJ0 b).2.1 := by decide +kernel
theorem tyJ0_ok : ∀ k, k < 0 → parseFieldDescriptor (TJ0 k).2.2.1 = some (tyJ0 k) := by decide +kernel
def RL : String := "OnboardingWorksLaw"
abbrev cL_below : ByteArray := method_2_code
def yL_below : MethodName := ⟨RL, "below", "(II)I"⟩
abbrev cL_cell : ByteArray := method_3_code
def yL_cell : MethodName := ⟨RL, "cell", "([II)I"⟩
abbrev cL_law : ByteArray := code
def yL_law : MethodName := ⟨RL, "law", "([I)Z"⟩
abbrev cL_isFair : ByteArray := method_5_code
def yL_isFair : MethodName := ⟨RL, "isFair", "(LOnboardingWorks;[I[I[I)Z"⟩
abbrev vwCl : List vw_C := [(RX0, TX0, 7), (RX1, TX1, 8), (RX2, TX2, 8), (RX3, TX3, 5), (RX4, TX4, 5), (RX5, TX5, 7)]
end
section
theorem dX0_init_0 : decode cX0_init 0 = .ok (.aload_n 0, 1) := by decide +kernel
theorem dX0_init_1 : decode cX0_init 1 = .ok (.invokespecial 3, 3) := by decide +kernel
theorem dX0_init_4 : decode cX0_init 4 = .ok (.aload_n 0, 1) := by decide +kernel
theorem dX0_init_5 : decode cX0_init 5 = .ok (.iconst 4, 1) := by decide +kernel
theorem dX0_init_6 : decode cX0_init 6 = .ok (.newarray .int, 2) := by decide +kernel
theorem dX0_init_8 : decode cX0_init 8 = .ok (.putfield 9, 3) := by decide +kernel
theorem dX0_init_11 : decode cX0_init 11 = .ok (.aload_n 0, 1) := by decide +kernel
theorem dX0_init_12 : decode cX0_init 12 = .ok (.bipush 12, 2) := by decide +kernel
theorem dX0_init_14 : decode cX0_init 14 = .ok (.newarray .int, 2) := by decide +kernel
theorem dX0_init_16 : decode cX0_init 16 = .ok (.putfield 15, 3) := by decide +kernel
theorem dX0_init_19 : decode cX0_init 19 = .ok (.aload_n 0, 1) := by decide +kernel
theorem dX0_init_20 : decode cX0_init 20 = .ok (.bipush 12, 2) := by decide +kernel
theorem dX0_init_22 : decode cX0_init 22 = .ok (.newarray .int, 2) := by decide +kernel
theorem dX0_init_24 : decode cX0_init 24 = .ok (.putfield 18, 3) := by decide +kernel
theorem dX0_init_27 : decode cX0_init 27 = .ok (.aload_n 0, 1) := by decide +kernel
theorem dX0_init_28 : decode cX0_init 28 = .ok (.aload_n 1, 1) := by decide +kernel
theorem dX0_init_29 : decode cX0_init 29 = .ok (.putfield 21, 3) := by decide +kernel
theorem dX0_init_32 : decode cX0_init 32 = .ok (.aload_n 0, 1) := by decide +kernel
theorem dX0_init_33 : decode cX0_init 33 = .ok (.aload_n 2, 1) := by decide +kernel
theorem dX0_init_34 : decode cX0_init 34 = .ok (.putfield 25, 3) := by decide +kernel
theorem dX0_init_37 : decode cX0_init 37 = .ok (.aload_n 0, 1) := by decide +kernel
theorem dX0_init_38 : decode cX0_init 38 = .ok (.aload_n 3, 1) := by decide +kernel
theorem dX0_init_39 : decode cX0_init 39 = .ok (.putfield 29, 3) := by decide +kernel
theorem dX0_init_42 : decode cX0_init 42 = .ok (.return_, 1) := by decide +kernel
theorem dX0_foresee_0 : decode cX0_foresee 0 = .ok (.aload_n 0, 1) := by decide +kernel
theorem dX0_foresee_1 : decode cX0_foresee 1 = .ok (.iload_n 2, 1) := by decide +kernel
theorem dX0_foresee_2 : decode cX0_foresee 2 = .ok (.iload_n 3, 1) := by decide +kernel
theorem dX0_foresee_3 : decode cX0_foresee 3 = .ok (.iload 4, 2) := by decide +kernel
theorem dX0_foresee_5 : decode cX0_foresee 5 = .ok (.invokevirtual 33, 3) := by decide +kernel
theorem dX0_foresee_8 : decode cX0_foresee 8 = .ok (.iconst 0, 1) := by decide +kernel
theorem dX0_foresee_9 : decode cX0_foresee 9 = .ok (.istore 5, 2) := by decide +kernel
theorem dX0_foresee_11 : decode cX0_foresee 11 = .ok (.iload 5, 2) := by decide +kernel
theorem dX0_foresee_13 : decode cX0_foresee 13 = .ok (.bipush 12, 2) := by decide +kernel
theorem dX0_foresee_15 : decode cX0_foresee 15 = .ok (.if_icmp .ge 16, 3) := by decide +kernel
theorem dX0_foresee_18 : decode cX0_foresee 18 = .ok (.aload_n 0, 1) := by decide +kernel
theorem dX0_foresee_19 : decode cX0_foresee 19 = .ok (.aload_n 1, 1) := by decide +kernel
theorem dX0_foresee_20 : decode cX0_foresee 20 = .ok (.iload 5, 2) := by decide +kernel
theorem dX0_foresee_22 : decode cX0_foresee 22 = .ok (.invokevirtual 37, 3) := by decide +kernel
theorem dX0_foresee_25 : decode cX0_foresee 25 = .ok (.iinc 5 1, 3) := by decide +kernel
theorem dX0_foresee_28 : decode cX0_foresee 28 = .ok (.goto (-17), 3) := by decide +kernel
theorem dX0_foresee_31 : decode cX0_foresee 31 = .ok (.return_, 1) := by decide +kernel
theorem dX0_lookFrom_0 : decode cX0_lookFrom 0 = .ok (.aload_n 0, 1) := by decide +kernel
theorem dX0_lookFrom_1 : decode cX0_lookFrom 1 = .ok (.iload_n 1, 1) := by decide +kernel
theorem dX0_lookFrom_2 : decode cX0_lookFrom 2 = .ok (.iconst 1, 1) := by decide +kernel
theorem dX0_lookFrom_3 : decode cX0_lookFrom 3 = .ok (.iadd, 1) := by decide +kernel
theorem dX0_lookFrom_4 : decode cX0_lookFrom 4 = .ok (.putfield 41, 3) := by decide +kernel
theorem dX0_lookFrom_7 : decode cX0_lookFrom 7 = .ok (.iconst 0, 1) := by decide +kernel
theorem dX0_lookFrom_8 : decode cX0_lookFrom 8 = .ok (.istore 4, 2) := by decide +kernel
theorem dX0_lookFrom_10 : decode cX0_lookFrom 10 = .ok (.iload 4, 2) := by decide +kernel
theorem dX0_lookFrom_12 : decode cX0_lookFrom 12 = .ok (.iconst 4, 1) := by decide +kernel
theorem dX0_lookFrom_13 : decode cX0_lookFrom 13 = .ok (.if_icmp .ge 44, 3) := by decide +kernel
theorem dX0_lookFrom_16 : decode cX0_lookFrom 16 = .ok (.aload_n 0, 1) := by decide +kernel
theorem dX0_lookFrom_17 : decode cX0_lookFrom 17 = .ok (.getfield 9, 3) := by decide +kernel
theorem dX0_lookFrom_20 : decode cX0_lookFrom 20 = .ok (.iload 4, 2) := by decide +kernel
theorem dX0_lookFrom_22 : decode cX0_lookFrom 22 = .ok (.aload_n 0, 1) := by decide +kernel
theorem dX0_lookFrom_23 : decode cX0_lookFrom 23 = .ok (.getfield 25, 3) := by decide +kernel
theorem dX0_lookFrom_26 : decode cX0_lookFrom 26 = .ok (.iload 4, 2) := by decide +kernel
theorem dX0_lookFrom_28 : decode cX0_lookFrom 28 = .ok (.invokevirtual 45, 3) := by decide +kernel
theorem dX0_lookFrom_31 : decode cX0_lookFrom 31 = .ok (.ifCond .eq 7, 3) := by decide +kernel
theorem dX0_lookFrom_34 : decode cX0_lookFrom 34 = .ok (.iload_n 1, 1) := by decide +kernel
theorem dX0_lookFrom_35 : decode cX0_lookFrom 35 = .ok (.goto 15, 3) := by decide +kernel
theorem dX0_lookFrom_38 : decode cX0_lookFrom 38 = .ok (.aload_n 0, 1) := by decide +kernel
theorem dX0_lookFrom_39 : decode cX0_lookFrom 39 = .ok (.getfield 25, 3) := by decide +kernel
theorem dX0_lookFrom_42 : decode cX0_lookFrom 42 = .ok (.iload 4, 2) := by decide +kernel
theorem dX0_lookFrom_44 : decode cX0_lookFrom 44 = .ok (.iload_n 1, 1) := by decide +kernel
theorem dX0_lookFrom_45 : decode cX0_lookFrom 45 = .ok (.iload_n 2, 1) := by decide +kernel
theorem dX0_lookFrom_46 : decode cX0_lookFrom 46 = .ok (.iload_n 3, 1) := by decide +kernel
theorem dX0_lookFrom_47 : decode cX0_lookFrom 47 = .ok (.invokevirtual 51, 3) := by decide +kernel
theorem dX0_lookFrom_50 : decode cX0_lookFrom 50 = .ok (.iastore, 1) := by decide +kernel
theorem dX0_lookFrom_51 : decode cX0_lookFrom 51 = .ok (.iinc 4 1, 3) := by decide +kernel
theorem dX0_lookFrom_54 : decode cX0_lookFrom 54 = .ok (.goto (-44), 3) := by decide +kernel
theorem dX0_lookFrom_57 : decode cX0_lookFrom 57 = .ok (.return_, 1) := by decide +kernel
theorem dX0_foreseeStep_0 : decode cX0_foreseeStep 0 = .ok (.iload_n 2, 1) := by decide +kernel
theorem dX0_foreseeStep_1 : decode cX0_foreseeStep 1 = .ok (.ifCond .lt 9, 3) := by decide +kernel
theorem dX0_foreseeStep_4 : decode cX0_foreseeStep 4 = .ok (.iload_n 2, 1) := by decide +kernel
theorem dX0_foreseeStep_5 : decode cX0_foreseeStep 5 = .ok (.bipush 12, 2) := by decide +kernel
theorem dX0_foreseeStep_7 : decode cX0_foreseeStep 7 = .ok (.if_icmp .lt 4, 3) := by decide +kernel
theorem dX0_foreseeStep_10 : decode cX0_foreseeStep 10 = .ok (.return_, 1) := by decide +kernel
theorem dX0_foreseeStep_11 : decode cX0_foreseeStep 11 = .ok (.aload_n 0, 1) := by decide +kernel
theorem dX0_foreseeStep_12 : decode cX0_foreseeStep 12 = .ok (.aload_n 1, 1) := by decide +kernel
theorem dX0_foreseeStep_13 : decode cX0_foreseeStep 13 = .ok (.iload_n 2, 1) := by decide +kernel
theorem dX0_foreseeStep_14 : decode cX0_foreseeStep 14 = .ok (.invokevirtual 55, 3) := by decide +kernel
theorem dX0_foreseeStep_17 : decode cX0_foreseeStep 17 = .ok (.istore_n 3, 1) := by decide +kernel
theorem dX0_foreseeStep_18 : decode cX0_foreseeStep 18 = .ok (.aload_n 0, 1) := by decide +kernel
theorem dX0_foreseeStep_19 : decode cX0_foreseeStep 19 = .ok (.getfield 15, 3) := by decide +kernel
theorem dX0_foreseeStep_22 : decode cX0_foreseeStep 22 = .ok (.iload_n 2, 1) := by decide +kernel
theorem dX0_foreseeStep_23 : decode cX0_foreseeStep 23 = .ok (.iload_n 3, 1) := by decide +kernel
theorem dX0_foreseeStep_24 : decode cX0_foreseeStep 24 = .ok (.iastore, 1) := by decide +kernel
theorem dX0_foreseeStep_25 : decode cX0_foreseeStep 25 = .ok (.aload_n 0, 1) := by decide +kernel
theorem dX0_foreseeStep_26 : decode cX0_foreseeStep 26 = .ok (.getfield 18, 3) := by decide +kernel
theorem dX0_foreseeStep_29 : decode cX0_foreseeStep 29 = .ok (.iload_n 2, 1) := by decide +kernel
theorem dX0_foreseeStep_30 : decode cX0_foreseeStep 30 = .ok (.iload_n 3, 1) := by decide +kernel
theorem dX0_foreseeStep_31 : decode cX0_foreseeStep 31 = .ok (.iconst (-1), 1) := by decide +kernel
theorem dX0_foreseeStep_32 : decode cX0_foreseeStep 32 = .ok (.if_icmp .ne 7, 3) := by decide +kernel
theorem dX0_foreseeStep_35 : decode cX0_foreseeStep 35 = .ok (.iconst (-1), 1) := by decide +kernel
theorem dX0_foreseeStep_36 : decode cX0_foreseeStep 36 = .ok (.goto 16, 3) := by decide +kernel
theorem dX0_foreseeStep_39 : decode cX0_foreseeStep 39 = .ok (.iload_n 3, 1) := by decide +kernel
theorem dX0_foreseeStep_40 : decode cX0_foreseeStep 40 = .ok (.aload_n 0, 1) := by decide +kernel
theorem dX0_foreseeStep_41 : decode cX0_foreseeStep 41 = .ok (.getfield 21, 3) := by decide +kernel
theorem dX0_foreseeStep_44 : decode cX0_foreseeStep 44 = .ok (.aload_n 1, 1) := by decide +kernel
theorem dX0_foreseeStep_45 : decode cX0_foreseeStep 45 = .ok (.iload_n 2, 1) := by decide +kernel
theorem dX0_foreseeStep_46 : decode cX0_foreseeStep 46 = .ok (.invokevirtual 59, 3) := by decide +kernel
theorem dX0_foreseeStep_49 : decode cX0_foreseeStep 49 = .ok (.iadd, 1) := by decide +kernel
theorem dX0_foreseeStep_50 : decode cX0_foreseeStep 50 = .ok (.iconst 1, 1) := by decide +kernel
theorem dX0_foreseeStep_51 : decode cX0_foreseeStep 51 = .ok (.isub, 1) := by decide +kernel
theorem dX0_foreseeStep_52 : decode cX0_foreseeStep 52 = .ok (.iastore, 1) := by decide +kernel
theorem dX0_foreseeStep_53 : decode cX0_foreseeStep 53 = .ok (.return_, 1) := by decide +kernel
theorem dX0_beginOf_0 : decode cX0_beginOf 0 = .ok (.iload_n 2, 1) := by decide +kernel
theorem dX0_beginOf_1 : decode cX0_beginOf 1 = .ok (.ifCond .lt 27, 3) := by decide +kernel
theorem dX0_beginOf_4 : decode cX0_beginOf 4 = .ok (.iload_n 2, 1) := by decide +kernel
theorem dX0_beginOf_5 : decode cX0_beginOf 5 = .ok (.bipush 12, 2) := by decide +kernel
theorem dX0_beginOf_7 : decode cX0_beginOf 7 = .ok (.if_icmp .ge 21, 3) := by decide +kernel
theorem dX0_beginOf_10 : decode cX0_beginOf 10 = .ok (.aload_n 1, 1) := by decide +kernel
theorem dX0_beginOf_11 : decode cX0_beginOf 11 = .ok (.getfield 64, 3) := by decide +kernel
theorem dX0_beginOf_14 : decode cX0_beginOf 14 = .ok (.ifCond .ne 14, 3) := by decide +kernel
theorem dX0_beginOf_17 : decode cX0_beginOf 17 = .ok (.aload_n 1, 1) := by decide +kernel
theorem dX0_beginOf_18 : decode cX0_beginOf 18 = .ok (.getfield 70, 3) := by decide +kernel
theorem dX0_beginOf_21 : decode cX0_beginOf 21 = .ok (.iload_n 2, 1) := by decide +kernel
theorem dX0_beginOf_22 : decode cX0_beginOf 22 = .ok (.invokestatic 73, 3) := by decide +kernel
theorem dX0_beginOf_25 : decode cX0_beginOf 25 = .ok (.ifCond .ne 5, 3) := by decide +kernel
theorem dX0_beginOf_28 : decode cX0_beginOf 28 = .ok (.iconst (-1), 1) := by decide +kernel
theorem dX0_beginOf_29 : decode cX0_beginOf 29 = .ok (.ireturn, 1) := by decide +kernel
theorem dX0_beginOf_30 : decode cX0_beginOf 30 = .ok (.aload_n 1, 1) := by decide +kernel
theorem dX0_beginOf_31 : decode cX0_beginOf 31 = .ok (.getfield 77, 3) := by decide +kernel
theorem dX0_beginOf_34 : decode cX0_beginOf 34 = .ok (.iload_n 2, 1) := by decide +kernel
theorem dX0_beginOf_35 : decode cX0_beginOf 35 = .ok (.iaload, 1) := by decide +kernel
theorem dX0_beginOf_36 : decode cX0_beginOf 36 = .ok (.ifCond .eq 10, 3) := by decide +kernel
theorem dX0_beginOf_39 : decode cX0_beginOf 39 = .ok (.aload_n 1, 1) := by decide +kernel
theorem dX0_beginOf_40 : decode cX0_beginOf 40 = .ok (.getfield 80, 3) := by decide +kernel
theorem dX0_beginOf_43 : decode cX0_beginOf 43 = .ok (.iload_n 2, 1) := by decide +kernel
theorem dX0_beginOf_44 : decode cX0_beginOf 44 = .ok (.iaload, 1) := by decide +kernel
theorem dX0_beginOf_45 : decode cX0_beginOf 45 = .ok (.ireturn, 1) := by decide +kernel
theorem dX0_beginOf_46 : decode cX0_beginOf 46 = .ok (.aload_n 0, 1) := by decide +kernel
theorem dX0_beginOf_47 : decode cX0_beginOf 47 = .ok (.getfield 41, 3) := by decide +kernel
theorem dX0_beginOf_50 : decode cX0_beginOf 50 = .ok (.aload_n 1, 1) := by decide +kernel
theorem dX0_beginOf_51 : decode cX0_beginOf 51 = .ok (.getfield 81, 3) := by decide +kernel
theorem dX0_beginOf_54 : decode cX0_beginOf 54 = .ok (.invokestatic 84, 3) := by decide +kernel
theorem dX0_beginOf_57 : decode cX0_beginOf 57 = .ok (.istore_n 3, 1) := by decide +kernel
theorem dX0_beginOf_58 : decode cX0_beginOf 58 = .ok (.aload_n 0, 1) := by decide +kernel
theorem dX0_beginOf_59 : decode cX0_beginOf 59 = .ok (.getfield 21, 3) := by decide +kernel
theorem dX0_beginOf_62 : decode cX0_beginOf 62 = .ok (.getfield 90, 3) := by decide +kernel
theorem dX0_beginOf_65 : decode cX0_beginOf 65 = .ok (.iload_n 2, 1) := by decide +kernel
theorem dX0_beginOf_66 : decode cX0_beginOf 66 = .ok (.iaload, 1) := by decide +kernel
theorem dX0_beginOf_67 : decode cX0_beginOf 67 = .ok (.aload_n 1, 1) := by decide +kernel
theorem dX0_beginOf_68 : decode cX0_beginOf 68 = .ok (.getfield 70, 3) := by decide +kernel
theorem dX0_beginOf_71 : decode cX0_beginOf 71 = .ok (.iand, 1) := by decide +kernel
theorem dX0_beginOf_72 : decode cX0_beginOf 72 = .ok (.istore 4, 2) := by decide +kernel
theorem dX0_beginOf_74 : decode cX0_beginOf 74 = .ok (.iconst 0, 1) := by decide +kernel
theorem dX0_beginOf_75 : decode cX0_beginOf 75 = .ok (.istore 5, 2) := by decide +kernel
theorem dX0_beginOf_77 : decode cX0_beginOf 77 = .ok (.iload 5, 2) := by decide +kernel
theorem dX0_beginOf_79 : decode cX0_beginOf 79 = .ok (.iload_n 2, 1) := by decide +kernel
theorem dX0_beginOf_80 : decode cX0_beginOf 80 = .ok (.if_icmp .ge 46, 3) := by decide +kernel
theorem dX0_beginOf_83 : decode cX0_beginOf 83 = .ok (.iload 4, 2) := by decide +kernel
theorem dX0_beginOf_85 : decode cX0_beginOf 85 = .ok (.iload 5, 2) := by decide +kernel
theorem dX0_beginOf_87 : decode cX0_beginOf 87 = .ok (.invokestatic 73, 3) := by decide +kernel
theorem dX0_beginOf_90 : decode cX0_beginOf 90 = .ok (.ifCond .eq 30, 3) := by decide +kernel
theorem dX0_beginOf_93 : decode cX0_beginOf 93 = .ok (.aload_n 0, 1) := by decide +kernel
theorem dX0_beginOf_94 : decode cX0_beginOf 94 = .ok (.getfield 18, 3) := by decide +kernel
theorem dX0_beginOf_97 : decode cX0_beginOf 97 = .ok (.iload 5, 2) := by decide +kernel
theorem dX0_beginOf_99 : decode cX0_beginOf 99 = .ok (.iaload, 1) := by decide +kernel
theorem dX0_beginOf_100 : decode cX0_beginOf 100 = .ok (.iconst (-1), 1) := by decide +kernel
theorem dX0_beginOf_101 : decode cX0_beginOf 101 = .ok (.if_icmp .ne 5, 3) := by decide +kernel
theorem dX0_beginOf_104 : decode cX0_beginOf 104 = .ok (.iconst (-1), 1) := by decide +kernel
theorem dX0_beginOf_105 : decode cX0_beginOf 105 = .ok (.ireturn, 1) := by decide +kernel
theorem dX0_beginOf_106 : decode cX0_beginOf 106 = .ok (.iload_n 3, 1) := by decide +kernel
theorem dX0_beginOf_107 : decode cX0_beginOf 107 = .ok (.aload_n 0, 1) := by decide +kernel
theorem dX0_beginOf_108 : decode cX0_beginOf 108 = .ok (.getfield 18, 3) := by decide +kernel
theorem dX0_beginOf_111 : decode cX0_beginOf 111 = .ok (.iload 5, 2) := by decide +kernel
theorem dX0_beginOf_113 : decode cX0_beginOf 113 = .ok (.iaload, 1) := by decide +kernel
theorem dX0_beginOf_114 : decode cX0_beginOf 114 = .ok (.iconst 1, 1) := by decide +kernel
theorem dX0_beginOf_115 : decode cX0_beginOf 115 = .ok (.iadd, 1) := by decide +kernel
theorem dX0_beginOf_116 : decode cX0_beginOf 116 = .ok (.invokestatic 84, 3) := by decide +kernel
theorem dX0_beginOf_119 : decode cX0_beginOf 119 = .ok (.istore_n 3, 1) := by decide +kernel
theorem dX0_beginOf_120 : decode cX0_beginOf 120 = .ok (.iinc 5 1, 3) := by decide +kernel
theorem dX0_beginOf_123 : decode cX0_beginOf 123 = .ok (.goto (-46), 3) := by decide +kernel
theorem dX0_beginOf_126 : decode cX0_beginOf 126 = .ok (.aload_n 0, 1) := by decide +kernel
theorem dX0_beginOf_127 : decode cX0_beginOf 127 = .ok (.getfield 21, 3) := by decide +kernel
theorem dX0_beginOf_130 : decode cX0_beginOf 130 = .ok (.getfield 93, 3) := by decide +kernel
theorem dX0_beginOf_133 : decode cX0_beginOf 133 = .ok (.iload_n 2, 1) := by decide +kernel
theorem dX0_beginOf_134 : decode cX0_beginOf 134 = .ok (.iaload, 1) := by decide +kernel
theorem dX0_beginOf_135 : decode cX0_beginOf 135 = .ok (.iconst 2, 1) := by decide +kernel
theorem dX0_beginOf_136 : decode cX0_beginOf 136 = .ok (.if_icmp .ne 21, 3) := by decide +kernel
theorem dX0_beginOf_139 : decode cX0_beginOf 139 = .ok (.iload_n 3, 1) := by decide +kernel
theorem dX0_beginOf_140 : decode cX0_beginOf 140 = .ok (.aload_n 0, 1) := by decide +kernel
theorem dX0_beginOf_141 : decode cX0_beginOf 141 = .ok (.getfield 29, 3) := by decide +kernel
theorem dX0_beginOf_144 : decode cX0_beginOf 144 = .ok (.aload_n 1, 1) := by decide +kernel
theorem dX0_beginOf_145 : decode cX0_beginOf 145 = .ok (.getfield 96, 3) := by decide +kernel
theorem dX0_beginOf_148 : decode cX0_beginOf 148 = .ok (.iload_n 2, 1) := by decide +kernel
theorem dX0_beginOf_149 : decode cX0_beginOf 149 = .ok (.iaload, 1) := by decide +kernel
theorem dX0_beginOf_150 : decode cX0_beginOf 150 = .ok (.invokevirtual 99, 3) := by decide +kernel
theorem dX0_beginOf_153 : decode cX0_beginOf 153 = .ok (.invokestatic 84, 3) := by decide +kernel
theorem dX0_beginOf_156 : decode cX0_beginOf 156 = .ok (.ireturn, 1) := by decide +kernel
theorem dX0_beginOf_157 : decode cX0_beginOf 157 = .ok (.aload_n 0, 1) := by decide +kernel
theorem dX0_beginOf_158 : decode cX0_beginOf 158 = .ok (.getfield 21, 3) := by decide +kernel
theorem dX0_beginOf_161 : decode cX0_beginOf 161 = .ok (.getfield 93, 3) := by decide +kernel
theorem dX0_beginOf_164 : decode cX0_beginOf 164 = .ok (.iload_n 2, 1) := by decide +kernel
theorem dX0_beginOf_165 : decode cX0_beginOf 165 = .ok (.iaload, 1) := by decide +kernel
theorem dX0_beginOf_166 : decode cX0_beginOf 166 = .ok (.iconst 1, 1) := by decide +kernel
theorem dX0_beginOf_167 : decode cX0_beginOf 167 = .ok (.if_icmp .ne 20, 3) := by decide +kernel
theorem dX0_beginOf_170 : decode cX0_beginOf 170 = .ok (.aload_n 0, 1) := by decide +kernel
theorem dX0_beginOf_171 : decode cX0_beginOf 171 = .ok (.iload_n 3, 1) := by decide +kernel
theorem dX0_beginOf_172 : decode cX0_beginOf 172 = .ok (.aload_n 0, 1) := by decide +kernel
theorem dX0_beginOf_173 : decode cX0_beginOf 173 = .ok (.getfield 21, 3) := by decide +kernel
theorem dX0_beginOf_176 : decode cX0_beginOf 176 = .ok (.getfield 105, 3) := by decide +kernel
theorem dX0_beginOf_179 : decode cX0_beginOf 179 = .ok (.iload_n 2, 1) := by decide +kernel
theorem dX0_beginOf_180 : decode cX0_beginOf 180 = .ok (.iaload, 1) := by decide +kernel
theorem dX0_beginOf_181 : decode cX0_beginOf 181 = .ok (.invokevirtual 108, 3) := by decide +kernel
theorem dX0_beginOf_184 : decode cX0_beginOf 184 = .ok (.goto 4, 3) := by decide +kernel
theorem dX0_beginOf_187 : decode cX0_beginOf 187 = .ok (.iload_n 3, 1) := by decide +kernel
theorem dX0_beginOf_188 : decode cX0_beginOf 188 = .ok (.ireturn, 1) := by decide +kernel
theorem dX0_withSupply_0 : decode cX0_withSupply 0 = .ok (.iload_n 2, 1) := by decide +kernel
theorem dX0_withSupply_1 : decode cX0_withSupply 1 = .ok (.ifCond .lt 18, 3) := by decide +kernel
theorem dX0_withSupply_4 : decode cX0_withSupply 4 = .ok (.iload_n 2, 1) := by decide +kernel
theorem dX0_withSupply_5 : decode cX0_withSupply 5 = .ok (.iconst 4, 1) := by decide +kernel
theorem dX0_withSupply_6 : decode cX0_withSupply 6 = .ok (.if_icmp .ge 13, 3) := by decide +kernel
theorem dX0_withSupply_9 : decode cX0_withSupply 9 = .ok (.aload_n 0, 1) := by decide +kernel
theorem dX0_withSupply_10 : decode cX0_withSupply 10 = .ok (.getfield 9, 3) := by decide +kernel
theorem dX0_withSupply_13 : decode cX0_withSupply 13 = .ok (.iload_n 2, 1) := by decide +kernel
theorem dX0_withSupply_14 : decode cX0_withSupply 14 = .ok (.iaload, 1) := by decide +kernel
theorem dX0_withSupply_15 : decode cX0_withSupply 15 = .ok (.iconst (-1), 1) := by decide +kernel
theorem dX0_withSupply_16 : decode cX0_withSupply 16 = .ok (.if_icmp .ne 5, 3) := by decide +kernel
theorem dX0_withSupply_19 : decode cX0_withSupply 19 = .ok (.iconst (-1), 1) := by decide +kernel
theorem dX0_withSupply_20 : decode cX0_withSupply 20 = .ok (.ireturn, 1) := by decide +kernel
theorem dX0_withSupply_21 : decode cX0_withSupply 21 = .ok (.iload_n 1, 1) := by decide +kernel
theorem dX0_withSupply_22 : decode cX0_withSupply 22 = .ok (.aload_n 0, 1) := by decide +kernel
theorem dX0_withSupply_23 : decode cX0_withSupply 23 = .ok (.getfield 9, 3) := by decide +kernel
theorem dX0_withSupply_26 : decode cX0_withSupply 26 = .ok (.iload_n 2, 1) := by decide +kernel
theorem dX0_withSupply_27 : decode cX0_withSupply 27 = .ok (.iaload, 1) := by decide +kernel
theorem dX0_withSupply_28 : decode cX0_withSupply 28 = .ok (.invokestatic 84, 3) := by decide +kernel
theorem dX0_withSupply_31 : decode cX0_withSupply 31 = .ok (.ireturn, 1) := by decide +kernel
theorem dX0_dayBehind_0 : decode cX0_dayBehind 0 = .ok (.aload_n 0, 1) := by decide +kernel
theorem dX0_dayBehind_1 : decode cX0_dayBehind 1 = .ok (.iload_n 1, 1) := by decide +kernel
theorem dX0_dayBehind_2 : decode cX0_dayBehind 2 = .ok (.invokevirtual 111, 3) := by decide +kernel
theorem dX0_dayBehind_5 : decode cX0_dayBehind 5 = .ok (.istore_n 2, 1) := by decide +kernel
theorem dX0_dayBehind_6 : decode cX0_dayBehind 6 = .ok (.iload_n 2, 1) := by decide +kernel
theorem dX0_dayBehind_7 : decode cX0_dayBehind 7 = .ok (.iconst (-1), 1) := by decide +kernel
theorem dX0_dayBehind_8 : decode cX0_dayBehind 8 = .ok (.if_icmp .ne 7, 3) := by decide +kernel
theorem dX0_dayBehind_11 : decode cX0_dayBehind 11 = .ok (.iconst (-1), 1) := by decide +kernel
theorem dX0_dayBehind_12 : decode cX0_dayBehind 12 = .ok (.goto 6, 3) := by decide +kernel
theorem dX0_dayBehind_15 : decode cX0_dayBehind 15 = .ok (.iload_n 2, 1) := by decide +kernel
theorem dX0_dayBehind_16 : decode cX0_dayBehind 16 = .ok (.iconst 1, 1) := by decide +kernel
theorem dX0_dayBehind_17 : decode cX0_dayBehind 17 = .ok (.iadd, 1) := by decide +kernel
theorem dX0_dayBehind_18 : decode cX0_dayBehind 18 = .ok (.ireturn, 1) := by decide +kernel
theorem dX0_greatestEnd_0 : decode cX0_greatestEnd 0 = .ok (.iconst (-1), 1) := by decide +kernel
theorem dX0_greatestEnd_1 : decode cX0_greatestEnd 1 = .ok (.istore_n 2, 1) := by decide +kernel
theorem dX0_greatestEnd_2 : decode cX0_greatestEnd 2 = .ok (.iconst 0, 1) := by decide +kernel
theorem dX0_greatestEnd_3 : decode cX0_greatestEnd 3 = .ok (.istore_n 3, 1) := by decide +kernel
theorem dX0_greatestEnd_4 : decode cX0_greatestEnd 4 = .ok (.iload_n 3, 1) := by decide +kernel
theorem dX0_greatestEnd_5 : decode cX0_greatestEnd 5 = .ok (.bipush 12, 2) := by decide +kernel
theorem dX0_greatestEnd_7 : decode cX0_greatestEnd 7 = .ok (.if_icmp .ge 40, 3) := by decide +kernel
theorem dX0_greatestEnd_10 : decode cX0_greatestEnd 10 = .ok (.iload_n 1, 1) := by decide +kernel
theorem dX0_greatestEnd_11 : decode cX0_greatestEnd 11 = .ok (.iload_n 3, 1) := by decide +kernel
theorem dX0_greatestEnd_12 : decode cX0_greatestEnd 12 = .ok (.invokestatic 73, 3) := by decide +kernel
theorem dX0_greatestEnd_15 : decode cX0_greatestEnd 15 = .ok (.ifCond .eq 26, 3) := by decide +kernel
theorem dX0_greatestEnd_18 : decode cX0_greatestEnd 18 = .ok (.aload_n 0, 1) := by decide +kernel
theorem dX0_greatestEnd_19 : decode cX0_greatestEnd 19 = .ok (.getfield 18, 3) := by decide +kernel
theorem dX0_greatestEnd_22 : decode cX0_greatestEnd 22 = .ok (.iload_n 3, 1) := by decide +kernel
theorem dX0_greatestEnd_23 : decode cX0_greatestEnd 23 = .ok (.iaload, 1) := by decide +kernel
theorem dX0_greatestEnd_24 : decode cX0_greatestEnd 24 = .ok (.iconst (-1), 1) := by decide +kernel
theorem dX0_greatestEnd_25 : decode cX0_greatestEnd 25 = .ok (.if_icmp .ne 5, 3) := by decide +kernel
theorem dX0_greatestEnd_28 : decode cX0_greatestEnd 28 = .ok (.iconst (-1), 1) := by decide +kernel
theorem dX0_greatestEnd_29 : decode cX0_greatestEnd 29 = .ok (.ireturn, 1) := by decide +kernel
theorem dX0_greatestEnd_30 : decode cX0_greatestEnd 30 = .ok (.iload_n 2, 1) := by decide +kernel
theorem dX0_greatestEnd_31 : decode cX0_greatestEnd 31 = .ok (.aload_n 0, 1) := by decide +kernel
theorem dX0_greatestEnd_32 : decode cX0_greatestEnd 32 = .ok (.getfield 18, 3) := by decide +kernel
theorem dX0_greatestEnd_35 : decode cX0_greatestEnd 35 = .ok (.iload_n 3, 1) := by decide +kernel
theorem dX0_greatestEnd_36 : decode cX0_greatestEnd 36 = .ok (.iaload, 1) := by decide +kernel
theorem dX0_greatestEnd_37 : decode cX0_greatestEnd 37 = .ok (.invokestatic 84, 3) := by decide +kernel
theorem dX0_greatestEnd_40 : decode cX0_greatestEnd 40 = .ok (.istore_n 2, 1) := by decide +kernel
theorem dX0_greatestEnd_41 : decode cX0_greatestEnd 41 = .ok (.iinc 3 1, 3) := by decide +kernel
theorem dX0_greatestEnd_44 : decode cX0_greatestEnd 44 = .ok (.goto (-40), 3) := by decide +kernel
theorem dX0_greatestEnd_47 : decode cX0_greatestEnd 47 = .ok (.iload_n 2, 1) := by decide +kernel
theorem dX0_greatestEnd_48 : decode cX0_greatestEnd 48 = .ok (.ireturn, 1) := by decide +kernel
theorem dX1_init_0 : decode cX1_init 0 = .ok (.aload_n 0, 1) := by decide +kernel
theorem dX1_init_1 : decode cX1_init 1 = .ok (.invokespecial 3, 3) := by decide +kernel
theorem dX1_init_4 : decode cX1_init 4 = .ok (.aload_n 0, 1) := by decide +kernel
theorem dX1_init_5 : decode cX1_init 5 = .ok (.bipush 12, 2) := by decide +kernel
theorem dX1_init_7 : decode cX1_init 7 = .ok (.newarray .int, 2) := by decide +kernel
theorem dX1_init_9 : decode cX1_init 9 = .ok (.putfield 9, 3) := by decide +kernel
theorem dX1_init_12 : decode cX1_init 12 = .ok (.aload_n 0, 1) := by decide +kernel
theorem dX1_init_13 : decode cX1_init 13 = .ok (.bipush 12, 2) := by decide +kernel
theorem dX1_init_15 : decode cX1_init 15 = .ok (.newarray .int, 2) := by decide +kernel
theorem dX1_init_17 : decode cX1_init 17 = .ok (.putfield 15, 3) := by decide +kernel
theorem dX1_init_20 : decode cX1_init 20 = .ok (.aload_n 0, 1) := by decide +kernel
theorem dX1_init_21 : decode cX1_init 21 = .ok (.bipush 12, 2) := by decide +kernel
theorem dX1_init_23 : decode cX1_init 23 = .ok (.newarray .int, 2) := by decide +kernel
theorem dX1_init_25 : decode cX1_init 25 = .ok (.putfield 18, 3) := by decide +kernel
theorem dX1_init_28 : decode cX1_init 28 = .ok (.aload_n 0, 1) := by decide +kernel
theorem dX1_init_29 : decode cX1_init 29 = .ok (.bipush 12, 2) := by decide +kernel
theorem dX1_init_31 : decode cX1_init 31 = .ok (.newarray .int, 2) := by decide +kernel
theorem dX1_init_33 : decode cX1_init 33 = .ok (.putfield 21, 3) := by decide +kernel
theorem dX1_init_36 : decode cX1_init 36 = .ok (.aload_n 0, 1) := by decide +kernel
theorem dX1_init_37 : decode cX1_init 37 = .ok (.bipush 12, 2) := by decide +kernel
theorem dX1_init_39 : decode cX1_init 39 = .ok (.newarray .int, 2) := by decide +kernel
theorem dX1_init_41 : decode cX1_init 41 = .ok (.putfield 24, 3) := by decide +kernel
theorem dX1_init_44 : decode cX1_init 44 = .ok (.iconst 0, 1) := by decide +kernel
theorem dX1_init_45 : decode cX1_init 45 = .ok (.istore_n 1, 1) := by decide +kernel
theorem dX1_init_46 : decode cX1_init 46 = .ok (.iload_n 1, 1) := by decide +kernel
theorem dX1_init_47 : decode cX1_init 47 = .ok (.bipush 12, 2) := by decide +kernel
theorem dX1_init_49 : decode cX1_init 49 = .ok (.if_icmp .ge 16, 3) := by decide +kernel
theorem dX1_init_52 : decode cX1_init 52 = .ok (.aload_n 0, 1) := by decide +kernel
theorem dX1_init_53 : decode cX1_init 53 = .ok (.getfield 21, 3) := by decide +kernel
theorem dX1_init_56 : decode cX1_init 56 = .ok (.iload_n 1, 1) := by decide +kernel
theorem dX1_init_57 : decode cX1_init 57 = .ok (.iconst (-1), 1) := by decide +kernel
theorem dX1_init_58 : decode cX1_init 58 = .ok (.iastore, 1) := by decide +kernel
theorem dX1_init_59 : decode cX1_init 59 = .ok (.iinc 1 1, 3) := by decide +kernel
theorem dX1_init_62 : decode cX1_init 62 = .ok (.goto (-16), 3) := by decide +kernel
theorem dX1_init_65 : decode cX1_init 65 = .ok (.return_, 1) := by decide +kernel
theorem dX1_isIn_0 : decode cX1_isIn 0 = .ok (.iload_n 1, 1) := by decide +kernel
theorem dX1_isIn_1 : decode cX1_isIn 1 = .ok (.ifCond .lt 34, 3) := by decide +kernel
theorem dX1_isIn_4 : decode cX1_isIn 4 = .ok (.iload_n 1, 1) := by decide +kernel
theorem dX1_isIn_5 : decode cX1_isIn 5 = .ok (.bipush 12, 2) := by decide +kernel
theorem dX1_isIn_7 : decode cX1_isIn 7 = .ok (.if_icmp .ge 28, 3) := by decide +kernel
theorem dX1_isIn_10 : decode cX1_isIn 10 = .ok (.aload_n 0, 1) := by decide +kernel
theorem dX1_isIn_11 : decode cX1_isIn 11 = .ok (.getfield 27, 3) := by decide +kernel
theorem dX1_isIn_14 : decode cX1_isIn 14 = .ok (.iload_n 1, 1) := by decide +kernel
theorem dX1_isIn_15 : decode cX1_isIn 15 = .ok (.invokestatic 31, 3) := by decide +kernel
theorem dX1_isIn_18 : decode cX1_isIn 18 = .ok (.ifCond .eq 17, 3) := by decide +kernel
theorem dX1_isIn_21 : decode cX1_isIn 21 = .ok (.aload_n 0, 1) := by decide +kernel
theorem dX1_isIn_22 : decode cX1_isIn 22 = .ok (.getfield 9, 3) := by decide +kernel
theorem dX1_isIn_25 : decode cX1_isIn 25 = .ok (.iload_n 1, 1) := by decide +kernel
theorem dX1_isIn_26 : decode cX1_isIn 26 = .ok (.iaload, 1) := by decide +kernel
theorem dX1_isIn_27 : decode cX1_isIn 27 = .ok (.iload_n 2, 1) := by decide +kernel
theorem dX1_isIn_28 : decode cX1_isIn 28 = .ok (.if_icmp .ne 7, 3) := by decide +kernel
theorem dX1_isIn_31 : decode cX1_isIn 31 = .ok (.iconst 1, 1) := by decide +kernel
theorem dX1_isIn_32 : decode cX1_isIn 32 = .ok (.goto 4, 3) := by decide +kernel
theorem dX1_isIn_35 : decode cX1_isIn 35 = .ok (.iconst 0, 1) := by decide +kernel
theorem dX1_isIn_36 : decode cX1_isIn 36 = .ok (.ireturn, 1) := by decide +kernel
theorem dX1_stepsIn_0 : decode cX1_stepsIn 0 = .ok (.iconst 0, 1) := by decide +kernel
theorem dX1_stepsIn_1 : decode cX1_stepsIn 1 = .ok (.istore_n 2, 1) := by decide +kernel
theorem dX1_stepsIn_2 : decode cX1_stepsIn 2 = .ok (.iconst 0, 1) := by decide +kernel
theorem dX1_stepsIn_3 : decode cX1_stepsIn 3 = .ok (.istore_n 3, 1) := by decide +kernel
theorem dX1_stepsIn_4 : decode cX1_stepsIn 4 = .ok (.iload_n 3, 1) := by decide +kernel
theorem dX1_stepsIn_5 : decode cX1_stepsIn 5 = .ok (.bipush 12, 2) := by decide +kernel
theorem dX1_stepsIn_7 : decode cX1_stepsIn 7 = .ok (.if_icmp .ge 25, 3) := by decide +kernel
theorem dX1_stepsIn_10 : decode cX1_stepsIn 10 = .ok (.aload_n 0, 1) := by decide +kernel
theorem dX1_stepsIn_11 : decode cX1_stepsIn 11 = .ok (.getfield 9, 3) := by decide +kernel
theorem dX1_stepsIn_14 : decode cX1_stepsIn 14 = .ok (.iload_n 3, 1) := by decide +kernel
theorem dX1_stepsIn_15 : decode cX1_stepsIn 15 = .ok (.iaload, 1) := by decide +kernel
theorem dX1_stepsIn_16 : decode cX1_stepsIn 16 = .ok (.iload_n 1, 1) := by decide +kernel
theorem dX1_stepsIn_17 : decode cX1_stepsIn 17 = .ok (.if_icmp .ne 9, 3) := by decide +kernel
theorem dX1_stepsIn_20 : decode cX1_stepsIn 20 = .ok (.iload_n 2, 1) := by decide +kernel
theorem dX1_stepsIn_21 : decode cX1_stepsIn 21 = .ok (.iconst 1, 1) := by decide +kernel
theorem dX1_stepsIn_22 : decode cX1_stepsIn 22 = .ok (.iload_n 3, 1) := by decide +kernel
theorem dX1_stepsIn_23 : decode cX1_stepsIn 23 = .ok (.ishl, 1) := by decide +kernel
theorem dX1_stepsIn_24 : decode cX1_stepsIn 24 = .ok (.ior, 1) := by decide +kernel
theorem dX1_stepsIn_25 : decode cX1_stepsIn 25 = .ok (.istore_n 2, 1) := by decide +kernel
theorem dX1_stepsIn_26 : decode cX1_stepsIn 26 = .ok (.iinc 3 1, 3) := by decide +kernel
theorem dX1_stepsIn_29 : decode cX1_stepsIn 29 = .ok (.goto (-25), 3) := by decide +kernel
theorem dX1_stepsIn_32 : decode cX1_stepsIn 32 = .ok (.iload_n 2, 1) := by decide +kernel
theorem dX1_stepsIn_33 : decode cX1_stepsIn 33 = .ok (.aload_n 0, 1) := by decide +kernel
theorem dX1_stepsIn_34 : decode cX1_stepsIn 34 = .ok (.getfield 27, 3) := by decide +kernel
theorem dX1_stepsIn_37 : decode cX1_stepsIn 37 = .ok (.iand, 1) := by decide +kernel
theorem dX1_stepsIn_38 : decode cX1_stepsIn 38 = .ok (.ireturn, 1) := by decide +kernel
theorem dX1_countIn_0 : decode cX1_countIn 0 = .ok (.aload_n 0, 1) := by decide +kernel
theorem dX1_countIn_1 : decode cX1_countIn 1 = .ok (.iload_n 1, 1) := by decide +kernel
theorem dX1_countIn_2 : decode cX1_countIn 2 = .ok (.invokevirtual 35, 3) := by decide +kernel
theorem dX1_countIn_5 : decode cX1_countIn 5 = .ok (.invokestatic 39, 3) := by decide +kernel
theorem dX1_countIn_8 : decode cX1_countIn 8 = .ok (.ireturn, 1) := by decide +kernel
theorem dX1_finishSteps_0 : decode cX1_finishSteps 0 = .ok (.aload_n 0, 1) := by decide +kernel
theorem dX1_finishSteps_1 : decode cX1_finishSteps 1 = .ok (.getfield 44, 3) := by decide +kernel
theorem dX1_finishSteps_4 : decode cX1_finishSteps 4 = .ok (.ifCond .eq 5, 3) := by decide +kernel
theorem dX1_finishSteps_7 : decode cX1_finishSteps 7 = .ok (.iconst 0, 1) := by decide +kernel
theorem dX1_finishSteps_8 : decode cX1_finishSteps 8 = .ok (.ireturn, 1) := by decide +kernel
theorem dX1_finishSteps_9 : decode cX1_finishSteps 9 = .ok (.iconst 0, 1) := by decide +kernel
theorem dX1_finishSteps_10 : decode cX1_finishSteps 10 = .ok (.istore_n 2, 1) := by decide +kernel
theorem dX1_finishSteps_11 : decode cX1_finishSteps 11 = .ok (.iconst 0, 1) := by decide +kernel
theorem dX1_finishSteps_12 : decode cX1_finishSteps 12 = .ok (.istore_n 3, 1) := by decide +kernel
theorem dX1_finishSteps_13 : decode cX1_finishSteps 13 = .ok (.iload_n 3, 1) := by decide +kernel
theorem dX1_finishSteps_14 : decode cX1_finishSteps 14 = .ok (.bipush 12, 2) := by decide +kernel
theorem dX1_finishSteps_16 : decode cX1_finishSteps 16 = .ok (.if_icmp .ge 46, 3) := by decide +kernel
theorem dX1_finishSteps_19 : decode cX1_finishSteps 19 = .ok (.aload_n 0, 1) := by decide +kernel
theorem dX1_finishSteps_20 : decode cX1_finishSteps 20 = .ok (.getfield 9, 3) := by decide +kernel
theorem dX1_finishSteps_23 : decode cX1_finishSteps 23 = .ok (.iload_n 3, 1) := by decide +kernel
theorem dX1_finishSteps_24 : decode cX1_finishSteps 24 = .ok (.iaload, 1) := by decide +kernel
theorem dX1_finishSteps_25 : decode cX1_finishSteps 25 = .ok (.iconst 1, 1) := by decide +kernel
theorem dX1_finishSteps_26 : decode cX1_finishSteps 26 = .ok (.if_icmp .ne 30, 3) := by decide +kernel
theorem dX1_finishSteps_29 : decode cX1_finishSteps 29 = .ok (.aload_n 0, 1) := by decide +kernel
theorem dX1_finishSteps_30 : decode cX1_finishSteps 30 = .ok (.getfield 15, 3) := by decide +kernel
theorem dX1_finishSteps_33 : decode cX1_finishSteps 33 = .ok (.iload_n 3, 1) := by decide +kernel
theorem dX1_finishSteps_34 : decode cX1_finishSteps 34 = .ok (.iaload, 1) := by decide +kernel
theorem dX1_finishSteps_35 : decode cX1_finishSteps 35 = .ok (.aload_n 0, 1) := by decide +kernel
theorem dX1_finishSteps_36 : decode cX1_finishSteps 36 = .ok (.getfield 18, 3) := by decide +kernel
theorem dX1_finishSteps_39 : decode cX1_finishSteps 39 = .ok (.iload_n 3, 1) := by decide +kernel
theorem dX1_finishSteps_40 : decode cX1_finishSteps 40 = .ok (.iaload, 1) := by decide +kernel
theorem dX1_finishSteps_41 : decode cX1_finishSteps 41 = .ok (.iadd, 1) := by decide +kernel
theorem dX1_finishSteps_42 : decode cX1_finishSteps 42 = .ok (.iload_n 1, 1) := by decide +kernel
theorem dX1_finishSteps_43 : decode cX1_finishSteps 43 = .ok (.if_icmp .gt 13, 3) := by decide +kernel
theorem dX1_finishSteps_46 : decode cX1_finishSteps 46 = .ok (.aload_n 0, 1) := by decide +kernel
theorem dX1_finishSteps_47 : decode cX1_finishSteps 47 = .ok (.getfield 9, 3) := by decide +kernel
theorem dX1_finishSteps_50 : decode cX1_finishSteps 50 = .ok (.iload_n 3, 1) := by decide +kernel
theorem dX1_finishSteps_51 : decode cX1_finishSteps 51 = .ok (.iconst 2, 1) := by decide +kernel
theorem dX1_finishSteps_52 : decode cX1_finishSteps 52 = .ok (.iastore, 1) := by decide +kernel
theorem dX1_finishSteps_53 : decode cX1_finishSteps 53 = .ok (.iinc 2 1, 3) := by decide +kernel
theorem dX1_finishSteps_56 : decode cX1_finishSteps 56 = .ok (.iinc 3 1, 3) := by decide +kernel
theorem dX1_finishSteps_59 : decode cX1_finishSteps 59 = .ok (.goto (-46), 3) := by decide +kernel
theorem dX1_finishSteps_62 : decode cX1_finishSteps 62 = .ok (.iload_n 2, 1) := by decide +kernel
theorem dX1_finishSteps_63 : decode cX1_finishSteps 63 = .ok (.ireturn, 1) := by decide +kernel
theorem dX1_lastBegun_0 : decode cX1_lastBegun 0 = .ok (.iconst (-1), 1) := by decide +kernel
theorem dX1_lastBegun_1 : decode cX1_lastBegun 1 = .ok (.istore_n 1, 1) := by decide +kernel
theorem dX1_lastBegun_2 : decode cX1_lastBegun 2 = .ok (.iconst (-1), 1) := by decide +kernel
theorem dX1_lastBegun_3 : decode cX1_lastBegun 3 = .ok (.istore_n 2, 1) := by decide +kernel
theorem dX1_lastBegun_4 : decode cX1_lastBegun 4 = .ok (.iconst 0, 1) := by decide +kernel
theorem dX1_lastBegun_5 : decode cX1_lastBegun 5 = .ok (.istore_n 3, 1) := by decide +kernel
theorem dX1_lastBegun_6 : decode cX1_lastBegun 6 = .ok (.iload_n 3, 1) := by decide +kernel
theorem dX1_lastBegun_7 : decode cX1_lastBegun 7 = .ok (.bipush 12, 2) := by decide +kernel
theorem dX1_lastBegun_9 : decode cX1_lastBegun 9 = .ok (.if_icmp .ge 60, 3) := by decide +kernel
theorem dX1_lastBegun_12 : decode cX1_lastBegun 12 = .ok (.aload_n 0, 1) := by decide +kernel
theorem dX1_lastBegun_13 : decode cX1_lastBegun 13 = .ok (.getfield 9, 3) := by decide +kernel
theorem dX1_lastBegun_16 : decode cX1_lastBegun 16 = .ok (.iload_n 3, 1) := by decide +kernel
theorem dX1_lastBegun_17 : decode cX1_lastBegun 17 = .ok (.iaload, 1) := by decide +kernel
theorem dX1_lastBegun_18 : decode cX1_lastBegun 18 = .ok (.iconst 1, 1) := by decide +kernel
theorem dX1_lastBegun_19 : decode cX1_lastBegun 19 = .ok (.if_icmp .eq 13, 3) := by decide +kernel
theorem dX1_lastBegun_22 : decode cX1_lastBegun 22 = .ok (.aload_n 0, 1) := by decide +kernel
theorem dX1_lastBegun_23 : decode cX1_lastBegun 23 = .ok (.getfield 9, 3) := by decide +kernel
theorem dX1_lastBegun_26 : decode cX1_lastBegun 26 = .ok (.iload_n 3, 1) := by decide +kernel
theorem dX1_lastBegun_27 : decode cX1_lastBegun 27 = .ok (.iaload, 1) := by decide +kernel
theorem dX1_lastBegun_28 : decode cX1_lastBegun 28 = .ok (.iconst 2, 1) := by decide +kernel
theorem dX1_lastBegun_29 : decode cX1_lastBegun 29 = .ok (.if_icmp .ne 7, 3) := by decide +kernel
theorem dX1_lastBegun_32 : decode cX1_lastBegun 32 = .ok (.iconst 1, 1) := by decide +kernel
theorem dX1_lastBegun_33 : decode cX1_lastBegun 33 = .ok (.goto 4, 3) := by decide +kernel
theorem dX1_lastBegun_36 : decode cX1_lastBegun 36 = .ok (.iconst 0, 1) := by decide +kernel
theorem dX1_lastBegun_37 : decode cX1_lastBegun 37 = .ok (.istore 4, 2) := by decide +kernel
theorem dX1_lastBegun_39 : decode cX1_lastBegun 39 = .ok (.iload 4, 2) := by decide +kernel
theorem dX1_lastBegun_41 : decode cX1_lastBegun 41 = .ok (.ifCond .eq 22, 3) := by decide +kernel
theorem dX1_lastBegun_44 : decode cX1_lastBegun 44 = .ok (.aload_n 0, 1) := by decide +kernel
theorem dX1_lastBegun_45 : decode cX1_lastBegun 45 = .ok (.getfield 15, 3) := by decide +kernel
theorem dX1_lastBegun_48 : decode cX1_lastBegun 48 = .ok (.iload_n 3, 1) := by decide +kernel
theorem dX1_lastBegun_49 : decode cX1_lastBegun 49 = .ok (.iaload, 1) := by decide +kernel
theorem dX1_lastBegun_50 : decode cX1_lastBegun 50 = .ok (.iload_n 2, 1) := by decide +kernel
theorem dX1_lastBegun_51 : decode cX1_lastBegun 51 = .ok (.if_icmp .lt 12, 3) := by decide +kernel
theorem dX1_lastBegun_54 : decode cX1_lastBegun 54 = .ok (.iload_n 3, 1) := by decide +kernel
theorem dX1_lastBegun_55 : decode cX1_lastBegun 55 = .ok (.istore_n 1, 1) := by decide +kernel
theorem dX1_lastBegun_56 : decode cX1_lastBegun 56 = .ok (.aload_n 0, 1) := by decide +kernel
theorem dX1_lastBegun_57 : decode cX1_lastBegun 57 = .ok (.getfield 15, 3) := by decide +kernel
theorem dX1_lastBegun_60 : decode cX1_lastBegun 60 = .ok (.iload_n 3, 1) := by decide +kernel
theorem dX1_lastBegun_61 : decode cX1_lastBegun 61 = .ok (.iaload, 1) := by decide +kernel
theorem dX1_lastBegun_62 : decode cX1_lastBegun 62 = .ok (.istore_n 2, 1) := by decide +kernel
theorem dX1_lastBegun_63 : decode cX1_lastBegun 63 = .ok (.iinc 3 1, 3) := by decide +kernel
theorem dX1_lastBegun_66 : decode cX1_lastBegun 66 = .ok (.goto (-60), 3) := by decide +kernel
theorem dX1_lastBegun_69 : decode cX1_lastBegun 69 = .ok (.iload_n 1, 1) := by decide +kernel
theorem dX1_lastBegun_70 : decode cX1_lastBegun 70 = .ok (.ireturn, 1) := by decide +kernel
theorem dX2_init_0 : decode cX2_init 0 = .ok (.aload_n 0, 1) := by decide +kernel
theorem dX2_init_1 : decode cX2_init 1 = .ok (.invokespecial 3, 3) := by decide +kernel
theorem dX2_init_4 : decode cX2_init 4 = .ok (.aload_n 0, 1) := by decide +kernel
theorem dX2_init_5 : decode cX2_init 5 = .ok (.bipush 12, 2) := by decide +kernel
theorem dX2_init_7 : decode cX2_init 7 = .ok (.newarray .int, 2) := by decide +kernel
theorem dX2_init_9 : decode cX2_init 9 = .ok (.putfield 9, 3) := by decide +kernel
theorem dX2_init_12 : decode cX2_init 12 = .ok (.aload_n 0, 1) := by decide +kernel
theorem dX2_init_13 : decode cX2_init 13 = .ok (.bipush 12, 2) := by decide +kernel
theorem dX2_init_15 : decode cX2_init 15 = .ok (.newarray .int, 2) := by decide +kernel
theorem dX2_init_17 : decode cX2_init 17 = .ok (.putfield 15, 3) := by decide +kernel
theorem dX2_init_20 : decode cX2_init 20 = .ok (.aload_n 0, 1) := by decide +kernel
theorem dX2_init_21 : decode cX2_init 21 = .ok (.bipush 12, 2) := by decide +kernel
theorem dX2_init_23 : decode cX2_init 23 = .ok (.newarray .int, 2) := by decide +kernel
theorem dX2_init_25 : decode cX2_init 25 = .ok (.putfield 18, 3) := by decide +kernel
theorem dX2_init_28 : decode cX2_init 28 = .ok (.aload_n 0, 1) := by decide +kernel
theorem dX2_init_29 : decode cX2_init 29 = .ok (.bipush 12, 2) := by decide +kernel
theorem dX2_init_31 : decode cX2_init 31 = .ok (.newarray .int, 2) := by decide +kernel
theorem dX2_init_33 : decode cX2_init 33 = .ok (.putfield 21, 3) := by decide +kernel
theorem dX2_init_36 : decode cX2_init 36 = .ok (.aload_n 0, 1) := by decide +kernel
theorem dX2_init_37 : decode cX2_init 37 = .ok (.iconst 4, 1) := by decide +kernel
theorem dX2_init_38 : decode cX2_init 38 = .ok (.newarray .int, 2) := by decide +kernel
theorem dX2_init_40 : decode cX2_init 40 = .ok (.putfield 24, 3) := by decide +kernel
theorem dX2_init_43 : decode cX2_init 43 = .ok (.aload_n 0, 1) := by decide +kernel
theorem dX2_init_44 : decode cX2_init 44 = .ok (.bipush 6, 2) := by decide +kernel
theorem dX2_init_46 : decode cX2_init 46 = .ok (.newarray .int, 2) := by decide +kernel
theorem dX2_init_48 : decode cX2_init 48 = .ok (.putfield 27, 3) := by decide +kernel
theorem dX2_init_51 : decode cX2_init 51 = .ok (.return_, 1) := by decide +kernel
theorem dX2_knows_0 : decode cX2_knows 0 = .ok (.iload_n 1, 1) := by decide +kernel
theorem dX2_knows_1 : decode cX2_knows 1 = .ok (.ifCond .lt 16, 3) := by decide +kernel
theorem dX2_knows_4 : decode cX2_knows 4 = .ok (.iload_n 1, 1) := by decide +kernel
theorem dX2_knows_5 : decode cX2_knows 5 = .ok (.aload_n 0, 1) := by decide +kernel
theorem dX2_knows_6 : decode cX2_knows 6 = .ok (.getfield 30, 3) := by decide +kernel
theorem dX2_knows_9 : decode cX2_knows 9 = .ok (.ishr, 1) := by decide +kernel
theorem dX2_knows_10 : decode cX2_knows 10 = .ok (.ifCond .ne 7, 3) := by decide +kernel
theorem dX2_knows_13 : decode cX2_knows 13 = .ok (.iconst 1, 1) := by decide +kernel
theorem dX2_knows_14 : decode cX2_knows 14 = .ok (.goto 4, 3) := by decide +kernel
theorem dX2_knows_17 : decode cX2_knows 17 = .ok (.iconst 0, 1) := by decide +kernel
theorem dX2_knows_18 : decode cX2_knows 18 = .ok (.ireturn, 1) := by decide +kernel
theorem dX2_addStep_0 : decode cX2_addStep 0 = .ok (.aload_n 0, 1) := by decide +kernel
theorem dX2_addStep_1 : decode cX2_addStep 1 = .ok (.getfield 30, 3) := by decide +kernel
theorem dX2_addStep_4 : decode cX2_addStep 4 = .ok (.bipush 12, 2) := by decide +kernel
theorem dX2_addStep_6 : decode cX2_addStep 6 = .ok (.if_icmp .lt 5, 3) := by decide +kernel
theorem dX2_addStep_9 : decode cX2_addStep 9 = .ok (.iconst (-1), 1) := by decide +kernel
theorem dX2_addStep_10 : decode cX2_addStep 10 = .ok (.ireturn, 1) := by decide +kernel
theorem dX2_addStep_11 : decode cX2_addStep 11 = .ok (.aload_n 0, 1) := by decide +kernel
theorem dX2_addStep_12 : decode cX2_addStep 12 = .ok (.getfield 9, 3) := by decide +kernel
theorem dX2_addStep_15 : decode cX2_addStep 15 = .ok (.aload_n 0, 1) := by decide +kernel
theorem dX2_addStep_16 : decode cX2_addStep 16 = .ok (.getfield 30, 3) := by decide +kernel
theorem dX2_addStep_19 : decode cX2_addStep 19 = .ok (.iload_n 1, 1) := by decide +kernel
theorem dX2_addStep_20 : decode cX2_addStep 20 = .ok (.iastore, 1) := by decide +kernel
theorem dX2_addStep_21 : decode cX2_addStep 21 = .ok (.aload_n 0, 1) := by decide +kernel
theorem dX2_addStep_22 : decode cX2_addStep 22 = .ok (.getfield 15, 3) := by decide +kernel
theorem dX2_addStep_25 : decode cX2_addStep 25 = .ok (.aload_n 0, 1) := by decide +kernel
theorem dX2_addStep_26 : decode cX2_addStep 26 = .ok (.getfield 30, 3) := by decide +kernel
theorem dX2_addStep_29 : decode cX2_addStep 29 = .ok (.iload_n 2, 1) := by decide +kernel
theorem dX2_addStep_30 : decode cX2_addStep 30 = .ok (.iastore, 1) := by decide +kernel
theorem dX2_addStep_31 : decode cX2_addStep 31 = .ok (.aload_n 0, 1) := by decide +kernel
theorem dX2_addStep_32 : decode cX2_addStep 32 = .ok (.getfield 18, 3) := by decide +kernel
theorem dX2_addStep_35 : decode cX2_addStep 35 = .ok (.aload_n 0, 1) := by decide +kernel
theorem dX2_addStep_36 : decode cX2_addStep 36 = .ok (.getfield 30, 3) := by decide +kernel
theorem dX2_addStep_39 : decode cX2_addStep 39 = .ok (.iload_n 3, 1) := by decide +kernel
theorem dX2_addStep_40 : decode cX2_addStep 40 = .ok (.iastore, 1) := by decide +kernel
theorem dX2_addStep_41 : decode cX2_addStep 41 = .ok (.aload_n 0, 1) := by decide +kernel
theorem dX2_addStep_42 : decode cX2_addStep 42 = .ok (.getfield 21, 3) := by decide +kernel
theorem dX2_addStep_45 : decode cX2_addStep 45 = .ok (.aload_n 0, 1) := by decide +kernel
theorem dX2_addStep_46 : decode cX2_addStep 46 = .ok (.getfield 30, 3) := by decide +kernel
theorem dX2_addStep_49 : decode cX2_addStep 49 = .ok (.iload 4, 2) := by decide +kernel
theorem dX2_addStep_51 : decode cX2_addStep 51 = .ok (.iastore, 1) := by decide +kernel
theorem dX2_addStep_52 : decode cX2_addStep 52 = .ok (.aload_n 0, 1) := by decide +kernel
theorem dX2_addStep_53 : decode cX2_addStep 53 = .ok (.dup, 1) := by decide +kernel
theorem dX2_addStep_54 : decode cX2_addStep 54 = .ok (.getfield 30, 3) := by decide +kernel
theorem dX2_addStep_57 : decode cX2_addStep 57 = .ok (.iconst 1, 1) := by decide +kernel
theorem dX2_addStep_58 : decode cX2_addStep 58 = .ok (.iadd, 1) := by decide +kernel
theorem dX2_addStep_59 : decode cX2_addStep 59 = .ok (.putfield 30, 3) := by decide +kernel
theorem dX2_addStep_62 : decode cX2_addStep 62 = .ok (.aload_n 0, 1) := by decide +kernel
theorem dX2_addStep_63 : decode cX2_addStep 63 = .ok (.getfield 30, 3) := by decide +kernel
theorem dX2_addStep_66 : decode cX2_addStep 66 = .ok (.iconst 1, 1) := by decide +kernel
theorem dX2_addStep_67 : decode cX2_addStep 67 = .ok (.isub, 1) := by decide +kernel
theorem dX2_addStep_68 : decode cX2_addStep 68 = .ok (.ireturn, 1) := by decide +kernel
theorem dX2_addRight_0 : decode cX2_addRight 0 = .ok (.aload_n 0, 1) := by decide +kernel
theorem dX2_addRight_1 : decode cX2_addRight 1 = .ok (.getfield 34, 3) := by decide +kernel
theorem dX2_addRight_4 : decode cX2_addRight 4 = .ok (.bipush 6, 2) := by decide +kernel
theorem dX2_addRight_6 : decode cX2_addRight 6 = .ok (.if_icmp .lt 5, 3) := by decide +kernel
theorem dX2_addRight_9 : decode cX2_addRight 9 = .ok (.iconst (-1), 1) := by decide +kernel
theorem dX2_addRight_10 : decode cX2_addRight 10 = .ok (.ireturn, 1) := by decide +kernel
theorem dX2_addRight_11 : decode cX2_addRight 11 = .ok (.aload_n 0, 1) := by decide +kernel
theorem dX2_addRight_12 : decode cX2_addRight 12 = .ok (.getfield 27, 3) := by decide +kernel
theorem dX2_addRight_15 : decode cX2_addRight 15 = .ok (.aload_n 0, 1) := by decide +kernel
theorem dX2_addRight_16 : decode cX2_addRight 16 = .ok (.getfield 34, 3) := by decide +kernel
theorem dX2_addRight_19 : decode cX2_addRight 19 = .ok (.iload_n 1, 1) := by decide +kernel
theorem dX2_addRight_20 : decode cX2_addRight 20 = .ok (.iastore, 1) := by decide +kernel
theorem dX2_addRight_21 : decode cX2_addRight 21 = .ok (.aload_n 0, 1) := by decide +kernel
theorem dX2_addRight_22 : decode cX2_addRight 22 = .ok (.dup, 1) := by decide +kernel
theorem dX2_addRight_23 : decode cX2_addRight 23 = .ok (.getfield 34, 3) := by decide +kernel
theorem dX2_addRight_26 : decode cX2_addRight 26 = .ok (.iconst 1, 1) := by decide +kernel
theorem dX2_addRight_27 : decode cX2_addRight 27 = .ok (.iadd, 1) := by decide +kernel
theorem dX2_addRight_28 : decode cX2_addRight 28 = .ok (.putfield 34, 3) := by decide +kernel
theorem dX2_addRight_31 : decode cX2_addRight 31 = .ok (.aload_n 0, 1) := by decide +kernel
theorem dX2_addRight_32 : decode cX2_addRight 32 = .ok (.getfield 34, 3) := by decide +kernel
theorem dX2_addRight_35 : decode cX2_addRight 35 = .ok (.iconst 1, 1) := by decide +kernel
theorem dX2_addRight_36 : decode cX2_addRight 36 = .ok (.isub, 1) := by decide +kernel
theorem dX2_addRight_37 : decode cX2_addRight 37 = .ok (.ireturn, 1) := by decide +kernel
theorem dX2_needsAreDone_0 : decode cX2_needsAreDone 0 = .ok (.iload_n 2, 1) := by decide +kernel
theorem dX2_needsAreDone_1 : decode cX2_needsAreDone 1 = .ok (.ifCond .lt 9, 3) := by decide +kernel
theorem dX2_needsAreDone_4 : decode cX2_needsAreDone 4 = .ok (.iload_n 2, 1) := by decide +kernel
theorem dX2_needsAreDone_5 : decode cX2_needsAreDone 5 = .ok (.bipush 12, 2) := by decide +kernel
theorem dX2_needsAreDone_7 : decode cX2_needsAreDone 7 = .ok (.if_icmp .lt 5, 3) := by decide +kernel
theorem dX2_needsAreDone_10 : decode cX2_needsAreDone 10 = .ok (.iconst 0, 1) := by decide +kernel
theorem dX2_needsAreDone_11 : decode cX2_needsAreDone 11 = .ok (.ireturn, 1) := by decide +kernel
theorem dX2_needsAreDone_12 : decode cX2_needsAreDone 12 = .ok (.aload_n 0, 1) := by decide +kernel
theorem dX2_needsAreDone_13 : decode cX2_needsAreDone 13 = .ok (.getfield 18, 3) := by decide +kernel
theorem dX2_needsAreDone_16 : decode cX2_needsAreDone 16 = .ok (.iload_n 2, 1) := by decide +kernel
theorem dX2_needsAreDone_17 : decode cX2_needsAreDone 17 = .ok (.iaload, 1) := by decide +kernel
theorem dX2_needsAreDone_18 : decode cX2_needsAreDone 18 = .ok (.aload_n 1, 1) := by decide +kernel
theorem dX2_needsAreDone_19 : decode cX2_needsAreDone 19 = .ok (.getfield 37, 3) := by decide +kernel
theorem dX2_needsAreDone_22 : decode cX2_needsAreDone 22 = .ok (.iand, 1) := by decide +kernel
theorem dX2_needsAreDone_23 : decode cX2_needsAreDone 23 = .ok (.aload_n 1, 1) := by decide +kernel
theorem dX2_needsAreDone_24 : decode cX2_needsAreDone 24 = .ok (.iconst 2, 1) := by decide +kernel
theorem dX2_needsAreDone_25 : decode cX2_needsAreDone 25 = .ok (.invokevirtual 42, 3) := by decide +kernel
theorem dX2_needsAreDone_28 : decode cX2_needsAreDone 28 = .ok (.iconst (-1), 1) := by decide +kernel
theorem dX2_needsAreDone_29 : decode cX2_needsAreDone 29 = .ok (.ixor, 1) := by decide +kernel
theorem dX2_needsAreDone_30 : decode cX2_needsAreDone 30 = .ok (.iand, 1) := by decide +kernel
theorem dX2_needsAreDone_31 : decode cX2_needsAreDone 31 = .ok (.ifCond .ne 7, 3) := by decide +kernel
theorem dX2_needsAreDone_34 : decode cX2_needsAreDone 34 = .ok (.iconst 1, 1) := by decide +kernel
theorem dX2_needsAreDone_35 : decode cX2_needsAreDone 35 = .ok (.goto 4, 3) := by decide +kernel
theorem dX2_needsAreDone_38 : decode cX2_needsAreDone 38 = .ok (.iconst 0, 1) := by decide +kernel
theorem dX2_needsAreDone_39 : decode cX2_needsAreDone 39 = .ok (.ireturn, 1) := by decide +kernel
theorem dX2_lengthFor_0 : decode cX2_lengthFor 0 = .ok (.iload_n 2, 1) := by decide +kernel
theorem dX2_lengthFor_1 : decode cX2_lengthFor 1 = .ok (.ifCond .lt 9, 3) := by decide +kernel
theorem dX2_lengthFor_4 : decode cX2_lengthFor 4 = .ok (.iload_n 2, 1) := by decide +kernel
theorem dX2_lengthFor_5 : decode cX2_lengthFor 5 = .ok (.bipush 12, 2) := by decide +kernel
theorem dX2_lengthFor_7 : decode cX2_lengthFor 7 = .ok (.if_icmp .lt 5, 3) := by decide +kernel
theorem dX2_lengthFor_10 : decode cX2_lengthFor 10 = .ok (.iconst (-1), 1) := by decide +kernel
theorem dX2_lengthFor_11 : decode cX2_lengthFor 11 = .ok (.ireturn, 1) := by decide +kernel
theorem dX2_lengthFor_12 : decode cX2_lengthFor 12 = .ok (.aload_n 1, 1) := by decide +kernel
theorem dX2_lengthFor_13 : decode cX2_lengthFor 13 = .ok (.getfield 46, 3) := by decide +kernel
theorem dX2_lengthFor_16 : decode cX2_lengthFor 16 = .ok (.iload_n 2, 1) := by decide +kernel
theorem dX2_lengthFor_17 : decode cX2_lengthFor 17 = .ok (.iaload, 1) := by decide +kernel
theorem dX2_lengthFor_18 : decode cX2_lengthFor 18 = .ok (.ifCond .eq 10, 3) := by decide +kernel
theorem dX2_lengthFor_21 : decode cX2_lengthFor 21 = .ok (.aload_n 1, 1) := by decide +kernel
theorem dX2_lengthFor_22 : decode cX2_lengthFor 22 = .ok (.getfield 49, 3) := by decide +kernel
theorem dX2_lengthFor_25 : decode cX2_lengthFor 25 = .ok (.iload_n 2, 1) := by decide +kernel
theorem dX2_lengthFor_26 : decode cX2_lengthFor 26 = .ok (.iaload, 1) := by decide +kernel
theorem dX2_lengthFor_27 : decode cX2_lengthFor 27 = .ok (.ireturn, 1) := by decide +kernel
theorem dX2_lengthFor_28 : decode cX2_lengthFor 28 = .ok (.aload_n 0, 1) := by decide +kernel
theorem dX2_lengthFor_29 : decode cX2_lengthFor 29 = .ok (.getfield 9, 3) := by decide +kernel
theorem dX2_lengthFor_32 : decode cX2_lengthFor 32 = .ok (.iload_n 2, 1) := by decide +kernel
theorem dX2_lengthFor_33 : decode cX2_lengthFor 33 = .ok (.iaload, 1) := by decide +kernel
theorem dX2_lengthFor_34 : decode cX2_lengthFor 34 = .ok (.ifCond .eq 10, 3) := by decide +kernel
theorem dX2_lengthFor_37 : decode cX2_lengthFor 37 = .ok (.aload_n 0, 1) := by decide +kernel
theorem dX2_lengthFor_38 : decode cX2_lengthFor 38 = .ok (.getfield 15, 3) := by decide +kernel
theorem dX2_lengthFor_41 : decode cX2_lengthFor 41 = .ok (.iload_n 2, 1) := by decide +kernel
theorem dX2_lengthFor_42 : decode cX2_lengthFor 42 = .ok (.iaload, 1) := by decide +kernel
theorem dX2_lengthFor_43 : decode cX2_lengthFor 43 = .ok (.ireturn, 1) := by decide +kernel
theorem dX2_lengthFor_44 : decode cX2_lengthFor 44 = .ok (.aload_n 0, 1) := by decide +kernel
theorem dX2_lengthFor_45 : decode cX2_lengthFor 45 = .ok (.getfield 21, 3) := by decide +kernel
theorem dX2_lengthFor_48 : decode cX2_lengthFor 48 = .ok (.iload_n 2, 1) := by decide +kernel
theorem dX2_lengthFor_49 : decode cX2_lengthFor 49 = .ok (.iaload, 1) := by decide +kernel
theorem dX2_lengthFor_50 : decode cX2_lengthFor 50 = .ok (.istore_n 3, 1) := by decide +kernel
theorem dX2_lengthFor_51 : decode cX2_lengthFor 51 = .ok (.aload_n 1, 1) := by decide +kernel
theorem dX2_lengthFor_52 : decode cX2_lengthFor 52 = .ok (.iconst 2, 1) := by decide +kernel
theorem dX2_lengthFor_53 : decode cX2_lengthFor 53 = .ok (.invokevirtual 42, 3) := by decide +kernel
theorem dX2_lengthFor_56 : decode cX2_lengthFor 56 = .ok (.istore 4, 2) := by decide +kernel
theorem dX2_lengthFor_58 : decode cX2_lengthFor 58 = .ok (.iconst 0, 1) := by decide +kernel
theorem dX2_lengthFor_59 : decode cX2_lengthFor 59 = .ok (.istore 5, 2) := by decide +kernel
theorem dX2_lengthFor_61 : decode cX2_lengthFor 61 = .ok (.iload 5, 2) := by decide +kernel
theorem dX2_lengthFor_63 : decode cX2_lengthFor 63 = .ok (.bipush 12, 2) := by decide +kernel
theorem dX2_lengthFor_65 : decode cX2_lengthFor 65 = .ok (.if_icmp .ge 41, 3) := by decide +kernel
theorem dX2_lengthFor_68 : decode cX2_lengthFor 68 = .ok (.aload_n 0, 1) := by decide +kernel
theorem dX2_lengthFor_69 : decode cX2_lengthFor 69 = .ok (.getfield 9, 3) := by decide +kernel
theorem dX2_lengthFor_72 : decode cX2_lengthFor 72 = .ok (.iload 5, 2) := by decide +kernel
theorem dX2_lengthFor_74 : decode cX2_lengthFor 74 = .ok (.iaload, 1) := by decide +kernel
theorem dX2_lengthFor_75 : decode cX2_lengthFor 75 = .ok (.ifCond .ne 25, 3) := by decide +kernel
theorem dX2_lengthFor_78 : decode cX2_lengthFor 78 = .ok (.iload 4, 2) := by decide +kernel
theorem dX2_lengthFor_80 : decode cX2_lengthFor 80 = .ok (.iload 5, 2) := by decide +kernel
theorem dX2_lengthFor_82 : decode cX2_lengthFor 82 = .ok (.invokestatic 52, 3) := by decide +kernel
theorem dX2_lengthFor_85 : decode cX2_lengthFor 85 = .ok (.ifCond .eq 15, 3) := by decide +kernel
theorem dX2_lengthFor_88 : decode cX2_lengthFor 88 = .ok (.iload_n 3, 1) := by decide +kernel
theorem dX2_lengthFor_89 : decode cX2_lengthFor 89 = .ok (.aload_n 0, 1) := by decide +kernel
theorem dX2_lengthFor_90 : decode cX2_lengthFor 90 = .ok (.getfield 21, 3) := by decide +kernel
theorem dX2_lengthFor_93 : decode cX2_lengthFor 93 = .ok (.iload 5, 2) := by decide +kernel
theorem dX2_lengthFor_95 : decode cX2_lengthFor 95 = .ok (.iaload, 1) := by decide +kernel
theorem dX2_lengthFor_96 : decode cX2_lengthFor 96 = .ok (.iconst (-1), 1) := by decide +kernel
theorem dX2_lengthFor_97 : decode cX2_lengthFor 97 = .ok (.ixor, 1) := by decide +kernel
theorem dX2_lengthFor_98 : decode cX2_lengthFor 98 = .ok (.iand, 1) := by decide +kernel
theorem dX2_lengthFor_99 : decode cX2_lengthFor 99 = .ok (.istore_n 3, 1) := by decide +kernel
theorem dX2_lengthFor_100 : decode cX2_lengthFor 100 = .ok (.iinc 5 1, 3) := by decide +kernel
theorem dX2_lengthFor_103 : decode cX2_lengthFor 103 = .ok (.goto (-42), 3) := by decide +kernel
theorem dX2_lengthFor_106 : decode cX2_lengthFor 106 = .ok (.aload_n 0, 1) := by decide +kernel
theorem dX2_lengthFor_107 : decode cX2_lengthFor 107 = .ok (.getfield 15, 3) := by decide +kernel
theorem dX2_lengthFor_110 : decode cX2_lengthFor 110 = .ok (.iload_n 2, 1) := by decide +kernel
theorem dX2_lengthFor_111 : decode cX2_lengthFor 111 = .ok (.iaload, 1) := by decide +kernel
theorem dX2_lengthFor_112 : decode cX2_lengthFor 112 = .ok (.iload_n 3, 1) := by decide +kernel
theorem dX2_lengthFor_113 : decode cX2_lengthFor 113 = .ok (.invokestatic 56, 3) := by decide +kernel
theorem dX2_lengthFor_116 : decode cX2_lengthFor 116 = .ok (.iconst 1, 1) := by decide +kernel
theorem dX2_lengthFor_117 : decode cX2_lengthFor 117 = .ok (.iadd, 1) := by decide +kernel
theorem dX2_lengthFor_118 : decode cX2_lengthFor 118 = .ok (.iconst 2, 1) := by decide +kernel
theorem dX2_lengthFor_119 : decode cX2_lengthFor 119 = .ok (.idiv, 1) := by decide +kernel
theorem dX2_lengthFor_120 : decode cX2_lengthFor 120 = .ok (.iadd, 1) := by decide +kernel
theorem dX2_lengthFor_121 : decode cX2_lengthFor 121 = .ok (.ireturn, 1) := by decide +kernel
theorem dX2_rightsOf_0 : decode cX2_rightsOf 0 = .ok (.aload_n 1, 1) := by decide +kernel
theorem dX2_rightsOf_1 : decode cX2_rightsOf 1 = .ok (.iconst 2, 1) := by decide +kernel
theorem dX2_rightsOf_2 : decode cX2_rightsOf 2 = .ok (.invokevirtual 42, 3) := by decide +kernel
theorem dX2_rightsOf_5 : decode cX2_rightsOf 5 = .ok (.istore_n 2, 1) := by decide +kernel
theorem dX2_rightsOf_6 : decode cX2_rightsOf 6 = .ok (.iconst 0, 1) := by decide +kernel
theorem dX2_rightsOf_7 : decode cX2_rightsOf 7 = .ok (.istore_n 3, 1) := by decide +kernel
theorem dX2_rightsOf_8 : decode cX2_rightsOf 8 = .ok (.iconst 0, 1) := by decide +kernel
theorem dX2_rightsOf_9 : decode cX2_rightsOf 9 = .ok (.istore 4, 2) := by decide +kernel
theorem dX2_rightsOf_11 : decode cX2_rightsOf 11 = .ok (.iload 4, 2) := by decide +kernel
theorem dX2_rightsOf_13 : decode cX2_rightsOf 13 = .ok (.aload_n 0, 1) := by decide +kernel
theorem dX2_rightsOf_14 : decode cX2_rightsOf 14 = .ok (.getfield 34, 3) := by decide +kernel
theorem dX2_rightsOf_17 : decode cX2_rightsOf 17 = .ok (.if_icmp .ge 30, 3) := by decide +kernel
theorem dX2_rightsOf_20 : decode cX2_rightsOf 20 = .ok (.aload_n 0, 1) := by decide +kernel
theorem dX2_rightsOf_21 : decode cX2_rightsOf 21 = .ok (.getfield 27, 3) := by decide +kernel
theorem dX2_rightsOf_24 : decode cX2_rightsOf 24 = .ok (.iload 4, 2) := by decide +kernel
theorem dX2_rightsOf_26 : decode cX2_rightsOf 26 = .ok (.iaload, 1) := by decide +kernel
theorem dX2_rightsOf_27 : decode cX2_rightsOf 27 = .ok (.iload_n 2, 1) := by decide +kernel
theorem dX2_rightsOf_28 : decode cX2_rightsOf 28 = .ok (.iconst (-1), 1) := by decide +kernel
theorem dX2_rightsOf_29 : decode cX2_rightsOf 29 = .ok (.ixor, 1) := by decide +kernel
theorem dX2_rightsOf_30 : decode cX2_rightsOf 30 = .ok (.iand, 1) := by decide +kernel
theorem dX2_rightsOf_31 : decode cX2_rightsOf 31 = .ok (.ifCond .ne 10, 3) := by decide +kernel
theorem dX2_rightsOf_34 : decode cX2_rightsOf 34 = .ok (.iload_n 3, 1) := by decide +kernel
theorem dX2_rightsOf_35 : decode cX2_rightsOf 35 = .ok (.iconst 1, 1) := by decide +kernel
theorem dX2_rightsOf_36 : decode cX2_rightsOf 36 = .ok (.iload 4, 2) := by decide +kernel
theorem dX2_rightsOf_38 : decode cX2_rightsOf 38 = .ok (.ishl, 1) := by decide +kernel
theorem dX2_rightsOf_39 : decode cX2_rightsOf 39 = .ok (.ior, 1) := by decide +kernel
theorem dX2_rightsOf_40 : decode cX2_rightsOf 40 = .ok (.istore_n 3, 1) := by decide +kernel
theorem dX2_rightsOf_41 : decode cX2_rightsOf 41 = .ok (.iinc 4 1, 3) := by decide +kernel
theorem dX2_rightsOf_44 : decode cX2_rightsOf 44 = .ok (.goto (-33), 3) := by decide +kernel
theorem dX2_rightsOf_47 : decode cX2_rightsOf 47 = .ok (.iload_n 3, 1) := by decide +kernel
theorem dX2_rightsOf_48 : decode cX2_rightsOf 48 = .ok (.ireturn, 1) := by decide +kernel
theorem dX3_init_0 : decode cX3_init 0 = .ok (.aload_n 0, 1) := by decide +kernel
theorem dX3_init_1 : decode cX3_init 1 = .ok (.invokespecial 3, 3) := by decide +kernel
theorem dX3_init_4 : decode cX3_init 4 = .ok (.aload_n 0, 1) := by decide +kernel
theorem dX3_init_5 : decode cX3_init 5 = .ok (.iconst 4, 1) := by decide +kernel
theorem dX3_init_6 : decode cX3_init 6 = .ok (.newarray .int, 2) := by decide +kernel
theorem dX3_init_8 : decode cX3_init 8 = .ok (.putfield 9, 3) := by decide +kernel
theorem dX3_init_11 : decode cX3_init 11 = .ok (.aload_n 0, 1) := by decide +kernel
theorem dX3_init_12 : decode cX3_init 12 = .ok (.bipush 20, 2) := by decide +kernel
theorem dX3_init_14 : decode cX3_init 14 = .ok (.newarray .int, 2) := by decide +kernel
theorem dX3_init_16 : decode cX3_init 16 = .ok (.putfield 15, 3) := by decide +kernel
theorem dX3_init_19 : decode cX3_init 19 = .ok (.aload_n 0, 1) := by decide +kernel
theorem dX3_init_20 : decode cX3_init 20 = .ok (.bipush 20, 2) := by decide +kernel
theorem dX3_init_22 : decode cX3_init 22 = .ok (.newarray .int, 2) := by decide +kernel
theorem dX3_init_24 : decode cX3_init 24 = .ok (.putfield 18, 3) := by decide +kernel
theorem dX3_init_27 : decode cX3_init 27 = .ok (.aload_n 0, 1) := by decide +kernel
theorem dX3_init_28 : decode cX3_init 28 = .ok (.bipush 20, 2) := by decide +kernel
theorem dX3_init_30 : decode cX3_init 30 = .ok (.newarray .int, 2) := by decide +kernel
theorem dX3_init_32 : decode cX3_init 32 = .ok (.putfield 21, 3) := by decide +kernel
theorem dX3_init_35 : decode cX3_init 35 = .ok (.return_, 1) := by decide +kernel
theorem dX3_hasPiece_0 : decode cX3_hasPiece 0 = .ok (.iload_n 1, 1) := by decide +kernel
theorem dX3_hasPiece_1 : decode cX3_hasPiece 1 = .ok (.ifCond .lt 21, 3) := by decide +kernel
theorem dX3_hasPiece_4 : decode cX3_hasPiece 4 = .ok (.iload_n 1, 1) := by decide +kernel
theorem dX3_hasPiece_5 : decode cX3_hasPiece 5 = .ok (.iconst 4, 1) := by decide +kernel
theorem dX3_hasPiece_6 : decode cX3_hasPiece 6 = .ok (.if_icmp .ge 16, 3) := by decide +kernel
theorem dX3_hasPiece_9 : decode cX3_hasPiece 9 = .ok (.aload_n 0, 1) := by decide +kernel
theorem dX3_hasPiece_10 : decode cX3_hasPiece 10 = .ok (.getfield 9, 3) := by decide +kernel
theorem dX3_hasPiece_13 : decode cX3_hasPiece 13 = .ok (.iload_n 1, 1) := by decide +kernel
theorem dX3_hasPiece_14 : decode cX3_hasPiece 14 = .ok (.iaload, 1) := by decide +kernel
theorem dX3_hasPiece_15 : decode cX3_hasPiece 15 = .ok (.ifCond .le 7, 3) := by decide +kernel
theorem dX3_hasPiece_18 : decode cX3_hasPiece 18 = .ok (.iconst 1, 1) := by decide +kernel
theorem dX3_hasPiece_19 : decode cX3_hasPiece 19 = .ok (.goto 4, 3) := by decide +kernel
theorem dX3_hasPiece_22 : decode cX3_hasPiece 22 = .ok (.iconst 0, 1) := by decide +kernel
theorem dX3_hasPiece_23 : decode cX3_hasPiece 23 = .ok (.ireturn, 1) := by decide +kernel
theorem dX3_putIn_0 : decode cX3_putIn 0 = .ok (.iload_n 1, 1) := by decide +kernel
theorem dX3_putIn_1 : decode cX3_putIn 1 = .ok (.ifCond .lt 18, 3) := by decide +kernel
theorem dX3_putIn_4 : decode cX3_putIn 4 = .ok (.iload_n 1, 1) := by decide +kernel
theorem dX3_putIn_5 : decode cX3_putIn 5 = .ok (.iconst 4, 1) := by decide +kernel
theorem dX3_putIn_6 : decode cX3_putIn 6 = .ok (.if_icmp .ge 13, 3) := by decide +kernel
theorem dX3_putIn_9 : decode cX3_putIn 9 = .ok (.aload_n 0, 1) := by decide +kernel
theorem dX3_putIn_10 : decode cX3_putIn 10 = .ok (.getfield 9, 3) := by decide +kernel
theorem dX3_putIn_13 : decode cX3_putIn 13 = .ok (.iload_n 1, 1) := by decide +kernel
theorem dX3_putIn_14 : decode cX3_putIn 14 = .ok (.dup2, 1) := by decide +kernel
theorem dX3_putIn_15 : decode cX3_putIn 15 = .ok (.iaload, 1) := by decide +kernel
theorem dX3_putIn_16 : decode cX3_putIn 16 = .ok (.iload_n 2, 1) := by decide +kernel
theorem dX3_putIn_17 : decode cX3_putIn 17 = .ok (.iadd, 1) := by decide +kernel
theorem dX3_putIn_18 : decode cX3_putIn 18 = .ok (.iastore, 1) := by decide +kernel
theorem dX3_putIn_19 : decode cX3_putIn 19 = .ok (.return_, 1) := by decide +kernel
theorem dX3_takeOne_0 : decode cX3_takeOne 0 = .ok (.aload_n 0, 1) := by decide +kernel
theorem dX3_takeOne_1 : decode cX3_takeOne 1 = .ok (.iload_n 1, 1) := by decide +kernel
theorem dX3_takeOne_2 : decode cX3_takeOne 2 = .ok (.invokevirtual 24, 3) := by decide +kernel
theorem dX3_takeOne_5 : decode cX3_takeOne 5 = .ok (.ifCond .eq 13, 3) := by decide +kernel
theorem dX3_takeOne_8 : decode cX3_takeOne 8 = .ok (.aload_n 0, 1) := by decide +kernel
theorem dX3_takeOne_9 : decode cX3_takeOne 9 = .ok (.getfield 9, 3) := by decide +kernel
theorem dX3_takeOne_12 : decode cX3_takeOne 12 = .ok (.iload_n 1, 1) := by decide +kernel
theorem dX3_takeOne_13 : decode cX3_takeOne 13 = .ok (.dup2, 1) := by decide +kernel
theorem dX3_takeOne_14 : decode cX3_takeOne 14 = .ok (.iaload, 1) := by decide +kernel
theorem dX3_takeOne_15 : decode cX3_takeOne 15 = .ok (.iconst 1, 1) := by decide +kernel
theorem dX3_takeOne_16 : decode cX3_takeOne 16 = .ok (.isub, 1) := by decide +kernel
theorem dX3_takeOne_17 : decode cX3_takeOne 17 = .ok (.iastore, 1) := by decide +kernel
theorem dX3_takeOne_18 : decode cX3_takeOne 18 = .ok (.return_, 1) := by decide +kernel
theorem dX3_addOrder_0 : decode cX3_addOrder 0 = .ok (.aload_n 0, 1) := by decide +kernel
theorem dX3_addOrder_1 : decode cX3_addOrder 1 = .ok (.getfield 28, 3) := by decide +kernel
theorem dX3_addOrder_4 : decode cX3_addOrder 4 = .ok (.bipush 20, 2) := by decide +kernel
theorem dX3_addOrder_6 : decode cX3_addOrder 6 = .ok (.if_icmp .lt 5, 3) := by decide +kernel
theorem dX3_addOrder_9 : decode cX3_addOrder 9 = .ok (.iconst (-1), 1) := by decide +kernel
theorem dX3_addOrder_10 : decode cX3_addOrder 10 = .ok (.ireturn, 1) := by decide +kernel
theorem dX3_addOrder_11 : decode cX3_addOrder 11 = .ok (.aload_n 0, 1) := by decide +kernel
theorem dX3_addOrder_12 : decode cX3_addOrder 12 = .ok (.getfield 15, 3) := by decide +kernel
theorem dX3_addOrder_15 : decode cX3_addOrder 15 = .ok (.aload_n 0, 1) := by decide +kernel
theorem dX3_addOrder_16 : decode cX3_addOrder 16 = .ok (.getfield 28, 3) := by decide +kernel
theorem dX3_addOrder_19 : decode cX3_addOrder 19 = .ok (.iload_n 1, 1) := by decide +kernel
theorem dX3_addOrder_20 : decode cX3_addOrder 20 = .ok (.iastore, 1) := by decide +kernel
theorem dX3_addOrder_21 : decode cX3_addOrder 21 = .ok (.aload_n 0, 1) := by decide +kernel
theorem dX3_addOrder_22 : decode cX3_addOrder 22 = .ok (.getfield 18, 3) := by decide +kernel
theorem dX3_addOrder_25 : decode cX3_addOrder 25 = .ok (.aload_n 0, 1) := by decide +kernel
theorem dX3_addOrder_26 : decode cX3_addOrder 26 = .ok (.getfield 28, 3) := by decide +kernel
theorem dX3_addOrder_29 : decode cX3_addOrder 29 = .ok (.iload_n 2, 1) := by decide +kernel
theorem dX3_addOrder_30 : decode cX3_addOrder 30 = .ok (.iastore, 1) := by decide +kernel
theorem dX3_addOrder_31 : decode cX3_addOrder 31 = .ok (.aload_n 0, 1) := by decide +kernel
theorem dX3_addOrder_32 : decode cX3_addOrder 32 = .ok (.getfield 21, 3) := by decide +kernel
theorem dX3_addOrder_35 : decode cX3_addOrder 35 = .ok (.aload_n 0, 1) := by decide +kernel
theorem dX3_addOrder_36 : decode cX3_addOrder 36 = .ok (.getfield 28, 3) := by decide +kernel
theorem dX3_addOrder_39 : decode cX3_addOrder 39 = .ok (.iload_n 3, 1) := by decide +kernel
theorem dX3_addOrder_40 : decode cX3_addOrder 40 = .ok (.iastore, 1) := by decide +kernel
theorem dX3_addOrder_41 : decode cX3_addOrder 41 = .ok (.aload_n 0, 1) := by decide +kernel
theorem dX3_addOrder_42 : decode cX3_addOrder 42 = .ok (.dup, 1) := by decide +kernel
theorem dX3_addOrder_43 : decode cX3_addOrder 43 = .ok (.getfield 28, 3) := by decide +kernel
theorem dX3_addOrder_46 : decode cX3_addOrder 46 = .ok (.iconst 1, 1) := by decide +kernel
theorem dX3_addOrder_47 : decode cX3_addOrder 47 = .ok (.iadd, 1) := by decide +kernel
theorem dX3_addOrder_48 : decode cX3_addOrder 48 = .ok (.putfield 28, 3) := by decide +kernel
theorem dX3_addOrder_51 : decode cX3_addOrder 51 = .ok (.aload_n 0, 1) := by decide +kernel
theorem dX3_addOrder_52 : decode cX3_addOrder 52 = .ok (.getfield 28, 3) := by decide +kernel
theorem dX3_addOrder_55 : decode cX3_addOrder 55 = .ok (.iconst 1, 1) := by decide +kernel
theorem dX3_addOrder_56 : decode cX3_addOrder 56 = .ok (.isub, 1) := by decide +kernel
theorem dX3_addOrder_57 : decode cX3_addOrder 57 = .ok (.ireturn, 1) := by decide +kernel
theorem dX3_receive_0 : decode cX3_receive 0 = .ok (.iconst 0, 1) := by decide +kernel
theorem dX3_receive_1 : decode cX3_receive 1 = .ok (.istore_n 2, 1) := by decide +kernel
theorem dX3_receive_2 : decode cX3_receive 2 = .ok (.iload_n 2, 1) := by decide +kernel
theorem dX3_receive_3 : decode cX3_receive 3 = .ok (.aload_n 0, 1) := by decide +kernel
theorem dX3_receive_4 : decode cX3_receive 4 = .ok (.getfield 28, 3) := by decide +kernel
theorem dX3_receive_7 : decode cX3_receive 7 = .ok (.if_icmp .ge 35, 3) := by decide +kernel
theorem dX3_receive_10 : decode cX3_receive 10 = .ok (.aload_n 0, 1) := by decide +kernel
theorem dX3_receive_11 : decode cX3_receive 11 = .ok (.getfield 21, 3) := by decide +kernel
theorem dX3_receive_14 : decode cX3_receive 14 = .ok (.iload_n 2, 1) := by decide +kernel
theorem dX3_receive_15 : decode cX3_receive 15 = .ok (.iaload, 1) := by decide +kernel
theorem dX3_receive_16 : decode cX3_receive 16 = .ok (.iload_n 1, 1) := by decide +kernel
theorem dX3_receive_17 : decode cX3_receive 17 = .ok (.if_icmp .ne 19, 3) := by decide +kernel
theorem dX3_receive_20 : decode cX3_receive 20 = .ok (.aload_n 0, 1) := by decide +kernel
theorem dX3_receive_21 : decode cX3_receive 21 = .ok (.aload_n 0, 1) := by decide +kernel
theorem dX3_receive_22 : decode cX3_receive 22 = .ok (.getfield 15, 3) := by decide +kernel
theorem dX3_receive_25 : decode cX3_receive 25 = .ok (.iload_n 2, 1) := by decide +kernel
theorem dX3_receive_26 : decode cX3_receive 26 = .ok (.iaload, 1) := by decide +kernel
theorem dX3_receive_27 : decode cX3_receive 27 = .ok (.aload_n 0, 1) := by decide +kernel
theorem dX3_receive_28 : decode cX3_receive 28 = .ok (.getfield 18, 3) := by decide +kernel
theorem dX3_receive_31 : decode cX3_receive 31 = .ok (.iload_n 2, 1) := by decide +kernel
theorem dX3_receive_32 : decode cX3_receive 32 = .ok (.iaload, 1) := by decide +kernel
theorem dX3_receive_33 : decode cX3_receive 33 = .ok (.invokevirtual 32, 3) := by decide +kernel
theorem dX3_receive_36 : decode cX3_receive 36 = .ok (.iinc 2 1, 3) := by decide +kernel
theorem dX3_receive_39 : decode cX3_receive 39 = .ok (.goto (-37), 3) := by decide +kernel
theorem dX3_receive_42 : decode cX3_receive 42 = .ok (.return_, 1) := by decide +kernel
theorem dX3_piecesToCome_0 : decode cX3_piecesToCome 0 = .ok (.iconst 0, 1) := by decide +kernel
theorem dX3_piecesToCome_1 : decode cX3_piecesToCome 1 = .ok (.istore_n 3, 1) := by decide +kernel
theorem dX3_piecesToCome_2 : decode cX3_piecesToCome 2 = .ok (.iconst 0, 1) := by decide +kernel
theorem dX3_piecesToCome_3 : decode cX3_piecesToCome 3 = .ok (.istore 4, 2) := by decide +kernel
theorem dX3_piecesToCome_5 : decode cX3_piecesToCome 5 = .ok (.iload 4, 2) := by decide +kernel
theorem dX3_piecesToCome_7 : decode cX3_piecesToCome 7 = .ok (.aload_n 0, 1) := by decide +kernel
theorem dX3_piecesToCome_8 : decode cX3_piecesToCome 8 = .ok (.getfield 28, 3) := by decide +kernel
theorem dX3_piecesToCome_11 : decode cX3_piecesToCome 11 = .ok (.if_icmp .ge 41, 3) := by decide +kernel
theorem dX3_piecesToCome_14 : decode cX3_piecesToCome 14 = .ok (.aload_n 0, 1) := by decide +kernel
theorem dX3_piecesToCome_15 : decode cX3_piecesToCome 15 = .ok (.getfield 15, 3) := by decide +kernel
theorem dX3_piecesToCome_18 : decode cX3_piecesToCome 18 = .ok (.iload 4, 2) := by decide +kernel
theorem dX3_piecesToCome_20 : decode cX3_piecesToCome 20 = .ok (.iaload, 1) := by decide +kernel
theorem dX3_piecesToCome_21 : decode cX3_piecesToCome 21 = .ok (.iload_n 1, 1) := by decide +kernel
theorem dX3_piecesToCome_22 : decode cX3_piecesToCome 22 = .ok (.if_icmp .ne 24, 3) := by decide +kernel
theorem dX3_piecesToCome_25 : decode cX3_piecesToCome 25 = .ok (.aload_n 0, 1) := by decide +kernel
theorem dX3_piecesToCome_26 : decode cX3_piecesToCome 26 = .ok (.getfield 21, 3) := by decide +kernel
theorem dX3_piecesToCome_29 : decode cX3_piecesToCome 29 = .ok (.iload 4, 2) := by decide +kernel
theorem dX3_piecesToCome_31 : decode cX3_piecesToCome 31 = .ok (.iaload, 1) := by decide +kernel
theorem dX3_piecesToCome_32 : decode cX3_piecesToCome 32 = .ok (.iload_n 2, 1) := by decide +kernel
theorem dX3_piecesToCome_33 : decode cX3_piecesToCome 33 = .ok (.if_icmp .le 13, 3) := by decide +kernel
theorem dX3_piecesToCome_36 : decode cX3_piecesToCome 36 = .ok (.iload_n 3, 1) := by decide +kernel
theorem dX3_piecesToCome_37 : decode cX3_piecesToCome 37 = .ok (.aload_n 0, 1) := by decide +kernel
theorem dX3_piecesToCome_38 : decode cX3_piecesToCome 38 = .ok (.getfield 18, 3) := by decide +kernel
theorem dX3_piecesToCome_41 : decode cX3_piecesToCome 41 = .ok (.iload 4, 2) := by decide +kernel
theorem dX3_piecesToCome_43 : decode cX3_piecesToCome 43 = .ok (.iaload, 1) := by decide +kernel
theorem dX3_piecesToCome_44 : decode cX3_piecesToCome 44 = .ok (.iadd, 1) := by decide +kernel
theorem dX3_piecesToCome_45 : decode cX3_piecesToCome 45 = .ok (.istore_n 3, 1) := by decide +kernel
theorem dX3_piecesToCome_46 : decode cX3_piecesToCome 46 = .ok (.iinc 4 1, 3) := by decide +kernel
theorem dX3_piecesToCome_49 : decode cX3_piecesToCome 49 = .ok (.goto (-44), 3) := by decide +kernel
theorem dX3_piecesToCome_52 : decode cX3_piecesToCome 52 = .ok (.iload_n 3, 1) := by decide +kernel
theorem dX3_piecesToCome_53 : decode cX3_piecesToCome 53 = .ok (.ireturn, 1) := by decide +kernel
theorem dX3_earliestToCome_0 : decode cX3_earliestToCome 0 = .ok (.iconst (-1), 1) := by decide +kernel
theorem dX3_earliestToCome_1 : decode cX3_earliestToCome 1 = .ok (.istore 5, 2) := by decide +kernel
theorem dX3_earliestToCome_3 : decode cX3_earliestToCome 3 = .ok (.iconst 0, 1) := by decide +kernel
theorem dX3_earliestToCome_4 : decode cX3_earliestToCome 4 = .ok (.istore 6, 2) := by decide +kernel
theorem dX3_earliestToCome_6 : decode cX3_earliestToCome 6 = .ok (.iload 6, 2) := by decide +kernel
theorem dX3_earliestToCome_8 : decode cX3_earliestToCome 8 = .ok (.aload_n 0, 1) := by decide +kernel
theorem dX3_earliestToCome_9 : decode cX3_earliestToCome 9 = .ok (.getfield 28, 3) := by decide +kernel
theorem dX3_earliestToCome_12 : decode cX3_earliestToCome 12 = .ok (.if_icmp .ge 79, 3) := by decide +kernel
theorem dX3_earliestToCome_15 : decode cX3_earliestToCome 15 = .ok (.aload_n 0, 1) := by decide +kernel
theorem dX3_earliestToCome_16 : decode cX3_earliestToCome 16 = .ok (.getfield 15, 3) := by decide +kernel
theorem dX3_earliestToCome_19 : decode cX3_earliestToCome 19 = .ok (.iload 6, 2) := by decide +kernel
theorem dX3_earliestToCome_21 : decode cX3_earliestToCome 21 = .ok (.iaload, 1) := by decide +kernel
theorem dX3_earliestToCome_22 : decode cX3_earliestToCome 22 = .ok (.iload_n 1, 1) := by decide +kernel
theorem dX3_earliestToCome_23 : decode cX3_earliestToCome 23 = .ok (.if_icmp .ne 62, 3) := by decide +kernel
theorem dX3_earliestToCome_26 : decode cX3_earliestToCome 26 = .ok (.aload_n 0, 1) := by decide +kernel
theorem dX3_earliestToCome_27 : decode cX3_earliestToCome 27 = .ok (.getfield 21, 3) := by decide +kernel
theorem dX3_earliestToCome_30 : decode cX3_earliestToCome 30 = .ok (.iload 6, 2) := by decide +kernel
theorem dX3_earliestToCome_32 : decode cX3_earliestToCome 32 = .ok (.iaload, 1) := by decide +kernel
theorem dX3_earliestToCome_33 : decode cX3_earliestToCome 33 = .ok (.iload_n 2, 1) := by decide +kernel
theorem dX3_earliestToCome_34 : decode cX3_earliestToCome 34 = .ok (.if_icmp .le 51, 3) := by decide +kernel
theorem dX3_earliestToCome_37 : decode cX3_earliestToCome 37 = .ok (.iload 6, 2) := by decide +kernel
theorem dX3_earliestToCome_39 : decode cX3_earliestToCome 39 = .ok (.iload_n 3, 1) := by decide +kernel
theorem dX3_earliestToCome_40 : decode cX3_earliestToCome 40 = .ok (.if_icmp .ne 16, 3) := by decide +kernel
theorem dX3_earliestToCome_43 : decode cX3_earliestToCome 43 = .ok (.aload_n 0, 1) := by decide +kernel
theorem dX3_earliestToCome_44 : decode cX3_earliestToCome 44 = .ok (.getfield 21, 3) := by decide +kernel
theorem dX3_earliestToCome_47 : decode cX3_earliestToCome 47 = .ok (.iload 6, 2) := by decide +kernel
theorem dX3_earliestToCome_49 : decode cX3_earliestToCome 49 = .ok (.iaload, 1) := by decide +kernel
theorem dX3_earliestToCome_50 : decode cX3_earliestToCome 50 = .ok (.iload 4, 2) := by decide +kernel
theorem dX3_earliestToCome_52 : decode cX3_earliestToCome 52 = .ok (.iadd, 1) := by decide +kernel
theorem dX3_earliestToCome_53 : decode cX3_earliestToCome 53 = .ok (.goto 10, 3) := by decide +kernel
theorem dX3_earliestToCome_56 : decode cX3_earliestToCome 56 = .ok (.aload_n 0, 1) := by decide +kernel
theorem dX3_earliestToCome_57 : decode cX3_earliestToCome 57 = .ok (.getfield 21, 3) := by decide +kernel
theorem dX3_earliestToCome_60 : decode cX3_earliestToCome 60 = .ok (.iload 6, 2) := by decide +kernel
theorem dX3_earliestToCome_62 : decode cX3_earliestToCome 62 = .ok (.iaload, 1) := by decide +kernel
theorem dX3_earliestToCome_63 : decode cX3_earliestToCome 63 = .ok (.istore 7, 2) := by decide +kernel
theorem dX3_earliestToCome_65 : decode cX3_earliestToCome 65 = .ok (.iload 5, 2) := by decide +kernel
theorem dX3_earliestToCome_67 : decode cX3_earliestToCome 67 = .ok (.iconst (-1), 1) := by decide +kernel
theorem dX3_earliestToCome_68 : decode cX3_earliestToCome 68 = .ok (.if_icmp .ne 8, 3) := by decide +kernel
theorem dX3_earliestToCome_71 : decode cX3_earliestToCome 71 = .ok (.iload 7, 2) := by decide +kernel
theorem dX3_earliestToCome_73 : decode cX3_earliestToCome 73 = .ok (.goto 10, 3) := by decide +kernel
theorem dX3_earliestToCome_76 : decode cX3_earliestToCome 76 = .ok (.iload 5, 2) := by decide +kernel
theorem dX3_earliestToCome_78 : decode cX3_earliestToCome 78 = .ok (.iload 7, 2) := by decide +kernel
theorem dX3_earliestToCome_80 : decode cX3_earliestToCome 80 = .ok (.invokestatic 36, 3) := by decide +kernel
theorem dX3_earliestToCome_83 : decode cX3_earliestToCome 83 = .ok (.istore 5, 2) := by decide +kernel
theorem dX3_earliestToCome_85 : decode cX3_earliestToCome 85 = .ok (.iinc 6 1, 3) := by decide +kernel
theorem dX3_earliestToCome_88 : decode cX3_earliestToCome 88 = .ok (.goto (-82), 3) := by decide +kernel
theorem dX3_earliestToCome_91 : decode cX3_earliestToCome 91 = .ok (.iload 5, 2) := by decide +kernel
theorem dX3_earliestToCome_93 : decode cX3_earliestToCome 93 = .ok (.ireturn, 1) := by decide +kernel
theorem dX4_init_0 : decode cX4_init 0 = .ok (.aload_n 0, 1) := by decide +kernel
theorem dX4_init_1 : decode cX4_init 1 = .ok (.invokespecial 3, 3) := by decide +kernel
theorem dX4_init_4 : decode cX4_init 4 = .ok (.aload_n 0, 1) := by decide +kernel
theorem dX4_init_5 : decode cX4_init 5 = .ok (.bipush 20, 2) := by decide +kernel
theorem dX4_init_7 : decode cX4_init 7 = .ok (.newarray .int, 2) := by decide +kernel
theorem dX4_init_9 : decode cX4_init 9 = .ok (.putfield 9, 3) := by decide +kernel
theorem dX4_init_12 : decode cX4_init 12 = .ok (.aload_n 0, 1) := by decide +kernel
theorem dX4_init_13 : decode cX4_init 13 = .ok (.bipush 20, 2) := by decide +kernel
theorem dX4_init_15 : decode cX4_init 15 = .ok (.newarray .int, 2) := by decide +kernel
theorem dX4_init_17 : decode cX4_init 17 = .ok (.putfield 15, 3) := by decide +kernel
theorem dX4_init_20 : decode cX4_init 20 = .ok (.aload_n 0, 1) := by decide +kernel
theorem dX4_init_21 : decode cX4_init 21 = .ok (.bipush 20, 2) := by decide +kernel
theorem dX4_init_23 : decode cX4_init 23 = .ok (.newarray .int, 2) := by decide +kernel
theorem dX4_init_25 : decode cX4_init 25 = .ok (.putfield 18, 3) := by decide +kernel
theorem dX4_init_28 : decode cX4_init 28 = .ok (.aload_n 0, 1) := by decide +kernel
end
section
theorem dX4_init_29 : decode cX4_init 29 = .ok (.bipush 20, 2) := by decide +kernel
theorem dX4_init_31 : decode cX4_init 31 = .ok (.newarray .int, 2) := by decide +kernel
theorem dX4_init_33 : decode cX4_init 33 = .ok (.putfield 21, 3) := by decide +kernel
theorem dX4_init_36 : decode cX4_init 36 = .ok (.return_, 1) := by decide +kernel
theorem dX4_addSession_0 : decode cX4_addSession 0 = .ok (.aload_n 0, 1) := by decide +kernel
theorem dX4_addSession_1 : decode cX4_addSession 1 = .ok (.getfield 24, 3) := by decide +kernel
theorem dX4_addSession_4 : decode cX4_addSession 4 = .ok (.bipush 20, 2) := by decide +kernel
theorem dX4_addSession_6 : decode cX4_addSession 6 = .ok (.if_icmp .lt 5, 3) := by decide +kernel
theorem dX4_addSession_9 : decode cX4_addSession 9 = .ok (.iconst (-1), 1) := by decide +kernel
theorem dX4_addSession_10 : decode cX4_addSession 10 = .ok (.ireturn, 1) := by decide +kernel
theorem dX4_addSession_11 : decode cX4_addSession 11 = .ok (.aload_n 0, 1) := by decide +kernel
theorem dX4_addSession_12 : decode cX4_addSession 12 = .ok (.getfield 9, 3) := by decide +kernel
theorem dX4_addSession_15 : decode cX4_addSession 15 = .ok (.aload_n 0, 1) := by decide +kernel
theorem dX4_addSession_16 : decode cX4_addSession 16 = .ok (.getfield 24, 3) := by decide +kernel
theorem dX4_addSession_19 : decode cX4_addSession 19 = .ok (.iload_n 1, 1) := by decide +kernel
theorem dX4_addSession_20 : decode cX4_addSession 20 = .ok (.iastore, 1) := by decide +kernel
theorem dX4_addSession_21 : decode cX4_addSession 21 = .ok (.aload_n 0, 1) := by decide +kernel
theorem dX4_addSession_22 : decode cX4_addSession 22 = .ok (.getfield 15, 3) := by decide +kernel
theorem dX4_addSession_25 : decode cX4_addSession 25 = .ok (.aload_n 0, 1) := by decide +kernel
theorem dX4_addSession_26 : decode cX4_addSession 26 = .ok (.getfield 24, 3) := by decide +kernel
theorem dX4_addSession_29 : decode cX4_addSession 29 = .ok (.iload_n 2, 1) := by decide +kernel
theorem dX4_addSession_30 : decode cX4_addSession 30 = .ok (.iastore, 1) := by decide +kernel
theorem dX4_addSession_31 : decode cX4_addSession 31 = .ok (.aload_n 0, 1) := by decide +kernel
theorem dX4_addSession_32 : decode cX4_addSession 32 = .ok (.getfield 18, 3) := by decide +kernel
theorem dX4_addSession_35 : decode cX4_addSession 35 = .ok (.aload_n 0, 1) := by decide +kernel
theorem dX4_addSession_36 : decode cX4_addSession 36 = .ok (.getfield 24, 3) := by decide +kernel
theorem dX4_addSession_39 : decode cX4_addSession 39 = .ok (.iload_n 3, 1) := by decide +kernel
theorem dX4_addSession_40 : decode cX4_addSession 40 = .ok (.iastore, 1) := by decide +kernel
theorem dX4_addSession_41 : decode cX4_addSession 41 = .ok (.aload_n 0, 1) := by decide +kernel
theorem dX4_addSession_42 : decode cX4_addSession 42 = .ok (.dup, 1) := by decide +kernel
theorem dX4_addSession_43 : decode cX4_addSession 43 = .ok (.getfield 24, 3) := by decide +kernel
theorem dX4_addSession_46 : decode cX4_addSession 46 = .ok (.iconst 1, 1) := by decide +kernel
theorem dX4_addSession_47 : decode cX4_addSession 47 = .ok (.iadd, 1) := by decide +kernel
theorem dX4_addSession_48 : decode cX4_addSession 48 = .ok (.putfield 24, 3) := by decide +kernel
theorem dX4_addSession_51 : decode cX4_addSession 51 = .ok (.aload_n 0, 1) := by decide +kernel
theorem dX4_addSession_52 : decode cX4_addSession 52 = .ok (.getfield 24, 3) := by decide +kernel
theorem dX4_addSession_55 : decode cX4_addSession 55 = .ok (.iconst 1, 1) := by decide +kernel
theorem dX4_addSession_56 : decode cX4_addSession 56 = .ok (.isub, 1) := by decide +kernel
theorem dX4_addSession_57 : decode cX4_addSession 57 = .ok (.ireturn, 1) := by decide +kernel
theorem dX4_dayOf_0 : decode cX4_dayOf 0 = .ok (.iload_n 1, 1) := by decide +kernel
theorem dX4_dayOf_1 : decode cX4_dayOf 1 = .ok (.ifCond .lt 11, 3) := by decide +kernel
theorem dX4_dayOf_4 : decode cX4_dayOf 4 = .ok (.iload_n 1, 1) := by decide +kernel
theorem dX4_dayOf_5 : decode cX4_dayOf 5 = .ok (.aload_n 0, 1) := by decide +kernel
theorem dX4_dayOf_6 : decode cX4_dayOf 6 = .ok (.getfield 24, 3) := by decide +kernel
theorem dX4_dayOf_9 : decode cX4_dayOf 9 = .ok (.if_icmp .lt 7, 3) := by decide +kernel
theorem dX4_dayOf_12 : decode cX4_dayOf 12 = .ok (.iconst (-1), 1) := by decide +kernel
theorem dX4_dayOf_13 : decode cX4_dayOf 13 = .ok (.goto 9, 3) := by decide +kernel
theorem dX4_dayOf_16 : decode cX4_dayOf 16 = .ok (.aload_n 0, 1) := by decide +kernel
theorem dX4_dayOf_17 : decode cX4_dayOf 17 = .ok (.getfield 15, 3) := by decide +kernel
theorem dX4_dayOf_20 : decode cX4_dayOf 20 = .ok (.iload_n 1, 1) := by decide +kernel
theorem dX4_dayOf_21 : decode cX4_dayOf 21 = .ok (.iaload, 1) := by decide +kernel
theorem dX4_dayOf_22 : decode cX4_dayOf 22 = .ok (.ireturn, 1) := by decide +kernel
theorem dX4_book_0 : decode cX4_book 0 = .ok (.iload_n 2, 1) := by decide +kernel
theorem dX4_book_1 : decode cX4_book 1 = .ok (.iconst (-1), 1) := by decide +kernel
theorem dX4_book_2 : decode cX4_book 2 = .ok (.if_icmp .ne 5, 3) := by decide +kernel
theorem dX4_book_5 : decode cX4_book 5 = .ok (.iconst (-1), 1) := by decide +kernel
theorem dX4_book_6 : decode cX4_book 6 = .ok (.ireturn, 1) := by decide +kernel
theorem dX4_book_7 : decode cX4_book 7 = .ok (.iconst (-1), 1) := by decide +kernel
theorem dX4_book_8 : decode cX4_book 8 = .ok (.istore_n 3, 1) := by decide +kernel
theorem dX4_book_9 : decode cX4_book 9 = .ok (.iconst 0, 1) := by decide +kernel
theorem dX4_book_10 : decode cX4_book 10 = .ok (.istore 4, 2) := by decide +kernel
theorem dX4_book_12 : decode cX4_book 12 = .ok (.iload 4, 2) := by decide +kernel
theorem dX4_book_14 : decode cX4_book 14 = .ok (.aload_n 0, 1) := by decide +kernel
theorem dX4_book_15 : decode cX4_book 15 = .ok (.getfield 24, 3) := by decide +kernel
theorem dX4_book_18 : decode cX4_book 18 = .ok (.if_icmp .ge 83, 3) := by decide +kernel
theorem dX4_book_21 : decode cX4_book 21 = .ok (.aload_n 0, 1) := by decide +kernel
theorem dX4_book_22 : decode cX4_book 22 = .ok (.getfield 9, 3) := by decide +kernel
theorem dX4_book_25 : decode cX4_book 25 = .ok (.iload 4, 2) := by decide +kernel
theorem dX4_book_27 : decode cX4_book 27 = .ok (.iaload, 1) := by decide +kernel
theorem dX4_book_28 : decode cX4_book 28 = .ok (.iload_n 1, 1) := by decide +kernel
theorem dX4_book_29 : decode cX4_book 29 = .ok (.if_icmp .ne 35, 3) := by decide +kernel
theorem dX4_book_32 : decode cX4_book 32 = .ok (.aload_n 0, 1) := by decide +kernel
theorem dX4_book_33 : decode cX4_book 33 = .ok (.getfield 21, 3) := by decide +kernel
theorem dX4_book_36 : decode cX4_book 36 = .ok (.iload 4, 2) := by decide +kernel
theorem dX4_book_38 : decode cX4_book 38 = .ok (.iaload, 1) := by decide +kernel
theorem dX4_book_39 : decode cX4_book 39 = .ok (.aload_n 0, 1) := by decide +kernel
theorem dX4_book_40 : decode cX4_book 40 = .ok (.getfield 18, 3) := by decide +kernel
theorem dX4_book_43 : decode cX4_book 43 = .ok (.iload 4, 2) := by decide +kernel
theorem dX4_book_45 : decode cX4_book 45 = .ok (.iaload, 1) := by decide +kernel
theorem dX4_book_46 : decode cX4_book 46 = .ok (.if_icmp .ge 18, 3) := by decide +kernel
theorem dX4_book_49 : decode cX4_book 49 = .ok (.aload_n 0, 1) := by decide +kernel
theorem dX4_book_50 : decode cX4_book 50 = .ok (.getfield 15, 3) := by decide +kernel
theorem dX4_book_53 : decode cX4_book 53 = .ok (.iload 4, 2) := by decide +kernel
theorem dX4_book_55 : decode cX4_book 55 = .ok (.iaload, 1) := by decide +kernel
theorem dX4_book_56 : decode cX4_book 56 = .ok (.iload_n 2, 1) := by decide +kernel
theorem dX4_book_57 : decode cX4_book 57 = .ok (.if_icmp .lt 7, 3) := by decide +kernel
theorem dX4_book_60 : decode cX4_book 60 = .ok (.iconst 1, 1) := by decide +kernel
theorem dX4_book_61 : decode cX4_book 61 = .ok (.goto 4, 3) := by decide +kernel
theorem dX4_book_64 : decode cX4_book 64 = .ok (.iconst 0, 1) := by decide +kernel
theorem dX4_book_65 : decode cX4_book 65 = .ok (.istore 5, 2) := by decide +kernel
theorem dX4_book_67 : decode cX4_book 67 = .ok (.iload 5, 2) := by decide +kernel
theorem dX4_book_69 : decode cX4_book 69 = .ok (.ifCond .eq 26, 3) := by decide +kernel
theorem dX4_book_72 : decode cX4_book 72 = .ok (.iload_n 3, 1) := by decide +kernel
theorem dX4_book_73 : decode cX4_book 73 = .ok (.iconst (-1), 1) := by decide +kernel
theorem dX4_book_74 : decode cX4_book 74 = .ok (.if_icmp .eq 18, 3) := by decide +kernel
theorem dX4_book_77 : decode cX4_book 77 = .ok (.aload_n 0, 1) := by decide +kernel
theorem dX4_book_78 : decode cX4_book 78 = .ok (.getfield 15, 3) := by decide +kernel
theorem dX4_book_81 : decode cX4_book 81 = .ok (.iload 4, 2) := by decide +kernel
theorem dX4_book_83 : decode cX4_book 83 = .ok (.iaload, 1) := by decide +kernel
theorem dX4_book_84 : decode cX4_book 84 = .ok (.aload_n 0, 1) := by decide +kernel
theorem dX4_book_85 : decode cX4_book 85 = .ok (.iload_n 3, 1) := by decide +kernel
theorem dX4_book_86 : decode cX4_book 86 = .ok (.invokevirtual 28, 3) := by decide +kernel
theorem dX4_book_89 : decode cX4_book 89 = .ok (.if_icmp .ge 6, 3) := by decide +kernel
theorem dX4_book_92 : decode cX4_book 92 = .ok (.iload 4, 2) := by decide +kernel
theorem dX4_book_94 : decode cX4_book 94 = .ok (.istore_n 3, 1) := by decide +kernel
theorem dX4_book_95 : decode cX4_book 95 = .ok (.iinc 4 1, 3) := by decide +kernel
theorem dX4_book_98 : decode cX4_book 98 = .ok (.goto (-86), 3) := by decide +kernel
theorem dX4_book_101 : decode cX4_book 101 = .ok (.iload_n 3, 1) := by decide +kernel
theorem dX4_book_102 : decode cX4_book 102 = .ok (.ifCond .lt 21, 3) := by decide +kernel
theorem dX4_book_105 : decode cX4_book 105 = .ok (.iload_n 3, 1) := by decide +kernel
theorem dX4_book_106 : decode cX4_book 106 = .ok (.aload_n 0, 1) := by decide +kernel
theorem dX4_book_107 : decode cX4_book 107 = .ok (.getfield 24, 3) := by decide +kernel
theorem dX4_book_110 : decode cX4_book 110 = .ok (.if_icmp .ge 13, 3) := by decide +kernel
theorem dX4_book_113 : decode cX4_book 113 = .ok (.aload_n 0, 1) := by decide +kernel
theorem dX4_book_114 : decode cX4_book 114 = .ok (.getfield 21, 3) := by decide +kernel
theorem dX4_book_117 : decode cX4_book 117 = .ok (.iload_n 3, 1) := by decide +kernel
theorem dX4_book_118 : decode cX4_book 118 = .ok (.dup2, 1) := by decide +kernel
theorem dX4_book_119 : decode cX4_book 119 = .ok (.iaload, 1) := by decide +kernel
theorem dX4_book_120 : decode cX4_book 120 = .ok (.iconst 1, 1) := by decide +kernel
theorem dX4_book_121 : decode cX4_book 121 = .ok (.iadd, 1) := by decide +kernel
theorem dX4_book_122 : decode cX4_book 122 = .ok (.iastore, 1) := by decide +kernel
theorem dX4_book_123 : decode cX4_book 123 = .ok (.iload_n 3, 1) := by decide +kernel
theorem dX4_book_124 : decode cX4_book 124 = .ok (.ireturn, 1) := by decide +kernel
theorem dX4_release_0 : decode cX4_release 0 = .ok (.iload_n 1, 1) := by decide +kernel
theorem dX4_release_1 : decode cX4_release 1 = .ok (.ifCond .lt 21, 3) := by decide +kernel
theorem dX4_release_4 : decode cX4_release 4 = .ok (.iload_n 1, 1) := by decide +kernel
theorem dX4_release_5 : decode cX4_release 5 = .ok (.aload_n 0, 1) := by decide +kernel
theorem dX4_release_6 : decode cX4_release 6 = .ok (.getfield 24, 3) := by decide +kernel
theorem dX4_release_9 : decode cX4_release 9 = .ok (.if_icmp .ge 13, 3) := by decide +kernel
theorem dX4_release_12 : decode cX4_release 12 = .ok (.aload_n 0, 1) := by decide +kernel
theorem dX4_release_13 : decode cX4_release 13 = .ok (.getfield 21, 3) := by decide +kernel
theorem dX4_release_16 : decode cX4_release 16 = .ok (.iload_n 1, 1) := by decide +kernel
theorem dX4_release_17 : decode cX4_release 17 = .ok (.dup2, 1) := by decide +kernel
theorem dX4_release_18 : decode cX4_release 18 = .ok (.iaload, 1) := by decide +kernel
theorem dX4_release_19 : decode cX4_release 19 = .ok (.iconst 1, 1) := by decide +kernel
theorem dX4_release_20 : decode cX4_release 20 = .ok (.isub, 1) := by decide +kernel
theorem dX4_release_21 : decode cX4_release 21 = .ok (.iastore, 1) := by decide +kernel
theorem dX4_release_22 : decode cX4_release 22 = .ok (.return_, 1) := by decide +kernel
theorem dX4_seatsTaken_0 : decode cX4_seatsTaken 0 = .ok (.iconst 0, 1) := by decide +kernel
theorem dX4_seatsTaken_1 : decode cX4_seatsTaken 1 = .ok (.istore_n 1, 1) := by decide +kernel
theorem dX4_seatsTaken_2 : decode cX4_seatsTaken 2 = .ok (.iconst 0, 1) := by decide +kernel
theorem dX4_seatsTaken_3 : decode cX4_seatsTaken 3 = .ok (.istore_n 2, 1) := by decide +kernel
theorem dX4_seatsTaken_4 : decode cX4_seatsTaken 4 = .ok (.iload_n 2, 1) := by decide +kernel
theorem dX4_seatsTaken_5 : decode cX4_seatsTaken 5 = .ok (.aload_n 0, 1) := by decide +kernel
theorem dX4_seatsTaken_6 : decode cX4_seatsTaken 6 = .ok (.getfield 24, 3) := by decide +kernel
theorem dX4_seatsTaken_9 : decode cX4_seatsTaken 9 = .ok (.if_icmp .ge 18, 3) := by decide +kernel
theorem dX4_seatsTaken_12 : decode cX4_seatsTaken 12 = .ok (.iload_n 1, 1) := by decide +kernel
theorem dX4_seatsTaken_13 : decode cX4_seatsTaken 13 = .ok (.aload_n 0, 1) := by decide +kernel
theorem dX4_seatsTaken_14 : decode cX4_seatsTaken 14 = .ok (.getfield 21, 3) := by decide +kernel
theorem dX4_seatsTaken_17 : decode cX4_seatsTaken 17 = .ok (.iload_n 2, 1) := by decide +kernel
theorem dX4_seatsTaken_18 : decode cX4_seatsTaken 18 = .ok (.iaload, 1) := by decide +kernel
theorem dX4_seatsTaken_19 : decode cX4_seatsTaken 19 = .ok (.iadd, 1) := by decide +kernel
theorem dX4_seatsTaken_20 : decode cX4_seatsTaken 20 = .ok (.istore_n 1, 1) := by decide +kernel
theorem dX4_seatsTaken_21 : decode cX4_seatsTaken 21 = .ok (.iinc 2 1, 3) := by decide +kernel
theorem dX4_seatsTaken_24 : decode cX4_seatsTaken 24 = .ok (.goto (-20), 3) := by decide +kernel
theorem dX4_seatsTaken_27 : decode cX4_seatsTaken 27 = .ok (.iload_n 1, 1) := by decide +kernel
theorem dX4_seatsTaken_28 : decode cX4_seatsTaken 28 = .ok (.ireturn, 1) := by decide +kernel
theorem dX5_init_0 : decode cX5_init 0 = .ok (.aload_n 0, 1) := by decide +kernel
theorem dX5_init_1 : decode cX5_init 1 = .ok (.invokespecial 1, 3) := by decide +kernel
theorem dX5_init_4 : decode cX5_init 4 = .ok (.aload_n 0, 1) := by decide +kernel
theorem dX5_init_5 : decode cX5_init 5 = .ok (.new 7, 3) := by decide +kernel
theorem dX5_init_8 : decode cX5_init 8 = .ok (.dup, 1) := by decide +kernel
theorem dX5_init_9 : decode cX5_init 9 = .ok (.invokespecial 9, 3) := by decide +kernel
theorem dX5_init_12 : decode cX5_init 12 = .ok (.putfield 10, 3) := by decide +kernel
theorem dX5_init_15 : decode cX5_init 15 = .ok (.aload_n 0, 1) := by decide +kernel
theorem dX5_init_16 : decode cX5_init 16 = .ok (.new 16, 3) := by decide +kernel
theorem dX5_init_19 : decode cX5_init 19 = .ok (.dup, 1) := by decide +kernel
theorem dX5_init_20 : decode cX5_init 20 = .ok (.invokespecial 18, 3) := by decide +kernel
theorem dX5_init_23 : decode cX5_init 23 = .ok (.putfield 19, 3) := by decide +kernel
theorem dX5_init_26 : decode cX5_init 26 = .ok (.aload_n 0, 1) := by decide +kernel
theorem dX5_init_27 : decode cX5_init 27 = .ok (.new 23, 3) := by decide +kernel
theorem dX5_init_30 : decode cX5_init 30 = .ok (.dup, 1) := by decide +kernel
theorem dX5_init_31 : decode cX5_init 31 = .ok (.invokespecial 25, 3) := by decide +kernel
theorem dX5_init_34 : decode cX5_init 34 = .ok (.putfield 26, 3) := by decide +kernel
theorem dX5_init_37 : decode cX5_init 37 = .ok (.aload_n 0, 1) := by decide +kernel
theorem dX5_init_38 : decode cX5_init 38 = .ok (.new 30, 3) := by decide +kernel
theorem dX5_init_41 : decode cX5_init 41 = .ok (.dup, 1) := by decide +kernel
theorem dX5_init_42 : decode cX5_init 42 = .ok (.aload_n 0, 1) := by decide +kernel
theorem dX5_init_43 : decode cX5_init 43 = .ok (.getfield 10, 3) := by decide +kernel
theorem dX5_init_46 : decode cX5_init 46 = .ok (.aload_n 0, 1) := by decide +kernel
theorem dX5_init_47 : decode cX5_init 47 = .ok (.getfield 19, 3) := by decide +kernel
theorem dX5_init_50 : decode cX5_init 50 = .ok (.aload_n 0, 1) := by decide +kernel
theorem dX5_init_51 : decode cX5_init 51 = .ok (.getfield 26, 3) := by decide +kernel
theorem dX5_init_54 : decode cX5_init 54 = .ok (.invokespecial 32, 3) := by decide +kernel
theorem dX5_init_57 : decode cX5_init 57 = .ok (.putfield 35, 3) := by decide +kernel
theorem dX5_init_60 : decode cX5_init 60 = .ok (.aload_n 0, 1) := by decide +kernel
theorem dX5_init_61 : decode cX5_init 61 = .ok (.bipush 8, 2) := by decide +kernel
theorem dX5_init_63 : decode cX5_init 63 = .ok (.anewarray 39, 3) := by decide +kernel
theorem dX5_init_66 : decode cX5_init 66 = .ok (.putfield 41, 3) := by decide +kernel
theorem dX5_init_69 : decode cX5_init 69 = .ok (.iconst 0, 1) := by decide +kernel
theorem dX5_init_70 : decode cX5_init 70 = .ok (.istore_n 1, 1) := by decide +kernel
theorem dX5_init_71 : decode cX5_init 71 = .ok (.iload_n 1, 1) := by decide +kernel
theorem dX5_init_72 : decode cX5_init 72 = .ok (.bipush 8, 2) := by decide +kernel
theorem dX5_init_74 : decode cX5_init 74 = .ok (.if_icmp .ge 22, 3) := by decide +kernel
theorem dX5_init_77 : decode cX5_init 77 = .ok (.aload_n 0, 1) := by decide +kernel
theorem dX5_init_78 : decode cX5_init 78 = .ok (.getfield 41, 3) := by decide +kernel
theorem dX5_init_81 : decode cX5_init 81 = .ok (.iload_n 1, 1) := by decide +kernel
theorem dX5_init_82 : decode cX5_init 82 = .ok (.new 39, 3) := by decide +kernel
theorem dX5_init_85 : decode cX5_init 85 = .ok (.dup, 1) := by decide +kernel
theorem dX5_init_86 : decode cX5_init 86 = .ok (.invokespecial 45, 3) := by decide +kernel
theorem dX5_init_89 : decode cX5_init 89 = .ok (.aastore, 1) := by decide +kernel
theorem dX5_init_90 : decode cX5_init 90 = .ok (.iinc 1 1, 3) := by decide +kernel
theorem dX5_init_93 : decode cX5_init 93 = .ok (.goto (-22), 3) := by decide +kernel
theorem dX5_init_96 : decode cX5_init 96 = .ok (.return_, 1) := by decide +kernel
theorem dX5_step_0 : decode cX5_step 0 = .ok (.iload_n 1, 1) := by decide +kernel
theorem dX5_step_1 : decode cX5_step 1 = .ok (.iconst 0, 1) := by decide +kernel
theorem dX5_step_2 : decode cX5_step 2 = .ok (.iconst 3, 1) := by decide +kernel
theorem dX5_step_3 : decode cX5_step 3 = .ok (.invokestatic 46, 3) := by decide +kernel
theorem dX5_step_6 : decode cX5_step 6 = .ok (.ifCond .eq 33, 3) := by decide +kernel
theorem dX5_step_9 : decode cX5_step 9 = .ok (.iload_n 2, 1) := by decide +kernel
theorem dX5_step_10 : decode cX5_step 10 = .ok (.iconst 1, 1) := by decide +kernel
theorem dX5_step_11 : decode cX5_step 11 = .ok (.bipush 9, 2) := by decide +kernel
theorem dX5_step_13 : decode cX5_step 13 = .ok (.invokestatic 46, 3) := by decide +kernel
theorem dX5_step_16 : decode cX5_step 16 = .ok (.ifCond .eq 23, 3) := by decide +kernel
theorem dX5_step_19 : decode cX5_step 19 = .ok (.aload_n 0, 1) := by decide +kernel
theorem dX5_step_20 : decode cX5_step 20 = .ok (.getfield 10, 3) := by decide +kernel
theorem dX5_step_23 : decode cX5_step 23 = .ok (.iload_n 3, 1) := by decide +kernel
theorem dX5_step_24 : decode cX5_step 24 = .ok (.invokevirtual 50, 3) := by decide +kernel
theorem dX5_step_27 : decode cX5_step 27 = .ok (.ifCond .eq 12, 3) := by decide +kernel
theorem dX5_step_30 : decode cX5_step 30 = .ok (.iload_n 1, 1) := by decide +kernel
theorem dX5_step_31 : decode cX5_step 31 = .ok (.iload 4, 2) := by decide +kernel
theorem dX5_step_33 : decode cX5_step 33 = .ok (.invokestatic 54, 3) := by decide +kernel
theorem dX5_step_36 : decode cX5_step 36 = .ok (.ifCond .ne 13, 3) := by decide +kernel
theorem dX5_step_39 : decode cX5_step 39 = .ok (.new 58, 3) := by decide +kernel
theorem dX5_step_42 : decode cX5_step 42 = .ok (.dup, 1) := by decide +kernel
theorem dX5_step_43 : decode cX5_step 43 = .ok (.ldc 60, 2) := by decide +kernel
theorem dX5_step_45 : decode cX5_step 45 = .ok (.invokespecial 62, 3) := by decide +kernel
theorem dX5_step_48 : decode cX5_step 48 = .ok (.athrow, 1) := by decide +kernel
theorem dX5_step_49 : decode cX5_step 49 = .ok (.aload_n 0, 1) := by decide +kernel
theorem dX5_step_50 : decode cX5_step 50 = .ok (.getfield 10, 3) := by decide +kernel
theorem dX5_step_53 : decode cX5_step 53 = .ok (.iload_n 1, 1) := by decide +kernel
theorem dX5_step_54 : decode cX5_step 54 = .ok (.iload_n 2, 1) := by decide +kernel
theorem dX5_step_55 : decode cX5_step 55 = .ok (.iload_n 3, 1) := by decide +kernel
theorem dX5_step_56 : decode cX5_step 56 = .ok (.iload 4, 2) := by decide +kernel
theorem dX5_step_58 : decode cX5_step 58 = .ok (.invokevirtual 65, 3) := by decide +kernel
theorem dX5_step_61 : decode cX5_step 61 = .ok (.istore 5, 2) := by decide +kernel
theorem dX5_step_63 : decode cX5_step 63 = .ok (.iload 5, 2) := by decide +kernel
theorem dX5_step_65 : decode cX5_step 65 = .ok (.iconst (-1), 1) := by decide +kernel
theorem dX5_step_66 : decode cX5_step 66 = .ok (.if_icmp .ne 13, 3) := by decide +kernel
theorem dX5_step_69 : decode cX5_step 69 = .ok (.new 69, 3) := by decide +kernel
theorem dX5_step_72 : decode cX5_step 72 = .ok (.dup, 1) := by decide +kernel
theorem dX5_step_73 : decode cX5_step 73 = .ok (.ldc 71, 2) := by decide +kernel
theorem dX5_step_75 : decode cX5_step 75 = .ok (.invokespecial 73, 3) := by decide +kernel
theorem dX5_step_78 : decode cX5_step 78 = .ok (.athrow, 1) := by decide +kernel
theorem dX5_step_79 : decode cX5_step 79 = .ok (.iload 5, 2) := by decide +kernel
theorem dX5_step_81 : decode cX5_step 81 = .ok (.ireturn, 1) := by decide +kernel
theorem dX5_role_0 : decode cX5_role 0 = .ok (.iload_n 1, 1) := by decide +kernel
theorem dX5_role_1 : decode cX5_role 1 = .ok (.ifCond .lt 8, 3) := by decide +kernel
theorem dX5_role_4 : decode cX5_role 4 = .ok (.iload_n 1, 1) := by decide +kernel
theorem dX5_role_5 : decode cX5_role 5 = .ok (.iconst 4, 1) := by decide +kernel
theorem dX5_role_6 : decode cX5_role 6 = .ok (.if_icmp .lt 13, 3) := by decide +kernel
theorem dX5_role_9 : decode cX5_role 9 = .ok (.new 74, 3) := by decide +kernel
theorem dX5_role_12 : decode cX5_role 12 = .ok (.dup, 1) := by decide +kernel
theorem dX5_role_13 : decode cX5_role 13 = .ok (.ldc 76, 2) := by decide +kernel
theorem dX5_role_15 : decode cX5_role 15 = .ok (.invokespecial 78, 3) := by decide +kernel
theorem dX5_role_18 : decode cX5_role 18 = .ok (.athrow, 1) := by decide +kernel
theorem dX5_role_19 : decode cX5_role 19 = .ok (.aload_n 0, 1) := by decide +kernel
theorem dX5_role_20 : decode cX5_role 20 = .ok (.getfield 10, 3) := by decide +kernel
theorem dX5_role_23 : decode cX5_role 23 = .ok (.iload_n 2, 1) := by decide +kernel
theorem dX5_role_24 : decode cX5_role 24 = .ok (.invokevirtual 50, 3) := by decide +kernel
theorem dX5_role_27 : decode cX5_role 27 = .ok (.ifCond .ne 13, 3) := by decide +kernel
theorem dX5_role_30 : decode cX5_role 30 = .ok (.new 58, 3) := by decide +kernel
theorem dX5_role_33 : decode cX5_role 33 = .ok (.dup, 1) := by decide +kernel
theorem dX5_role_34 : decode cX5_role 34 = .ok (.ldc 79, 2) := by decide +kernel
theorem dX5_role_36 : decode cX5_role 36 = .ok (.invokespecial 62, 3) := by decide +kernel
theorem dX5_role_39 : decode cX5_role 39 = .ok (.athrow, 1) := by decide +kernel
theorem dX5_role_40 : decode cX5_role 40 = .ok (.aload_n 0, 1) := by decide +kernel
theorem dX5_role_41 : decode cX5_role 41 = .ok (.getfield 10, 3) := by decide +kernel
theorem dX5_role_44 : decode cX5_role 44 = .ok (.getfield 81, 3) := by decide +kernel
theorem dX5_role_47 : decode cX5_role 47 = .ok (.iload_n 1, 1) := by decide +kernel
theorem dX5_role_48 : decode cX5_role 48 = .ok (.iaload, 1) := by decide +kernel
theorem dX5_role_49 : decode cX5_role 49 = .ok (.istore_n 3, 1) := by decide +kernel
theorem dX5_role_50 : decode cX5_role 50 = .ok (.aload_n 0, 1) := by decide +kernel
theorem dX5_role_51 : decode cX5_role 51 = .ok (.getfield 10, 3) := by decide +kernel
theorem dX5_role_54 : decode cX5_role 54 = .ok (.getfield 81, 3) := by decide +kernel
theorem dX5_role_57 : decode cX5_role 57 = .ok (.iload_n 1, 1) := by decide +kernel
theorem dX5_role_58 : decode cX5_role 58 = .ok (.iload_n 2, 1) := by decide +kernel
theorem dX5_role_59 : decode cX5_role 59 = .ok (.iastore, 1) := by decide +kernel
theorem dX5_role_60 : decode cX5_role 60 = .ok (.iload_n 3, 1) := by decide +kernel
theorem dX5_role_61 : decode cX5_role 61 = .ok (.ireturn, 1) := by decide +kernel
theorem dX5_right_0 : decode cX5_right 0 = .ok (.iload_n 1, 1) := by decide +kernel
theorem dX5_right_1 : decode cX5_right 1 = .ok (.iconst 1, 1) := by decide +kernel
theorem dX5_right_2 : decode cX5_right 2 = .ok (.if_icmp .lt 14, 3) := by decide +kernel
theorem dX5_right_5 : decode cX5_right 5 = .ok (.aload_n 0, 1) := by decide +kernel
theorem dX5_right_6 : decode cX5_right 6 = .ok (.getfield 10, 3) := by decide +kernel
theorem dX5_right_9 : decode cX5_right 9 = .ok (.iload_n 1, 1) := by decide +kernel
theorem dX5_right_10 : decode cX5_right 10 = .ok (.invokevirtual 50, 3) := by decide +kernel
theorem dX5_right_13 : decode cX5_right 13 = .ok (.ifCond .ne 13, 3) := by decide +kernel
theorem dX5_right_16 : decode cX5_right 16 = .ok (.new 58, 3) := by decide +kernel
theorem dX5_right_19 : decode cX5_right 19 = .ok (.dup, 1) := by decide +kernel
theorem dX5_right_20 : decode cX5_right 20 = .ok (.ldc 79, 2) := by decide +kernel
theorem dX5_right_22 : decode cX5_right 22 = .ok (.invokespecial 62, 3) := by decide +kernel
theorem dX5_right_25 : decode cX5_right 25 = .ok (.athrow, 1) := by decide +kernel
theorem dX5_right_26 : decode cX5_right 26 = .ok (.aload_n 0, 1) := by decide +kernel
theorem dX5_right_27 : decode cX5_right 27 = .ok (.getfield 10, 3) := by decide +kernel
theorem dX5_right_30 : decode cX5_right 30 = .ok (.iload_n 1, 1) := by decide +kernel
theorem dX5_right_31 : decode cX5_right 31 = .ok (.invokevirtual 85, 3) := by decide +kernel
theorem dX5_right_34 : decode cX5_right 34 = .ok (.istore_n 2, 1) := by decide +kernel
theorem dX5_right_35 : decode cX5_right 35 = .ok (.iload_n 2, 1) := by decide +kernel
theorem dX5_right_36 : decode cX5_right 36 = .ok (.iconst (-1), 1) := by decide +kernel
theorem dX5_right_37 : decode cX5_right 37 = .ok (.if_icmp .ne 13, 3) := by decide +kernel
theorem dX5_right_40 : decode cX5_right 40 = .ok (.new 69, 3) := by decide +kernel
theorem dX5_right_43 : decode cX5_right 43 = .ok (.dup, 1) := by decide +kernel
theorem dX5_right_44 : decode cX5_right 44 = .ok (.ldc 89, 2) := by decide +kernel
theorem dX5_right_46 : decode cX5_right 46 = .ok (.invokespecial 73, 3) := by decide +kernel
theorem dX5_right_49 : decode cX5_right 49 = .ok (.athrow, 1) := by decide +kernel
theorem dX5_right_50 : decode cX5_right 50 = .ok (.iload_n 2, 1) := by decide +kernel
theorem dX5_right_51 : decode cX5_right 51 = .ok (.ireturn, 1) := by decide +kernel
theorem dX5_stock_0 : decode cX5_stock 0 = .ok (.iload_n 1, 1) := by decide +kernel
theorem dX5_stock_1 : decode cX5_stock 1 = .ok (.ifCond .lt 8, 3) := by decide +kernel
theorem dX5_stock_4 : decode cX5_stock 4 = .ok (.iload_n 1, 1) := by decide +kernel
theorem dX5_stock_5 : decode cX5_stock 5 = .ok (.iconst 4, 1) := by decide +kernel
theorem dX5_stock_6 : decode cX5_stock 6 = .ok (.if_icmp .lt 13, 3) := by decide +kernel
theorem dX5_stock_9 : decode cX5_stock 9 = .ok (.new 74, 3) := by decide +kernel
theorem dX5_stock_12 : decode cX5_stock 12 = .ok (.dup, 1) := by decide +kernel
theorem dX5_stock_13 : decode cX5_stock 13 = .ok (.ldc 91, 2) := by decide +kernel
theorem dX5_stock_15 : decode cX5_stock 15 = .ok (.invokespecial 78, 3) := by decide +kernel
theorem dX5_stock_18 : decode cX5_stock 18 = .ok (.athrow, 1) := by decide +kernel
theorem dX5_stock_19 : decode cX5_stock 19 = .ok (.iload_n 2, 1) := by decide +kernel
theorem dX5_stock_20 : decode cX5_stock 20 = .ok (.iconst 1, 1) := by decide +kernel
theorem dX5_stock_21 : decode cX5_stock 21 = .ok (.bipush 20, 2) := by decide +kernel
theorem dX5_stock_23 : decode cX5_stock 23 = .ok (.invokestatic 46, 3) := by decide +kernel
theorem dX5_stock_26 : decode cX5_stock 26 = .ok (.ifCond .ne 13, 3) := by decide +kernel
theorem dX5_stock_29 : decode cX5_stock 29 = .ok (.new 58, 3) := by decide +kernel
theorem dX5_stock_32 : decode cX5_stock 32 = .ok (.dup, 1) := by decide +kernel
theorem dX5_stock_33 : decode cX5_stock 33 = .ok (.ldc 93, 2) := by decide +kernel
theorem dX5_stock_35 : decode cX5_stock 35 = .ok (.invokespecial 62, 3) := by decide +kernel
theorem dX5_stock_38 : decode cX5_stock 38 = .ok (.athrow, 1) := by decide +kernel
theorem dX5_stock_39 : decode cX5_stock 39 = .ok (.aload_n 0, 1) := by decide +kernel
theorem dX5_stock_40 : decode cX5_stock 40 = .ok (.getfield 19, 3) := by decide +kernel
theorem dX5_stock_43 : decode cX5_stock 43 = .ok (.iload_n 1, 1) := by decide +kernel
theorem dX5_stock_44 : decode cX5_stock 44 = .ok (.iload_n 2, 1) := by decide +kernel
theorem dX5_stock_45 : decode cX5_stock 45 = .ok (.invokevirtual 95, 3) := by decide +kernel
theorem dX5_stock_48 : decode cX5_stock 48 = .ok (.aload_n 0, 1) := by decide +kernel
theorem dX5_stock_49 : decode cX5_stock 49 = .ok (.getfield 19, 3) := by decide +kernel
theorem dX5_stock_52 : decode cX5_stock 52 = .ok (.getfield 99, 3) := by decide +kernel
theorem dX5_stock_55 : decode cX5_stock 55 = .ok (.iload_n 1, 1) := by decide +kernel
theorem dX5_stock_56 : decode cX5_stock 56 = .ok (.iaload, 1) := by decide +kernel
theorem dX5_stock_57 : decode cX5_stock 57 = .ok (.ireturn, 1) := by decide +kernel
theorem dX5_order_0 : decode cX5_order 0 = .ok (.iload_n 1, 1) := by decide +kernel
theorem dX5_order_1 : decode cX5_order 1 = .ok (.ifCond .lt 8, 3) := by decide +kernel
theorem dX5_order_4 : decode cX5_order 4 = .ok (.iload_n 1, 1) := by decide +kernel
theorem dX5_order_5 : decode cX5_order 5 = .ok (.iconst 4, 1) := by decide +kernel
theorem dX5_order_6 : decode cX5_order 6 = .ok (.if_icmp .lt 13, 3) := by decide +kernel
theorem dX5_order_9 : decode cX5_order 9 = .ok (.new 74, 3) := by decide +kernel
theorem dX5_order_12 : decode cX5_order 12 = .ok (.dup, 1) := by decide +kernel
theorem dX5_order_13 : decode cX5_order 13 = .ok (.ldc 91, 2) := by decide +kernel
theorem dX5_order_15 : decode cX5_order 15 = .ok (.invokespecial 78, 3) := by decide +kernel
theorem dX5_order_18 : decode cX5_order 18 = .ok (.athrow, 1) := by decide +kernel
theorem dX5_order_19 : decode cX5_order 19 = .ok (.iload_n 2, 1) := by decide +kernel
theorem dX5_order_20 : decode cX5_order 20 = .ok (.iconst 1, 1) := by decide +kernel
theorem dX5_order_21 : decode cX5_order 21 = .ok (.bipush 20, 2) := by decide +kernel
theorem dX5_order_23 : decode cX5_order 23 = .ok (.invokestatic 46, 3) := by decide +kernel
theorem dX5_order_26 : decode cX5_order 26 = .ok (.ifCond .eq 11, 3) := by decide +kernel
theorem dX5_order_29 : decode cX5_order 29 = .ok (.aload_n 0, 1) := by decide +kernel
theorem dX5_order_30 : decode cX5_order 30 = .ok (.iload_n 3, 1) := by decide +kernel
theorem dX5_order_31 : decode cX5_order 31 = .ok (.invokevirtual 102, 3) := by decide +kernel
theorem dX5_order_34 : decode cX5_order 34 = .ok (.ifCond .ne 13, 3) := by decide +kernel
theorem dX5_order_37 : decode cX5_order 37 = .ok (.new 58, 3) := by decide +kernel
theorem dX5_order_40 : decode cX5_order 40 = .ok (.dup, 1) := by decide +kernel
theorem dX5_order_41 : decode cX5_order 41 = .ok (.ldc 105, 2) := by decide +kernel
theorem dX5_order_43 : decode cX5_order 43 = .ok (.invokespecial 62, 3) := by decide +kernel
theorem dX5_order_46 : decode cX5_order 46 = .ok (.athrow, 1) := by decide +kernel
theorem dX5_order_47 : decode cX5_order 47 = .ok (.aload_n 0, 1) := by decide +kernel
theorem dX5_order_48 : decode cX5_order 48 = .ok (.getfield 19, 3) := by decide +kernel
theorem dX5_order_51 : decode cX5_order 51 = .ok (.iload_n 1, 1) := by decide +kernel
theorem dX5_order_52 : decode cX5_order 52 = .ok (.iload_n 2, 1) := by decide +kernel
theorem dX5_order_53 : decode cX5_order 53 = .ok (.iload_n 3, 1) := by decide +kernel
theorem dX5_order_54 : decode cX5_order 54 = .ok (.invokevirtual 107, 3) := by decide +kernel
theorem dX5_order_57 : decode cX5_order 57 = .ok (.istore 4, 2) := by decide +kernel
theorem dX5_order_59 : decode cX5_order 59 = .ok (.iload 4, 2) := by decide +kernel
theorem dX5_order_61 : decode cX5_order 61 = .ok (.iconst (-1), 1) := by decide +kernel
theorem dX5_order_62 : decode cX5_order 62 = .ok (.if_icmp .ne 13, 3) := by decide +kernel
theorem dX5_order_65 : decode cX5_order 65 = .ok (.new 69, 3) := by decide +kernel
theorem dX5_order_68 : decode cX5_order 68 = .ok (.dup, 1) := by decide +kernel
theorem dX5_order_69 : decode cX5_order 69 = .ok (.ldc 111, 2) := by decide +kernel
theorem dX5_order_71 : decode cX5_order 71 = .ok (.invokespecial 73, 3) := by decide +kernel
theorem dX5_order_74 : decode cX5_order 74 = .ok (.athrow, 1) := by decide +kernel
theorem dX5_order_75 : decode cX5_order 75 = .ok (.iload 4, 2) := by decide +kernel
theorem dX5_order_77 : decode cX5_order 77 = .ok (.ireturn, 1) := by decide +kernel
theorem dX5_session_0 : decode cX5_session 0 = .ok (.iload_n 1, 1) := by decide +kernel
theorem dX5_session_1 : decode cX5_session 1 = .ok (.ifCond .lt 14, 3) := by decide +kernel
theorem dX5_session_4 : decode cX5_session 4 = .ok (.iload_n 1, 1) := by decide +kernel
theorem dX5_session_5 : decode cX5_session 5 = .ok (.aload_n 0, 1) := by decide +kernel
theorem dX5_session_6 : decode cX5_session 6 = .ok (.getfield 10, 3) := by decide +kernel
theorem dX5_session_9 : decode cX5_session 9 = .ok (.getfield 120, 3) := by decide +kernel
theorem dX5_session_12 : decode cX5_session 12 = .ok (.if_icmp .lt 13, 3) := by decide +kernel
theorem dX5_session_15 : decode cX5_session 15 = .ok (.new 74, 3) := by decide +kernel
theorem dX5_session_18 : decode cX5_session 18 = .ok (.dup, 1) := by decide +kernel
theorem dX5_session_19 : decode cX5_session 19 = .ok (.ldc 124, 2) := by decide +kernel
theorem dX5_session_21 : decode cX5_session 21 = .ok (.invokespecial 78, 3) := by decide +kernel
theorem dX5_session_24 : decode cX5_session 24 = .ok (.athrow, 1) := by decide +kernel
theorem dX5_session_25 : decode cX5_session 25 = .ok (.aload_n 0, 1) := by decide +kernel
theorem dX5_session_26 : decode cX5_session 26 = .ok (.getfield 10, 3) := by decide +kernel
theorem dX5_session_29 : decode cX5_session 29 = .ok (.getfield 126, 3) := by decide +kernel
theorem dX5_session_32 : decode cX5_session 32 = .ok (.iload_n 1, 1) := by decide +kernel
theorem dX5_session_33 : decode cX5_session 33 = .ok (.iaload, 1) := by decide +kernel
theorem dX5_session_34 : decode cX5_session 34 = .ok (.iconst 2, 1) := by decide +kernel
theorem dX5_session_35 : decode cX5_session 35 = .ok (.if_icmp .ne 21, 3) := by decide +kernel
theorem dX5_session_38 : decode cX5_session 38 = .ok (.aload_n 0, 1) := by decide +kernel
theorem dX5_session_39 : decode cX5_session 39 = .ok (.iload_n 2, 1) := by decide +kernel
theorem dX5_session_40 : decode cX5_session 40 = .ok (.invokevirtual 102, 3) := by decide +kernel
theorem dX5_session_43 : decode cX5_session 43 = .ok (.ifCond .eq 13, 3) := by decide +kernel
theorem dX5_session_46 : decode cX5_session 46 = .ok (.iload_n 3, 1) := by decide +kernel
theorem dX5_session_47 : decode cX5_session 47 = .ok (.iconst 1, 1) := by decide +kernel
theorem dX5_session_48 : decode cX5_session 48 = .ok (.bipush 9, 2) := by decide +kernel
theorem dX5_session_50 : decode cX5_session 50 = .ok (.invokestatic 46, 3) := by decide +kernel
theorem dX5_session_53 : decode cX5_session 53 = .ok (.ifCond .ne 13, 3) := by decide +kernel
theorem dX5_session_56 : decode cX5_session 56 = .ok (.new 58, 3) := by decide +kernel
theorem dX5_session_59 : decode cX5_session 59 = .ok (.dup, 1) := by decide +kernel
theorem dX5_session_60 : decode cX5_session 60 = .ok (.ldc 129, 2) := by decide +kernel
theorem dX5_session_62 : decode cX5_session 62 = .ok (.invokespecial 62, 3) := by decide +kernel
theorem dX5_session_65 : decode cX5_session 65 = .ok (.athrow, 1) := by decide +kernel
theorem dX5_session_66 : decode cX5_session 66 = .ok (.aload_n 0, 1) := by decide +kernel
theorem dX5_session_67 : decode cX5_session 67 = .ok (.getfield 26, 3) := by decide +kernel
theorem dX5_session_70 : decode cX5_session 70 = .ok (.iload_n 1, 1) := by decide +kernel
theorem dX5_session_71 : decode cX5_session 71 = .ok (.iload_n 2, 1) := by decide +kernel
theorem dX5_session_72 : decode cX5_session 72 = .ok (.iload_n 3, 1) := by decide +kernel
theorem dX5_session_73 : decode cX5_session 73 = .ok (.invokevirtual 131, 3) := by decide +kernel
theorem dX5_session_76 : decode cX5_session 76 = .ok (.istore 4, 2) := by decide +kernel
theorem dX5_session_78 : decode cX5_session 78 = .ok (.iload 4, 2) := by decide +kernel
theorem dX5_session_80 : decode cX5_session 80 = .ok (.iconst (-1), 1) := by decide +kernel
theorem dX5_session_81 : decode cX5_session 81 = .ok (.if_icmp .ne 13, 3) := by decide +kernel
theorem dX5_session_84 : decode cX5_session 84 = .ok (.new 69, 3) := by decide +kernel
theorem dX5_session_87 : decode cX5_session 87 = .ok (.dup, 1) := by decide +kernel
theorem dX5_session_88 : decode cX5_session 88 = .ok (.ldc 134, 2) := by decide +kernel
theorem dX5_session_90 : decode cX5_session 90 = .ok (.invokespecial 73, 3) := by decide +kernel
theorem dX5_session_93 : decode cX5_session 93 = .ok (.athrow, 1) := by decide +kernel
theorem dX5_session_94 : decode cX5_session 94 = .ok (.aload_n 0, 1) := by decide +kernel
theorem dX5_session_95 : decode cX5_session 95 = .ok (.invokevirtual 136, 3) := by decide +kernel
theorem dX5_session_98 : decode cX5_session 98 = .ok (.iload 4, 2) := by decide +kernel
theorem dX5_session_100 : decode cX5_session 100 = .ok (.ireturn, 1) := by decide +kernel
theorem dX5_ofSession_0 : decode cX5_ofSession 0 = .ok (.iload_n 1, 1) := by decide +kernel
theorem dX5_ofSession_1 : decode cX5_ofSession 1 = .ok (.ifCond .lt 14, 3) := by decide +kernel
theorem dX5_ofSession_4 : decode cX5_ofSession 4 = .ok (.iload_n 1, 1) := by decide +kernel
theorem dX5_ofSession_5 : decode cX5_ofSession 5 = .ok (.aload_n 0, 1) := by decide +kernel
theorem dX5_ofSession_6 : decode cX5_ofSession 6 = .ok (.getfield 26, 3) := by decide +kernel
theorem dX5_ofSession_9 : decode cX5_ofSession 9 = .ok (.getfield 139, 3) := by decide +kernel
theorem dX5_ofSession_12 : decode cX5_ofSession 12 = .ok (.if_icmp .lt 13, 3) := by decide +kernel
theorem dX5_ofSession_15 : decode cX5_ofSession 15 = .ok (.new 74, 3) := by decide +kernel
theorem dX5_ofSession_18 : decode cX5_ofSession 18 = .ok (.dup, 1) := by decide +kernel
theorem dX5_ofSession_19 : decode cX5_ofSession 19 = .ok (.ldc 142, 2) := by decide +kernel
theorem dX5_ofSession_21 : decode cX5_ofSession 21 = .ok (.invokespecial 78, 3) := by decide +kernel
theorem dX5_ofSession_24 : decode cX5_ofSession 24 = .ok (.athrow, 1) := by decide +kernel
theorem dX5_ofSession_25 : decode cX5_ofSession 25 = .ok (.iload_n 2, 1) := by decide +kernel
theorem dX5_ofSession_26 : decode cX5_ofSession 26 = .ok (.iconst 0, 1) := by decide +kernel
theorem dX5_ofSession_27 : decode cX5_ofSession 27 = .ok (.iconst 3, 1) := by decide +kernel
theorem dX5_ofSession_28 : decode cX5_ofSession 28 = .ok (.invokestatic 46, 3) := by decide +kernel
theorem dX5_ofSession_31 : decode cX5_ofSession 31 = .ok (.ifCond .ne 13, 3) := by decide +kernel
theorem dX5_ofSession_34 : decode cX5_ofSession 34 = .ok (.new 58, 3) := by decide +kernel
theorem dX5_ofSession_37 : decode cX5_ofSession 37 = .ok (.dup, 1) := by decide +kernel
theorem dX5_ofSession_38 : decode cX5_ofSession 38 = .ok (.ldc 144, 2) := by decide +kernel
theorem dX5_ofSession_40 : decode cX5_ofSession 40 = .ok (.invokespecial 62, 3) := by decide +kernel
theorem dX5_ofSession_43 : decode cX5_ofSession 43 = .ok (.athrow, 1) := by decide +kernel
theorem dX5_ofSession_44 : decode cX5_ofSession 44 = .ok (.iload_n 2, 1) := by decide +kernel
theorem dX5_ofSession_45 : decode cX5_ofSession 45 = .ok (.tableswitch 57 0 2 #[27, 37, 47], 27) := by decide +kernel
theorem dX5_ofSession_72 : decode cX5_ofSession 72 = .ok (.aload_n 0, 1) := by decide +kernel
theorem dX5_ofSession_73 : decode cX5_ofSession 73 = .ok (.getfield 26, 3) := by decide +kernel
theorem dX5_ofSession_76 : decode cX5_ofSession 76 = .ok (.getfield 146, 3) := by decide +kernel
theorem dX5_ofSession_79 : decode cX5_ofSession 79 = .ok (.iload_n 1, 1) := by decide +kernel
theorem dX5_ofSession_80 : decode cX5_ofSession 80 = .ok (.iaload, 1) := by decide +kernel
theorem dX5_ofSession_81 : decode cX5_ofSession 81 = .ok (.ireturn, 1) := by decide +kernel
theorem dX5_ofSession_82 : decode cX5_ofSession 82 = .ok (.aload_n 0, 1) := by decide +kernel
theorem dX5_ofSession_83 : decode cX5_ofSession 83 = .ok (.getfield 26, 3) := by decide +kernel
theorem dX5_ofSession_86 : decode cX5_ofSession 86 = .ok (.getfield 149, 3) := by decide +kernel
theorem dX5_ofSession_89 : decode cX5_ofSession 89 = .ok (.iload_n 1, 1) := by decide +kernel
theorem dX5_ofSession_90 : decode cX5_ofSession 90 = .ok (.iaload, 1) := by decide +kernel
theorem dX5_ofSession_91 : decode cX5_ofSession 91 = .ok (.ireturn, 1) := by decide +kernel
theorem dX5_ofSession_92 : decode cX5_ofSession 92 = .ok (.aload_n 0, 1) := by decide +kernel
theorem dX5_ofSession_93 : decode cX5_ofSession 93 = .ok (.getfield 26, 3) := by decide +kernel
theorem dX5_ofSession_96 : decode cX5_ofSession 96 = .ok (.getfield 152, 3) := by decide +kernel
theorem dX5_ofSession_99 : decode cX5_ofSession 99 = .ok (.iload_n 1, 1) := by decide +kernel
theorem dX5_ofSession_100 : decode cX5_ofSession 100 = .ok (.iaload, 1) := by decide +kernel
theorem dX5_ofSession_101 : decode cX5_ofSession 101 = .ok (.ireturn, 1) := by decide +kernel
theorem dX5_ofSession_102 : decode cX5_ofSession 102 = .ok (.aload_n 0, 1) := by decide +kernel
theorem dX5_ofSession_103 : decode cX5_ofSession 103 = .ok (.getfield 26, 3) := by decide +kernel
theorem dX5_ofSession_106 : decode cX5_ofSession 106 = .ok (.getfield 155, 3) := by decide +kernel
theorem dX5_ofSession_109 : decode cX5_ofSession 109 = .ok (.iload_n 1, 1) := by decide +kernel
theorem dX5_ofSession_110 : decode cX5_ofSession 110 = .ok (.iaload, 1) := by decide +kernel
theorem dX5_ofSession_111 : decode cX5_ofSession 111 = .ok (.ireturn, 1) := by decide +kernel
theorem dX5_ofItem_0 : decode cX5_ofItem 0 = .ok (.iload_n 1, 1) := by decide +kernel
theorem dX5_ofItem_1 : decode cX5_ofItem 1 = .ok (.ifCond .lt 8, 3) := by decide +kernel
theorem dX5_ofItem_4 : decode cX5_ofItem 4 = .ok (.iload_n 1, 1) := by decide +kernel
theorem dX5_ofItem_5 : decode cX5_ofItem 5 = .ok (.iconst 4, 1) := by decide +kernel
theorem dX5_ofItem_6 : decode cX5_ofItem 6 = .ok (.if_icmp .lt 13, 3) := by decide +kernel
theorem dX5_ofItem_9 : decode cX5_ofItem 9 = .ok (.new 74, 3) := by decide +kernel
theorem dX5_ofItem_12 : decode cX5_ofItem 12 = .ok (.dup, 1) := by decide +kernel
theorem dX5_ofItem_13 : decode cX5_ofItem 13 = .ok (.ldc 91, 2) := by decide +kernel
theorem dX5_ofItem_15 : decode cX5_ofItem 15 = .ok (.invokespecial 78, 3) := by decide +kernel
theorem dX5_ofItem_18 : decode cX5_ofItem 18 = .ok (.athrow, 1) := by decide +kernel
theorem dX5_ofItem_19 : decode cX5_ofItem 19 = .ok (.iload_n 2, 1) := by decide +kernel
theorem dX5_ofItem_20 : decode cX5_ofItem 20 = .ok (.iconst 0, 1) := by decide +kernel
theorem dX5_ofItem_21 : decode cX5_ofItem 21 = .ok (.iconst 3, 1) := by decide +kernel
theorem dX5_ofItem_22 : decode cX5_ofItem 22 = .ok (.invokestatic 46, 3) := by decide +kernel
theorem dX5_ofItem_25 : decode cX5_ofItem 25 = .ok (.ifCond .ne 13, 3) := by decide +kernel
theorem dX5_ofItem_28 : decode cX5_ofItem 28 = .ok (.new 58, 3) := by decide +kernel
theorem dX5_ofItem_31 : decode cX5_ofItem 31 = .ok (.dup, 1) := by decide +kernel
theorem dX5_ofItem_32 : decode cX5_ofItem 32 = .ok (.ldc 158, 2) := by decide +kernel
theorem dX5_ofItem_34 : decode cX5_ofItem 34 = .ok (.invokespecial 62, 3) := by decide +kernel
theorem dX5_ofItem_37 : decode cX5_ofItem 37 = .ok (.athrow, 1) := by decide +kernel
theorem dX5_ofItem_38 : decode cX5_ofItem 38 = .ok (.iload_n 2, 1) := by decide +kernel
theorem dX5_ofItem_39 : decode cX5_ofItem 39 = .ok (.tableswitch 63 0 2 #[25, 35, 48], 25) := by decide +kernel
theorem dX5_ofItem_64 : decode cX5_ofItem 64 = .ok (.aload_n 0, 1) := by decide +kernel
theorem dX5_ofItem_65 : decode cX5_ofItem 65 = .ok (.getfield 19, 3) := by decide +kernel
theorem dX5_ofItem_68 : decode cX5_ofItem 68 = .ok (.getfield 99, 3) := by decide +kernel
theorem dX5_ofItem_71 : decode cX5_ofItem 71 = .ok (.iload_n 1, 1) := by decide +kernel
theorem dX5_ofItem_72 : decode cX5_ofItem 72 = .ok (.iaload, 1) := by decide +kernel
theorem dX5_ofItem_73 : decode cX5_ofItem 73 = .ok (.ireturn, 1) := by decide +kernel
theorem dX5_ofItem_74 : decode cX5_ofItem 74 = .ok (.aload_n 0, 1) := by decide +kernel
theorem dX5_ofItem_75 : decode cX5_ofItem 75 = .ok (.getfield 19, 3) := by decide +kernel
theorem dX5_ofItem_78 : decode cX5_ofItem 78 = .ok (.iload_n 1, 1) := by decide +kernel
theorem dX5_ofItem_79 : decode cX5_ofItem 79 = .ok (.aload_n 0, 1) := by decide +kernel
theorem dX5_ofItem_80 : decode cX5_ofItem 80 = .ok (.getfield 160, 3) := by decide +kernel
theorem dX5_ofItem_83 : decode cX5_ofItem 83 = .ok (.invokevirtual 163, 3) := by decide +kernel
theorem dX5_ofItem_86 : decode cX5_ofItem 86 = .ok (.ireturn, 1) := by decide +kernel
theorem dX5_ofItem_87 : decode cX5_ofItem 87 = .ok (.aload_n 0, 1) := by decide +kernel
theorem dX5_ofItem_88 : decode cX5_ofItem 88 = .ok (.getfield 19, 3) := by decide +kernel
theorem dX5_ofItem_91 : decode cX5_ofItem 91 = .ok (.iload_n 1, 1) := by decide +kernel
theorem dX5_ofItem_92 : decode cX5_ofItem 92 = .ok (.aload_n 0, 1) := by decide +kernel
theorem dX5_ofItem_93 : decode cX5_ofItem 93 = .ok (.getfield 160, 3) := by decide +kernel
theorem dX5_ofItem_96 : decode cX5_ofItem 96 = .ok (.iconst (-1), 1) := by decide +kernel
theorem dX5_ofItem_97 : decode cX5_ofItem 97 = .ok (.iconst 0, 1) := by decide +kernel
theorem dX5_ofItem_98 : decode cX5_ofItem 98 = .ok (.invokevirtual 166, 3) := by decide +kernel
theorem dX5_ofItem_101 : decode cX5_ofItem 101 = .ok (.ireturn, 1) := by decide +kernel
theorem dX5_ofItem_102 : decode cX5_ofItem 102 = .ok (.aload_n 0, 1) := by decide +kernel
theorem dX5_ofItem_103 : decode cX5_ofItem 103 = .ok (.iload_n 1, 1) := by decide +kernel
theorem dX5_ofItem_104 : decode cX5_ofItem 104 = .ok (.invokevirtual 169, 3) := by decide +kernel
theorem dX5_ofItem_107 : decode cX5_ofItem 107 = .ok (.ireturn, 1) := by decide +kernel
theorem dX5_join_0 : decode cX5_join 0 = .ok (.iload_n 1, 1) := by decide +kernel
theorem dX5_join_1 : decode cX5_join 1 = .ok (.ifCond .lt 8, 3) := by decide +kernel
theorem dX5_join_4 : decode cX5_join 4 = .ok (.iload_n 1, 1) := by decide +kernel
theorem dX5_join_5 : decode cX5_join 5 = .ok (.iconst 4, 1) := by decide +kernel
theorem dX5_join_6 : decode cX5_join 6 = .ok (.if_icmp .lt 13, 3) := by decide +kernel
theorem dX5_join_9 : decode cX5_join 9 = .ok (.new 74, 3) := by decide +kernel
theorem dX5_join_12 : decode cX5_join 12 = .ok (.dup, 1) := by decide +kernel
theorem dX5_join_13 : decode cX5_join 13 = .ok (.ldc 76, 2) := by decide +kernel
theorem dX5_join_15 : decode cX5_join 15 = .ok (.invokespecial 78, 3) := by decide +kernel
theorem dX5_join_18 : decode cX5_join 18 = .ok (.athrow, 1) := by decide +kernel
theorem dX5_join_19 : decode cX5_join 19 = .ok (.aload_n 0, 1) := by decide +kernel
theorem dX5_join_20 : decode cX5_join 20 = .ok (.iload_n 2, 1) := by decide +kernel
theorem dX5_join_21 : decode cX5_join 21 = .ok (.invokevirtual 102, 3) := by decide +kernel
theorem dX5_join_24 : decode cX5_join 24 = .ok (.ifCond .ne 13, 3) := by decide +kernel
theorem dX5_join_27 : decode cX5_join 27 = .ok (.new 58, 3) := by decide +kernel
theorem dX5_join_30 : decode cX5_join 30 = .ok (.dup, 1) := by decide +kernel
theorem dX5_join_31 : decode cX5_join 31 = .ok (.ldc 172, 2) := by decide +kernel
theorem dX5_join_33 : decode cX5_join 33 = .ok (.invokespecial 62, 3) := by decide +kernel
theorem dX5_join_36 : decode cX5_join 36 = .ok (.athrow, 1) := by decide +kernel
theorem dX5_join_37 : decode cX5_join 37 = .ok (.aload_n 0, 1) := by decide +kernel
theorem dX5_join_38 : decode cX5_join 38 = .ok (.getfield 174, 3) := by decide +kernel
theorem dX5_join_41 : decode cX5_join 41 = .ok (.bipush 8, 2) := by decide +kernel
theorem dX5_join_43 : decode cX5_join 43 = .ok (.if_icmp .ge 15, 3) := by decide +kernel
theorem dX5_join_46 : decode cX5_join 46 = .ok (.aload_n 0, 1) := by decide +kernel
theorem dX5_join_47 : decode cX5_join 47 = .ok (.getfield 10, 3) := by decide +kernel
theorem dX5_join_50 : decode cX5_join 50 = .ok (.getfield 81, 3) := by decide +kernel
theorem dX5_join_53 : decode cX5_join 53 = .ok (.iload_n 1, 1) := by decide +kernel
theorem dX5_join_54 : decode cX5_join 54 = .ok (.iaload, 1) := by decide +kernel
theorem dX5_join_55 : decode cX5_join 55 = .ok (.ifCond .ne 13, 3) := by decide +kernel
theorem dX5_join_58 : decode cX5_join 58 = .ok (.new 69, 3) := by decide +kernel
theorem dX5_join_61 : decode cX5_join 61 = .ok (.dup, 1) := by decide +kernel
theorem dX5_join_62 : decode cX5_join 62 = .ok (.ldc 177, 2) := by decide +kernel
theorem dX5_join_64 : decode cX5_join 64 = .ok (.invokespecial 73, 3) := by decide +kernel
theorem dX5_join_67 : decode cX5_join 67 = .ok (.athrow, 1) := by decide +kernel
theorem dX5_join_68 : decode cX5_join 68 = .ok (.aload_n 0, 1) := by decide +kernel
theorem dX5_join_69 : decode cX5_join 69 = .ok (.getfield 174, 3) := by decide +kernel
theorem dX5_join_72 : decode cX5_join 72 = .ok (.istore_n 3, 1) := by decide +kernel
theorem dX5_join_73 : decode cX5_join 73 = .ok (.aload_n 0, 1) := by decide +kernel
theorem dX5_join_74 : decode cX5_join 74 = .ok (.dup, 1) := by decide +kernel
theorem dX5_join_75 : decode cX5_join 75 = .ok (.getfield 174, 3) := by decide +kernel
theorem dX5_join_78 : decode cX5_join 78 = .ok (.iconst 1, 1) := by decide +kernel
theorem dX5_join_79 : decode cX5_join 79 = .ok (.iadd, 1) := by decide +kernel
theorem dX5_join_80 : decode cX5_join 80 = .ok (.putfield 174, 3) := by decide +kernel
theorem dX5_join_83 : decode cX5_join 83 = .ok (.aload_n 0, 1) := by decide +kernel
theorem dX5_join_84 : decode cX5_join 84 = .ok (.iload_n 3, 1) := by decide +kernel
theorem dX5_join_85 : decode cX5_join 85 = .ok (.invokevirtual 179, 3) := by decide +kernel
theorem dX5_join_88 : decode cX5_join 88 = .ok (.astore 4, 2) := by decide +kernel
theorem dX5_join_90 : decode cX5_join 90 = .ok (.aload 4, 2) := by decide +kernel
theorem dX5_join_92 : decode cX5_join 92 = .ok (.aload_n 0, 1) := by decide +kernel
theorem dX5_join_93 : decode cX5_join 93 = .ok (.getfield 10, 3) := by decide +kernel
theorem dX5_join_96 : decode cX5_join 96 = .ok (.getfield 81, 3) := by decide +kernel
theorem dX5_join_99 : decode cX5_join 99 = .ok (.iload_n 1, 1) := by decide +kernel
theorem dX5_join_100 : decode cX5_join 100 = .ok (.iaload, 1) := by decide +kernel
theorem dX5_join_101 : decode cX5_join 101 = .ok (.putfield 183, 3) := by decide +kernel
theorem dX5_join_104 : decode cX5_join 104 = .ok (.aload 4, 2) := by decide +kernel
theorem dX5_join_106 : decode cX5_join 106 = .ok (.iload_n 2, 1) := by decide +kernel
theorem dX5_join_107 : decode cX5_join 107 = .ok (.putfield 186, 3) := by decide +kernel
theorem dX5_join_110 : decode cX5_join 110 = .ok (.aload_n 0, 1) := by decide +kernel
theorem dX5_join_111 : decode cX5_join 111 = .ok (.invokevirtual 136, 3) := by decide +kernel
theorem dX5_join_114 : decode cX5_join 114 = .ok (.iload_n 3, 1) := by decide +kernel
theorem dX5_join_115 : decode cX5_join 115 = .ok (.ireturn, 1) := by decide +kernel
theorem dX5_leave_0 : decode cX5_leave 0 = .ok (.aload_n 0, 1) := by decide +kernel
theorem dX5_leave_1 : decode cX5_leave 1 = .ok (.iload_n 1, 1) := by decide +kernel
theorem dX5_leave_2 : decode cX5_leave 2 = .ok (.invokevirtual 179, 3) := by decide +kernel
theorem dX5_leave_5 : decode cX5_leave 5 = .ok (.astore_n 2, 1) := by decide +kernel
theorem dX5_leave_6 : decode cX5_leave 6 = .ok (.aload_n 2, 1) := by decide +kernel
theorem dX5_leave_7 : decode cX5_leave 7 = .ok (.getfield 189, 3) := by decide +kernel
theorem dX5_leave_10 : decode cX5_leave 10 = .ok (.ifCond .eq 13, 3) := by decide +kernel
theorem dX5_leave_13 : decode cX5_leave 13 = .ok (.new 69, 3) := by decide +kernel
theorem dX5_leave_16 : decode cX5_leave 16 = .ok (.dup, 1) := by decide +kernel
theorem dX5_leave_17 : decode cX5_leave 17 = .ok (.ldc 193, 2) := by decide +kernel
theorem dX5_leave_19 : decode cX5_leave 19 = .ok (.invokespecial 73, 3) := by decide +kernel
theorem dX5_leave_22 : decode cX5_leave 22 = .ok (.athrow, 1) := by decide +kernel
theorem dX5_leave_23 : decode cX5_leave 23 = .ok (.aload_n 2, 1) := by decide +kernel
theorem dX5_leave_24 : decode cX5_leave 24 = .ok (.iconst 1, 1) := by decide +kernel
theorem dX5_leave_25 : decode cX5_leave 25 = .ok (.putfield 189, 3) := by decide +kernel
theorem dX5_leave_28 : decode cX5_leave 28 = .ok (.iconst 0, 1) := by decide +kernel
theorem dX5_leave_29 : decode cX5_leave 29 = .ok (.istore_n 3, 1) := by decide +kernel
theorem dX5_leave_30 : decode cX5_leave 30 = .ok (.iload_n 3, 1) := by decide +kernel
theorem dX5_leave_31 : decode cX5_leave 31 = .ok (.bipush 12, 2) := by decide +kernel
theorem dX5_leave_33 : decode cX5_leave 33 = .ok (.if_icmp .ge 38, 3) := by decide +kernel
theorem dX5_leave_36 : decode cX5_leave 36 = .ok (.aload_n 2, 1) := by decide +kernel
theorem dX5_leave_37 : decode cX5_leave 37 = .ok (.getfield 195, 3) := by decide +kernel
theorem dX5_leave_40 : decode cX5_leave 40 = .ok (.iload_n 3, 1) := by decide +kernel
theorem dX5_leave_41 : decode cX5_leave 41 = .ok (.iaload, 1) := by decide +kernel
theorem dX5_leave_42 : decode cX5_leave 42 = .ok (.ifCond .ne 23, 3) := by decide +kernel
theorem dX5_leave_45 : decode cX5_leave 45 = .ok (.aload_n 0, 1) := by decide +kernel
theorem dX5_leave_46 : decode cX5_leave 46 = .ok (.getfield 26, 3) := by decide +kernel
theorem dX5_leave_49 : decode cX5_leave 49 = .ok (.aload_n 2, 1) := by decide +kernel
theorem dX5_leave_50 : decode cX5_leave 50 = .ok (.getfield 198, 3) := by decide +kernel
theorem dX5_leave_53 : decode cX5_leave 53 = .ok (.iload_n 3, 1) := by decide +kernel
theorem dX5_leave_54 : decode cX5_leave 54 = .ok (.iaload, 1) := by decide +kernel
theorem dX5_leave_55 : decode cX5_leave 55 = .ok (.invokevirtual 201, 3) := by decide +kernel
theorem dX5_leave_58 : decode cX5_leave 58 = .ok (.aload_n 2, 1) := by decide +kernel
theorem dX5_leave_59 : decode cX5_leave 59 = .ok (.getfield 198, 3) := by decide +kernel
theorem dX5_leave_62 : decode cX5_leave 62 = .ok (.iload_n 3, 1) := by decide +kernel
theorem dX5_leave_63 : decode cX5_leave 63 = .ok (.iconst (-1), 1) := by decide +kernel
theorem dX5_leave_64 : decode cX5_leave 64 = .ok (.iastore, 1) := by decide +kernel
theorem dX5_leave_65 : decode cX5_leave 65 = .ok (.iinc 3 1, 3) := by decide +kernel
theorem dX5_leave_68 : decode cX5_leave 68 = .ok (.goto (-38), 3) := by decide +kernel
theorem dX5_leave_71 : decode cX5_leave 71 = .ok (.aload_n 0, 1) := by decide +kernel
theorem dX5_leave_72 : decode cX5_leave 72 = .ok (.invokevirtual 136, 3) := by decide +kernel
theorem dX5_leave_75 : decode cX5_leave 75 = .ok (.aload_n 2, 1) := by decide +kernel
theorem dX5_leave_76 : decode cX5_leave 76 = .ok (.iconst 1, 1) := by decide +kernel
theorem dX5_leave_77 : decode cX5_leave 77 = .ok (.invokevirtual 205, 3) := by decide +kernel
theorem dX5_leave_80 : decode cX5_leave 80 = .ok (.aload_n 2, 1) := by decide +kernel
theorem dX5_leave_81 : decode cX5_leave 81 = .ok (.iconst 2, 1) := by decide +kernel
theorem dX5_leave_82 : decode cX5_leave 82 = .ok (.invokevirtual 205, 3) := by decide +kernel
theorem dX5_leave_85 : decode cX5_leave 85 = .ok (.iadd, 1) := by decide +kernel
theorem dX5_leave_86 : decode cX5_leave 86 = .ok (.ireturn, 1) := by decide +kernel
theorem dX5_day_0 : decode cX5_day 0 = .ok (.aload_n 0, 1) := by decide +kernel
theorem dX5_day_1 : decode cX5_day 1 = .ok (.getfield 160, 3) := by decide +kernel
theorem dX5_day_4 : decode cX5_day 4 = .ok (.sipush 199, 3) := by decide +kernel
theorem dX5_day_7 : decode cX5_day 7 = .ok (.if_icmp .lt 13, 3) := by decide +kernel
theorem dX5_day_10 : decode cX5_day 10 = .ok (.new 69, 3) := by decide +kernel
theorem dX5_day_13 : decode cX5_day 13 = .ok (.dup, 1) := by decide +kernel
theorem dX5_day_14 : decode cX5_day 14 = .ok (.ldc 208, 2) := by decide +kernel
theorem dX5_day_16 : decode cX5_day 16 = .ok (.invokespecial 73, 3) := by decide +kernel
theorem dX5_day_19 : decode cX5_day 19 = .ok (.athrow, 1) := by decide +kernel
theorem dX5_day_20 : decode cX5_day 20 = .ok (.aload_n 0, 1) := by decide +kernel
theorem dX5_day_21 : decode cX5_day 21 = .ok (.dup, 1) := by decide +kernel
theorem dX5_day_22 : decode cX5_day 22 = .ok (.getfield 160, 3) := by decide +kernel
theorem dX5_day_25 : decode cX5_day 25 = .ok (.iconst 1, 1) := by decide +kernel
theorem dX5_day_26 : decode cX5_day 26 = .ok (.iadd, 1) := by decide +kernel
theorem dX5_day_27 : decode cX5_day 27 = .ok (.putfield 160, 3) := by decide +kernel
theorem dX5_day_30 : decode cX5_day 30 = .ok (.aload_n 0, 1) := by decide +kernel
theorem dX5_day_31 : decode cX5_day 31 = .ok (.getfield 19, 3) := by decide +kernel
theorem dX5_day_34 : decode cX5_day 34 = .ok (.aload_n 0, 1) := by decide +kernel
theorem dX5_day_35 : decode cX5_day 35 = .ok (.getfield 160, 3) := by decide +kernel
theorem dX5_day_38 : decode cX5_day 38 = .ok (.invokevirtual 210, 3) := by decide +kernel
theorem dX5_day_41 : decode cX5_day 41 = .ok (.iconst 0, 1) := by decide +kernel
theorem dX5_day_42 : decode cX5_day 42 = .ok (.istore_n 1, 1) := by decide +kernel
theorem dX5_day_43 : decode cX5_day 43 = .ok (.iconst 0, 1) := by decide +kernel
theorem dX5_day_44 : decode cX5_day 44 = .ok (.istore_n 2, 1) := by decide +kernel
theorem dX5_day_45 : decode cX5_day 45 = .ok (.iload_n 2, 1) := by decide +kernel
theorem dX5_day_46 : decode cX5_day 46 = .ok (.aload_n 0, 1) := by decide +kernel
theorem dX5_day_47 : decode cX5_day 47 = .ok (.getfield 174, 3) := by decide +kernel
theorem dX5_day_50 : decode cX5_day 50 = .ok (.if_icmp .ge 24, 3) := by decide +kernel
theorem dX5_day_53 : decode cX5_day 53 = .ok (.iload_n 1, 1) := by decide +kernel
theorem dX5_day_54 : decode cX5_day 54 = .ok (.aload_n 0, 1) := by decide +kernel
theorem dX5_day_55 : decode cX5_day 55 = .ok (.iload_n 2, 1) := by decide +kernel
theorem dX5_day_56 : decode cX5_day 56 = .ok (.invokevirtual 179, 3) := by decide +kernel
theorem dX5_day_59 : decode cX5_day 59 = .ok (.aload_n 0, 1) := by decide +kernel
theorem dX5_day_60 : decode cX5_day 60 = .ok (.getfield 160, 3) := by decide +kernel
theorem dX5_day_63 : decode cX5_day 63 = .ok (.invokevirtual 213, 3) := by decide +kernel
theorem dX5_day_66 : decode cX5_day 66 = .ok (.iadd, 1) := by decide +kernel
theorem dX5_day_67 : decode cX5_day 67 = .ok (.istore_n 1, 1) := by decide +kernel
theorem dX5_day_68 : decode cX5_day 68 = .ok (.iinc 2 1, 3) := by decide +kernel
theorem dX5_day_71 : decode cX5_day 71 = .ok (.goto (-26), 3) := by decide +kernel
theorem dX5_day_74 : decode cX5_day 74 = .ok (.iconst 0, 1) := by decide +kernel
theorem dX5_day_75 : decode cX5_day 75 = .ok (.istore_n 2, 1) := by decide +kernel
theorem dX5_day_76 : decode cX5_day 76 = .ok (.iload_n 2, 1) := by decide +kernel
theorem dX5_day_77 : decode cX5_day 77 = .ok (.aload_n 0, 1) := by decide +kernel
theorem dX5_day_78 : decode cX5_day 78 = .ok (.getfield 174, 3) := by decide +kernel
theorem dX5_day_81 : decode cX5_day 81 = .ok (.if_icmp .ge 18, 3) := by decide +kernel
theorem dX5_day_84 : decode cX5_day 84 = .ok (.aload_n 0, 1) := by decide +kernel
theorem dX5_day_85 : decode cX5_day 85 = .ok (.aload_n 0, 1) := by decide +kernel
theorem dX5_day_86 : decode cX5_day 86 = .ok (.iload_n 2, 1) := by decide +kernel
theorem dX5_day_87 : decode cX5_day 87 = .ok (.invokevirtual 179, 3) := by decide +kernel
theorem dX5_day_90 : decode cX5_day 90 = .ok (.invokevirtual 216, 3) := by decide +kernel
theorem dX5_day_93 : decode cX5_day 93 = .ok (.iinc 2 1, 3) := by decide +kernel
theorem dX5_day_96 : decode cX5_day 96 = .ok (.goto (-20), 3) := by decide +kernel
theorem dX5_day_99 : decode cX5_day 99 = .ok (.iconst 0, 1) := by decide +kernel
theorem dX5_day_100 : decode cX5_day 100 = .ok (.istore_n 2, 1) := by decide +kernel
theorem dX5_day_101 : decode cX5_day 101 = .ok (.iload_n 2, 1) := by decide +kernel
theorem dX5_day_102 : decode cX5_day 102 = .ok (.aload_n 0, 1) := by decide +kernel
theorem dX5_day_103 : decode cX5_day 103 = .ok (.getfield 174, 3) := by decide +kernel
theorem dX5_day_106 : decode cX5_day 106 = .ok (.if_icmp .ge 18, 3) := by decide +kernel
theorem dX5_day_109 : decode cX5_day 109 = .ok (.aload_n 0, 1) := by decide +kernel
theorem dX5_day_110 : decode cX5_day 110 = .ok (.aload_n 0, 1) := by decide +kernel
theorem dX5_day_111 : decode cX5_day 111 = .ok (.iload_n 2, 1) := by decide +kernel
theorem dX5_day_112 : decode cX5_day 112 = .ok (.invokevirtual 179, 3) := by decide +kernel
theorem dX5_day_115 : decode cX5_day 115 = .ok (.invokevirtual 220, 3) := by decide +kernel
theorem dX5_day_118 : decode cX5_day 118 = .ok (.iinc 2 1, 3) := by decide +kernel
theorem dX5_day_121 : decode cX5_day 121 = .ok (.goto (-20), 3) := by decide +kernel
theorem dX5_day_124 : decode cX5_day 124 = .ok (.aload_n 0, 1) := by decide +kernel
theorem dX5_day_125 : decode cX5_day 125 = .ok (.invokevirtual 136, 3) := by decide +kernel
theorem dX5_day_128 : decode cX5_day 128 = .ok (.iconst 0, 1) := by decide +kernel
theorem dX5_day_129 : decode cX5_day 129 = .ok (.istore_n 2, 1) := by decide +kernel
theorem dX5_day_130 : decode cX5_day 130 = .ok (.iload_n 2, 1) := by decide +kernel
theorem dX5_day_131 : decode cX5_day 131 = .ok (.aload_n 0, 1) := by decide +kernel
theorem dX5_day_132 : decode cX5_day 132 = .ok (.getfield 174, 3) := by decide +kernel
theorem dX5_day_135 : decode cX5_day 135 = .ok (.if_icmp .ge 18, 3) := by decide +kernel
theorem dX5_day_138 : decode cX5_day 138 = .ok (.aload_n 0, 1) := by decide +kernel
theorem dX5_day_139 : decode cX5_day 139 = .ok (.aload_n 0, 1) := by decide +kernel
theorem dX5_day_140 : decode cX5_day 140 = .ok (.iload_n 2, 1) := by decide +kernel
theorem dX5_day_141 : decode cX5_day 141 = .ok (.invokevirtual 179, 3) := by decide +kernel
theorem dX5_day_144 : decode cX5_day 144 = .ok (.invokevirtual 223, 3) := by decide +kernel
theorem dX5_day_147 : decode cX5_day 147 = .ok (.iinc 2 1, 3) := by decide +kernel
theorem dX5_day_150 : decode cX5_day 150 = .ok (.goto (-20), 3) := by decide +kernel
theorem dX5_day_153 : decode cX5_day 153 = .ok (.iload_n 1, 1) := by decide +kernel
theorem dX5_day_154 : decode cX5_day 154 = .ok (.ireturn, 1) := by decide +kernel
theorem dX5_ofStep_0 : decode cX5_ofStep 0 = .ok (.aload_n 0, 1) := by decide +kernel
theorem dX5_ofStep_1 : decode cX5_ofStep 1 = .ok (.iload_n 1, 1) := by decide +kernel
theorem dX5_ofStep_2 : decode cX5_ofStep 2 = .ok (.invokevirtual 179, 3) := by decide +kernel
theorem dX5_ofStep_5 : decode cX5_ofStep 5 = .ok (.astore 4, 2) := by decide +kernel
theorem dX5_ofStep_7 : decode cX5_ofStep 7 = .ok (.iload_n 2, 1) := by decide +kernel
theorem dX5_ofStep_8 : decode cX5_ofStep 8 = .ok (.ifCond .lt 21, 3) := by decide +kernel
theorem dX5_ofStep_11 : decode cX5_ofStep 11 = .ok (.iload_n 2, 1) := by decide +kernel
theorem dX5_ofStep_12 : decode cX5_ofStep 12 = .ok (.bipush 12, 2) := by decide +kernel
theorem dX5_ofStep_14 : decode cX5_ofStep 14 = .ok (.if_icmp .ge 15, 3) := by decide +kernel
theorem dX5_ofStep_17 : decode cX5_ofStep 17 = .ok (.aload 4, 2) := by decide +kernel
theorem dX5_ofStep_19 : decode cX5_ofStep 19 = .ok (.getfield 183, 3) := by decide +kernel
theorem dX5_ofStep_22 : decode cX5_ofStep 22 = .ok (.iload_n 2, 1) := by decide +kernel
theorem dX5_ofStep_23 : decode cX5_ofStep 23 = .ok (.invokestatic 226, 3) := by decide +kernel
theorem dX5_ofStep_26 : decode cX5_ofStep 26 = .ok (.ifCond .ne 13, 3) := by decide +kernel
theorem dX5_ofStep_29 : decode cX5_ofStep 29 = .ok (.new 74, 3) := by decide +kernel
theorem dX5_ofStep_32 : decode cX5_ofStep 32 = .ok (.dup, 1) := by decide +kernel
theorem dX5_ofStep_33 : decode cX5_ofStep 33 = .ok (.ldc 229, 2) := by decide +kernel
theorem dX5_ofStep_35 : decode cX5_ofStep 35 = .ok (.invokespecial 78, 3) := by decide +kernel
theorem dX5_ofStep_38 : decode cX5_ofStep 38 = .ok (.athrow, 1) := by decide +kernel
theorem dX5_ofStep_39 : decode cX5_ofStep 39 = .ok (.iload_n 3, 1) := by decide +kernel
theorem dX5_ofStep_40 : decode cX5_ofStep 40 = .ok (.iconst 0, 1) := by decide +kernel
theorem dX5_ofStep_41 : decode cX5_ofStep 41 = .ok (.iconst 5, 1) := by decide +kernel
theorem dX5_ofStep_42 : decode cX5_ofStep 42 = .ok (.invokestatic 46, 3) := by decide +kernel
theorem dX5_ofStep_45 : decode cX5_ofStep 45 = .ok (.ifCond .ne 13, 3) := by decide +kernel
theorem dX5_ofStep_48 : decode cX5_ofStep 48 = .ok (.new 58, 3) := by decide +kernel
theorem dX5_ofStep_51 : decode cX5_ofStep 51 = .ok (.dup, 1) := by decide +kernel
theorem dX5_ofStep_52 : decode cX5_ofStep 52 = .ok (.ldc 231, 2) := by decide +kernel
theorem dX5_ofStep_54 : decode cX5_ofStep 54 = .ok (.invokespecial 62, 3) := by decide +kernel
theorem dX5_ofStep_57 : decode cX5_ofStep 57 = .ok (.athrow, 1) := by decide +kernel
theorem dX5_ofStep_58 : decode cX5_ofStep 58 = .ok (.aload_n 0, 1) := by decide +kernel
theorem dX5_ofStep_59 : decode cX5_ofStep 59 = .ok (.getfield 35, 3) := by decide +kernel
theorem dX5_ofStep_62 : decode cX5_ofStep 62 = .ok (.aload 4, 2) := by decide +kernel
theorem dX5_ofStep_64 : decode cX5_ofStep 64 = .ok (.aload_n 0, 1) := by decide +kernel
theorem dX5_ofStep_65 : decode cX5_ofStep 65 = .ok (.getfield 160, 3) := by decide +kernel
theorem dX5_ofStep_68 : decode cX5_ofStep 68 = .ok (.iconst (-1), 1) := by decide +kernel
theorem dX5_ofStep_69 : decode cX5_ofStep 69 = .ok (.iconst 0, 1) := by decide +kernel
theorem dX5_ofStep_70 : decode cX5_ofStep 70 = .ok (.invokevirtual 233, 3) := by decide +kernel
theorem dX5_ofStep_73 : decode cX5_ofStep 73 = .ok (.aload_n 0, 1) := by decide +kernel
theorem dX5_ofStep_74 : decode cX5_ofStep 74 = .ok (.aload 4, 2) := by decide +kernel
theorem dX5_ofStep_76 : decode cX5_ofStep 76 = .ok (.iload_n 2, 1) := by decide +kernel
theorem dX5_ofStep_77 : decode cX5_ofStep 77 = .ok (.iload_n 3, 1) := by decide +kernel
theorem dX5_ofStep_78 : decode cX5_ofStep 78 = .ok (.invokevirtual 237, 3) := by decide +kernel
theorem dX5_ofStep_81 : decode cX5_ofStep 81 = .ok (.ireturn, 1) := by decide +kernel
theorem dX5_ofJoiner_0 : decode cX5_ofJoiner 0 = .ok (.aload_n 0, 1) := by decide +kernel
theorem dX5_ofJoiner_1 : decode cX5_ofJoiner 1 = .ok (.iload_n 1, 1) := by decide +kernel
theorem dX5_ofJoiner_2 : decode cX5_ofJoiner 2 = .ok (.invokevirtual 179, 3) := by decide +kernel
theorem dX5_ofJoiner_5 : decode cX5_ofJoiner 5 = .ok (.astore_n 3, 1) := by decide +kernel
theorem dX5_ofJoiner_6 : decode cX5_ofJoiner 6 = .ok (.iload_n 2, 1) := by decide +kernel
theorem dX5_ofJoiner_7 : decode cX5_ofJoiner 7 = .ok (.iconst 0, 1) := by decide +kernel
theorem dX5_ofJoiner_8 : decode cX5_ofJoiner 8 = .ok (.bipush 6, 2) := by decide +kernel
theorem dX5_ofJoiner_10 : decode cX5_ofJoiner 10 = .ok (.invokestatic 46, 3) := by decide +kernel
theorem dX5_ofJoiner_13 : decode cX5_ofJoiner 13 = .ok (.ifCond .ne 13, 3) := by decide +kernel
theorem dX5_ofJoiner_16 : decode cX5_ofJoiner 16 = .ok (.new 58, 3) := by decide +kernel
theorem dX5_ofJoiner_19 : decode cX5_ofJoiner 19 = .ok (.dup, 1) := by decide +kernel
theorem dX5_ofJoiner_20 : decode cX5_ofJoiner 20 = .ok (.ldc 241, 2) := by decide +kernel
theorem dX5_ofJoiner_22 : decode cX5_ofJoiner 22 = .ok (.invokespecial 62, 3) := by decide +kernel
theorem dX5_ofJoiner_25 : decode cX5_ofJoiner 25 = .ok (.athrow, 1) := by decide +kernel
theorem dX5_ofJoiner_26 : decode cX5_ofJoiner 26 = .ok (.aload_n 0, 1) := by decide +kernel
theorem dX5_ofJoiner_27 : decode cX5_ofJoiner 27 = .ok (.getfield 35, 3) := by decide +kernel
theorem dX5_ofJoiner_30 : decode cX5_ofJoiner 30 = .ok (.aload_n 3, 1) := by decide +kernel
theorem dX5_ofJoiner_31 : decode cX5_ofJoiner 31 = .ok (.aload_n 0, 1) := by decide +kernel
theorem dX5_ofJoiner_32 : decode cX5_ofJoiner 32 = .ok (.getfield 160, 3) := by decide +kernel
theorem dX5_ofJoiner_35 : decode cX5_ofJoiner 35 = .ok (.iconst (-1), 1) := by decide +kernel
theorem dX5_ofJoiner_36 : decode cX5_ofJoiner 36 = .ok (.iconst 0, 1) := by decide +kernel
theorem dX5_ofJoiner_37 : decode cX5_ofJoiner 37 = .ok (.invokevirtual 233, 3) := by decide +kernel
theorem dX5_ofJoiner_40 : decode cX5_ofJoiner 40 = .ok (.aload_n 0, 1) := by decide +kernel
theorem dX5_ofJoiner_41 : decode cX5_ofJoiner 41 = .ok (.aload_n 3, 1) := by decide +kernel
theorem dX5_ofJoiner_42 : decode cX5_ofJoiner 42 = .ok (.iload_n 2, 1) := by decide +kernel
theorem dX5_ofJoiner_43 : decode cX5_ofJoiner 43 = .ok (.invokevirtual 243, 3) := by decide +kernel
theorem dX5_ofJoiner_46 : decode cX5_ofJoiner 46 = .ok (.ireturn, 1) := by decide +kernel
theorem dX5_many_0 : decode cX5_many 0 = .ok (.iload_n 1, 1) := by decide +kernel
theorem dX5_many_1 : decode cX5_many 1 = .ok (.iconst 0, 1) := by decide +kernel
theorem dX5_many_2 : decode cX5_many 2 = .ok (.bipush 10, 2) := by decide +kernel
theorem dX5_many_4 : decode cX5_many 4 = .ok (.invokestatic 46, 3) := by decide +kernel
theorem dX5_many_7 : decode cX5_many 7 = .ok (.ifCond .ne 13, 3) := by decide +kernel
theorem dX5_many_10 : decode cX5_many 10 = .ok (.new 58, 3) := by decide +kernel
theorem dX5_many_13 : decode cX5_many 13 = .ok (.dup, 1) := by decide +kernel
theorem dX5_many_14 : decode cX5_many 14 = .ok (.ldc 247, 2) := by decide +kernel
theorem dX5_many_16 : decode cX5_many 16 = .ok (.invokespecial 62, 3) := by decide +kernel
theorem dX5_many_19 : decode cX5_many 19 = .ok (.athrow, 1) := by decide +kernel
theorem dX5_many_20 : decode cX5_many 20 = .ok (.iload_n 1, 1) := by decide +kernel
theorem dX5_many_21 : decode cX5_many 21 = .ok (.tableswitch 122 0 9 #[55, 63, 71, 79, 87, 92, 97, 103, 109, 114], 55) := by decide +kernel
theorem dX5_many_76 : decode cX5_many 76 = .ok (.aload_n 0, 1) := by decide +kernel
theorem dX5_many_77 : decode cX5_many 77 = .ok (.getfield 10, 3) := by decide +kernel
theorem dX5_many_80 : decode cX5_many 80 = .ok (.getfield 120, 3) := by decide +kernel
theorem dX5_many_83 : decode cX5_many 83 = .ok (.ireturn, 1) := by decide +kernel
theorem dX5_many_84 : decode cX5_many 84 = .ok (.aload_n 0, 1) := by decide +kernel
theorem dX5_many_85 : decode cX5_many 85 = .ok (.getfield 10, 3) := by decide +kernel
theorem dX5_many_88 : decode cX5_many 88 = .ok (.getfield 249, 3) := by decide +kernel
theorem dX5_many_91 : decode cX5_many 91 = .ok (.ireturn, 1) := by decide +kernel
theorem dX5_many_92 : decode cX5_many 92 = .ok (.aload_n 0, 1) := by decide +kernel
theorem dX5_many_93 : decode cX5_many 93 = .ok (.getfield 19, 3) := by decide +kernel
theorem dX5_many_96 : decode cX5_many 96 = .ok (.getfield 252, 3) := by decide +kernel
theorem dX5_many_99 : decode cX5_many 99 = .ok (.ireturn, 1) := by decide +kernel
theorem dX5_many_100 : decode cX5_many 100 = .ok (.aload_n 0, 1) := by decide +kernel
theorem dX5_many_101 : decode cX5_many 101 = .ok (.getfield 26, 3) := by decide +kernel
theorem dX5_many_104 : decode cX5_many 104 = .ok (.getfield 139, 3) := by decide +kernel
theorem dX5_many_107 : decode cX5_many 107 = .ok (.ireturn, 1) := by decide +kernel
theorem dX5_many_108 : decode cX5_many 108 = .ok (.aload_n 0, 1) := by decide +kernel
theorem dX5_many_109 : decode cX5_many 109 = .ok (.getfield 174, 3) := by decide +kernel
theorem dX5_many_112 : decode cX5_many 112 = .ok (.ireturn, 1) := by decide +kernel
theorem dX5_many_113 : decode cX5_many 113 = .ok (.aload_n 0, 1) := by decide +kernel
theorem dX5_many_114 : decode cX5_many 114 = .ok (.invokevirtual 255, 3) := by decide +kernel
theorem dX5_many_117 : decode cX5_many 117 = .ok (.ireturn, 1) := by decide +kernel
theorem dX5_many_118 : decode cX5_many 118 = .ok (.aload_n 0, 1) := by decide +kernel
theorem dX5_many_119 : decode cX5_many 119 = .ok (.iconst 2, 1) := by decide +kernel
theorem dX5_many_120 : decode cX5_many 120 = .ok (.invokevirtual 259, 3) := by decide +kernel
theorem dX5_many_123 : decode cX5_many 123 = .ok (.ireturn, 1) := by decide +kernel
theorem dX5_many_124 : decode cX5_many 124 = .ok (.aload_n 0, 1) := by decide +kernel
theorem dX5_many_125 : decode cX5_many 125 = .ok (.iconst 1, 1) := by decide +kernel
theorem dX5_many_126 : decode cX5_many 126 = .ok (.invokevirtual 259, 3) := by decide +kernel
theorem dX5_many_129 : decode cX5_many 129 = .ok (.ireturn, 1) := by decide +kernel
theorem dX5_many_130 : decode cX5_many 130 = .ok (.aload_n 0, 1) := by decide +kernel
theorem dX5_many_131 : decode cX5_many 131 = .ok (.invokevirtual 262, 3) := by decide +kernel
theorem dX5_many_134 : decode cX5_many 134 = .ok (.ireturn, 1) := by decide +kernel
theorem dX5_many_135 : decode cX5_many 135 = .ok (.aload_n 0, 1) := by decide +kernel
theorem dX5_many_136 : decode cX5_many 136 = .ok (.getfield 26, 3) := by decide +kernel
theorem dX5_many_139 : decode cX5_many 139 = .ok (.invokevirtual 265, 3) := by decide +kernel
theorem dX5_many_142 : decode cX5_many 142 = .ok (.ireturn, 1) := by decide +kernel
theorem dX5_many_143 : decode cX5_many 143 = .ok (.aload_n 0, 1) := by decide +kernel
theorem dX5_many_144 : decode cX5_many 144 = .ok (.getfield 160, 3) := by decide +kernel
theorem dX5_many_147 : decode cX5_many 147 = .ok (.ireturn, 1) := by decide +kernel
theorem dX5_rightOn_0 : decode cX5_rightOn 0 = .ok (.aload_n 0, 1) := by decide +kernel
theorem dX5_rightOn_1 : decode cX5_rightOn 1 = .ok (.iload_n 1, 1) := by decide +kernel
theorem dX5_rightOn_2 : decode cX5_rightOn 2 = .ok (.invokevirtual 179, 3) := by decide +kernel
theorem dX5_rightOn_5 : decode cX5_rightOn 5 = .ok (.astore_n 3, 1) := by decide +kernel
theorem dX5_rightOn_6 : decode cX5_rightOn 6 = .ok (.iload_n 2, 1) := by decide +kernel
theorem dX5_rightOn_7 : decode cX5_rightOn 7 = .ok (.ifCond .lt 14, 3) := by decide +kernel
theorem dX5_rightOn_10 : decode cX5_rightOn 10 = .ok (.iload_n 2, 1) := by decide +kernel
theorem dX5_rightOn_11 : decode cX5_rightOn 11 = .ok (.aload_n 0, 1) := by decide +kernel
theorem dX5_rightOn_12 : decode cX5_rightOn 12 = .ok (.getfield 10, 3) := by decide +kernel
theorem dX5_rightOn_15 : decode cX5_rightOn 15 = .ok (.getfield 249, 3) := by decide +kernel
theorem dX5_rightOn_18 : decode cX5_rightOn 18 = .ok (.if_icmp .lt 14, 3) := by decide +kernel
theorem dX5_rightOn_21 : decode cX5_rightOn 21 = .ok (.new 74, 3) := by decide +kernel
theorem dX5_rightOn_24 : decode cX5_rightOn 24 = .ok (.dup, 1) := by decide +kernel
theorem dX5_rightOn_25 : decode cX5_rightOn 25 = .ok (.ldc_w 271, 3) := by decide +kernel
theorem dX5_rightOn_28 : decode cX5_rightOn 28 = .ok (.invokespecial 78, 3) := by decide +kernel
theorem dX5_rightOn_31 : decode cX5_rightOn 31 = .ok (.athrow, 1) := by decide +kernel
theorem dX5_rightOn_32 : decode cX5_rightOn 32 = .ok (.aload_n 0, 1) := by decide +kernel
theorem dX5_rightOn_33 : decode cX5_rightOn 33 = .ok (.getfield 35, 3) := by decide +kernel
theorem dX5_rightOn_36 : decode cX5_rightOn 36 = .ok (.aload_n 3, 1) := by decide +kernel
theorem dX5_rightOn_37 : decode cX5_rightOn 37 = .ok (.aload_n 0, 1) := by decide +kernel
theorem dX5_rightOn_38 : decode cX5_rightOn 38 = .ok (.getfield 160, 3) := by decide +kernel
theorem dX5_rightOn_41 : decode cX5_rightOn 41 = .ok (.iconst (-1), 1) := by decide +kernel
theorem dX5_rightOn_42 : decode cX5_rightOn 42 = .ok (.iconst 0, 1) := by decide +kernel
theorem dX5_rightOn_43 : decode cX5_rightOn 43 = .ok (.invokevirtual 233, 3) := by decide +kernel
theorem dX5_rightOn_46 : decode cX5_rightOn 46 = .ok (.aload_n 0, 1) := by decide +kernel
theorem dX5_rightOn_47 : decode cX5_rightOn 47 = .ok (.getfield 35, 3) := by decide +kernel
theorem dX5_rightOn_50 : decode cX5_rightOn 50 = .ok (.aload_n 0, 1) := by decide +kernel
theorem dX5_rightOn_51 : decode cX5_rightOn 51 = .ok (.getfield 10, 3) := by decide +kernel
theorem dX5_rightOn_54 : decode cX5_rightOn 54 = .ok (.getfield 273, 3) := by decide +kernel
theorem dX5_rightOn_57 : decode cX5_rightOn 57 = .ok (.iload_n 2, 1) := by decide +kernel
theorem dX5_rightOn_58 : decode cX5_rightOn 58 = .ok (.iaload, 1) := by decide +kernel
theorem dX5_rightOn_59 : decode cX5_rightOn 59 = .ok (.invokevirtual 276, 3) := by decide +kernel
theorem dX5_rightOn_62 : decode cX5_rightOn 62 = .ok (.ireturn, 1) := by decide +kernel
theorem dX5_next_0 : decode cX5_next 0 = .ok (.aload_n 0, 1) := by decide +kernel
theorem dX5_next_1 : decode cX5_next 1 = .ok (.aload_n 0, 1) := by decide +kernel
theorem dX5_next_2 : decode cX5_next 2 = .ok (.iload_n 1, 1) := by decide +kernel
theorem dX5_next_3 : decode cX5_next 3 = .ok (.invokevirtual 179, 3) := by decide +kernel
theorem dX5_next_6 : decode cX5_next 6 = .ok (.invokevirtual 279, 3) := by decide +kernel
theorem dX5_next_9 : decode cX5_next 9 = .ok (.ireturn, 1) := by decide +kernel
theorem dX5_digest_0 : decode cX5_digest 0 = .ok (.ldc2_w 286, 3) := by decide +kernel
theorem dX5_digest_3 : decode cX5_digest 3 = .ok (.lstore_n 1, 1) := by decide +kernel
theorem dX5_digest_4 : decode cX5_digest 4 = .ok (.iconst 0, 1) := by decide +kernel
theorem dX5_digest_5 : decode cX5_digest 5 = .ok (.istore_n 3, 1) := by decide +kernel
theorem dX5_digest_6 : decode cX5_digest 6 = .ok (.iload_n 3, 1) := by decide +kernel
theorem dX5_digest_7 : decode cX5_digest 7 = .ok (.bipush 10, 2) := by decide +kernel
end
section
theorem dX5_digest_9 : decode cX5_digest 9 = .ok (.if_icmp .gt 22, 3) := by decide +kernel
theorem dX5_digest_12 : decode cX5_digest 12 = .ok (.lload_n 1, 1) := by decide +kernel
theorem dX5_digest_13 : decode cX5_digest 13 = .ok (.ldc2_w 288, 3) := by decide +kernel
theorem dX5_digest_16 : decode cX5_digest 16 = .ok (.lmul, 1) := by decide +kernel
theorem dX5_digest_17 : decode cX5_digest 17 = .ok (.aload_n 0, 1) := by decide +kernel
theorem dX5_digest_18 : decode cX5_digest 18 = .ok (.iload_n 3, 1) := by decide +kernel
theorem dX5_digest_19 : decode cX5_digest 19 = .ok (.invokevirtual 290, 3) := by decide +kernel
theorem dX5_digest_22 : decode cX5_digest 22 = .ok (.i2l, 1) := by decide +kernel
theorem dX5_digest_23 : decode cX5_digest 23 = .ok (.ladd, 1) := by decide +kernel
theorem dX5_digest_24 : decode cX5_digest 24 = .ok (.lstore_n 1, 1) := by decide +kernel
theorem dX5_digest_25 : decode cX5_digest 25 = .ok (.iinc 3 1, 3) := by decide +kernel
theorem dX5_digest_28 : decode cX5_digest 28 = .ok (.goto (-22), 3) := by decide +kernel
theorem dX5_digest_31 : decode cX5_digest 31 = .ok (.iconst 0, 1) := by decide +kernel
theorem dX5_digest_32 : decode cX5_digest 32 = .ok (.istore_n 3, 1) := by decide +kernel
theorem dX5_digest_33 : decode cX5_digest 33 = .ok (.iload_n 3, 1) := by decide +kernel
theorem dX5_digest_34 : decode cX5_digest 34 = .ok (.iconst 4, 1) := by decide +kernel
theorem dX5_digest_35 : decode cX5_digest 35 = .ok (.if_icmp .ge 39, 3) := by decide +kernel
theorem dX5_digest_38 : decode cX5_digest 38 = .ok (.iconst 0, 1) := by decide +kernel
theorem dX5_digest_39 : decode cX5_digest 39 = .ok (.istore 4, 2) := by decide +kernel
theorem dX5_digest_41 : decode cX5_digest 41 = .ok (.iload 4, 2) := by decide +kernel
theorem dX5_digest_43 : decode cX5_digest 43 = .ok (.iconst 3, 1) := by decide +kernel
theorem dX5_digest_44 : decode cX5_digest 44 = .ok (.if_icmp .gt 24, 3) := by decide +kernel
theorem dX5_digest_47 : decode cX5_digest 47 = .ok (.lload_n 1, 1) := by decide +kernel
theorem dX5_digest_48 : decode cX5_digest 48 = .ok (.ldc2_w 288, 3) := by decide +kernel
theorem dX5_digest_51 : decode cX5_digest 51 = .ok (.lmul, 1) := by decide +kernel
theorem dX5_digest_52 : decode cX5_digest 52 = .ok (.aload_n 0, 1) := by decide +kernel
theorem dX5_digest_53 : decode cX5_digest 53 = .ok (.iload_n 3, 1) := by decide +kernel
theorem dX5_digest_54 : decode cX5_digest 54 = .ok (.iload 4, 2) := by decide +kernel
theorem dX5_digest_56 : decode cX5_digest 56 = .ok (.invokevirtual 293, 3) := by decide +kernel
theorem dX5_digest_59 : decode cX5_digest 59 = .ok (.i2l, 1) := by decide +kernel
theorem dX5_digest_60 : decode cX5_digest 60 = .ok (.ladd, 1) := by decide +kernel
theorem dX5_digest_61 : decode cX5_digest 61 = .ok (.lstore_n 1, 1) := by decide +kernel
theorem dX5_digest_62 : decode cX5_digest 62 = .ok (.iinc 4 1, 3) := by decide +kernel
theorem dX5_digest_65 : decode cX5_digest 65 = .ok (.goto (-24), 3) := by decide +kernel
theorem dX5_digest_68 : decode cX5_digest 68 = .ok (.iinc 3 1, 3) := by decide +kernel
theorem dX5_digest_71 : decode cX5_digest 71 = .ok (.goto (-38), 3) := by decide +kernel
theorem dX5_digest_74 : decode cX5_digest 74 = .ok (.iconst 0, 1) := by decide +kernel
theorem dX5_digest_75 : decode cX5_digest 75 = .ok (.istore_n 3, 1) := by decide +kernel
theorem dX5_digest_76 : decode cX5_digest 76 = .ok (.iload_n 3, 1) := by decide +kernel
theorem dX5_digest_77 : decode cX5_digest 77 = .ok (.aload_n 0, 1) := by decide +kernel
theorem dX5_digest_78 : decode cX5_digest 78 = .ok (.getfield 26, 3) := by decide +kernel
theorem dX5_digest_81 : decode cX5_digest 81 = .ok (.getfield 139, 3) := by decide +kernel
theorem dX5_digest_84 : decode cX5_digest 84 = .ok (.if_icmp .ge 39, 3) := by decide +kernel
theorem dX5_digest_87 : decode cX5_digest 87 = .ok (.iconst 0, 1) := by decide +kernel
theorem dX5_digest_88 : decode cX5_digest 88 = .ok (.istore 4, 2) := by decide +kernel
theorem dX5_digest_90 : decode cX5_digest 90 = .ok (.iload 4, 2) := by decide +kernel
theorem dX5_digest_92 : decode cX5_digest 92 = .ok (.iconst 3, 1) := by decide +kernel
theorem dX5_digest_93 : decode cX5_digest 93 = .ok (.if_icmp .gt 24, 3) := by decide +kernel
theorem dX5_digest_96 : decode cX5_digest 96 = .ok (.lload_n 1, 1) := by decide +kernel
theorem dX5_digest_97 : decode cX5_digest 97 = .ok (.ldc2_w 288, 3) := by decide +kernel
theorem dX5_digest_100 : decode cX5_digest 100 = .ok (.lmul, 1) := by decide +kernel
theorem dX5_digest_101 : decode cX5_digest 101 = .ok (.aload_n 0, 1) := by decide +kernel
theorem dX5_digest_102 : decode cX5_digest 102 = .ok (.iload_n 3, 1) := by decide +kernel
theorem dX5_digest_103 : decode cX5_digest 103 = .ok (.iload 4, 2) := by decide +kernel
theorem dX5_digest_105 : decode cX5_digest 105 = .ok (.invokevirtual 296, 3) := by decide +kernel
theorem dX5_digest_108 : decode cX5_digest 108 = .ok (.i2l, 1) := by decide +kernel
theorem dX5_digest_109 : decode cX5_digest 109 = .ok (.ladd, 1) := by decide +kernel
theorem dX5_digest_110 : decode cX5_digest 110 = .ok (.lstore_n 1, 1) := by decide +kernel
theorem dX5_digest_111 : decode cX5_digest 111 = .ok (.iinc 4 1, 3) := by decide +kernel
theorem dX5_digest_114 : decode cX5_digest 114 = .ok (.goto (-24), 3) := by decide +kernel
theorem dX5_digest_117 : decode cX5_digest 117 = .ok (.iinc 3 1, 3) := by decide +kernel
theorem dX5_digest_120 : decode cX5_digest 120 = .ok (.goto (-44), 3) := by decide +kernel
theorem dX5_digest_123 : decode cX5_digest 123 = .ok (.iconst 0, 1) := by decide +kernel
theorem dX5_digest_124 : decode cX5_digest 124 = .ok (.istore_n 3, 1) := by decide +kernel
theorem dX5_digest_125 : decode cX5_digest 125 = .ok (.iload_n 3, 1) := by decide +kernel
theorem dX5_digest_126 : decode cX5_digest 126 = .ok (.aload_n 0, 1) := by decide +kernel
theorem dX5_digest_127 : decode cX5_digest 127 = .ok (.getfield 174, 3) := by decide +kernel
theorem dX5_digest_130 : decode cX5_digest 130 = .ok (.if_icmp .ge 20, 3) := by decide +kernel
theorem dX5_digest_133 : decode cX5_digest 133 = .ok (.aload_n 0, 1) := by decide +kernel
theorem dX5_digest_134 : decode cX5_digest 134 = .ok (.lload_n 1, 1) := by decide +kernel
theorem dX5_digest_135 : decode cX5_digest 135 = .ok (.aload_n 0, 1) := by decide +kernel
theorem dX5_digest_136 : decode cX5_digest 136 = .ok (.iload_n 3, 1) := by decide +kernel
theorem dX5_digest_137 : decode cX5_digest 137 = .ok (.invokevirtual 179, 3) := by decide +kernel
theorem dX5_digest_140 : decode cX5_digest 140 = .ok (.invokevirtual 299, 3) := by decide +kernel
theorem dX5_digest_143 : decode cX5_digest 143 = .ok (.lstore_n 1, 1) := by decide +kernel
theorem dX5_digest_144 : decode cX5_digest 144 = .ok (.iinc 3 1, 3) := by decide +kernel
theorem dX5_digest_147 : decode cX5_digest 147 = .ok (.goto (-22), 3) := by decide +kernel
theorem dX5_digest_150 : decode cX5_digest 150 = .ok (.lload_n 1, 1) := by decide +kernel
theorem dX5_digest_151 : decode cX5_digest 151 = .ok (.lreturn, 1) := by decide +kernel
theorem dX5_has_0 : decode cX5_has 0 = .ok (.iload_n 0, 1) := by decide +kernel
theorem dX5_has_1 : decode cX5_has 1 = .ok (.iload_n 1, 1) := by decide +kernel
theorem dX5_has_2 : decode cX5_has 2 = .ok (.ishr, 1) := by decide +kernel
theorem dX5_has_3 : decode cX5_has 3 = .ok (.iconst 1, 1) := by decide +kernel
theorem dX5_has_4 : decode cX5_has 4 = .ok (.iand, 1) := by decide +kernel
theorem dX5_has_5 : decode cX5_has 5 = .ok (.iconst 1, 1) := by decide +kernel
theorem dX5_has_6 : decode cX5_has 6 = .ok (.if_icmp .ne 7, 3) := by decide +kernel
theorem dX5_has_9 : decode cX5_has 9 = .ok (.iconst 1, 1) := by decide +kernel
theorem dX5_has_10 : decode cX5_has 10 = .ok (.goto 4, 3) := by decide +kernel
theorem dX5_has_13 : decode cX5_has 13 = .ok (.iconst 0, 1) := by decide +kernel
theorem dX5_has_14 : decode cX5_has 14 = .ok (.ireturn, 1) := by decide +kernel
theorem dX5_isWithin_0 : decode cX5_isWithin 0 = .ok (.iload_n 0, 1) := by decide +kernel
theorem dX5_isWithin_1 : decode cX5_isWithin 1 = .ok (.iload_n 1, 1) := by decide +kernel
theorem dX5_isWithin_2 : decode cX5_isWithin 2 = .ok (.if_icmp .lt 12, 3) := by decide +kernel
theorem dX5_isWithin_5 : decode cX5_isWithin 5 = .ok (.iload_n 0, 1) := by decide +kernel
theorem dX5_isWithin_6 : decode cX5_isWithin 6 = .ok (.iload_n 2, 1) := by decide +kernel
theorem dX5_isWithin_7 : decode cX5_isWithin 7 = .ok (.if_icmp .gt 7, 3) := by decide +kernel
theorem dX5_isWithin_10 : decode cX5_isWithin 10 = .ok (.iconst 1, 1) := by decide +kernel
theorem dX5_isWithin_11 : decode cX5_isWithin 11 = .ok (.goto 4, 3) := by decide +kernel
theorem dX5_isWithin_14 : decode cX5_isWithin 14 = .ok (.iconst 0, 1) := by decide +kernel
theorem dX5_isWithin_15 : decode cX5_isWithin 15 = .ok (.ireturn, 1) := by decide +kernel
theorem dX5_isOfKind_0 : decode cX5_isOfKind 0 = .ok (.iload_n 0, 1) := by decide +kernel
theorem dX5_isOfKind_1 : decode cX5_isOfKind 1 = .ok (.ifCond .ne 12, 3) := by decide +kernel
theorem dX5_isOfKind_4 : decode cX5_isOfKind 4 = .ok (.iload_n 1, 1) := by decide +kernel
theorem dX5_isOfKind_5 : decode cX5_isOfKind 5 = .ok (.iconst 0, 1) := by decide +kernel
theorem dX5_isOfKind_6 : decode cX5_isOfKind 6 = .ok (.sipush 255, 3) := by decide +kernel
theorem dX5_isOfKind_9 : decode cX5_isOfKind 9 = .ok (.invokestatic 46, 3) := by decide +kernel
theorem dX5_isOfKind_12 : decode cX5_isOfKind 12 = .ok (.ireturn, 1) := by decide +kernel
theorem dX5_isOfKind_13 : decode cX5_isOfKind 13 = .ok (.iload_n 0, 1) := by decide +kernel
theorem dX5_isOfKind_14 : decode cX5_isOfKind 14 = .ok (.iconst 1, 1) := by decide +kernel
theorem dX5_isOfKind_15 : decode cX5_isOfKind 15 = .ok (.if_icmp .ne 12, 3) := by decide +kernel
theorem dX5_isOfKind_18 : decode cX5_isOfKind 18 = .ok (.iload_n 1, 1) := by decide +kernel
theorem dX5_isOfKind_19 : decode cX5_isOfKind 19 = .ok (.iconst 0, 1) := by decide +kernel
theorem dX5_isOfKind_20 : decode cX5_isOfKind 20 = .ok (.iconst 3, 1) := by decide +kernel
theorem dX5_isOfKind_21 : decode cX5_isOfKind 21 = .ok (.invokestatic 46, 3) := by decide +kernel
theorem dX5_isOfKind_24 : decode cX5_isOfKind 24 = .ok (.ifCond .eq 7, 3) := by decide +kernel
theorem dX5_isOfKind_27 : decode cX5_isOfKind 27 = .ok (.iconst 1, 1) := by decide +kernel
theorem dX5_isOfKind_28 : decode cX5_isOfKind 28 = .ok (.goto 4, 3) := by decide +kernel
theorem dX5_isOfKind_31 : decode cX5_isOfKind 31 = .ok (.iconst 0, 1) := by decide +kernel
theorem dX5_isOfKind_32 : decode cX5_isOfKind 32 = .ok (.ireturn, 1) := by decide +kernel
theorem dX5_isAhead_0 : decode cX5_isAhead 0 = .ok (.iload_n 1, 1) := by decide +kernel
theorem dX5_isAhead_1 : decode cX5_isAhead 1 = .ok (.aload_n 0, 1) := by decide +kernel
theorem dX5_isAhead_2 : decode cX5_isAhead 2 = .ok (.getfield 160, 3) := by decide +kernel
theorem dX5_isAhead_5 : decode cX5_isAhead 5 = .ok (.if_icmp .le 14, 3) := by decide +kernel
theorem dX5_isAhead_8 : decode cX5_isAhead 8 = .ok (.iload_n 1, 1) := by decide +kernel
theorem dX5_isAhead_9 : decode cX5_isAhead 9 = .ok (.sipush 199, 3) := by decide +kernel
theorem dX5_isAhead_12 : decode cX5_isAhead 12 = .ok (.if_icmp .gt 7, 3) := by decide +kernel
theorem dX5_isAhead_15 : decode cX5_isAhead 15 = .ok (.iconst 1, 1) := by decide +kernel
theorem dX5_isAhead_16 : decode cX5_isAhead 16 = .ok (.goto 4, 3) := by decide +kernel
theorem dX5_isAhead_19 : decode cX5_isAhead 19 = .ok (.iconst 0, 1) := by decide +kernel
theorem dX5_isAhead_20 : decode cX5_isAhead 20 = .ok (.ireturn, 1) := by decide +kernel
theorem dX5_joinerAt_0 : decode cX5_joinerAt 0 = .ok (.iload_n 1, 1) := by decide +kernel
theorem dX5_joinerAt_1 : decode cX5_joinerAt 1 = .ok (.ifCond .lt 17, 3) := by decide +kernel
theorem dX5_joinerAt_4 : decode cX5_joinerAt 4 = .ok (.iload_n 1, 1) := by decide +kernel
theorem dX5_joinerAt_5 : decode cX5_joinerAt 5 = .ok (.aload_n 0, 1) := by decide +kernel
theorem dX5_joinerAt_6 : decode cX5_joinerAt 6 = .ok (.getfield 174, 3) := by decide +kernel
theorem dX5_joinerAt_9 : decode cX5_joinerAt 9 = .ok (.if_icmp .ge 9, 3) := by decide +kernel
theorem dX5_joinerAt_12 : decode cX5_joinerAt 12 = .ok (.iload_n 1, 1) := by decide +kernel
theorem dX5_joinerAt_13 : decode cX5_joinerAt 13 = .ok (.bipush 8, 2) := by decide +kernel
theorem dX5_joinerAt_15 : decode cX5_joinerAt 15 = .ok (.if_icmp .lt 14, 3) := by decide +kernel
theorem dX5_joinerAt_18 : decode cX5_joinerAt 18 = .ok (.new 74, 3) := by decide +kernel
theorem dX5_joinerAt_21 : decode cX5_joinerAt 21 = .ok (.dup, 1) := by decide +kernel
theorem dX5_joinerAt_22 : decode cX5_joinerAt 22 = .ok (.ldc_w 312, 3) := by decide +kernel
theorem dX5_joinerAt_25 : decode cX5_joinerAt 25 = .ok (.invokespecial 78, 3) := by decide +kernel
theorem dX5_joinerAt_28 : decode cX5_joinerAt 28 = .ok (.athrow, 1) := by decide +kernel
theorem dX5_joinerAt_29 : decode cX5_joinerAt 29 = .ok (.aload_n 0, 1) := by decide +kernel
theorem dX5_joinerAt_30 : decode cX5_joinerAt 30 = .ok (.getfield 41, 3) := by decide +kernel
theorem dX5_joinerAt_33 : decode cX5_joinerAt 33 = .ok (.iload_n 1, 1) := by decide +kernel
theorem dX5_joinerAt_34 : decode cX5_joinerAt 34 = .ok (.aaload, 1) := by decide +kernel
theorem dX5_joinerAt_35 : decode cX5_joinerAt 35 = .ok (.astore_n 2, 1) := by decide +kernel
theorem dX5_joinerAt_36 : decode cX5_joinerAt 36 = .ok (.aload_n 2, 1) := by decide +kernel
theorem dX5_joinerAt_37 : decode cX5_joinerAt 37 = .ok (.ifnonnull 14, 3) := by decide +kernel
theorem dX5_joinerAt_40 : decode cX5_joinerAt 40 = .ok (.new 74, 3) := by decide +kernel
theorem dX5_joinerAt_43 : decode cX5_joinerAt 43 = .ok (.dup, 1) := by decide +kernel
theorem dX5_joinerAt_44 : decode cX5_joinerAt 44 = .ok (.ldc_w 312, 3) := by decide +kernel
theorem dX5_joinerAt_47 : decode cX5_joinerAt 47 = .ok (.invokespecial 78, 3) := by decide +kernel
theorem dX5_joinerAt_50 : decode cX5_joinerAt 50 = .ok (.athrow, 1) := by decide +kernel
theorem dX5_joinerAt_51 : decode cX5_joinerAt 51 = .ok (.aload_n 2, 1) := by decide +kernel
theorem dX5_joinerAt_52 : decode cX5_joinerAt 52 = .ok (.areturn, 1) := by decide +kernel
theorem dX5_beginSteps_0 : decode cX5_beginSteps 0 = .ok (.iconst 0, 1) := by decide +kernel
theorem dX5_beginSteps_1 : decode cX5_beginSteps 1 = .ok (.istore_n 2, 1) := by decide +kernel
theorem dX5_beginSteps_2 : decode cX5_beginSteps 2 = .ok (.iload_n 2, 1) := by decide +kernel
theorem dX5_beginSteps_3 : decode cX5_beginSteps 3 = .ok (.bipush 12, 2) := by decide +kernel
theorem dX5_beginSteps_5 : decode cX5_beginSteps 5 = .ok (.if_icmp .ge 88, 3) := by decide +kernel
theorem dX5_beginSteps_8 : decode cX5_beginSteps 8 = .ok (.aload_n 0, 1) := by decide +kernel
theorem dX5_beginSteps_9 : decode cX5_beginSteps 9 = .ok (.aload_n 1, 1) := by decide +kernel
theorem dX5_beginSteps_10 : decode cX5_beginSteps 10 = .ok (.iload_n 2, 1) := by decide +kernel
theorem dX5_beginSteps_11 : decode cX5_beginSteps 11 = .ok (.invokevirtual 314, 3) := by decide +kernel
theorem dX5_beginSteps_14 : decode cX5_beginSteps 14 = .ok (.ifCond .eq 73, 3) := by decide +kernel
theorem dX5_beginSteps_17 : decode cX5_beginSteps 17 = .ok (.aload_n 0, 1) := by decide +kernel
theorem dX5_beginSteps_18 : decode cX5_beginSteps 18 = .ok (.aload_n 1, 1) := by decide +kernel
theorem dX5_beginSteps_19 : decode cX5_beginSteps 19 = .ok (.iload_n 2, 1) := by decide +kernel
theorem dX5_beginSteps_20 : decode cX5_beginSteps 20 = .ok (.invokevirtual 318, 3) := by decide +kernel
theorem dX5_beginSteps_23 : decode cX5_beginSteps 23 = .ok (.ifCond .eq 64, 3) := by decide +kernel
theorem dX5_beginSteps_26 : decode cX5_beginSteps 26 = .ok (.aload_n 0, 1) := by decide +kernel
theorem dX5_beginSteps_27 : decode cX5_beginSteps 27 = .ok (.getfield 10, 3) := by decide +kernel
theorem dX5_beginSteps_30 : decode cX5_beginSteps 30 = .ok (.getfield 126, 3) := by decide +kernel
theorem dX5_beginSteps_33 : decode cX5_beginSteps 33 = .ok (.iload_n 2, 1) := by decide +kernel
theorem dX5_beginSteps_34 : decode cX5_beginSteps 34 = .ok (.iaload, 1) := by decide +kernel
theorem dX5_beginSteps_35 : decode cX5_beginSteps 35 = .ok (.iconst 1, 1) := by decide +kernel
theorem dX5_beginSteps_36 : decode cX5_beginSteps 36 = .ok (.if_icmp .ne 19, 3) := by decide +kernel
theorem dX5_beginSteps_39 : decode cX5_beginSteps 39 = .ok (.aload_n 0, 1) := by decide +kernel
theorem dX5_beginSteps_40 : decode cX5_beginSteps 40 = .ok (.getfield 19, 3) := by decide +kernel
theorem dX5_beginSteps_43 : decode cX5_beginSteps 43 = .ok (.aload_n 0, 1) := by decide +kernel
theorem dX5_beginSteps_44 : decode cX5_beginSteps 44 = .ok (.getfield 10, 3) := by decide +kernel
theorem dX5_beginSteps_47 : decode cX5_beginSteps 47 = .ok (.getfield 321, 3) := by decide +kernel
theorem dX5_beginSteps_50 : decode cX5_beginSteps 50 = .ok (.iload_n 2, 1) := by decide +kernel
theorem dX5_beginSteps_51 : decode cX5_beginSteps 51 = .ok (.iaload, 1) := by decide +kernel
theorem dX5_beginSteps_52 : decode cX5_beginSteps 52 = .ok (.invokevirtual 324, 3) := by decide +kernel
theorem dX5_beginSteps_55 : decode cX5_beginSteps 55 = .ok (.aload_n 1, 1) := by decide +kernel
theorem dX5_beginSteps_56 : decode cX5_beginSteps 56 = .ok (.getfield 327, 3) := by decide +kernel
theorem dX5_beginSteps_59 : decode cX5_beginSteps 59 = .ok (.iload_n 2, 1) := by decide +kernel
theorem dX5_beginSteps_60 : decode cX5_beginSteps 60 = .ok (.aload_n 0, 1) := by decide +kernel
theorem dX5_beginSteps_61 : decode cX5_beginSteps 61 = .ok (.getfield 10, 3) := by decide +kernel
theorem dX5_beginSteps_64 : decode cX5_beginSteps 64 = .ok (.aload_n 1, 1) := by decide +kernel
theorem dX5_beginSteps_65 : decode cX5_beginSteps 65 = .ok (.iload_n 2, 1) := by decide +kernel
theorem dX5_beginSteps_66 : decode cX5_beginSteps 66 = .ok (.invokevirtual 330, 3) := by decide +kernel
theorem dX5_beginSteps_69 : decode cX5_beginSteps 69 = .ok (.iastore, 1) := by decide +kernel
theorem dX5_beginSteps_70 : decode cX5_beginSteps 70 = .ok (.aload_n 1, 1) := by decide +kernel
theorem dX5_beginSteps_71 : decode cX5_beginSteps 71 = .ok (.getfield 333, 3) := by decide +kernel
theorem dX5_beginSteps_74 : decode cX5_beginSteps 74 = .ok (.iload_n 2, 1) := by decide +kernel
theorem dX5_beginSteps_75 : decode cX5_beginSteps 75 = .ok (.aload_n 0, 1) := by decide +kernel
theorem dX5_beginSteps_76 : decode cX5_beginSteps 76 = .ok (.getfield 160, 3) := by decide +kernel
theorem dX5_beginSteps_79 : decode cX5_beginSteps 79 = .ok (.iastore, 1) := by decide +kernel
theorem dX5_beginSteps_80 : decode cX5_beginSteps 80 = .ok (.aload_n 1, 1) := by decide +kernel
theorem dX5_beginSteps_81 : decode cX5_beginSteps 81 = .ok (.getfield 195, 3) := by decide +kernel
theorem dX5_beginSteps_84 : decode cX5_beginSteps 84 = .ok (.iload_n 2, 1) := by decide +kernel
theorem dX5_beginSteps_85 : decode cX5_beginSteps 85 = .ok (.iconst 1, 1) := by decide +kernel
theorem dX5_beginSteps_86 : decode cX5_beginSteps 86 = .ok (.iastore, 1) := by decide +kernel
theorem dX5_beginSteps_87 : decode cX5_beginSteps 87 = .ok (.iinc 2 1, 3) := by decide +kernel
theorem dX5_beginSteps_90 : decode cX5_beginSteps 90 = .ok (.goto (-88), 3) := by decide +kernel
theorem dX5_beginSteps_93 : decode cX5_beginSteps 93 = .ok (.return_, 1) := by decide +kernel
theorem dX5_isReady_0 : decode cX5_isReady 0 = .ok (.aload_n 1, 1) := by decide +kernel
theorem dX5_isReady_1 : decode cX5_isReady 1 = .ok (.getfield 189, 3) := by decide +kernel
theorem dX5_isReady_4 : decode cX5_isReady 4 = .ok (.ifCond .ne 39, 3) := by decide +kernel
theorem dX5_isReady_7 : decode cX5_isReady 7 = .ok (.aload_n 1, 1) := by decide +kernel
theorem dX5_isReady_8 : decode cX5_isReady 8 = .ok (.getfield 186, 3) := by decide +kernel
theorem dX5_isReady_11 : decode cX5_isReady 11 = .ok (.aload_n 0, 1) := by decide +kernel
theorem dX5_isReady_12 : decode cX5_isReady 12 = .ok (.getfield 160, 3) := by decide +kernel
theorem dX5_isReady_15 : decode cX5_isReady 15 = .ok (.if_icmp .gt 28, 3) := by decide +kernel
theorem dX5_isReady_18 : decode cX5_isReady 18 = .ok (.aload_n 1, 1) := by decide +kernel
theorem dX5_isReady_19 : decode cX5_isReady 19 = .ok (.iload_n 2, 1) := by decide +kernel
theorem dX5_isReady_20 : decode cX5_isReady 20 = .ok (.iconst 0, 1) := by decide +kernel
theorem dX5_isReady_21 : decode cX5_isReady 21 = .ok (.invokevirtual 336, 3) := by decide +kernel
theorem dX5_isReady_24 : decode cX5_isReady 24 = .ok (.ifCond .eq 19, 3) := by decide +kernel
theorem dX5_isReady_27 : decode cX5_isReady 27 = .ok (.aload_n 0, 1) := by decide +kernel
theorem dX5_isReady_28 : decode cX5_isReady 28 = .ok (.getfield 10, 3) := by decide +kernel
theorem dX5_isReady_31 : decode cX5_isReady 31 = .ok (.aload_n 1, 1) := by decide +kernel
theorem dX5_isReady_32 : decode cX5_isReady 32 = .ok (.iload_n 2, 1) := by decide +kernel
theorem dX5_isReady_33 : decode cX5_isReady 33 = .ok (.invokevirtual 339, 3) := by decide +kernel
theorem dX5_isReady_36 : decode cX5_isReady 36 = .ok (.ifCond .eq 7, 3) := by decide +kernel
theorem dX5_isReady_39 : decode cX5_isReady 39 = .ok (.iconst 1, 1) := by decide +kernel
theorem dX5_isReady_40 : decode cX5_isReady 40 = .ok (.goto 4, 3) := by decide +kernel
theorem dX5_isReady_43 : decode cX5_isReady 43 = .ok (.iconst 0, 1) := by decide +kernel
theorem dX5_isReady_44 : decode cX5_isReady 44 = .ok (.ireturn, 1) := by decide +kernel
theorem dX5_canBegin_0 : decode cX5_canBegin 0 = .ok (.iload_n 2, 1) := by decide +kernel
theorem dX5_canBegin_1 : decode cX5_canBegin 1 = .ok (.ifCond .lt 9, 3) := by decide +kernel
theorem dX5_canBegin_4 : decode cX5_canBegin 4 = .ok (.iload_n 2, 1) := by decide +kernel
theorem dX5_canBegin_5 : decode cX5_canBegin 5 = .ok (.bipush 12, 2) := by decide +kernel
theorem dX5_canBegin_7 : decode cX5_canBegin 7 = .ok (.if_icmp .lt 5, 3) := by decide +kernel
theorem dX5_canBegin_10 : decode cX5_canBegin 10 = .ok (.iconst 0, 1) := by decide +kernel
theorem dX5_canBegin_11 : decode cX5_canBegin 11 = .ok (.ireturn, 1) := by decide +kernel
theorem dX5_canBegin_12 : decode cX5_canBegin 12 = .ok (.aload_n 0, 1) := by decide +kernel
theorem dX5_canBegin_13 : decode cX5_canBegin 13 = .ok (.getfield 10, 3) := by decide +kernel
theorem dX5_canBegin_16 : decode cX5_canBegin 16 = .ok (.getfield 126, 3) := by decide +kernel
theorem dX5_canBegin_19 : decode cX5_canBegin 19 = .ok (.iload_n 2, 1) := by decide +kernel
theorem dX5_canBegin_20 : decode cX5_canBegin 20 = .ok (.iaload, 1) := by decide +kernel
theorem dX5_canBegin_21 : decode cX5_canBegin 21 = .ok (.iconst 1, 1) := by decide +kernel
theorem dX5_canBegin_22 : decode cX5_canBegin 22 = .ok (.if_icmp .ne 20, 3) := by decide +kernel
theorem dX5_canBegin_25 : decode cX5_canBegin 25 = .ok (.aload_n 0, 1) := by decide +kernel
theorem dX5_canBegin_26 : decode cX5_canBegin 26 = .ok (.getfield 19, 3) := by decide +kernel
theorem dX5_canBegin_29 : decode cX5_canBegin 29 = .ok (.aload_n 0, 1) := by decide +kernel
theorem dX5_canBegin_30 : decode cX5_canBegin 30 = .ok (.getfield 10, 3) := by decide +kernel
theorem dX5_canBegin_33 : decode cX5_canBegin 33 = .ok (.getfield 321, 3) := by decide +kernel
theorem dX5_canBegin_36 : decode cX5_canBegin 36 = .ok (.iload_n 2, 1) := by decide +kernel
theorem dX5_canBegin_37 : decode cX5_canBegin 37 = .ok (.iaload, 1) := by decide +kernel
theorem dX5_canBegin_38 : decode cX5_canBegin 38 = .ok (.invokevirtual 342, 3) := by decide +kernel
theorem dX5_canBegin_41 : decode cX5_canBegin 41 = .ok (.ireturn, 1) := by decide +kernel
theorem dX5_canBegin_42 : decode cX5_canBegin 42 = .ok (.aload_n 0, 1) := by decide +kernel
theorem dX5_canBegin_43 : decode cX5_canBegin 43 = .ok (.getfield 10, 3) := by decide +kernel
theorem dX5_canBegin_46 : decode cX5_canBegin 46 = .ok (.getfield 126, 3) := by decide +kernel
theorem dX5_canBegin_49 : decode cX5_canBegin 49 = .ok (.iload_n 2, 1) := by decide +kernel
theorem dX5_canBegin_50 : decode cX5_canBegin 50 = .ok (.iaload, 1) := by decide +kernel
theorem dX5_canBegin_51 : decode cX5_canBegin 51 = .ok (.iconst 2, 1) := by decide +kernel
theorem dX5_canBegin_52 : decode cX5_canBegin 52 = .ok (.if_icmp .ne 23, 3) := by decide +kernel
theorem dX5_canBegin_55 : decode cX5_canBegin 55 = .ok (.aload_n 0, 1) := by decide +kernel
theorem dX5_canBegin_56 : decode cX5_canBegin 56 = .ok (.getfield 26, 3) := by decide +kernel
theorem dX5_canBegin_59 : decode cX5_canBegin 59 = .ok (.aload_n 1, 1) := by decide +kernel
theorem dX5_canBegin_60 : decode cX5_canBegin 60 = .ok (.getfield 198, 3) := by decide +kernel
theorem dX5_canBegin_63 : decode cX5_canBegin 63 = .ok (.iload_n 2, 1) := by decide +kernel
theorem dX5_canBegin_64 : decode cX5_canBegin 64 = .ok (.iaload, 1) := by decide +kernel
theorem dX5_canBegin_65 : decode cX5_canBegin 65 = .ok (.invokevirtual 345, 3) := by decide +kernel
theorem dX5_canBegin_68 : decode cX5_canBegin 68 = .ok (.aload_n 0, 1) := by decide +kernel
theorem dX5_canBegin_69 : decode cX5_canBegin 69 = .ok (.getfield 160, 3) := by decide +kernel
theorem dX5_canBegin_72 : decode cX5_canBegin 72 = .ok (.if_icmp .ne 7, 3) := by decide +kernel
theorem dX5_canBegin_75 : decode cX5_canBegin 75 = .ok (.iconst 1, 1) := by decide +kernel
theorem dX5_canBegin_76 : decode cX5_canBegin 76 = .ok (.goto 4, 3) := by decide +kernel
theorem dX5_canBegin_79 : decode cX5_canBegin 79 = .ok (.iconst 0, 1) := by decide +kernel
theorem dX5_canBegin_80 : decode cX5_canBegin 80 = .ok (.ireturn, 1) := by decide +kernel
theorem dX5_loseSessions_0 : decode cX5_loseSessions 0 = .ok (.iconst 0, 1) := by decide +kernel
theorem dX5_loseSessions_1 : decode cX5_loseSessions 1 = .ok (.istore_n 2, 1) := by decide +kernel
theorem dX5_loseSessions_2 : decode cX5_loseSessions 2 = .ok (.iload_n 2, 1) := by decide +kernel
theorem dX5_loseSessions_3 : decode cX5_loseSessions 3 = .ok (.bipush 12, 2) := by decide +kernel
theorem dX5_loseSessions_5 : decode cX5_loseSessions 5 = .ok (.if_icmp .ge 68, 3) := by decide +kernel
theorem dX5_loseSessions_8 : decode cX5_loseSessions 8 = .ok (.aload_n 1, 1) := by decide +kernel
theorem dX5_loseSessions_9 : decode cX5_loseSessions 9 = .ok (.getfield 195, 3) := by decide +kernel
theorem dX5_loseSessions_12 : decode cX5_loseSessions 12 = .ok (.iload_n 2, 1) := by decide +kernel
theorem dX5_loseSessions_13 : decode cX5_loseSessions 13 = .ok (.iaload, 1) := by decide +kernel
theorem dX5_loseSessions_14 : decode cX5_loseSessions 14 = .ok (.ifCond .ne 53, 3) := by decide +kernel
theorem dX5_loseSessions_17 : decode cX5_loseSessions 17 = .ok (.aload_n 0, 1) := by decide +kernel
theorem dX5_loseSessions_18 : decode cX5_loseSessions 18 = .ok (.getfield 26, 3) := by decide +kernel
theorem dX5_loseSessions_21 : decode cX5_loseSessions 21 = .ok (.aload_n 1, 1) := by decide +kernel
theorem dX5_loseSessions_22 : decode cX5_loseSessions 22 = .ok (.getfield 198, 3) := by decide +kernel
theorem dX5_loseSessions_25 : decode cX5_loseSessions 25 = .ok (.iload_n 2, 1) := by decide +kernel
theorem dX5_loseSessions_26 : decode cX5_loseSessions 26 = .ok (.iaload, 1) := by decide +kernel
theorem dX5_loseSessions_27 : decode cX5_loseSessions 27 = .ok (.invokevirtual 345, 3) := by decide +kernel
theorem dX5_loseSessions_30 : decode cX5_loseSessions 30 = .ok (.aload_n 0, 1) := by decide +kernel
theorem dX5_loseSessions_31 : decode cX5_loseSessions 31 = .ok (.getfield 160, 3) := by decide +kernel
theorem dX5_loseSessions_34 : decode cX5_loseSessions 34 = .ok (.if_icmp .ne 33, 3) := by decide +kernel
theorem dX5_loseSessions_37 : decode cX5_loseSessions 37 = .ok (.aload_n 0, 1) := by decide +kernel
theorem dX5_loseSessions_38 : decode cX5_loseSessions 38 = .ok (.getfield 26, 3) := by decide +kernel
theorem dX5_loseSessions_41 : decode cX5_loseSessions 41 = .ok (.aload_n 1, 1) := by decide +kernel
theorem dX5_loseSessions_42 : decode cX5_loseSessions 42 = .ok (.getfield 198, 3) := by decide +kernel
theorem dX5_loseSessions_45 : decode cX5_loseSessions 45 = .ok (.iload_n 2, 1) := by decide +kernel
theorem dX5_loseSessions_46 : decode cX5_loseSessions 46 = .ok (.iaload, 1) := by decide +kernel
theorem dX5_loseSessions_47 : decode cX5_loseSessions 47 = .ok (.invokevirtual 201, 3) := by decide +kernel
theorem dX5_loseSessions_50 : decode cX5_loseSessions 50 = .ok (.aload_n 1, 1) := by decide +kernel
theorem dX5_loseSessions_51 : decode cX5_loseSessions 51 = .ok (.getfield 198, 3) := by decide +kernel
theorem dX5_loseSessions_54 : decode cX5_loseSessions 54 = .ok (.iload_n 2, 1) := by decide +kernel
theorem dX5_loseSessions_55 : decode cX5_loseSessions 55 = .ok (.iconst (-1), 1) := by decide +kernel
theorem dX5_loseSessions_56 : decode cX5_loseSessions 56 = .ok (.iastore, 1) := by decide +kernel
theorem dX5_loseSessions_57 : decode cX5_loseSessions 57 = .ok (.aload_n 1, 1) := by decide +kernel
theorem dX5_loseSessions_58 : decode cX5_loseSessions 58 = .ok (.getfield 348, 3) := by decide +kernel
theorem dX5_loseSessions_61 : decode cX5_loseSessions 61 = .ok (.iload_n 2, 1) := by decide +kernel
theorem dX5_loseSessions_62 : decode cX5_loseSessions 62 = .ok (.dup2, 1) := by decide +kernel
theorem dX5_loseSessions_63 : decode cX5_loseSessions 63 = .ok (.iaload, 1) := by decide +kernel
theorem dX5_loseSessions_64 : decode cX5_loseSessions 64 = .ok (.iconst 1, 1) := by decide +kernel
theorem dX5_loseSessions_65 : decode cX5_loseSessions 65 = .ok (.iadd, 1) := by decide +kernel
theorem dX5_loseSessions_66 : decode cX5_loseSessions 66 = .ok (.iastore, 1) := by decide +kernel
theorem dX5_loseSessions_67 : decode cX5_loseSessions 67 = .ok (.iinc 2 1, 3) := by decide +kernel
theorem dX5_loseSessions_70 : decode cX5_loseSessions 70 = .ok (.goto (-68), 3) := by decide +kernel
theorem dX5_loseSessions_73 : decode cX5_loseSessions 73 = .ok (.return_, 1) := by decide +kernel
theorem dX5_bookAll_0 : decode cX5_bookAll 0 = .ok (.aload_n 0, 1) := by decide +kernel
theorem dX5_bookAll_1 : decode cX5_bookAll 1 = .ok (.getfield 35, 3) := by decide +kernel
theorem dX5_bookAll_4 : decode cX5_bookAll 4 = .ok (.aload_n 0, 1) := by decide +kernel
theorem dX5_bookAll_5 : decode cX5_bookAll 5 = .ok (.getfield 160, 3) := by decide +kernel
theorem dX5_bookAll_8 : decode cX5_bookAll 8 = .ok (.iconst (-1), 1) := by decide +kernel
theorem dX5_bookAll_9 : decode cX5_bookAll 9 = .ok (.iconst 0, 1) := by decide +kernel
theorem dX5_bookAll_10 : decode cX5_bookAll 10 = .ok (.invokevirtual 351, 3) := by decide +kernel
theorem dX5_bookAll_13 : decode cX5_bookAll 13 = .ok (.iconst 0, 1) := by decide +kernel
theorem dX5_bookAll_14 : decode cX5_bookAll 14 = .ok (.istore_n 1, 1) := by decide +kernel
theorem dX5_bookAll_15 : decode cX5_bookAll 15 = .ok (.iload_n 1, 1) := by decide +kernel
theorem dX5_bookAll_16 : decode cX5_bookAll 16 = .ok (.aload_n 0, 1) := by decide +kernel
theorem dX5_bookAll_17 : decode cX5_bookAll 17 = .ok (.getfield 174, 3) := by decide +kernel
theorem dX5_bookAll_20 : decode cX5_bookAll 20 = .ok (.if_icmp .ge 27, 3) := by decide +kernel
theorem dX5_bookAll_23 : decode cX5_bookAll 23 = .ok (.aload_n 0, 1) := by decide +kernel
theorem dX5_bookAll_24 : decode cX5_bookAll 24 = .ok (.iload_n 1, 1) := by decide +kernel
theorem dX5_bookAll_25 : decode cX5_bookAll 25 = .ok (.invokevirtual 179, 3) := by decide +kernel
theorem dX5_bookAll_28 : decode cX5_bookAll 28 = .ok (.astore_n 2, 1) := by decide +kernel
theorem dX5_bookAll_29 : decode cX5_bookAll 29 = .ok (.aload_n 2, 1) := by decide +kernel
theorem dX5_bookAll_30 : decode cX5_bookAll 30 = .ok (.getfield 189, 3) := by decide +kernel
theorem dX5_bookAll_33 : decode cX5_bookAll 33 = .ok (.ifCond .ne 8, 3) := by decide +kernel
theorem dX5_bookAll_36 : decode cX5_bookAll 36 = .ok (.aload_n 0, 1) := by decide +kernel
theorem dX5_bookAll_37 : decode cX5_bookAll 37 = .ok (.aload_n 2, 1) := by decide +kernel
theorem dX5_bookAll_38 : decode cX5_bookAll 38 = .ok (.invokevirtual 355, 3) := by decide +kernel
theorem dX5_bookAll_41 : decode cX5_bookAll 41 = .ok (.iinc 1 1, 3) := by decide +kernel
theorem dX5_bookAll_44 : decode cX5_bookAll 44 = .ok (.goto (-29), 3) := by decide +kernel
theorem dX5_bookAll_47 : decode cX5_bookAll 47 = .ok (.return_, 1) := by decide +kernel
theorem dX5_bookFor_0 : decode cX5_bookFor 0 = .ok (.iconst 0, 1) := by decide +kernel
theorem dX5_bookFor_1 : decode cX5_bookFor 1 = .ok (.istore_n 2, 1) := by decide +kernel
theorem dX5_bookFor_2 : decode cX5_bookFor 2 = .ok (.iload_n 2, 1) := by decide +kernel
theorem dX5_bookFor_3 : decode cX5_bookFor 3 = .ok (.bipush 12, 2) := by decide +kernel
theorem dX5_bookFor_5 : decode cX5_bookFor 5 = .ok (.if_icmp .ge 82, 3) := by decide +kernel
theorem dX5_bookFor_8 : decode cX5_bookFor 8 = .ok (.aload_n 0, 1) := by decide +kernel
theorem dX5_bookFor_9 : decode cX5_bookFor 9 = .ok (.getfield 35, 3) := by decide +kernel
theorem dX5_bookFor_12 : decode cX5_bookFor 12 = .ok (.aload_n 1, 1) := by decide +kernel
theorem dX5_bookFor_13 : decode cX5_bookFor 13 = .ok (.iload_n 2, 1) := by decide +kernel
theorem dX5_bookFor_14 : decode cX5_bookFor 14 = .ok (.invokevirtual 358, 3) := by decide +kernel
theorem dX5_bookFor_17 : decode cX5_bookFor 17 = .ok (.aload_n 0, 1) := by decide +kernel
theorem dX5_bookFor_18 : decode cX5_bookFor 18 = .ok (.getfield 10, 3) := by decide +kernel
theorem dX5_bookFor_21 : decode cX5_bookFor 21 = .ok (.getfield 126, 3) := by decide +kernel
theorem dX5_bookFor_24 : decode cX5_bookFor 24 = .ok (.iload_n 2, 1) := by decide +kernel
theorem dX5_bookFor_25 : decode cX5_bookFor 25 = .ok (.iaload, 1) := by decide +kernel
theorem dX5_bookFor_26 : decode cX5_bookFor 26 = .ok (.iconst 2, 1) := by decide +kernel
theorem dX5_bookFor_27 : decode cX5_bookFor 27 = .ok (.if_icmp .ne 54, 3) := by decide +kernel
theorem dX5_bookFor_30 : decode cX5_bookFor 30 = .ok (.aload_n 1, 1) := by decide +kernel
theorem dX5_bookFor_31 : decode cX5_bookFor 31 = .ok (.iload_n 2, 1) := by decide +kernel
theorem dX5_bookFor_32 : decode cX5_bookFor 32 = .ok (.iconst 0, 1) := by decide +kernel
theorem dX5_bookFor_33 : decode cX5_bookFor 33 = .ok (.invokevirtual 336, 3) := by decide +kernel
theorem dX5_bookFor_36 : decode cX5_bookFor 36 = .ok (.ifCond .eq 45, 3) := by decide +kernel
theorem dX5_bookFor_39 : decode cX5_bookFor 39 = .ok (.aload_n 1, 1) := by decide +kernel
theorem dX5_bookFor_40 : decode cX5_bookFor 40 = .ok (.getfield 198, 3) := by decide +kernel
theorem dX5_bookFor_43 : decode cX5_bookFor 43 = .ok (.iload_n 2, 1) := by decide +kernel
theorem dX5_bookFor_44 : decode cX5_bookFor 44 = .ok (.iaload, 1) := by decide +kernel
theorem dX5_bookFor_45 : decode cX5_bookFor 45 = .ok (.iconst (-1), 1) := by decide +kernel
theorem dX5_bookFor_46 : decode cX5_bookFor 46 = .ok (.if_icmp .ne 35, 3) := by decide +kernel
theorem dX5_bookFor_49 : decode cX5_bookFor 49 = .ok (.aload_n 1, 1) := by decide +kernel
theorem dX5_bookFor_50 : decode cX5_bookFor 50 = .ok (.getfield 198, 3) := by decide +kernel
theorem dX5_bookFor_53 : decode cX5_bookFor 53 = .ok (.iload_n 2, 1) := by decide +kernel
theorem dX5_bookFor_54 : decode cX5_bookFor 54 = .ok (.aload_n 0, 1) := by decide +kernel
theorem dX5_bookFor_55 : decode cX5_bookFor 55 = .ok (.getfield 26, 3) := by decide +kernel
theorem dX5_bookFor_58 : decode cX5_bookFor 58 = .ok (.iload_n 2, 1) := by decide +kernel
theorem dX5_bookFor_59 : decode cX5_bookFor 59 = .ok (.aload_n 0, 1) := by decide +kernel
theorem dX5_bookFor_60 : decode cX5_bookFor 60 = .ok (.getfield 35, 3) := by decide +kernel
theorem dX5_bookFor_63 : decode cX5_bookFor 63 = .ok (.getfield 362, 3) := by decide +kernel
theorem dX5_bookFor_66 : decode cX5_bookFor 66 = .ok (.iload_n 2, 1) := by decide +kernel
theorem dX5_bookFor_67 : decode cX5_bookFor 67 = .ok (.iaload, 1) := by decide +kernel
theorem dX5_bookFor_68 : decode cX5_bookFor 68 = .ok (.invokevirtual 363, 3) := by decide +kernel
theorem dX5_bookFor_71 : decode cX5_bookFor 71 = .ok (.iastore, 1) := by decide +kernel
theorem dX5_bookFor_72 : decode cX5_bookFor 72 = .ok (.aload_n 0, 1) := by decide +kernel
theorem dX5_bookFor_73 : decode cX5_bookFor 73 = .ok (.getfield 35, 3) := by decide +kernel
theorem dX5_bookFor_76 : decode cX5_bookFor 76 = .ok (.aload_n 1, 1) := by decide +kernel
theorem dX5_bookFor_77 : decode cX5_bookFor 77 = .ok (.iload_n 2, 1) := by decide +kernel
theorem dX5_bookFor_78 : decode cX5_bookFor 78 = .ok (.invokevirtual 358, 3) := by decide +kernel
theorem dX5_bookFor_81 : decode cX5_bookFor 81 = .ok (.iinc 2 1, 3) := by decide +kernel
theorem dX5_bookFor_84 : decode cX5_bookFor 84 = .ok (.goto (-82), 3) := by decide +kernel
theorem dX5_bookFor_87 : decode cX5_bookFor 87 = .ok (.return_, 1) := by decide +kernel
theorem dX5_takeBackStep_0 : decode cX5_takeBackStep 0 = .ok (.aload_n 1, 1) := by decide +kernel
theorem dX5_takeBackStep_1 : decode cX5_takeBackStep 1 = .ok (.getfield 189, 3) := by decide +kernel
theorem dX5_takeBackStep_4 : decode cX5_takeBackStep 4 = .ok (.ifCond .ne 4, 3) := by decide +kernel
theorem dX5_takeBackStep_7 : decode cX5_takeBackStep 7 = .ok (.return_, 1) := by decide +kernel
theorem dX5_takeBackStep_8 : decode cX5_takeBackStep 8 = .ok (.aload_n 1, 1) := by decide +kernel
theorem dX5_takeBackStep_9 : decode cX5_takeBackStep 9 = .ok (.invokevirtual 366, 3) := by decide +kernel
theorem dX5_takeBackStep_12 : decode cX5_takeBackStep 12 = .ok (.istore_n 2, 1) := by decide +kernel
theorem dX5_takeBackStep_13 : decode cX5_takeBackStep 13 = .ok (.iload_n 2, 1) := by decide +kernel
theorem dX5_takeBackStep_14 : decode cX5_takeBackStep 14 = .ok (.ifCond .lt 9, 3) := by decide +kernel
theorem dX5_takeBackStep_17 : decode cX5_takeBackStep 17 = .ok (.iload_n 2, 1) := by decide +kernel
theorem dX5_takeBackStep_18 : decode cX5_takeBackStep 18 = .ok (.bipush 12, 2) := by decide +kernel
theorem dX5_takeBackStep_20 : decode cX5_takeBackStep 20 = .ok (.if_icmp .lt 4, 3) := by decide +kernel
theorem dX5_takeBackStep_23 : decode cX5_takeBackStep 23 = .ok (.return_, 1) := by decide +kernel
theorem dX5_takeBackStep_24 : decode cX5_takeBackStep 24 = .ok (.aload_n 1, 1) := by decide +kernel
theorem dX5_takeBackStep_25 : decode cX5_takeBackStep 25 = .ok (.getfield 195, 3) := by decide +kernel
theorem dX5_takeBackStep_28 : decode cX5_takeBackStep 28 = .ok (.iload_n 2, 1) := by decide +kernel
theorem dX5_takeBackStep_29 : decode cX5_takeBackStep 29 = .ok (.iconst 3, 1) := by decide +kernel
theorem dX5_takeBackStep_30 : decode cX5_takeBackStep 30 = .ok (.iastore, 1) := by decide +kernel
theorem dX5_takeBackStep_31 : decode cX5_takeBackStep 31 = .ok (.aload_n 0, 1) := by decide +kernel
theorem dX5_takeBackStep_32 : decode cX5_takeBackStep 32 = .ok (.getfield 10, 3) := by decide +kernel
theorem dX5_takeBackStep_35 : decode cX5_takeBackStep 35 = .ok (.getfield 126, 3) := by decide +kernel
theorem dX5_takeBackStep_38 : decode cX5_takeBackStep 38 = .ok (.iload_n 2, 1) := by decide +kernel
theorem dX5_takeBackStep_39 : decode cX5_takeBackStep 39 = .ok (.iaload, 1) := by decide +kernel
theorem dX5_takeBackStep_40 : decode cX5_takeBackStep 40 = .ok (.iconst 1, 1) := by decide +kernel
theorem dX5_takeBackStep_41 : decode cX5_takeBackStep 41 = .ok (.if_icmp .ne 20, 3) := by decide +kernel
theorem dX5_takeBackStep_44 : decode cX5_takeBackStep 44 = .ok (.aload_n 0, 1) := by decide +kernel
theorem dX5_takeBackStep_45 : decode cX5_takeBackStep 45 = .ok (.getfield 19, 3) := by decide +kernel
theorem dX5_takeBackStep_48 : decode cX5_takeBackStep 48 = .ok (.aload_n 0, 1) := by decide +kernel
theorem dX5_takeBackStep_49 : decode cX5_takeBackStep 49 = .ok (.getfield 10, 3) := by decide +kernel
theorem dX5_takeBackStep_52 : decode cX5_takeBackStep 52 = .ok (.getfield 321, 3) := by decide +kernel
theorem dX5_takeBackStep_55 : decode cX5_takeBackStep 55 = .ok (.iload_n 2, 1) := by decide +kernel
theorem dX5_takeBackStep_56 : decode cX5_takeBackStep 56 = .ok (.iaload, 1) := by decide +kernel
theorem dX5_takeBackStep_57 : decode cX5_takeBackStep 57 = .ok (.iconst 1, 1) := by decide +kernel
theorem dX5_takeBackStep_58 : decode cX5_takeBackStep 58 = .ok (.invokevirtual 95, 3) := by decide +kernel
theorem dX5_takeBackStep_61 : decode cX5_takeBackStep 61 = .ok (.return_, 1) := by decide +kernel
theorem dX5_foreseenOfStep_0 : decode cX5_foreseenOfStep 0 = .ok (.iload_n 2, 1) := by decide +kernel
theorem dX5_foreseenOfStep_1 : decode cX5_foreseenOfStep 1 = .ok (.ifCond .lt 9, 3) := by decide +kernel
theorem dX5_foreseenOfStep_4 : decode cX5_foreseenOfStep 4 = .ok (.iload_n 2, 1) := by decide +kernel
theorem dX5_foreseenOfStep_5 : decode cX5_foreseenOfStep 5 = .ok (.bipush 12, 2) := by decide +kernel
theorem dX5_foreseenOfStep_7 : decode cX5_foreseenOfStep 7 = .ok (.if_icmp .lt 5, 3) := by decide +kernel
theorem dX5_foreseenOfStep_10 : decode cX5_foreseenOfStep 10 = .ok (.iconst (-1), 1) := by decide +kernel
theorem dX5_foreseenOfStep_11 : decode cX5_foreseenOfStep 11 = .ok (.ireturn, 1) := by decide +kernel
theorem dX5_foreseenOfStep_12 : decode cX5_foreseenOfStep 12 = .ok (.iload_n 3, 1) := by decide +kernel
theorem dX5_foreseenOfStep_13 : decode cX5_foreseenOfStep 13 = .ok (.tableswitch 79 0 4 #[35, 42, 52, 62, 69], 35) := by decide +kernel
theorem dX5_foreseenOfStep_48 : decode cX5_foreseenOfStep 48 = .ok (.aload_n 1, 1) := by decide +kernel
theorem dX5_foreseenOfStep_49 : decode cX5_foreseenOfStep 49 = .ok (.getfield 195, 3) := by decide +kernel
theorem dX5_foreseenOfStep_52 : decode cX5_foreseenOfStep 52 = .ok (.iload_n 2, 1) := by decide +kernel
theorem dX5_foreseenOfStep_53 : decode cX5_foreseenOfStep 53 = .ok (.iaload, 1) := by decide +kernel
theorem dX5_foreseenOfStep_54 : decode cX5_foreseenOfStep 54 = .ok (.ireturn, 1) := by decide +kernel
theorem dX5_foreseenOfStep_55 : decode cX5_foreseenOfStep 55 = .ok (.aload_n 0, 1) := by decide +kernel
theorem dX5_foreseenOfStep_56 : decode cX5_foreseenOfStep 56 = .ok (.getfield 35, 3) := by decide +kernel
theorem dX5_foreseenOfStep_59 : decode cX5_foreseenOfStep 59 = .ok (.getfield 362, 3) := by decide +kernel
theorem dX5_foreseenOfStep_62 : decode cX5_foreseenOfStep 62 = .ok (.iload_n 2, 1) := by decide +kernel
theorem dX5_foreseenOfStep_63 : decode cX5_foreseenOfStep 63 = .ok (.iaload, 1) := by decide +kernel
theorem dX5_foreseenOfStep_64 : decode cX5_foreseenOfStep 64 = .ok (.ireturn, 1) := by decide +kernel
theorem dX5_foreseenOfStep_65 : decode cX5_foreseenOfStep 65 = .ok (.aload_n 0, 1) := by decide +kernel
theorem dX5_foreseenOfStep_66 : decode cX5_foreseenOfStep 66 = .ok (.getfield 35, 3) := by decide +kernel
theorem dX5_foreseenOfStep_69 : decode cX5_foreseenOfStep 69 = .ok (.getfield 369, 3) := by decide +kernel
theorem dX5_foreseenOfStep_72 : decode cX5_foreseenOfStep 72 = .ok (.iload_n 2, 1) := by decide +kernel
theorem dX5_foreseenOfStep_73 : decode cX5_foreseenOfStep 73 = .ok (.iaload, 1) := by decide +kernel
theorem dX5_foreseenOfStep_74 : decode cX5_foreseenOfStep 74 = .ok (.ireturn, 1) := by decide +kernel
theorem dX5_foreseenOfStep_75 : decode cX5_foreseenOfStep 75 = .ok (.aload_n 1, 1) := by decide +kernel
theorem dX5_foreseenOfStep_76 : decode cX5_foreseenOfStep 76 = .ok (.getfield 198, 3) := by decide +kernel
theorem dX5_foreseenOfStep_79 : decode cX5_foreseenOfStep 79 = .ok (.iload_n 2, 1) := by decide +kernel
theorem dX5_foreseenOfStep_80 : decode cX5_foreseenOfStep 80 = .ok (.iaload, 1) := by decide +kernel
theorem dX5_foreseenOfStep_81 : decode cX5_foreseenOfStep 81 = .ok (.ireturn, 1) := by decide +kernel
theorem dX5_foreseenOfStep_82 : decode cX5_foreseenOfStep 82 = .ok (.aload_n 0, 1) := by decide +kernel
theorem dX5_foreseenOfStep_83 : decode cX5_foreseenOfStep 83 = .ok (.getfield 10, 3) := by decide +kernel
theorem dX5_foreseenOfStep_86 : decode cX5_foreseenOfStep 86 = .ok (.aload_n 1, 1) := by decide +kernel
theorem dX5_foreseenOfStep_87 : decode cX5_foreseenOfStep 87 = .ok (.iload_n 2, 1) := by decide +kernel
theorem dX5_foreseenOfStep_88 : decode cX5_foreseenOfStep 88 = .ok (.invokevirtual 330, 3) := by decide +kernel
theorem dX5_foreseenOfStep_91 : decode cX5_foreseenOfStep 91 = .ok (.ireturn, 1) := by decide +kernel
theorem dX5_foreseenOfStep_92 : decode cX5_foreseenOfStep 92 = .ok (.aload_n 1, 1) := by decide +kernel
theorem dX5_foreseenOfStep_93 : decode cX5_foreseenOfStep 93 = .ok (.getfield 348, 3) := by decide +kernel
theorem dX5_foreseenOfStep_96 : decode cX5_foreseenOfStep 96 = .ok (.iload_n 2, 1) := by decide +kernel
theorem dX5_foreseenOfStep_97 : decode cX5_foreseenOfStep 97 = .ok (.iaload, 1) := by decide +kernel
theorem dX5_foreseenOfStep_98 : decode cX5_foreseenOfStep 98 = .ok (.ireturn, 1) := by decide +kernel
theorem dX5_foreseenOfJoiner_0 : decode cX5_foreseenOfJoiner 0 = .ok (.iload_n 2, 1) := by decide +kernel
theorem dX5_foreseenOfJoiner_1 : decode cX5_foreseenOfJoiner 1 = .ok (.tableswitch 83 0 5 #[39, 44, 49, 55, 61, 70], 39) := by decide +kernel
theorem dX5_foreseenOfJoiner_40 : decode cX5_foreseenOfJoiner 40 = .ok (.aload_n 1, 1) := by decide +kernel
theorem dX5_foreseenOfJoiner_41 : decode cX5_foreseenOfJoiner 41 = .ok (.getfield 183, 3) := by decide +kernel
theorem dX5_foreseenOfJoiner_44 : decode cX5_foreseenOfJoiner 44 = .ok (.ireturn, 1) := by decide +kernel
theorem dX5_foreseenOfJoiner_45 : decode cX5_foreseenOfJoiner 45 = .ok (.aload_n 1, 1) := by decide +kernel
theorem dX5_foreseenOfJoiner_46 : decode cX5_foreseenOfJoiner 46 = .ok (.getfield 186, 3) := by decide +kernel
theorem dX5_foreseenOfJoiner_49 : decode cX5_foreseenOfJoiner 49 = .ok (.ireturn, 1) := by decide +kernel
theorem dX5_foreseenOfJoiner_50 : decode cX5_foreseenOfJoiner 50 = .ok (.aload_n 1, 1) := by decide +kernel
theorem dX5_foreseenOfJoiner_51 : decode cX5_foreseenOfJoiner 51 = .ok (.iconst 2, 1) := by decide +kernel
theorem dX5_foreseenOfJoiner_52 : decode cX5_foreseenOfJoiner 52 = .ok (.invokevirtual 205, 3) := by decide +kernel
theorem dX5_foreseenOfJoiner_55 : decode cX5_foreseenOfJoiner 55 = .ok (.ireturn, 1) := by decide +kernel
theorem dX5_foreseenOfJoiner_56 : decode cX5_foreseenOfJoiner 56 = .ok (.aload_n 1, 1) := by decide +kernel
theorem dX5_foreseenOfJoiner_57 : decode cX5_foreseenOfJoiner 57 = .ok (.iconst 1, 1) := by decide +kernel
theorem dX5_foreseenOfJoiner_58 : decode cX5_foreseenOfJoiner 58 = .ok (.invokevirtual 205, 3) := by decide +kernel
theorem dX5_foreseenOfJoiner_61 : decode cX5_foreseenOfJoiner 61 = .ok (.ireturn, 1) := by decide +kernel
theorem dX5_foreseenOfJoiner_62 : decode cX5_foreseenOfJoiner 62 = .ok (.aload_n 0, 1) := by decide +kernel
theorem dX5_foreseenOfJoiner_63 : decode cX5_foreseenOfJoiner 63 = .ok (.getfield 10, 3) := by decide +kernel
theorem dX5_foreseenOfJoiner_66 : decode cX5_foreseenOfJoiner 66 = .ok (.aload_n 1, 1) := by decide +kernel
theorem dX5_foreseenOfJoiner_67 : decode cX5_foreseenOfJoiner 67 = .ok (.invokevirtual 372, 3) := by decide +kernel
theorem dX5_foreseenOfJoiner_70 : decode cX5_foreseenOfJoiner 70 = .ok (.ireturn, 1) := by decide +kernel
theorem dX5_foreseenOfJoiner_71 : decode cX5_foreseenOfJoiner 71 = .ok (.aload_n 1, 1) := by decide +kernel
theorem dX5_foreseenOfJoiner_72 : decode cX5_foreseenOfJoiner 72 = .ok (.getfield 189, 3) := by decide +kernel
theorem dX5_foreseenOfJoiner_75 : decode cX5_foreseenOfJoiner 75 = .ok (.ifCond .eq 7, 3) := by decide +kernel
theorem dX5_foreseenOfJoiner_78 : decode cX5_foreseenOfJoiner 78 = .ok (.iconst 1, 1) := by decide +kernel
theorem dX5_foreseenOfJoiner_79 : decode cX5_foreseenOfJoiner 79 = .ok (.goto 4, 3) := by decide +kernel
theorem dX5_foreseenOfJoiner_82 : decode cX5_foreseenOfJoiner 82 = .ok (.iconst 0, 1) := by decide +kernel
theorem dX5_foreseenOfJoiner_83 : decode cX5_foreseenOfJoiner 83 = .ok (.ireturn, 1) := by decide +kernel
theorem dX5_foreseenOfJoiner_84 : decode cX5_foreseenOfJoiner 84 = .ok (.aload_n 0, 1) := by decide +kernel
theorem dX5_foreseenOfJoiner_85 : decode cX5_foreseenOfJoiner 85 = .ok (.getfield 35, 3) := by decide +kernel
theorem dX5_foreseenOfJoiner_88 : decode cX5_foreseenOfJoiner 88 = .ok (.aload_n 1, 1) := by decide +kernel
theorem dX5_foreseenOfJoiner_89 : decode cX5_foreseenOfJoiner 89 = .ok (.getfield 183, 3) := by decide +kernel
theorem dX5_foreseenOfJoiner_92 : decode cX5_foreseenOfJoiner 92 = .ok (.invokevirtual 268, 3) := by decide +kernel
theorem dX5_foreseenOfJoiner_95 : decode cX5_foreseenOfJoiner 95 = .ok (.ireturn, 1) := by decide +kernel
theorem dX5_nextStep_0 : decode cX5_nextStep 0 = .ok (.aload_n 1, 1) := by decide +kernel
theorem dX5_nextStep_1 : decode cX5_nextStep 1 = .ok (.getfield 189, 3) := by decide +kernel
theorem dX5_nextStep_4 : decode cX5_nextStep 4 = .ok (.ifCond .eq 5, 3) := by decide +kernel
theorem dX5_nextStep_7 : decode cX5_nextStep 7 = .ok (.iconst (-1), 1) := by decide +kernel
theorem dX5_nextStep_8 : decode cX5_nextStep 8 = .ok (.ireturn, 1) := by decide +kernel
theorem dX5_nextStep_9 : decode cX5_nextStep 9 = .ok (.iconst 0, 1) := by decide +kernel
theorem dX5_nextStep_10 : decode cX5_nextStep 10 = .ok (.istore_n 2, 1) := by decide +kernel
theorem dX5_nextStep_11 : decode cX5_nextStep 11 = .ok (.iload_n 2, 1) := by decide +kernel
theorem dX5_nextStep_12 : decode cX5_nextStep 12 = .ok (.bipush 12, 2) := by decide +kernel
theorem dX5_nextStep_14 : decode cX5_nextStep 14 = .ok (.if_icmp .ge 51, 3) := by decide +kernel
theorem dX5_nextStep_17 : decode cX5_nextStep 17 = .ok (.aload_n 1, 1) := by decide +kernel
theorem dX5_nextStep_18 : decode cX5_nextStep 18 = .ok (.iload_n 2, 1) := by decide +kernel
theorem dX5_nextStep_19 : decode cX5_nextStep 19 = .ok (.iconst 0, 1) := by decide +kernel
theorem dX5_nextStep_20 : decode cX5_nextStep 20 = .ok (.invokevirtual 336, 3) := by decide +kernel
theorem dX5_nextStep_23 : decode cX5_nextStep 23 = .ok (.ifCond .ne 12, 3) := by decide +kernel
theorem dX5_nextStep_26 : decode cX5_nextStep 26 = .ok (.aload_n 1, 1) := by decide +kernel
theorem dX5_nextStep_27 : decode cX5_nextStep 27 = .ok (.iload_n 2, 1) := by decide +kernel
theorem dX5_nextStep_28 : decode cX5_nextStep 28 = .ok (.iconst 1, 1) := by decide +kernel
theorem dX5_nextStep_29 : decode cX5_nextStep 29 = .ok (.invokevirtual 336, 3) := by decide +kernel
theorem dX5_nextStep_32 : decode cX5_nextStep 32 = .ok (.ifCond .eq 7, 3) := by decide +kernel
theorem dX5_nextStep_35 : decode cX5_nextStep 35 = .ok (.iconst 1, 1) := by decide +kernel
theorem dX5_nextStep_36 : decode cX5_nextStep 36 = .ok (.goto 4, 3) := by decide +kernel
theorem dX5_nextStep_39 : decode cX5_nextStep 39 = .ok (.iconst 0, 1) := by decide +kernel
theorem dX5_nextStep_40 : decode cX5_nextStep 40 = .ok (.istore_n 3, 1) := by decide +kernel
theorem dX5_nextStep_41 : decode cX5_nextStep 41 = .ok (.iload_n 3, 1) := by decide +kernel
theorem dX5_nextStep_42 : decode cX5_nextStep 42 = .ok (.ifCond .eq 17, 3) := by decide +kernel
theorem dX5_nextStep_45 : decode cX5_nextStep 45 = .ok (.aload_n 0, 1) := by decide +kernel
theorem dX5_nextStep_46 : decode cX5_nextStep 46 = .ok (.getfield 10, 3) := by decide +kernel
theorem dX5_nextStep_49 : decode cX5_nextStep 49 = .ok (.aload_n 1, 1) := by decide +kernel
theorem dX5_nextStep_50 : decode cX5_nextStep 50 = .ok (.iload_n 2, 1) := by decide +kernel
theorem dX5_nextStep_51 : decode cX5_nextStep 51 = .ok (.invokevirtual 339, 3) := by decide +kernel
theorem dX5_nextStep_54 : decode cX5_nextStep 54 = .ok (.ifCond .eq 5, 3) := by decide +kernel
theorem dX5_nextStep_57 : decode cX5_nextStep 57 = .ok (.iload_n 2, 1) := by decide +kernel
theorem dX5_nextStep_58 : decode cX5_nextStep 58 = .ok (.ireturn, 1) := by decide +kernel
theorem dX5_nextStep_59 : decode cX5_nextStep 59 = .ok (.iinc 2 1, 3) := by decide +kernel
theorem dX5_nextStep_62 : decode cX5_nextStep 62 = .ok (.goto (-51), 3) := by decide +kernel
theorem dX5_nextStep_65 : decode cX5_nextStep 65 = .ok (.iconst (-1), 1) := by decide +kernel
theorem dX5_nextStep_66 : decode cX5_nextStep 66 = .ok (.ireturn, 1) := by decide +kernel
theorem dX5_countWaitingOn_0 : decode cX5_countWaitingOn 0 = .ok (.iconst 1, 1) := by decide +kernel
theorem dX5_countWaitingOn_1 : decode cX5_countWaitingOn 1 = .ok (.iload_n 2, 1) := by decide +kernel
theorem dX5_countWaitingOn_2 : decode cX5_countWaitingOn 2 = .ok (.ishl, 1) := by decide +kernel
theorem dX5_countWaitingOn_3 : decode cX5_countWaitingOn 3 = .ok (.istore_n 3, 1) := by decide +kernel
theorem dX5_countWaitingOn_4 : decode cX5_countWaitingOn 4 = .ok (.iload_n 3, 1) := by decide +kernel
theorem dX5_countWaitingOn_5 : decode cX5_countWaitingOn 5 = .ok (.istore 4, 2) := by decide +kernel
theorem dX5_countWaitingOn_7 : decode cX5_countWaitingOn 7 = .ok (.iconst 0, 1) := by decide +kernel
theorem dX5_countWaitingOn_8 : decode cX5_countWaitingOn 8 = .ok (.istore 5, 2) := by decide +kernel
theorem dX5_countWaitingOn_10 : decode cX5_countWaitingOn 10 = .ok (.iload 5, 2) := by decide +kernel
theorem dX5_countWaitingOn_12 : decode cX5_countWaitingOn 12 = .ok (.bipush 12, 2) := by decide +kernel
theorem dX5_countWaitingOn_14 : decode cX5_countWaitingOn 14 = .ok (.if_icmp .ge 46, 3) := by decide +kernel
theorem dX5_countWaitingOn_17 : decode cX5_countWaitingOn 17 = .ok (.aload_n 1, 1) := by decide +kernel
theorem dX5_countWaitingOn_18 : decode cX5_countWaitingOn 18 = .ok (.getfield 183, 3) := by decide +kernel
theorem dX5_countWaitingOn_21 : decode cX5_countWaitingOn 21 = .ok (.iload 5, 2) := by decide +kernel
theorem dX5_countWaitingOn_23 : decode cX5_countWaitingOn 23 = .ok (.invokestatic 226, 3) := by decide +kernel
theorem dX5_countWaitingOn_26 : decode cX5_countWaitingOn 26 = .ok (.ifCond .eq 28, 3) := by decide +kernel
theorem dX5_countWaitingOn_29 : decode cX5_countWaitingOn 29 = .ok (.aload_n 0, 1) := by decide +kernel
theorem dX5_countWaitingOn_30 : decode cX5_countWaitingOn 30 = .ok (.getfield 10, 3) := by decide +kernel
theorem dX5_countWaitingOn_33 : decode cX5_countWaitingOn 33 = .ok (.getfield 375, 3) := by decide +kernel
theorem dX5_countWaitingOn_36 : decode cX5_countWaitingOn 36 = .ok (.iload 5, 2) := by decide +kernel
theorem dX5_countWaitingOn_38 : decode cX5_countWaitingOn 38 = .ok (.iaload, 1) := by decide +kernel
theorem dX5_countWaitingOn_39 : decode cX5_countWaitingOn 39 = .ok (.iload 4, 2) := by decide +kernel
theorem dX5_countWaitingOn_41 : decode cX5_countWaitingOn 41 = .ok (.iand, 1) := by decide +kernel
theorem dX5_countWaitingOn_42 : decode cX5_countWaitingOn 42 = .ok (.ifCond .eq 12, 3) := by decide +kernel
theorem dX5_countWaitingOn_45 : decode cX5_countWaitingOn 45 = .ok (.iload 4, 2) := by decide +kernel
theorem dX5_countWaitingOn_47 : decode cX5_countWaitingOn 47 = .ok (.iconst 1, 1) := by decide +kernel
theorem dX5_countWaitingOn_48 : decode cX5_countWaitingOn 48 = .ok (.iload 5, 2) := by decide +kernel
theorem dX5_countWaitingOn_50 : decode cX5_countWaitingOn 50 = .ok (.ishl, 1) := by decide +kernel
theorem dX5_countWaitingOn_51 : decode cX5_countWaitingOn 51 = .ok (.ior, 1) := by decide +kernel
theorem dX5_countWaitingOn_52 : decode cX5_countWaitingOn 52 = .ok (.istore 4, 2) := by decide +kernel
theorem dX5_countWaitingOn_54 : decode cX5_countWaitingOn 54 = .ok (.iinc 5 1, 3) := by decide +kernel
theorem dX5_countWaitingOn_57 : decode cX5_countWaitingOn 57 = .ok (.goto (-47), 3) := by decide +kernel
theorem dX5_countWaitingOn_60 : decode cX5_countWaitingOn 60 = .ok (.iload 4, 2) := by decide +kernel
theorem dX5_countWaitingOn_62 : decode cX5_countWaitingOn 62 = .ok (.iload_n 3, 1) := by decide +kernel
theorem dX5_countWaitingOn_63 : decode cX5_countWaitingOn 63 = .ok (.iconst (-1), 1) := by decide +kernel
theorem dX5_countWaitingOn_64 : decode cX5_countWaitingOn 64 = .ok (.ixor, 1) := by decide +kernel
theorem dX5_countWaitingOn_65 : decode cX5_countWaitingOn 65 = .ok (.iand, 1) := by decide +kernel
theorem dX5_countWaitingOn_66 : decode cX5_countWaitingOn 66 = .ok (.aload_n 1, 1) := by decide +kernel
theorem dX5_countWaitingOn_67 : decode cX5_countWaitingOn 67 = .ok (.iconst 2, 1) := by decide +kernel
theorem dX5_countWaitingOn_68 : decode cX5_countWaitingOn 68 = .ok (.invokevirtual 378, 3) := by decide +kernel
theorem dX5_countWaitingOn_71 : decode cX5_countWaitingOn 71 = .ok (.iconst (-1), 1) := by decide +kernel
theorem dX5_countWaitingOn_72 : decode cX5_countWaitingOn 72 = .ok (.ixor, 1) := by decide +kernel
theorem dX5_countWaitingOn_73 : decode cX5_countWaitingOn 73 = .ok (.iand, 1) := by decide +kernel
theorem dX5_countWaitingOn_74 : decode cX5_countWaitingOn 74 = .ok (.invokestatic 381, 3) := by decide +kernel
theorem dX5_countWaitingOn_77 : decode cX5_countWaitingOn 77 = .ok (.ireturn, 1) := by decide +kernel
theorem dX5_countWaitingFor_0 : decode cX5_countWaitingFor 0 = .ok (.iconst 0, 1) := by decide +kernel
theorem dX5_countWaitingFor_1 : decode cX5_countWaitingFor 1 = .ok (.istore_n 2, 1) := by decide +kernel
theorem dX5_countWaitingFor_2 : decode cX5_countWaitingFor 2 = .ok (.iconst 0, 1) := by decide +kernel
theorem dX5_countWaitingFor_3 : decode cX5_countWaitingFor 3 = .ok (.istore_n 3, 1) := by decide +kernel
theorem dX5_countWaitingFor_4 : decode cX5_countWaitingFor 4 = .ok (.iload_n 3, 1) := by decide +kernel
theorem dX5_countWaitingFor_5 : decode cX5_countWaitingFor 5 = .ok (.aload_n 0, 1) := by decide +kernel
theorem dX5_countWaitingFor_6 : decode cX5_countWaitingFor 6 = .ok (.getfield 174, 3) := by decide +kernel
theorem dX5_countWaitingFor_9 : decode cX5_countWaitingFor 9 = .ok (.if_icmp .ge 74, 3) := by decide +kernel
theorem dX5_countWaitingFor_12 : decode cX5_countWaitingFor 12 = .ok (.aload_n 0, 1) := by decide +kernel
theorem dX5_countWaitingFor_13 : decode cX5_countWaitingFor 13 = .ok (.iload_n 3, 1) := by decide +kernel
theorem dX5_countWaitingFor_14 : decode cX5_countWaitingFor 14 = .ok (.invokevirtual 179, 3) := by decide +kernel
theorem dX5_countWaitingFor_17 : decode cX5_countWaitingFor 17 = .ok (.astore 4, 2) := by decide +kernel
theorem dX5_countWaitingFor_19 : decode cX5_countWaitingFor 19 = .ok (.iconst 0, 1) := by decide +kernel
theorem dX5_countWaitingFor_20 : decode cX5_countWaitingFor 20 = .ok (.istore 5, 2) := by decide +kernel
theorem dX5_countWaitingFor_22 : decode cX5_countWaitingFor 22 = .ok (.iload 5, 2) := by decide +kernel
theorem dX5_countWaitingFor_24 : decode cX5_countWaitingFor 24 = .ok (.bipush 12, 2) := by decide +kernel
theorem dX5_countWaitingFor_26 : decode cX5_countWaitingFor 26 = .ok (.if_icmp .ge 51, 3) := by decide +kernel
theorem dX5_countWaitingFor_29 : decode cX5_countWaitingFor 29 = .ok (.aload_n 0, 1) := by decide +kernel
theorem dX5_countWaitingFor_30 : decode cX5_countWaitingFor 30 = .ok (.getfield 10, 3) := by decide +kernel
theorem dX5_countWaitingFor_33 : decode cX5_countWaitingFor 33 = .ok (.getfield 126, 3) := by decide +kernel
theorem dX5_countWaitingFor_36 : decode cX5_countWaitingFor 36 = .ok (.iload 5, 2) := by decide +kernel
theorem dX5_countWaitingFor_38 : decode cX5_countWaitingFor 38 = .ok (.iaload, 1) := by decide +kernel
theorem dX5_countWaitingFor_39 : decode cX5_countWaitingFor 39 = .ok (.iconst 1, 1) := by decide +kernel
theorem dX5_countWaitingFor_40 : decode cX5_countWaitingFor 40 = .ok (.if_icmp .ne 31, 3) := by decide +kernel
theorem dX5_countWaitingFor_43 : decode cX5_countWaitingFor 43 = .ok (.aload_n 0, 1) := by decide +kernel
theorem dX5_countWaitingFor_44 : decode cX5_countWaitingFor 44 = .ok (.getfield 10, 3) := by decide +kernel
theorem dX5_countWaitingFor_47 : decode cX5_countWaitingFor 47 = .ok (.getfield 321, 3) := by decide +kernel
theorem dX5_countWaitingFor_50 : decode cX5_countWaitingFor 50 = .ok (.iload 5, 2) := by decide +kernel
theorem dX5_countWaitingFor_52 : decode cX5_countWaitingFor 52 = .ok (.iaload, 1) := by decide +kernel
theorem dX5_countWaitingFor_53 : decode cX5_countWaitingFor 53 = .ok (.iload_n 1, 1) := by decide +kernel
theorem dX5_countWaitingFor_54 : decode cX5_countWaitingFor 54 = .ok (.if_icmp .ne 17, 3) := by decide +kernel
theorem dX5_countWaitingFor_57 : decode cX5_countWaitingFor 57 = .ok (.aload_n 0, 1) := by decide +kernel
theorem dX5_countWaitingFor_58 : decode cX5_countWaitingFor 58 = .ok (.aload 4, 2) := by decide +kernel
theorem dX5_countWaitingFor_60 : decode cX5_countWaitingFor 60 = .ok (.iload 5, 2) := by decide +kernel
theorem dX5_countWaitingFor_62 : decode cX5_countWaitingFor 62 = .ok (.invokevirtual 314, 3) := by decide +kernel
theorem dX5_countWaitingFor_65 : decode cX5_countWaitingFor 65 = .ok (.ifCond .eq 6, 3) := by decide +kernel
theorem dX5_countWaitingFor_68 : decode cX5_countWaitingFor 68 = .ok (.iinc 2 1, 3) := by decide +kernel
theorem dX5_countWaitingFor_71 : decode cX5_countWaitingFor 71 = .ok (.iinc 5 1, 3) := by decide +kernel
theorem dX5_countWaitingFor_74 : decode cX5_countWaitingFor 74 = .ok (.goto (-52), 3) := by decide +kernel
theorem dX5_countWaitingFor_77 : decode cX5_countWaitingFor 77 = .ok (.iinc 3 1, 3) := by decide +kernel
theorem dX5_countWaitingFor_80 : decode cX5_countWaitingFor 80 = .ok (.goto (-76), 3) := by decide +kernel
theorem dX5_countWaitingFor_83 : decode cX5_countWaitingFor 83 = .ok (.iload_n 2, 1) := by decide +kernel
theorem dX5_countWaitingFor_84 : decode cX5_countWaitingFor 84 = .ok (.ireturn, 1) := by decide +kernel
theorem dX5_countLeft_0 : decode cX5_countLeft 0 = .ok (.iconst 0, 1) := by decide +kernel
theorem dX5_countLeft_1 : decode cX5_countLeft 1 = .ok (.istore_n 1, 1) := by decide +kernel
theorem dX5_countLeft_2 : decode cX5_countLeft 2 = .ok (.iconst 0, 1) := by decide +kernel
theorem dX5_countLeft_3 : decode cX5_countLeft 3 = .ok (.istore_n 2, 1) := by decide +kernel
theorem dX5_countLeft_4 : decode cX5_countLeft 4 = .ok (.iload_n 2, 1) := by decide +kernel
theorem dX5_countLeft_5 : decode cX5_countLeft 5 = .ok (.aload_n 0, 1) := by decide +kernel
theorem dX5_countLeft_6 : decode cX5_countLeft 6 = .ok (.getfield 174, 3) := by decide +kernel
theorem dX5_countLeft_9 : decode cX5_countLeft 9 = .ok (.if_icmp .ge 23, 3) := by decide +kernel
theorem dX5_countLeft_12 : decode cX5_countLeft 12 = .ok (.aload_n 0, 1) := by decide +kernel
theorem dX5_countLeft_13 : decode cX5_countLeft 13 = .ok (.iload_n 2, 1) := by decide +kernel
theorem dX5_countLeft_14 : decode cX5_countLeft 14 = .ok (.invokevirtual 179, 3) := by decide +kernel
theorem dX5_countLeft_17 : decode cX5_countLeft 17 = .ok (.getfield 189, 3) := by decide +kernel
theorem dX5_countLeft_20 : decode cX5_countLeft 20 = .ok (.ifCond .eq 6, 3) := by decide +kernel
theorem dX5_countLeft_23 : decode cX5_countLeft 23 = .ok (.iinc 1 1, 3) := by decide +kernel
theorem dX5_countLeft_26 : decode cX5_countLeft 26 = .ok (.iinc 2 1, 3) := by decide +kernel
theorem dX5_countLeft_29 : decode cX5_countLeft 29 = .ok (.goto (-25), 3) := by decide +kernel
theorem dX5_countLeft_32 : decode cX5_countLeft 32 = .ok (.iload_n 1, 1) := by decide +kernel
theorem dX5_countLeft_33 : decode cX5_countLeft 33 = .ok (.ireturn, 1) := by decide +kernel
theorem dX5_countStepsIn_0 : decode cX5_countStepsIn 0 = .ok (.iconst 0, 1) := by decide +kernel
theorem dX5_countStepsIn_1 : decode cX5_countStepsIn 1 = .ok (.istore_n 2, 1) := by decide +kernel
theorem dX5_countStepsIn_2 : decode cX5_countStepsIn 2 = .ok (.iconst 0, 1) := by decide +kernel
theorem dX5_countStepsIn_3 : decode cX5_countStepsIn 3 = .ok (.istore_n 3, 1) := by decide +kernel
theorem dX5_countStepsIn_4 : decode cX5_countStepsIn 4 = .ok (.iload_n 3, 1) := by decide +kernel
theorem dX5_countStepsIn_5 : decode cX5_countStepsIn 5 = .ok (.aload_n 0, 1) := by decide +kernel
theorem dX5_countStepsIn_6 : decode cX5_countStepsIn 6 = .ok (.getfield 174, 3) := by decide +kernel
theorem dX5_countStepsIn_9 : decode cX5_countStepsIn 9 = .ok (.if_icmp .ge 21, 3) := by decide +kernel
theorem dX5_countStepsIn_12 : decode cX5_countStepsIn 12 = .ok (.iload_n 2, 1) := by decide +kernel
theorem dX5_countStepsIn_13 : decode cX5_countStepsIn 13 = .ok (.aload_n 0, 1) := by decide +kernel
theorem dX5_countStepsIn_14 : decode cX5_countStepsIn 14 = .ok (.iload_n 3, 1) := by decide +kernel
theorem dX5_countStepsIn_15 : decode cX5_countStepsIn 15 = .ok (.invokevirtual 179, 3) := by decide +kernel
theorem dX5_countStepsIn_18 : decode cX5_countStepsIn 18 = .ok (.iload_n 1, 1) := by decide +kernel
theorem dX5_countStepsIn_19 : decode cX5_countStepsIn 19 = .ok (.invokevirtual 205, 3) := by decide +kernel
theorem dX5_countStepsIn_22 : decode cX5_countStepsIn 22 = .ok (.iadd, 1) := by decide +kernel
theorem dX5_countStepsIn_23 : decode cX5_countStepsIn 23 = .ok (.istore_n 2, 1) := by decide +kernel
theorem dX5_countStepsIn_24 : decode cX5_countStepsIn 24 = .ok (.iinc 3 1, 3) := by decide +kernel
theorem dX5_countStepsIn_27 : decode cX5_countStepsIn 27 = .ok (.goto (-23), 3) := by decide +kernel
theorem dX5_countStepsIn_30 : decode cX5_countStepsIn 30 = .ok (.iload_n 2, 1) := by decide +kernel
theorem dX5_countStepsIn_31 : decode cX5_countStepsIn 31 = .ok (.ireturn, 1) := by decide +kernel
theorem dX5_countRights_0 : decode cX5_countRights 0 = .ok (.iconst 0, 1) := by decide +kernel
theorem dX5_countRights_1 : decode cX5_countRights 1 = .ok (.istore_n 1, 1) := by decide +kernel
theorem dX5_countRights_2 : decode cX5_countRights 2 = .ok (.iconst 0, 1) := by decide +kernel
theorem dX5_countRights_3 : decode cX5_countRights 3 = .ok (.istore_n 2, 1) := by decide +kernel
theorem dX5_countRights_4 : decode cX5_countRights 4 = .ok (.iload_n 2, 1) := by decide +kernel
theorem dX5_countRights_5 : decode cX5_countRights 5 = .ok (.aload_n 0, 1) := by decide +kernel
theorem dX5_countRights_6 : decode cX5_countRights 6 = .ok (.getfield 174, 3) := by decide +kernel
theorem dX5_countRights_9 : decode cX5_countRights 9 = .ok (.if_icmp .ge 27, 3) := by decide +kernel
theorem dX5_countRights_12 : decode cX5_countRights 12 = .ok (.iload_n 1, 1) := by decide +kernel
theorem dX5_countRights_13 : decode cX5_countRights 13 = .ok (.aload_n 0, 1) := by decide +kernel
theorem dX5_countRights_14 : decode cX5_countRights 14 = .ok (.getfield 10, 3) := by decide +kernel
theorem dX5_countRights_17 : decode cX5_countRights 17 = .ok (.aload_n 0, 1) := by decide +kernel
theorem dX5_countRights_18 : decode cX5_countRights 18 = .ok (.iload_n 2, 1) := by decide +kernel
theorem dX5_countRights_19 : decode cX5_countRights 19 = .ok (.invokevirtual 179, 3) := by decide +kernel
theorem dX5_countRights_22 : decode cX5_countRights 22 = .ok (.invokevirtual 372, 3) := by decide +kernel
theorem dX5_countRights_25 : decode cX5_countRights 25 = .ok (.invokestatic 381, 3) := by decide +kernel
theorem dX5_countRights_28 : decode cX5_countRights 28 = .ok (.iadd, 1) := by decide +kernel
theorem dX5_countRights_29 : decode cX5_countRights 29 = .ok (.istore_n 1, 1) := by decide +kernel
theorem dX5_countRights_30 : decode cX5_countRights 30 = .ok (.iinc 2 1, 3) := by decide +kernel
theorem dX5_countRights_33 : decode cX5_countRights 33 = .ok (.goto (-29), 3) := by decide +kernel
theorem dX5_countRights_36 : decode cX5_countRights 36 = .ok (.iload_n 1, 1) := by decide +kernel
theorem dX5_countRights_37 : decode cX5_countRights 37 = .ok (.ireturn, 1) := by decide +kernel
theorem dX5_digestWith_0 : decode cX5_digestWith 0 = .ok (.lload_n 1, 1) := by decide +kernel
theorem dX5_digestWith_1 : decode cX5_digestWith 1 = .ok (.lstore 4, 2) := by decide +kernel
theorem dX5_digestWith_3 : decode cX5_digestWith 3 = .ok (.aload_n 0, 1) := by decide +kernel
theorem dX5_digestWith_4 : decode cX5_digestWith 4 = .ok (.getfield 35, 3) := by decide +kernel
theorem dX5_digestWith_7 : decode cX5_digestWith 7 = .ok (.aload_n 3, 1) := by decide +kernel
theorem dX5_digestWith_8 : decode cX5_digestWith 8 = .ok (.aload_n 0, 1) := by decide +kernel
theorem dX5_digestWith_9 : decode cX5_digestWith 9 = .ok (.getfield 160, 3) := by decide +kernel
theorem dX5_digestWith_12 : decode cX5_digestWith 12 = .ok (.iconst (-1), 1) := by decide +kernel
theorem dX5_digestWith_13 : decode cX5_digestWith 13 = .ok (.iconst 0, 1) := by decide +kernel
theorem dX5_digestWith_14 : decode cX5_digestWith 14 = .ok (.invokevirtual 233, 3) := by decide +kernel
theorem dX5_digestWith_17 : decode cX5_digestWith 17 = .ok (.iconst 0, 1) := by decide +kernel
theorem dX5_digestWith_18 : decode cX5_digestWith 18 = .ok (.istore 6, 2) := by decide +kernel
theorem dX5_digestWith_20 : decode cX5_digestWith 20 = .ok (.iload 6, 2) := by decide +kernel
theorem dX5_digestWith_22 : decode cX5_digestWith 22 = .ok (.bipush 6, 2) := by decide +kernel
theorem dX5_digestWith_24 : decode cX5_digestWith 24 = .ok (.if_icmp .gt 26, 3) := by decide +kernel
theorem dX5_digestWith_27 : decode cX5_digestWith 27 = .ok (.lload 4, 2) := by decide +kernel
theorem dX5_digestWith_29 : decode cX5_digestWith 29 = .ok (.ldc2_w 288, 3) := by decide +kernel
theorem dX5_digestWith_32 : decode cX5_digestWith 32 = .ok (.lmul, 1) := by decide +kernel
theorem dX5_digestWith_33 : decode cX5_digestWith 33 = .ok (.aload_n 0, 1) := by decide +kernel
theorem dX5_digestWith_34 : decode cX5_digestWith 34 = .ok (.aload_n 3, 1) := by decide +kernel
theorem dX5_digestWith_35 : decode cX5_digestWith 35 = .ok (.iload 6, 2) := by decide +kernel
theorem dX5_digestWith_37 : decode cX5_digestWith 37 = .ok (.invokevirtual 243, 3) := by decide +kernel
theorem dX5_digestWith_40 : decode cX5_digestWith 40 = .ok (.i2l, 1) := by decide +kernel
theorem dX5_digestWith_41 : decode cX5_digestWith 41 = .ok (.ladd, 1) := by decide +kernel
theorem dX5_digestWith_42 : decode cX5_digestWith 42 = .ok (.lstore 4, 2) := by decide +kernel
theorem dX5_digestWith_44 : decode cX5_digestWith 44 = .ok (.iinc 6 1, 3) := by decide +kernel
theorem dX5_digestWith_47 : decode cX5_digestWith 47 = .ok (.goto (-27), 3) := by decide +kernel
theorem dX5_digestWith_50 : decode cX5_digestWith 50 = .ok (.lload 4, 2) := by decide +kernel
theorem dX5_digestWith_52 : decode cX5_digestWith 52 = .ok (.ldc2_w 288, 3) := by decide +kernel
theorem dX5_digestWith_55 : decode cX5_digestWith 55 = .ok (.lmul, 1) := by decide +kernel
theorem dX5_digestWith_56 : decode cX5_digestWith 56 = .ok (.aload_n 0, 1) := by decide +kernel
theorem dX5_digestWith_57 : decode cX5_digestWith 57 = .ok (.aload_n 3, 1) := by decide +kernel
theorem dX5_digestWith_58 : decode cX5_digestWith 58 = .ok (.invokevirtual 279, 3) := by decide +kernel
theorem dX5_digestWith_61 : decode cX5_digestWith 61 = .ok (.i2l, 1) := by decide +kernel
theorem dX5_digestWith_62 : decode cX5_digestWith 62 = .ok (.ladd, 1) := by decide +kernel
theorem dX5_digestWith_63 : decode cX5_digestWith 63 = .ok (.lstore 4, 2) := by decide +kernel
theorem dX5_digestWith_65 : decode cX5_digestWith 65 = .ok (.iconst 0, 1) := by decide +kernel
theorem dX5_digestWith_66 : decode cX5_digestWith 66 = .ok (.istore 6, 2) := by decide +kernel
theorem dX5_digestWith_68 : decode cX5_digestWith 68 = .ok (.iload 6, 2) := by decide +kernel
theorem dX5_digestWith_70 : decode cX5_digestWith 70 = .ok (.aload_n 0, 1) := by decide +kernel
theorem dX5_digestWith_71 : decode cX5_digestWith 71 = .ok (.getfield 10, 3) := by decide +kernel
theorem dX5_digestWith_74 : decode cX5_digestWith 74 = .ok (.getfield 249, 3) := by decide +kernel
theorem dX5_digestWith_77 : decode cX5_digestWith 77 = .ok (.if_icmp .ge 36, 3) := by decide +kernel
theorem dX5_digestWith_80 : decode cX5_digestWith 80 = .ok (.lload 4, 2) := by decide +kernel
theorem dX5_digestWith_82 : decode cX5_digestWith 82 = .ok (.ldc2_w 288, 3) := by decide +kernel
theorem dX5_digestWith_85 : decode cX5_digestWith 85 = .ok (.lmul, 1) := by decide +kernel
theorem dX5_digestWith_86 : decode cX5_digestWith 86 = .ok (.aload_n 0, 1) := by decide +kernel
theorem dX5_digestWith_87 : decode cX5_digestWith 87 = .ok (.getfield 35, 3) := by decide +kernel
theorem dX5_digestWith_90 : decode cX5_digestWith 90 = .ok (.aload_n 0, 1) := by decide +kernel
theorem dX5_digestWith_91 : decode cX5_digestWith 91 = .ok (.getfield 10, 3) := by decide +kernel
theorem dX5_digestWith_94 : decode cX5_digestWith 94 = .ok (.getfield 273, 3) := by decide +kernel
theorem dX5_digestWith_97 : decode cX5_digestWith 97 = .ok (.iload 6, 2) := by decide +kernel
theorem dX5_digestWith_99 : decode cX5_digestWith 99 = .ok (.iaload, 1) := by decide +kernel
theorem dX5_digestWith_100 : decode cX5_digestWith 100 = .ok (.invokevirtual 276, 3) := by decide +kernel
theorem dX5_digestWith_103 : decode cX5_digestWith 103 = .ok (.i2l, 1) := by decide +kernel
theorem dX5_digestWith_104 : decode cX5_digestWith 104 = .ok (.ladd, 1) := by decide +kernel
theorem dX5_digestWith_105 : decode cX5_digestWith 105 = .ok (.lstore 4, 2) := by decide +kernel
theorem dX5_digestWith_107 : decode cX5_digestWith 107 = .ok (.iinc 6 1, 3) := by decide +kernel
theorem dX5_digestWith_110 : decode cX5_digestWith 110 = .ok (.goto (-42), 3) := by decide +kernel
theorem dX5_digestWith_113 : decode cX5_digestWith 113 = .ok (.iconst 0, 1) := by decide +kernel
theorem dX5_digestWith_114 : decode cX5_digestWith 114 = .ok (.istore 6, 2) := by decide +kernel
theorem dX5_digestWith_116 : decode cX5_digestWith 116 = .ok (.iload 6, 2) := by decide +kernel
theorem dX5_digestWith_118 : decode cX5_digestWith 118 = .ok (.bipush 12, 2) := by decide +kernel
theorem dX5_digestWith_120 : decode cX5_digestWith 120 = .ok (.if_icmp .ge 72, 3) := by decide +kernel
theorem dX5_digestWith_123 : decode cX5_digestWith 123 = .ok (.aload_n 3, 1) := by decide +kernel
theorem dX5_digestWith_124 : decode cX5_digestWith 124 = .ok (.getfield 183, 3) := by decide +kernel
theorem dX5_digestWith_127 : decode cX5_digestWith 127 = .ok (.iload 6, 2) := by decide +kernel
theorem dX5_digestWith_129 : decode cX5_digestWith 129 = .ok (.invokestatic 226, 3) := by decide +kernel
theorem dX5_digestWith_132 : decode cX5_digestWith 132 = .ok (.ifCond .eq 54, 3) := by decide +kernel
theorem dX5_digestWith_135 : decode cX5_digestWith 135 = .ok (.iconst 0, 1) := by decide +kernel
theorem dX5_digestWith_136 : decode cX5_digestWith 136 = .ok (.istore 7, 2) := by decide +kernel
theorem dX5_digestWith_138 : decode cX5_digestWith 138 = .ok (.iload 7, 2) := by decide +kernel
theorem dX5_digestWith_140 : decode cX5_digestWith 140 = .ok (.iconst 5, 1) := by decide +kernel
theorem dX5_digestWith_141 : decode cX5_digestWith 141 = .ok (.if_icmp .gt 28, 3) := by decide +kernel
theorem dX5_digestWith_144 : decode cX5_digestWith 144 = .ok (.lload 4, 2) := by decide +kernel
theorem dX5_digestWith_146 : decode cX5_digestWith 146 = .ok (.ldc2_w 288, 3) := by decide +kernel
theorem dX5_digestWith_149 : decode cX5_digestWith 149 = .ok (.lmul, 1) := by decide +kernel
theorem dX5_digestWith_150 : decode cX5_digestWith 150 = .ok (.aload_n 0, 1) := by decide +kernel
theorem dX5_digestWith_151 : decode cX5_digestWith 151 = .ok (.aload_n 3, 1) := by decide +kernel
theorem dX5_digestWith_152 : decode cX5_digestWith 152 = .ok (.iload 6, 2) := by decide +kernel
theorem dX5_digestWith_154 : decode cX5_digestWith 154 = .ok (.iload 7, 2) := by decide +kernel
theorem dX5_digestWith_156 : decode cX5_digestWith 156 = .ok (.invokevirtual 237, 3) := by decide +kernel
theorem dX5_digestWith_159 : decode cX5_digestWith 159 = .ok (.i2l, 1) := by decide +kernel
theorem dX5_digestWith_160 : decode cX5_digestWith 160 = .ok (.ladd, 1) := by decide +kernel
theorem dX5_digestWith_161 : decode cX5_digestWith 161 = .ok (.lstore 4, 2) := by decide +kernel
theorem dX5_digestWith_163 : decode cX5_digestWith 163 = .ok (.iinc 7 1, 3) := by decide +kernel
theorem dX5_digestWith_166 : decode cX5_digestWith 166 = .ok (.goto (-28), 3) := by decide +kernel
theorem dX5_digestWith_169 : decode cX5_digestWith 169 = .ok (.lload 4, 2) := by decide +kernel
theorem dX5_digestWith_171 : decode cX5_digestWith 171 = .ok (.ldc2_w 288, 3) := by decide +kernel
theorem dX5_digestWith_174 : decode cX5_digestWith 174 = .ok (.lmul, 1) := by decide +kernel
theorem dX5_digestWith_175 : decode cX5_digestWith 175 = .ok (.aload_n 0, 1) := by decide +kernel
theorem dX5_digestWith_176 : decode cX5_digestWith 176 = .ok (.aload_n 3, 1) := by decide +kernel
theorem dX5_digestWith_177 : decode cX5_digestWith 177 = .ok (.iload 6, 2) := by decide +kernel
theorem dX5_digestWith_179 : decode cX5_digestWith 179 = .ok (.invokevirtual 283, 3) := by decide +kernel
theorem dX5_digestWith_182 : decode cX5_digestWith 182 = .ok (.i2l, 1) := by decide +kernel
theorem dX5_digestWith_183 : decode cX5_digestWith 183 = .ok (.ladd, 1) := by decide +kernel
theorem dX5_digestWith_184 : decode cX5_digestWith 184 = .ok (.lstore 4, 2) := by decide +kernel
theorem dX5_digestWith_186 : decode cX5_digestWith 186 = .ok (.iinc 6 1, 3) := by decide +kernel
theorem dX5_digestWith_189 : decode cX5_digestWith 189 = .ok (.goto (-73), 3) := by decide +kernel
theorem dX5_digestWith_192 : decode cX5_digestWith 192 = .ok (.lload 4, 2) := by decide +kernel
theorem dX5_digestWith_194 : decode cX5_digestWith 194 = .ok (.lreturn, 1) := by decide +kernel
theorem dJ6_bitCount_0f7a4_0 : decode cJ6_bitCount_0f7a4 0 = .ok (.iload_n 0, 1) := by decide +kernel
theorem dJ6_bitCount_0f7a4_1 : decode cJ6_bitCount_0f7a4 1 = .ok (.iload_n 0, 1) := by decide +kernel
theorem dJ6_bitCount_0f7a4_2 : decode cJ6_bitCount_0f7a4 2 = .ok (.iconst 1, 1) := by decide +kernel
theorem dJ6_bitCount_0f7a4_3 : decode cJ6_bitCount_0f7a4 3 = .ok (.iushr, 1) := by decide +kernel
theorem dJ6_bitCount_0f7a4_4 : decode cJ6_bitCount_0f7a4 4 = .ok (.ldc_w 265, 3) := by decide +kernel
theorem dJ6_bitCount_0f7a4_7 : decode cJ6_bitCount_0f7a4 7 = .ok (.iand, 1) := by decide +kernel
theorem dJ6_bitCount_0f7a4_8 : decode cJ6_bitCount_0f7a4 8 = .ok (.isub, 1) := by decide +kernel
theorem dJ6_bitCount_0f7a4_9 : decode cJ6_bitCount_0f7a4 9 = .ok (.istore_n 0, 1) := by decide +kernel
theorem dJ6_bitCount_0f7a4_10 : decode cJ6_bitCount_0f7a4 10 = .ok (.iload_n 0, 1) := by decide +kernel
theorem dJ6_bitCount_0f7a4_11 : decode cJ6_bitCount_0f7a4 11 = .ok (.ldc_w 266, 3) := by decide +kernel
theorem dJ6_bitCount_0f7a4_14 : decode cJ6_bitCount_0f7a4 14 = .ok (.iand, 1) := by decide +kernel
theorem dJ6_bitCount_0f7a4_15 : decode cJ6_bitCount_0f7a4 15 = .ok (.iload_n 0, 1) := by decide +kernel
theorem dJ6_bitCount_0f7a4_16 : decode cJ6_bitCount_0f7a4 16 = .ok (.iconst 2, 1) := by decide +kernel
theorem dJ6_bitCount_0f7a4_17 : decode cJ6_bitCount_0f7a4 17 = .ok (.iushr, 1) := by decide +kernel
theorem dJ6_bitCount_0f7a4_18 : decode cJ6_bitCount_0f7a4 18 = .ok (.ldc_w 266, 3) := by decide +kernel
theorem dJ6_bitCount_0f7a4_21 : decode cJ6_bitCount_0f7a4 21 = .ok (.iand, 1) := by decide +kernel
theorem dJ6_bitCount_0f7a4_22 : decode cJ6_bitCount_0f7a4 22 = .ok (.iadd, 1) := by decide +kernel
theorem dJ6_bitCount_0f7a4_23 : decode cJ6_bitCount_0f7a4 23 = .ok (.istore_n 0, 1) := by decide +kernel
theorem dJ6_bitCount_0f7a4_24 : decode cJ6_bitCount_0f7a4 24 = .ok (.iload_n 0, 1) := by decide +kernel
theorem dJ6_bitCount_0f7a4_25 : decode cJ6_bitCount_0f7a4 25 = .ok (.iload_n 0, 1) := by decide +kernel
theorem dJ6_bitCount_0f7a4_26 : decode cJ6_bitCount_0f7a4 26 = .ok (.iconst 4, 1) := by decide +kernel
theorem dJ6_bitCount_0f7a4_27 : decode cJ6_bitCount_0f7a4 27 = .ok (.iushr, 1) := by decide +kernel
theorem dJ6_bitCount_0f7a4_28 : decode cJ6_bitCount_0f7a4 28 = .ok (.iadd, 1) := by decide +kernel
theorem dJ6_bitCount_0f7a4_29 : decode cJ6_bitCount_0f7a4 29 = .ok (.ldc_w 267, 3) := by decide +kernel
theorem dJ6_bitCount_0f7a4_32 : decode cJ6_bitCount_0f7a4 32 = .ok (.iand, 1) := by decide +kernel
theorem dJ6_bitCount_0f7a4_33 : decode cJ6_bitCount_0f7a4 33 = .ok (.istore_n 0, 1) := by decide +kernel
theorem dJ6_bitCount_0f7a4_34 : decode cJ6_bitCount_0f7a4 34 = .ok (.iload_n 0, 1) := by decide +kernel
theorem dJ6_bitCount_0f7a4_35 : decode cJ6_bitCount_0f7a4 35 = .ok (.iload_n 0, 1) := by decide +kernel
theorem dJ6_bitCount_0f7a4_36 : decode cJ6_bitCount_0f7a4 36 = .ok (.bipush 8, 2) := by decide +kernel
theorem dJ6_bitCount_0f7a4_38 : decode cJ6_bitCount_0f7a4 38 = .ok (.iushr, 1) := by decide +kernel
theorem dJ6_bitCount_0f7a4_39 : decode cJ6_bitCount_0f7a4 39 = .ok (.iadd, 1) := by decide +kernel
theorem dJ6_bitCount_0f7a4_40 : decode cJ6_bitCount_0f7a4 40 = .ok (.istore_n 0, 1) := by decide +kernel
theorem dJ6_bitCount_0f7a4_41 : decode cJ6_bitCount_0f7a4 41 = .ok (.iload_n 0, 1) := by decide +kernel
theorem dJ6_bitCount_0f7a4_42 : decode cJ6_bitCount_0f7a4 42 = .ok (.iload_n 0, 1) := by decide +kernel
theorem dJ6_bitCount_0f7a4_43 : decode cJ6_bitCount_0f7a4 43 = .ok (.bipush 16, 2) := by decide +kernel
theorem dJ6_bitCount_0f7a4_45 : decode cJ6_bitCount_0f7a4 45 = .ok (.iushr, 1) := by decide +kernel
theorem dJ6_bitCount_0f7a4_46 : decode cJ6_bitCount_0f7a4 46 = .ok (.iadd, 1) := by decide +kernel
theorem dJ6_bitCount_0f7a4_47 : decode cJ6_bitCount_0f7a4 47 = .ok (.istore_n 0, 1) := by decide +kernel
theorem dJ6_bitCount_0f7a4_48 : decode cJ6_bitCount_0f7a4 48 = .ok (.iload_n 0, 1) := by decide +kernel
theorem dJ6_bitCount_0f7a4_49 : decode cJ6_bitCount_0f7a4 49 = .ok (.bipush 63, 2) := by decide +kernel
theorem dJ6_bitCount_0f7a4_51 : decode cJ6_bitCount_0f7a4 51 = .ok (.iand, 1) := by decide +kernel
theorem dJ6_bitCount_0f7a4_52 : decode cJ6_bitCount_0f7a4 52 = .ok (.ireturn, 1) := by decide +kernel
theorem dJ9_max_7cf53_0 : decode cJ9_max_7cf53 0 = .ok (.iload_n 0, 1) := by decide +kernel
theorem dJ9_max_7cf53_1 : decode cJ9_max_7cf53 1 = .ok (.iload_n 1, 1) := by decide +kernel
theorem dJ9_max_7cf53_2 : decode cJ9_max_7cf53 2 = .ok (.if_icmp .lt 7, 3) := by decide +kernel
theorem dJ9_max_7cf53_5 : decode cJ9_max_7cf53 5 = .ok (.iload_n 0, 1) := by decide +kernel
theorem dJ9_max_7cf53_6 : decode cJ9_max_7cf53 6 = .ok (.goto 4, 3) := by decide +kernel
theorem dJ9_max_7cf53_9 : decode cJ9_max_7cf53 9 = .ok (.iload_n 1, 1) := by decide +kernel
theorem dJ9_max_7cf53_10 : decode cJ9_max_7cf53 10 = .ok (.ireturn, 1) := by decide +kernel
theorem dJ9_min_7cf53_0 : decode cJ9_min_7cf53 0 = .ok (.iload_n 0, 1) := by decide +kernel
theorem dJ9_min_7cf53_1 : decode cJ9_min_7cf53 1 = .ok (.iload_n 1, 1) := by decide +kernel
theorem dJ9_min_7cf53_2 : decode cJ9_min_7cf53 2 = .ok (.if_icmp .gt 7, 3) := by decide +kernel
theorem dJ9_min_7cf53_5 : decode cJ9_min_7cf53 5 = .ok (.iload_n 0, 1) := by decide +kernel
theorem dJ9_min_7cf53_6 : decode cJ9_min_7cf53 6 = .ok (.goto 4, 3) := by decide +kernel
theorem dJ9_min_7cf53_9 : decode cJ9_min_7cf53 9 = .ok (.iload_n 1, 1) := by decide +kernel
theorem dJ9_min_7cf53_10 : decode cJ9_min_7cf53 10 = .ok (.ireturn, 1) := by decide +kernel
theorem dL_below_0 : decode cL_below 0 = .ok (.iload_n 0, 1) := by decide +kernel
theorem dL_below_1 : decode cL_below 1 = .ok (.ldc 7, 2) := by decide +kernel
theorem dL_below_3 : decode cL_below 3 = .ok (.iand, 1) := by decide +kernel
theorem dL_below_4 : decode cL_below 4 = .ok (.iload_n 1, 1) := by decide +kernel
theorem dL_below_5 : decode cL_below 5 = .ok (.irem, 1) := by decide +kernel
theorem dL_below_6 : decode cL_below 6 = .ok (.ireturn, 1) := by decide +kernel
theorem dL_cell_0 : decode cL_cell 0 = .ok (.iload_n 1, 1) := by decide +kernel
theorem dL_cell_1 : decode cL_cell 1 = .ok (.aload_n 0, 1) := by decide +kernel
theorem dL_cell_2 : decode cL_cell 2 = .ok (.arraylength, 1) := by decide +kernel
theorem dL_cell_3 : decode cL_cell 3 = .ok (.if_icmp .ge 9, 3) := by decide +kernel
theorem dL_cell_6 : decode cL_cell 6 = .ok (.aload_n 0, 1) := by decide +kernel
theorem dL_cell_7 : decode cL_cell 7 = .ok (.iload_n 1, 1) := by decide +kernel
theorem dL_cell_8 : decode cL_cell 8 = .ok (.iaload, 1) := by decide +kernel
theorem dL_cell_9 : decode cL_cell 9 = .ok (.goto 9, 3) := by decide +kernel
theorem dL_cell_12 : decode cL_cell 12 = .ok (.ldc 8, 2) := by decide +kernel
theorem dL_cell_14 : decode cL_cell 14 = .ok (.iload_n 1, 1) := by decide +kernel
theorem dL_cell_15 : decode cL_cell 15 = .ok (.iconst 3, 1) := by decide +kernel
theorem dL_cell_16 : decode cL_cell 16 = .ok (.iadd, 1) := by decide +kernel
theorem dL_cell_17 : decode cL_cell 17 = .ok (.imul, 1) := by decide +kernel
theorem dL_cell_18 : decode cL_cell 18 = .ok (.ireturn, 1) := by decide +kernel
theorem dL_law_0 : decode cL_law 0 = .ok (.new 9, 3) := by decide +kernel
theorem dL_law_3 : decode cL_law 3 = .ok (.dup, 1) := by decide +kernel
theorem dL_law_4 : decode cL_law 4 = .ok (.invokespecial 11, 3) := by decide +kernel
theorem dL_law_7 : decode cL_law 7 = .ok (.astore_n 1, 1) := by decide +kernel
theorem dL_law_8 : decode cL_law 8 = .ok (.iconst 4, 1) := by decide +kernel
theorem dL_law_9 : decode cL_law 9 = .ok (.aload_n 0, 1) := by decide +kernel
theorem dL_law_10 : decode cL_law 10 = .ok (.iconst 0, 1) := by decide +kernel
theorem dL_law_11 : decode cL_law 11 = .ok (.invokestatic 12, 3) := by decide +kernel
theorem dL_law_14 : decode cL_law 14 = .ok (.bipush 7, 2) := by decide +kernel
theorem dL_law_16 : decode cL_law 16 = .ok (.invokestatic 18, 3) := by decide +kernel
theorem dL_law_19 : decode cL_law 19 = .ok (.iadd, 1) := by decide +kernel
theorem dL_law_20 : decode cL_law 20 = .ok (.istore_n 2, 1) := by decide +kernel
theorem dL_law_21 : decode cL_law 21 = .ok (.iload_n 2, 1) := by decide +kernel
theorem dL_law_22 : decode cL_law 22 = .ok (.newarray .int, 2) := by decide +kernel
theorem dL_law_24 : decode cL_law 24 = .ok (.astore_n 3, 1) := by decide +kernel
theorem dL_law_25 : decode cL_law 25 = .ok (.iload_n 2, 1) := by decide +kernel
theorem dL_law_26 : decode cL_law 26 = .ok (.newarray .int, 2) := by decide +kernel
end
section
theorem dL_law_28 : decode cL_law 28 = .ok (.astore 4, 2) := by decide +kernel
theorem dL_law_30 : decode cL_law 30 = .ok (.iconst 0, 1) := by decide +kernel
theorem dL_law_31 : decode cL_law 31 = .ok (.istore 5, 2) := by decide +kernel
theorem dL_law_33 : decode cL_law 33 = .ok (.iload 5, 2) := by decide +kernel
theorem dL_law_35 : decode cL_law 35 = .ok (.iload_n 2, 1) := by decide +kernel
theorem dL_law_36 : decode cL_law 36 = .ok (.if_icmp .ge 129, 3) := by decide +kernel
theorem dL_law_39 : decode cL_law 39 = .ok (.aload_n 3, 1) := by decide +kernel
theorem dL_law_40 : decode cL_law 40 = .ok (.iload 5, 2) := by decide +kernel
theorem dL_law_42 : decode cL_law 42 = .ok (.aload_n 0, 1) := by decide +kernel
theorem dL_law_43 : decode cL_law 43 = .ok (.iload 5, 2) := by decide +kernel
theorem dL_law_45 : decode cL_law 45 = .ok (.invokestatic 12, 3) := by decide +kernel
theorem dL_law_48 : decode cL_law 48 = .ok (.iconst 4, 1) := by decide +kernel
theorem dL_law_49 : decode cL_law 49 = .ok (.invokestatic 18, 3) := by decide +kernel
theorem dL_law_52 : decode cL_law 52 = .ok (.iastore, 1) := by decide +kernel
theorem dL_law_53 : decode cL_law 53 = .ok (.aload 4, 2) := by decide +kernel
theorem dL_law_55 : decode cL_law 55 = .ok (.iload 5, 2) := by decide +kernel
theorem dL_law_57 : decode cL_law 57 = .ok (.aload_n 0, 1) := by decide +kernel
theorem dL_law_58 : decode cL_law 58 = .ok (.iload 5, 2) := by decide +kernel
theorem dL_law_60 : decode cL_law 60 = .ok (.invokestatic 12, 3) := by decide +kernel
theorem dL_law_63 : decode cL_law 63 = .ok (.iconst 3, 1) := by decide +kernel
theorem dL_law_64 : decode cL_law 64 = .ok (.ishr, 1) := by decide +kernel
theorem dL_law_65 : decode cL_law 65 = .ok (.iconst 1, 1) := by decide +kernel
theorem dL_law_66 : decode cL_law 66 = .ok (.iload 5, 2) := by decide +kernel
theorem dL_law_68 : decode cL_law 68 = .ok (.ishl, 1) := by decide +kernel
theorem dL_law_69 : decode cL_law 69 = .ok (.invokestatic 18, 3) := by decide +kernel
theorem dL_law_72 : decode cL_law 72 = .ok (.aload_n 0, 1) := by decide +kernel
theorem dL_law_73 : decode cL_law 73 = .ok (.iload 5, 2) := by decide +kernel
theorem dL_law_75 : decode cL_law 75 = .ok (.iconst 1, 1) := by decide +kernel
theorem dL_law_76 : decode cL_law 76 = .ok (.iadd, 1) := by decide +kernel
theorem dL_law_77 : decode cL_law 77 = .ok (.invokestatic 12, 3) := by decide +kernel
theorem dL_law_80 : decode cL_law 80 = .ok (.iconst 2, 1) := by decide +kernel
theorem dL_law_81 : decode cL_law 81 = .ok (.ishr, 1) := by decide +kernel
theorem dL_law_82 : decode cL_law 82 = .ok (.iconst 1, 1) := by decide +kernel
theorem dL_law_83 : decode cL_law 83 = .ok (.iload 5, 2) := by decide +kernel
theorem dL_law_85 : decode cL_law 85 = .ok (.ishl, 1) := by decide +kernel
theorem dL_law_86 : decode cL_law 86 = .ok (.invokestatic 18, 3) := by decide +kernel
theorem dL_law_89 : decode cL_law 89 = .ok (.iand, 1) := by decide +kernel
theorem dL_law_90 : decode cL_law 90 = .ok (.iastore, 1) := by decide +kernel
theorem dL_law_91 : decode cL_law 91 = .ok (.aload_n 1, 1) := by decide +kernel
theorem dL_law_92 : decode cL_law 92 = .ok (.aload_n 3, 1) := by decide +kernel
theorem dL_law_93 : decode cL_law 93 = .ok (.iload 5, 2) := by decide +kernel
theorem dL_law_95 : decode cL_law 95 = .ok (.iaload, 1) := by decide +kernel
theorem dL_law_96 : decode cL_law 96 = .ok (.iconst 1, 1) := by decide +kernel
theorem dL_law_97 : decode cL_law 97 = .ok (.aload_n 0, 1) := by decide +kernel
theorem dL_law_98 : decode cL_law 98 = .ok (.iload 5, 2) := by decide +kernel
theorem dL_law_100 : decode cL_law 100 = .ok (.iconst 2, 1) := by decide +kernel
theorem dL_law_101 : decode cL_law 101 = .ok (.iadd, 1) := by decide +kernel
theorem dL_law_102 : decode cL_law 102 = .ok (.invokestatic 12, 3) := by decide +kernel
theorem dL_law_105 : decode cL_law 105 = .ok (.iconst 4, 1) := by decide +kernel
theorem dL_law_106 : decode cL_law 106 = .ok (.invokestatic 18, 3) := by decide +kernel
theorem dL_law_109 : decode cL_law 109 = .ok (.iadd, 1) := by decide +kernel
theorem dL_law_110 : decode cL_law 110 = .ok (.aload 4, 2) := by decide +kernel
theorem dL_law_112 : decode cL_law 112 = .ok (.iload 5, 2) := by decide +kernel
theorem dL_law_114 : decode cL_law 114 = .ok (.iaload, 1) := by decide +kernel
theorem dL_law_115 : decode cL_law 115 = .ok (.aload_n 3, 1) := by decide +kernel
theorem dL_law_116 : decode cL_law 116 = .ok (.iload 5, 2) := by decide +kernel
theorem dL_law_118 : decode cL_law 118 = .ok (.iaload, 1) := by decide +kernel
theorem dL_law_119 : decode cL_law 119 = .ok (.ifCond .ne 20, 3) := by decide +kernel
theorem dL_law_122 : decode cL_law 122 = .ok (.aload_n 0, 1) := by decide +kernel
theorem dL_law_123 : decode cL_law 123 = .ok (.iload 5, 2) := by decide +kernel
theorem dL_law_125 : decode cL_law 125 = .ok (.invokestatic 12, 3) := by decide +kernel
theorem dL_law_128 : decode cL_law 128 = .ok (.iconst 4, 1) := by decide +kernel
theorem dL_law_129 : decode cL_law 129 = .ok (.ishr, 1) := by decide +kernel
theorem dL_law_130 : decode cL_law 130 = .ok (.sipush 256, 3) := by decide +kernel
theorem dL_law_133 : decode cL_law 133 = .ok (.invokestatic 18, 3) := by decide +kernel
theorem dL_law_136 : decode cL_law 136 = .ok (.goto 13, 3) := by decide +kernel
theorem dL_law_139 : decode cL_law 139 = .ok (.aload_n 0, 1) := by decide +kernel
theorem dL_law_140 : decode cL_law 140 = .ok (.iload 5, 2) := by decide +kernel
theorem dL_law_142 : decode cL_law 142 = .ok (.invokestatic 12, 3) := by decide +kernel
theorem dL_law_145 : decode cL_law 145 = .ok (.iconst 2, 1) := by decide +kernel
theorem dL_law_146 : decode cL_law 146 = .ok (.invokestatic 18, 3) := by decide +kernel
theorem dL_law_149 : decode cL_law 149 = .ok (.invokevirtual 22, 3) := by decide +kernel
theorem dL_law_152 : decode cL_law 152 = .ok (.iload 5, 2) := by decide +kernel
theorem dL_law_154 : decode cL_law 154 = .ok (.if_icmp .eq 5, 3) := by decide +kernel
theorem dL_law_157 : decode cL_law 157 = .ok (.iconst 0, 1) := by decide +kernel
theorem dL_law_158 : decode cL_law 158 = .ok (.ireturn, 1) := by decide +kernel
theorem dL_law_159 : decode cL_law 159 = .ok (.iinc 5 1, 3) := by decide +kernel
theorem dL_law_162 : decode cL_law 162 = .ok (.goto (-129), 3) := by decide +kernel
theorem dL_law_165 : decode cL_law 165 = .ok (.iconst 1, 1) := by decide +kernel
theorem dL_law_166 : decode cL_law 166 = .ok (.aload_n 0, 1) := by decide +kernel
theorem dL_law_167 : decode cL_law 167 = .ok (.iconst 1, 1) := by decide +kernel
theorem dL_law_168 : decode cL_law 168 = .ok (.invokestatic 12, 3) := by decide +kernel
theorem dL_law_171 : decode cL_law 171 = .ok (.iconst 5, 1) := by decide +kernel
theorem dL_law_172 : decode cL_law 172 = .ok (.invokestatic 18, 3) := by decide +kernel
theorem dL_law_175 : decode cL_law 175 = .ok (.iadd, 1) := by decide +kernel
theorem dL_law_176 : decode cL_law 176 = .ok (.istore 5, 2) := by decide +kernel
theorem dL_law_178 : decode cL_law 178 = .ok (.iload 5, 2) := by decide +kernel
theorem dL_law_180 : decode cL_law 180 = .ok (.newarray .int, 2) := by decide +kernel
theorem dL_law_182 : decode cL_law 182 = .ok (.astore 6, 2) := by decide +kernel
theorem dL_law_184 : decode cL_law 184 = .ok (.iconst 0, 1) := by decide +kernel
theorem dL_law_185 : decode cL_law 185 = .ok (.istore 7, 2) := by decide +kernel
theorem dL_law_187 : decode cL_law 187 = .ok (.iload 7, 2) := by decide +kernel
theorem dL_law_189 : decode cL_law 189 = .ok (.iload 5, 2) := by decide +kernel
theorem dL_law_191 : decode cL_law 191 = .ok (.if_icmp .ge 79, 3) := by decide +kernel
theorem dL_law_194 : decode cL_law 194 = .ok (.aload 6, 2) := by decide +kernel
theorem dL_law_196 : decode cL_law 196 = .ok (.iload 7, 2) := by decide +kernel
theorem dL_law_198 : decode cL_law 198 = .ok (.iconst 1, 1) := by decide +kernel
theorem dL_law_199 : decode cL_law 199 = .ok (.aload_n 0, 1) := by decide +kernel
theorem dL_law_200 : decode cL_law 200 = .ok (.iload 7, 2) := by decide +kernel
theorem dL_law_202 : decode cL_law 202 = .ok (.iconst 3, 1) := by decide +kernel
theorem dL_law_203 : decode cL_law 203 = .ok (.iadd, 1) := by decide +kernel
theorem dL_law_204 : decode cL_law 204 = .ok (.invokestatic 12, 3) := by decide +kernel
theorem dL_law_207 : decode cL_law 207 = .ok (.iconst 2, 1) := by decide +kernel
theorem dL_law_208 : decode cL_law 208 = .ok (.ishr, 1) := by decide +kernel
theorem dL_law_209 : decode cL_law 209 = .ok (.iconst 1, 1) := by decide +kernel
theorem dL_law_210 : decode cL_law 210 = .ok (.iload_n 2, 1) := by decide +kernel
theorem dL_law_211 : decode cL_law 211 = .ok (.ishl, 1) := by decide +kernel
theorem dL_law_212 : decode cL_law 212 = .ok (.iconst 1, 1) := by decide +kernel
theorem dL_law_213 : decode cL_law 213 = .ok (.isub, 1) := by decide +kernel
theorem dL_law_214 : decode cL_law 214 = .ok (.invokestatic 18, 3) := by decide +kernel
theorem dL_law_217 : decode cL_law 217 = .ok (.iadd, 1) := by decide +kernel
theorem dL_law_218 : decode cL_law 218 = .ok (.aload_n 0, 1) := by decide +kernel
theorem dL_law_219 : decode cL_law 219 = .ok (.iload 7, 2) := by decide +kernel
theorem dL_law_221 : decode cL_law 221 = .ok (.iconst 5, 1) := by decide +kernel
theorem dL_law_222 : decode cL_law 222 = .ok (.iadd, 1) := by decide +kernel
theorem dL_law_223 : decode cL_law 223 = .ok (.invokestatic 12, 3) := by decide +kernel
theorem dL_law_226 : decode cL_law 226 = .ok (.iconst 1, 1) := by decide +kernel
theorem dL_law_227 : decode cL_law 227 = .ok (.iload_n 2, 1) := by decide +kernel
theorem dL_law_228 : decode cL_law 228 = .ok (.ishl, 1) := by decide +kernel
theorem dL_law_229 : decode cL_law 229 = .ok (.invokestatic 18, 3) := by decide +kernel
theorem dL_law_232 : decode cL_law 232 = .ok (.iand, 1) := by decide +kernel
theorem dL_law_233 : decode cL_law 233 = .ok (.iastore, 1) := by decide +kernel
theorem dL_law_234 : decode cL_law 234 = .ok (.aload 6, 2) := by decide +kernel
theorem dL_law_236 : decode cL_law 236 = .ok (.iload 7, 2) := by decide +kernel
theorem dL_law_238 : decode cL_law 238 = .ok (.iaload, 1) := by decide +kernel
theorem dL_law_239 : decode cL_law 239 = .ok (.ifCond .ne 9, 3) := by decide +kernel
theorem dL_law_242 : decode cL_law 242 = .ok (.aload 6, 2) := by decide +kernel
theorem dL_law_244 : decode cL_law 244 = .ok (.iload 7, 2) := by decide +kernel
theorem dL_law_246 : decode cL_law 246 = .ok (.iconst 1, 1) := by decide +kernel
theorem dL_law_247 : decode cL_law 247 = .ok (.iastore, 1) := by decide +kernel
theorem dL_law_248 : decode cL_law 248 = .ok (.aload_n 1, 1) := by decide +kernel
theorem dL_law_249 : decode cL_law 249 = .ok (.aload 6, 2) := by decide +kernel
theorem dL_law_251 : decode cL_law 251 = .ok (.iload 7, 2) := by decide +kernel
theorem dL_law_253 : decode cL_law 253 = .ok (.iaload, 1) := by decide +kernel
theorem dL_law_254 : decode cL_law 254 = .ok (.invokevirtual 26, 3) := by decide +kernel
theorem dL_law_257 : decode cL_law 257 = .ok (.iload 7, 2) := by decide +kernel
theorem dL_law_259 : decode cL_law 259 = .ok (.if_icmp .eq 5, 3) := by decide +kernel
theorem dL_law_262 : decode cL_law 262 = .ok (.iconst 0, 1) := by decide +kernel
theorem dL_law_263 : decode cL_law 263 = .ok (.ireturn, 1) := by decide +kernel
theorem dL_law_264 : decode cL_law 264 = .ok (.iinc 7 1, 3) := by decide +kernel
theorem dL_law_267 : decode cL_law 267 = .ok (.goto (-80), 3) := by decide +kernel
theorem dL_law_270 : decode cL_law 270 = .ok (.iconst 0, 1) := by decide +kernel
theorem dL_law_271 : decode cL_law 271 = .ok (.istore 7, 2) := by decide +kernel
theorem dL_law_273 : decode cL_law 273 = .ok (.iload 7, 2) := by decide +kernel
theorem dL_law_275 : decode cL_law 275 = .ok (.iconst 4, 1) := by decide +kernel
theorem dL_law_276 : decode cL_law 276 = .ok (.if_icmp .ge 39, 3) := by decide +kernel
theorem dL_law_279 : decode cL_law 279 = .ok (.aload_n 1, 1) := by decide +kernel
theorem dL_law_280 : decode cL_law 280 = .ok (.iload 7, 2) := by decide +kernel
theorem dL_law_282 : decode cL_law 282 = .ok (.iconst 1, 1) := by decide +kernel
theorem dL_law_283 : decode cL_law 283 = .ok (.aload_n 0, 1) := by decide +kernel
theorem dL_law_284 : decode cL_law 284 = .ok (.iload 7, 2) := by decide +kernel
theorem dL_law_286 : decode cL_law 286 = .ok (.bipush 7, 2) := by decide +kernel
theorem dL_law_288 : decode cL_law 288 = .ok (.iadd, 1) := by decide +kernel
theorem dL_law_289 : decode cL_law 289 = .ok (.invokestatic 12, 3) := by decide +kernel
theorem dL_law_292 : decode cL_law 292 = .ok (.iconst 1, 1) := by decide +kernel
theorem dL_law_293 : decode cL_law 293 = .ok (.iload_n 2, 1) := by decide +kernel
theorem dL_law_294 : decode cL_law 294 = .ok (.ishl, 1) := by decide +kernel
theorem dL_law_295 : decode cL_law 295 = .ok (.iconst 1, 1) := by decide +kernel
theorem dL_law_296 : decode cL_law 296 = .ok (.isub, 1) := by decide +kernel
theorem dL_law_297 : decode cL_law 297 = .ok (.invokestatic 18, 3) := by decide +kernel
theorem dL_law_300 : decode cL_law 300 = .ok (.iadd, 1) := by decide +kernel
theorem dL_law_301 : decode cL_law 301 = .ok (.invokevirtual 30, 3) := by decide +kernel
theorem dL_law_304 : decode cL_law 304 = .ok (.ifCond .eq 5, 3) := by decide +kernel
theorem dL_law_307 : decode cL_law 307 = .ok (.iconst 0, 1) := by decide +kernel
theorem dL_law_308 : decode cL_law 308 = .ok (.ireturn, 1) := by decide +kernel
theorem dL_law_309 : decode cL_law 309 = .ok (.iinc 7 1, 3) := by decide +kernel
theorem dL_law_312 : decode cL_law 312 = .ok (.goto (-39), 3) := by decide +kernel
theorem dL_law_315 : decode cL_law 315 = .ok (.iconst 0, 1) := by decide +kernel
theorem dL_law_316 : decode cL_law 316 = .ok (.istore 7, 2) := by decide +kernel
theorem dL_law_318 : decode cL_law 318 = .ok (.iload 7, 2) := by decide +kernel
theorem dL_law_320 : decode cL_law 320 = .ok (.bipush 50, 2) := by decide +kernel
theorem dL_law_322 : decode cL_law 322 = .ok (.if_icmp .ge 547, 3) := by decide +kernel
theorem dL_law_325 : decode cL_law 325 = .ok (.aload_n 0, 1) := by decide +kernel
theorem dL_law_326 : decode cL_law 326 = .ok (.iload 7, 2) := by decide +kernel
theorem dL_law_328 : decode cL_law 328 = .ok (.bipush 16, 2) := by decide +kernel
theorem dL_law_330 : decode cL_law 330 = .ok (.irem, 1) := by decide +kernel
theorem dL_law_331 : decode cL_law 331 = .ok (.invokestatic 12, 3) := by decide +kernel
theorem dL_law_334 : decode cL_law 334 = .ok (.iload 7, 2) := by decide +kernel
theorem dL_law_336 : decode cL_law 336 = .ok (.bipush 16, 2) := by decide +kernel
theorem dL_law_338 : decode cL_law 338 = .ok (.idiv, 1) := by decide +kernel
theorem dL_law_339 : decode cL_law 339 = .ok (.iconst 2, 1) := by decide +kernel
theorem dL_law_340 : decode cL_law 340 = .ok (.imul, 1) := by decide +kernel
theorem dL_law_341 : decode cL_law 341 = .ok (.ishr, 1) := by decide +kernel
theorem dL_law_342 : decode cL_law 342 = .ok (.bipush 7, 2) := by decide +kernel
theorem dL_law_344 : decode cL_law 344 = .ok (.iload 7, 2) := by decide +kernel
theorem dL_law_346 : decode cL_law 346 = .ok (.imul, 1) := by decide +kernel
theorem dL_law_347 : decode cL_law 347 = .ok (.iadd, 1) := by decide +kernel
theorem dL_law_348 : decode cL_law 348 = .ok (.istore 8, 2) := by decide +kernel
theorem dL_law_350 : decode cL_law 350 = .ok (.aload_n 1, 1) := by decide +kernel
theorem dL_law_351 : decode cL_law 351 = .ok (.bipush 10, 2) := by decide +kernel
theorem dL_law_353 : decode cL_law 353 = .ok (.invokevirtual 33, 3) := by decide +kernel
theorem dL_law_356 : decode cL_law 356 = .ok (.istore 9, 2) := by decide +kernel
theorem dL_law_358 : decode cL_law 358 = .ok (.aload_n 1, 1) := by decide +kernel
theorem dL_law_359 : decode cL_law 359 = .ok (.iconst 4, 1) := by decide +kernel
theorem dL_law_360 : decode cL_law 360 = .ok (.invokevirtual 33, 3) := by decide +kernel
theorem dL_law_363 : decode cL_law 363 = .ok (.istore 10, 2) := by decide +kernel
theorem dL_law_365 : decode cL_law 365 = .ok (.iload 8, 2) := by decide +kernel
theorem dL_law_367 : decode cL_law 367 = .ok (.bipush 9, 2) := by decide +kernel
theorem dL_law_369 : decode cL_law 369 = .ok (.invokestatic 18, 3) := by decide +kernel
theorem dL_law_372 : decode cL_law 372 = .ok (.tableswitch 343 0 4 #[36, 75, 146, 183, 241], 36) := by decide +kernel
theorem dL_law_408 : decode cL_law 408 = .ok (.iload 10, 2) := by decide +kernel
theorem dL_law_410 : decode cL_law 410 = .ok (.bipush 8, 2) := by decide +kernel
theorem dL_law_412 : decode cL_law 412 = .ok (.if_icmp .ge 437, 3) := by decide +kernel
theorem dL_law_415 : decode cL_law 415 = .ok (.aload_n 1, 1) := by decide +kernel
theorem dL_law_416 : decode cL_law 416 = .ok (.iload 8, 2) := by decide +kernel
theorem dL_law_418 : decode cL_law 418 = .ok (.iconst 2, 1) := by decide +kernel
theorem dL_law_419 : decode cL_law 419 = .ok (.ishr, 1) := by decide +kernel
theorem dL_law_420 : decode cL_law 420 = .ok (.iconst 4, 1) := by decide +kernel
theorem dL_law_421 : decode cL_law 421 = .ok (.invokestatic 18, 3) := by decide +kernel
theorem dL_law_424 : decode cL_law 424 = .ok (.iload 9, 2) := by decide +kernel
theorem dL_law_426 : decode cL_law 426 = .ok (.iconst 1, 1) := by decide +kernel
theorem dL_law_427 : decode cL_law 427 = .ok (.iadd, 1) := by decide +kernel
theorem dL_law_428 : decode cL_law 428 = .ok (.iload 8, 2) := by decide +kernel
theorem dL_law_430 : decode cL_law 430 = .ok (.iconst 4, 1) := by decide +kernel
theorem dL_law_431 : decode cL_law 431 = .ok (.ishr, 1) := by decide +kernel
theorem dL_law_432 : decode cL_law 432 = .ok (.iconst 3, 1) := by decide +kernel
theorem dL_law_433 : decode cL_law 433 = .ok (.invokestatic 18, 3) := by decide +kernel
theorem dL_law_436 : decode cL_law 436 = .ok (.iadd, 1) := by decide +kernel
theorem dL_law_437 : decode cL_law 437 = .ok (.invokevirtual 36, 3) := by decide +kernel
theorem dL_law_440 : decode cL_law 440 = .ok (.iload 10, 2) := by decide +kernel
theorem dL_law_442 : decode cL_law 442 = .ok (.if_icmp .eq 407, 3) := by decide +kernel
theorem dL_law_445 : decode cL_law 445 = .ok (.iconst 0, 1) := by decide +kernel
theorem dL_law_446 : decode cL_law 446 = .ok (.ireturn, 1) := by decide +kernel
theorem dL_law_447 : decode cL_law 447 = .ok (.iload 8, 2) := by decide +kernel
theorem dL_law_449 : decode cL_law 449 = .ok (.iconst 2, 1) := by decide +kernel
theorem dL_law_450 : decode cL_law 450 = .ok (.ishr, 1) := by decide +kernel
theorem dL_law_451 : decode cL_law 451 = .ok (.iload_n 2, 1) := by decide +kernel
theorem dL_law_452 : decode cL_law 452 = .ok (.invokestatic 18, 3) := by decide +kernel
theorem dL_law_455 : decode cL_law 455 = .ok (.istore 11, 2) := by decide +kernel
theorem dL_law_457 : decode cL_law 457 = .ok (.aload_n 3, 1) := by decide +kernel
theorem dL_law_458 : decode cL_law 458 = .ok (.iload 11, 2) := by decide +kernel
theorem dL_law_460 : decode cL_law 460 = .ok (.iaload, 1) := by decide +kernel
theorem dL_law_461 : decode cL_law 461 = .ok (.iconst 2, 1) := by decide +kernel
theorem dL_law_462 : decode cL_law 462 = .ok (.if_icmp .ne 387, 3) := by decide +kernel
theorem dL_law_465 : decode cL_law 465 = .ok (.aload_n 1, 1) := by decide +kernel
theorem dL_law_466 : decode cL_law 466 = .ok (.iconst 3, 1) := by decide +kernel
theorem dL_law_467 : decode cL_law 467 = .ok (.invokevirtual 33, 3) := by decide +kernel
theorem dL_law_470 : decode cL_law 470 = .ok (.bipush 20, 2) := by decide +kernel
theorem dL_law_472 : decode cL_law 472 = .ok (.if_icmp .ge 377, 3) := by decide +kernel
theorem dL_law_475 : decode cL_law 475 = .ok (.aload_n 1, 1) := by decide +kernel
theorem dL_law_476 : decode cL_law 476 = .ok (.iload 11, 2) := by decide +kernel
theorem dL_law_478 : decode cL_law 478 = .ok (.iload 9, 2) := by decide +kernel
theorem dL_law_480 : decode cL_law 480 = .ok (.iconst 1, 1) := by decide +kernel
theorem dL_law_481 : decode cL_law 481 = .ok (.iadd, 1) := by decide +kernel
theorem dL_law_482 : decode cL_law 482 = .ok (.iload 8, 2) := by decide +kernel
theorem dL_law_484 : decode cL_law 484 = .ok (.iconst 4, 1) := by decide +kernel
theorem dL_law_485 : decode cL_law 485 = .ok (.ishr, 1) := by decide +kernel
theorem dL_law_486 : decode cL_law 486 = .ok (.bipush 9, 2) := by decide +kernel
theorem dL_law_488 : decode cL_law 488 = .ok (.invokestatic 18, 3) := by decide +kernel
theorem dL_law_491 : decode cL_law 491 = .ok (.iadd, 1) := by decide +kernel
theorem dL_law_492 : decode cL_law 492 = .ok (.iconst 1, 1) := by decide +kernel
theorem dL_law_493 : decode cL_law 493 = .ok (.iload 8, 2) := by decide +kernel
theorem dL_law_495 : decode cL_law 495 = .ok (.bipush 6, 2) := by decide +kernel
theorem dL_law_497 : decode cL_law 497 = .ok (.ishr, 1) := by decide +kernel
theorem dL_law_498 : decode cL_law 498 = .ok (.iconst 3, 1) := by decide +kernel
theorem dL_law_499 : decode cL_law 499 = .ok (.invokestatic 18, 3) := by decide +kernel
theorem dL_law_502 : decode cL_law 502 = .ok (.iadd, 1) := by decide +kernel
theorem dL_law_503 : decode cL_law 503 = .ok (.invokevirtual 39, 3) := by decide +kernel
theorem dL_law_506 : decode cL_law 506 = .ok (.aload_n 1, 1) := by decide +kernel
theorem dL_law_507 : decode cL_law 507 = .ok (.iconst 3, 1) := by decide +kernel
theorem dL_law_508 : decode cL_law 508 = .ok (.invokevirtual 33, 3) := by decide +kernel
theorem dL_law_511 : decode cL_law 511 = .ok (.iconst 1, 1) := by decide +kernel
theorem dL_law_512 : decode cL_law 512 = .ok (.isub, 1) := by decide +kernel
theorem dL_law_513 : decode cL_law 513 = .ok (.if_icmp .eq 336, 3) := by decide +kernel
theorem dL_law_516 : decode cL_law 516 = .ok (.iconst 0, 1) := by decide +kernel
theorem dL_law_517 : decode cL_law 517 = .ok (.ireturn, 1) := by decide +kernel
theorem dL_law_518 : decode cL_law 518 = .ok (.aload_n 1, 1) := by decide +kernel
theorem dL_law_519 : decode cL_law 519 = .ok (.iload 8, 2) := by decide +kernel
theorem dL_law_521 : decode cL_law 521 = .ok (.iconst 2, 1) := by decide +kernel
theorem dL_law_522 : decode cL_law 522 = .ok (.ishr, 1) := by decide +kernel
theorem dL_law_523 : decode cL_law 523 = .ok (.iconst 2, 1) := by decide +kernel
theorem dL_law_524 : decode cL_law 524 = .ok (.invokestatic 18, 3) := by decide +kernel
theorem dL_law_527 : decode cL_law 527 = .ok (.iconst 0, 1) := by decide +kernel
theorem dL_law_528 : decode cL_law 528 = .ok (.invokevirtual 43, 3) := by decide +kernel
theorem dL_law_531 : decode cL_law 531 = .ok (.istore 12, 2) := by decide +kernel
theorem dL_law_533 : decode cL_law 533 = .ok (.aload_n 1, 1) := by decide +kernel
theorem dL_law_534 : decode cL_law 534 = .ok (.iload 8, 2) := by decide +kernel
theorem dL_law_536 : decode cL_law 536 = .ok (.iconst 2, 1) := by decide +kernel
theorem dL_law_537 : decode cL_law 537 = .ok (.ishr, 1) := by decide +kernel
theorem dL_law_538 : decode cL_law 538 = .ok (.iconst 2, 1) := by decide +kernel
theorem dL_law_539 : decode cL_law 539 = .ok (.invokestatic 18, 3) := by decide +kernel
theorem dL_law_542 : decode cL_law 542 = .ok (.iconst 1, 1) := by decide +kernel
theorem dL_law_543 : decode cL_law 543 = .ok (.invokevirtual 46, 3) := by decide +kernel
theorem dL_law_546 : decode cL_law 546 = .ok (.iload 12, 2) := by decide +kernel
theorem dL_law_548 : decode cL_law 548 = .ok (.iconst 1, 1) := by decide +kernel
theorem dL_law_549 : decode cL_law 549 = .ok (.iadd, 1) := by decide +kernel
theorem dL_law_550 : decode cL_law 550 = .ok (.if_icmp .eq 299, 3) := by decide +kernel
theorem dL_law_553 : decode cL_law 553 = .ok (.iconst 0, 1) := by decide +kernel
theorem dL_law_554 : decode cL_law 554 = .ok (.ireturn, 1) := by decide +kernel
theorem dL_law_555 : decode cL_law 555 = .ok (.aload_n 1, 1) := by decide +kernel
theorem dL_law_556 : decode cL_law 556 = .ok (.iconst 2, 1) := by decide +kernel
theorem dL_law_557 : decode cL_law 557 = .ok (.invokevirtual 33, 3) := by decide +kernel
theorem dL_law_560 : decode cL_law 560 = .ok (.bipush 20, 2) := by decide +kernel
theorem dL_law_562 : decode cL_law 562 = .ok (.if_icmp .ge 287, 3) := by decide +kernel
theorem dL_law_565 : decode cL_law 565 = .ok (.aload_n 1, 1) := by decide +kernel
theorem dL_law_566 : decode cL_law 566 = .ok (.iload 8, 2) := by decide +kernel
theorem dL_law_568 : decode cL_law 568 = .ok (.iconst 2, 1) := by decide +kernel
theorem dL_law_569 : decode cL_law 569 = .ok (.ishr, 1) := by decide +kernel
theorem dL_law_570 : decode cL_law 570 = .ok (.iconst 2, 1) := by decide +kernel
theorem dL_law_571 : decode cL_law 571 = .ok (.invokestatic 18, 3) := by decide +kernel
theorem dL_law_574 : decode cL_law 574 = .ok (.iconst 1, 1) := by decide +kernel
theorem dL_law_575 : decode cL_law 575 = .ok (.iload 8, 2) := by decide +kernel
theorem dL_law_577 : decode cL_law 577 = .ok (.iconst 3, 1) := by decide +kernel
theorem dL_law_578 : decode cL_law 578 = .ok (.ishr, 1) := by decide +kernel
theorem dL_law_579 : decode cL_law 579 = .ok (.iconst 3, 1) := by decide +kernel
theorem dL_law_580 : decode cL_law 580 = .ok (.invokestatic 18, 3) := by decide +kernel
theorem dL_law_583 : decode cL_law 583 = .ok (.iadd, 1) := by decide +kernel
theorem dL_law_584 : decode cL_law 584 = .ok (.iload 9, 2) := by decide +kernel
theorem dL_law_586 : decode cL_law 586 = .ok (.iconst 1, 1) := by decide +kernel
theorem dL_law_587 : decode cL_law 587 = .ok (.iadd, 1) := by decide +kernel
theorem dL_law_588 : decode cL_law 588 = .ok (.iload 8, 2) := by decide +kernel
theorem dL_law_590 : decode cL_law 590 = .ok (.iconst 4, 1) := by decide +kernel
theorem dL_law_591 : decode cL_law 591 = .ok (.ishr, 1) := by decide +kernel
theorem dL_law_592 : decode cL_law 592 = .ok (.bipush 6, 2) := by decide +kernel
theorem dL_law_594 : decode cL_law 594 = .ok (.invokestatic 18, 3) := by decide +kernel
theorem dL_law_597 : decode cL_law 597 = .ok (.iadd, 1) := by decide +kernel
theorem dL_law_598 : decode cL_law 598 = .ok (.invokevirtual 49, 3) := by decide +kernel
theorem dL_law_601 : decode cL_law 601 = .ok (.aload_n 1, 1) := by decide +kernel
theorem dL_law_602 : decode cL_law 602 = .ok (.iconst 2, 1) := by decide +kernel
theorem dL_law_603 : decode cL_law 603 = .ok (.invokevirtual 33, 3) := by decide +kernel
theorem dL_law_606 : decode cL_law 606 = .ok (.iconst 1, 1) := by decide +kernel
theorem dL_law_607 : decode cL_law 607 = .ok (.isub, 1) := by decide +kernel
theorem dL_law_608 : decode cL_law 608 = .ok (.if_icmp .eq 241, 3) := by decide +kernel
theorem dL_law_611 : decode cL_law 611 = .ok (.iconst 0, 1) := by decide +kernel
theorem dL_law_612 : decode cL_law 612 = .ok (.ireturn, 1) := by decide +kernel
theorem dL_law_613 : decode cL_law 613 = .ok (.iload 10, 2) := by decide +kernel
theorem dL_law_615 : decode cL_law 615 = .ok (.ifCond .ne 7, 3) := by decide +kernel
theorem dL_law_618 : decode cL_law 618 = .ok (.iconst (-1), 1) := by decide +kernel
theorem dL_law_619 : decode cL_law 619 = .ok (.goto 12, 3) := by decide +kernel
theorem dL_law_622 : decode cL_law 622 = .ok (.iload 8, 2) := by decide +kernel
theorem dL_law_624 : decode cL_law 624 = .ok (.iconst 2, 1) := by decide +kernel
theorem dL_law_625 : decode cL_law 625 = .ok (.ishr, 1) := by decide +kernel
theorem dL_law_626 : decode cL_law 626 = .ok (.iload 10, 2) := by decide +kernel
theorem dL_law_628 : decode cL_law 628 = .ok (.invokestatic 18, 3) := by decide +kernel
theorem dL_law_631 : decode cL_law 631 = .ok (.istore 13, 2) := by decide +kernel
theorem dL_law_633 : decode cL_law 633 = .ok (.iload 13, 2) := by decide +kernel
theorem dL_law_635 : decode cL_law 635 = .ok (.ifCond .lt 214, 3) := by decide +kernel
theorem dL_law_638 : decode cL_law 638 = .ok (.iload 8, 2) := by decide +kernel
theorem dL_law_640 : decode cL_law 640 = .ok (.iconst 5, 1) := by decide +kernel
theorem dL_law_641 : decode cL_law 641 = .ok (.ishr, 1) := by decide +kernel
theorem dL_law_642 : decode cL_law 642 = .ok (.iconst 3, 1) := by decide +kernel
theorem dL_law_643 : decode cL_law 643 = .ok (.invokestatic 18, 3) := by decide +kernel
theorem dL_law_646 : decode cL_law 646 = .ok (.ifCond .gt 203, 3) := by decide +kernel
theorem dL_law_649 : decode cL_law 649 = .ok (.aload_n 1, 1) := by decide +kernel
theorem dL_law_650 : decode cL_law 650 = .ok (.iload 13, 2) := by decide +kernel
theorem dL_law_652 : decode cL_law 652 = .ok (.iconst 5, 1) := by decide +kernel
theorem dL_law_653 : decode cL_law 653 = .ok (.invokevirtual 52, 3) := by decide +kernel
theorem dL_law_656 : decode cL_law 656 = .ok (.iconst 1, 1) := by decide +kernel
theorem dL_law_657 : decode cL_law 657 = .ok (.if_icmp .ne 6, 3) := by decide +kernel
theorem dL_law_660 : decode cL_law 660 = .ok (.goto 189, 3) := by decide +kernel
theorem dL_law_663 : decode cL_law 663 = .ok (.aload_n 1, 1) := by decide +kernel
theorem dL_law_664 : decode cL_law 664 = .ok (.iload 13, 2) := by decide +kernel
theorem dL_law_666 : decode cL_law 666 = .ok (.iconst 2, 1) := by decide +kernel
theorem dL_law_667 : decode cL_law 667 = .ok (.invokevirtual 52, 3) := by decide +kernel
theorem dL_law_670 : decode cL_law 670 = .ok (.aload_n 1, 1) := by decide +kernel
theorem dL_law_671 : decode cL_law 671 = .ok (.iload 13, 2) := by decide +kernel
theorem dL_law_673 : decode cL_law 673 = .ok (.iconst 3, 1) := by decide +kernel
theorem dL_law_674 : decode cL_law 674 = .ok (.invokevirtual 52, 3) := by decide +kernel
theorem dL_law_677 : decode cL_law 677 = .ok (.iadd, 1) := by decide +kernel
theorem dL_law_678 : decode cL_law 678 = .ok (.istore 14, 2) := by decide +kernel
theorem dL_law_680 : decode cL_law 680 = .ok (.aload_n 1, 1) := by decide +kernel
theorem dL_law_681 : decode cL_law 681 = .ok (.iload 13, 2) := by decide +kernel
theorem dL_law_683 : decode cL_law 683 = .ok (.invokevirtual 55, 3) := by decide +kernel
theorem dL_law_686 : decode cL_law 686 = .ok (.iload 14, 2) := by decide +kernel
theorem dL_law_688 : decode cL_law 688 = .ok (.if_icmp .ne 25, 3) := by decide +kernel
theorem dL_law_691 : decode cL_law 691 = .ok (.aload_n 1, 1) := by decide +kernel
theorem dL_law_692 : decode cL_law 692 = .ok (.iload 13, 2) := by decide +kernel
theorem dL_law_694 : decode cL_law 694 = .ok (.bipush 6, 2) := by decide +kernel
theorem dL_law_696 : decode cL_law 696 = .ok (.invokevirtual 52, 3) := by decide +kernel
theorem dL_law_699 : decode cL_law 699 = .ok (.iconst (-1), 1) := by decide +kernel
theorem dL_law_700 : decode cL_law 700 = .ok (.if_icmp .ne 13, 3) := by decide +kernel
theorem dL_law_703 : decode cL_law 703 = .ok (.aload_n 1, 1) := by decide +kernel
theorem dL_law_704 : decode cL_law 704 = .ok (.iload 13, 2) := by decide +kernel
theorem dL_law_706 : decode cL_law 706 = .ok (.invokevirtual 58, 3) := by decide +kernel
theorem dL_law_709 : decode cL_law 709 = .ok (.iconst (-1), 1) := by decide +kernel
theorem dL_law_710 : decode cL_law 710 = .ok (.if_icmp .eq 139, 3) := by decide +kernel
theorem dL_law_713 : decode cL_law 713 = .ok (.iconst 0, 1) := by decide +kernel
theorem dL_law_714 : decode cL_law 714 = .ok (.ireturn, 1) := by decide +kernel
theorem dL_law_715 : decode cL_law 715 = .ok (.iload 10, 2) := by decide +kernel
theorem dL_law_717 : decode cL_law 717 = .ok (.newarray .int, 2) := by decide +kernel
theorem dL_law_719 : decode cL_law 719 = .ok (.astore 15, 2) := by decide +kernel
theorem dL_law_721 : decode cL_law 721 = .ok (.iconst 0, 1) := by decide +kernel
theorem dL_law_722 : decode cL_law 722 = .ok (.istore 16, 2) := by decide +kernel
theorem dL_law_724 : decode cL_law 724 = .ok (.iload 16, 2) := by decide +kernel
theorem dL_law_726 : decode cL_law 726 = .ok (.iload 10, 2) := by decide +kernel
theorem dL_law_728 : decode cL_law 728 = .ok (.if_icmp .ge 44, 3) := by decide +kernel
theorem dL_law_731 : decode cL_law 731 = .ok (.aload 15, 2) := by decide +kernel
theorem dL_law_733 : decode cL_law 733 = .ok (.iload 16, 2) := by decide +kernel
theorem dL_law_735 : decode cL_law 735 = .ok (.aload_n 1, 1) := by decide +kernel
theorem dL_law_736 : decode cL_law 736 = .ok (.iload 16, 2) := by decide +kernel
theorem dL_law_738 : decode cL_law 738 = .ok (.iconst 5, 1) := by decide +kernel
theorem dL_law_739 : decode cL_law 739 = .ok (.invokevirtual 52, 3) := by decide +kernel
theorem dL_law_742 : decode cL_law 742 = .ok (.iconst 1, 1) := by decide +kernel
theorem dL_law_743 : decode cL_law 743 = .ok (.if_icmp .ne 21, 3) := by decide +kernel
theorem dL_law_746 : decode cL_law 746 = .ok (.aload_n 1, 1) := by decide +kernel
theorem dL_law_747 : decode cL_law 747 = .ok (.iload 16, 2) := by decide +kernel
theorem dL_law_749 : decode cL_law 749 = .ok (.iconst 2, 1) := by decide +kernel
theorem dL_law_750 : decode cL_law 750 = .ok (.invokevirtual 52, 3) := by decide +kernel
theorem dL_law_753 : decode cL_law 753 = .ok (.aload_n 1, 1) := by decide +kernel
theorem dL_law_754 : decode cL_law 754 = .ok (.iload 16, 2) := by decide +kernel
theorem dL_law_756 : decode cL_law 756 = .ok (.iconst 3, 1) := by decide +kernel
theorem dL_law_757 : decode cL_law 757 = .ok (.invokevirtual 52, 3) := by decide +kernel
theorem dL_law_760 : decode cL_law 760 = .ok (.iadd, 1) := by decide +kernel
theorem dL_law_761 : decode cL_law 761 = .ok (.goto 4, 3) := by decide +kernel
theorem dL_law_764 : decode cL_law 764 = .ok (.iconst (-1), 1) := by decide +kernel
theorem dL_law_765 : decode cL_law 765 = .ok (.iastore, 1) := by decide +kernel
theorem dL_law_766 : decode cL_law 766 = .ok (.iinc 16 1, 3) := by decide +kernel
theorem dL_law_769 : decode cL_law 769 = .ok (.goto (-45), 3) := by decide +kernel
theorem dL_law_772 : decode cL_law 772 = .ok (.aload_n 1, 1) := by decide +kernel
theorem dL_law_773 : decode cL_law 773 = .ok (.invokevirtual 61, 3) := by decide +kernel
theorem dL_law_776 : decode cL_law 776 = .ok (.ifCond .lt 16, 3) := by decide +kernel
theorem dL_law_779 : decode cL_law 779 = .ok (.aload_n 1, 1) := by decide +kernel
theorem dL_law_780 : decode cL_law 780 = .ok (.bipush 10, 2) := by decide +kernel
theorem dL_law_782 : decode cL_law 782 = .ok (.invokevirtual 33, 3) := by decide +kernel
theorem dL_law_785 : decode cL_law 785 = .ok (.iload 9, 2) := by decide +kernel
theorem dL_law_787 : decode cL_law 787 = .ok (.iconst 1, 1) := by decide +kernel
theorem dL_law_788 : decode cL_law 788 = .ok (.iadd, 1) := by decide +kernel
theorem dL_law_789 : decode cL_law 789 = .ok (.if_icmp .eq 5, 3) := by decide +kernel
theorem dL_law_792 : decode cL_law 792 = .ok (.iconst 0, 1) := by decide +kernel
theorem dL_law_793 : decode cL_law 793 = .ok (.ireturn, 1) := by decide +kernel
theorem dL_law_794 : decode cL_law 794 = .ok (.iconst 0, 1) := by decide +kernel
theorem dL_law_795 : decode cL_law 795 = .ok (.istore 16, 2) := by decide +kernel
theorem dL_law_797 : decode cL_law 797 = .ok (.iload 16, 2) := by decide +kernel
theorem dL_law_799 : decode cL_law 799 = .ok (.iload 10, 2) := by decide +kernel
theorem dL_law_801 : decode cL_law 801 = .ok (.if_icmp .ge 48, 3) := by decide +kernel
theorem dL_law_804 : decode cL_law 804 = .ok (.aload 15, 2) := by decide +kernel
theorem dL_law_806 : decode cL_law 806 = .ok (.iload 16, 2) := by decide +kernel
theorem dL_law_808 : decode cL_law 808 = .ok (.iaload, 1) := by decide +kernel
theorem dL_law_809 : decode cL_law 809 = .ok (.ifCond .lt 34, 3) := by decide +kernel
theorem dL_law_812 : decode cL_law 812 = .ok (.aload_n 1, 1) := by decide +kernel
theorem dL_law_813 : decode cL_law 813 = .ok (.iload 16, 2) := by decide +kernel
theorem dL_law_815 : decode cL_law 815 = .ok (.iconst 2, 1) := by decide +kernel
theorem dL_law_816 : decode cL_law 816 = .ok (.invokevirtual 52, 3) := by decide +kernel
theorem dL_law_819 : decode cL_law 819 = .ok (.aload_n 1, 1) := by decide +kernel
theorem dL_law_820 : decode cL_law 820 = .ok (.iload 16, 2) := by decide +kernel
theorem dL_law_822 : decode cL_law 822 = .ok (.iconst 3, 1) := by decide +kernel
theorem dL_law_823 : decode cL_law 823 = .ok (.invokevirtual 52, 3) := by decide +kernel
theorem dL_law_826 : decode cL_law 826 = .ok (.iadd, 1) := by decide +kernel
theorem dL_law_827 : decode cL_law 827 = .ok (.iconst 0, 1) := by decide +kernel
theorem dL_law_828 : decode cL_law 828 = .ok (.aload 15, 2) := by decide +kernel
theorem dL_law_830 : decode cL_law 830 = .ok (.iload 16, 2) := by decide +kernel
theorem dL_law_832 : decode cL_law 832 = .ok (.iaload, 1) := by decide +kernel
theorem dL_law_833 : decode cL_law 833 = .ok (.iconst 1, 1) := by decide +kernel
theorem dL_law_834 : decode cL_law 834 = .ok (.isub, 1) := by decide +kernel
theorem dL_law_835 : decode cL_law 835 = .ok (.invokestatic 65, 3) := by decide +kernel
theorem dL_law_838 : decode cL_law 838 = .ok (.if_icmp .eq 5, 3) := by decide +kernel
theorem dL_law_841 : decode cL_law 841 = .ok (.iconst 0, 1) := by decide +kernel
theorem dL_law_842 : decode cL_law 842 = .ok (.ireturn, 1) := by decide +kernel
theorem dL_law_843 : decode cL_law 843 = .ok (.iinc 16 1, 3) := by decide +kernel
theorem dL_law_846 : decode cL_law 846 = .ok (.goto (-49), 3) := by decide +kernel
theorem dL_law_849 : decode cL_law 849 = .ok (.aload_n 1, 1) := by decide +kernel
theorem dL_law_850 : decode cL_law 850 = .ok (.aload_n 3, 1) := by decide +kernel
theorem dL_law_851 : decode cL_law 851 = .ok (.aload 4, 2) := by decide +kernel
theorem dL_law_853 : decode cL_law 853 = .ok (.aload 6, 2) := by decide +kernel
theorem dL_law_855 : decode cL_law 855 = .ok (.invokestatic 70, 3) := by decide +kernel
theorem dL_law_858 : decode cL_law 858 = .ok (.ifCond .ne 5, 3) := by decide +kernel
theorem dL_law_861 : decode cL_law 861 = .ok (.iconst 0, 1) := by decide +kernel
theorem dL_law_862 : decode cL_law 862 = .ok (.ireturn, 1) := by decide +kernel
theorem dL_law_863 : decode cL_law 863 = .ok (.iinc 7 1, 3) := by decide +kernel
theorem dL_law_866 : decode cL_law 866 = .ok (.goto (-548), 3) := by decide +kernel
theorem dL_law_869 : decode cL_law 869 = .ok (.aload_n 1, 1) := by decide +kernel
theorem dL_law_870 : decode cL_law 870 = .ok (.invokevirtual 74, 3) := by decide +kernel
theorem dL_law_873 : decode cL_law 873 = .ok (.lstore 7, 2) := by decide +kernel
theorem dL_law_875 : decode cL_law 875 = .ok (.iconst 0, 1) := by decide +kernel
theorem dL_law_876 : decode cL_law 876 = .ok (.istore 9, 2) := by decide +kernel
theorem dL_law_878 : decode cL_law 878 = .ok (.iload 9, 2) := by decide +kernel
theorem dL_law_880 : decode cL_law 880 = .ok (.aload_n 1, 1) := by decide +kernel
theorem dL_law_881 : decode cL_law 881 = .ok (.iconst 4, 1) := by decide +kernel
theorem dL_law_882 : decode cL_law 882 = .ok (.invokevirtual 33, 3) := by decide +kernel
theorem dL_law_885 : decode cL_law 885 = .ok (.if_icmp .ge 105, 3) := by decide +kernel
theorem dL_law_888 : decode cL_law 888 = .ok (.iconst 0, 1) := by decide +kernel
theorem dL_law_889 : decode cL_law 889 = .ok (.istore 10, 2) := by decide +kernel
theorem dL_law_891 : decode cL_law 891 = .ok (.iload 10, 2) := by decide +kernel
theorem dL_law_893 : decode cL_law 893 = .ok (.iload 5, 2) := by decide +kernel
theorem dL_law_895 : decode cL_law 895 = .ok (.if_icmp .ge 89, 3) := by decide +kernel
theorem dL_law_898 : decode cL_law 898 = .ok (.aload_n 1, 1) := by decide +kernel
theorem dL_law_899 : decode cL_law 899 = .ok (.iload 9, 2) := by decide +kernel
theorem dL_law_901 : decode cL_law 901 = .ok (.iload 10, 2) := by decide +kernel
theorem dL_law_903 : decode cL_law 903 = .ok (.invokevirtual 78, 3) := by decide +kernel
theorem dL_law_906 : decode cL_law 906 = .ok (.istore 11, 2) := by decide +kernel
theorem dL_law_908 : decode cL_law 908 = .ok (.iload 11, 2) := by decide +kernel
theorem dL_law_910 : decode cL_law 910 = .ok (.ifCond .lt 21, 3) := by decide +kernel
theorem dL_law_913 : decode cL_law 913 = .ok (.aload 6, 2) := by decide +kernel
theorem dL_law_915 : decode cL_law 915 = .ok (.iload 10, 2) := by decide +kernel
theorem dL_law_917 : decode cL_law 917 = .ok (.iaload, 1) := by decide +kernel
theorem dL_law_918 : decode cL_law 918 = .ok (.aload_n 1, 1) := by decide +kernel
theorem dL_law_919 : decode cL_law 919 = .ok (.iload 9, 2) := by decide +kernel
theorem dL_law_921 : decode cL_law 921 = .ok (.iconst 0, 1) := by decide +kernel
theorem dL_law_922 : decode cL_law 922 = .ok (.invokevirtual 52, 3) := by decide +kernel
theorem dL_law_925 : decode cL_law 925 = .ok (.iconst (-1), 1) := by decide +kernel
theorem dL_law_926 : decode cL_law 926 = .ok (.ixor, 1) := by decide +kernel
theorem dL_law_927 : decode cL_law 927 = .ok (.iand, 1) := by decide +kernel
theorem dL_law_928 : decode cL_law 928 = .ok (.ifCond .ne 48, 3) := by decide +kernel
theorem dL_law_931 : decode cL_law 931 = .ok (.iload 11, 2) := by decide +kernel
theorem dL_law_933 : decode cL_law 933 = .ok (.ifCond .lt 45, 3) := by decide +kernel
theorem dL_law_936 : decode cL_law 936 = .ok (.aload_n 1, 1) := by decide +kernel
theorem dL_law_937 : decode cL_law 937 = .ok (.iload 9, 2) := by decide +kernel
theorem dL_law_939 : decode cL_law 939 = .ok (.iconst 4, 1) := by decide +kernel
theorem dL_law_940 : decode cL_law 940 = .ok (.invokevirtual 52, 3) := by decide +kernel
theorem dL_law_943 : decode cL_law 943 = .ok (.iload 10, 2) := by decide +kernel
theorem dL_law_945 : decode cL_law 945 = .ok (.ishr, 1) := by decide +kernel
theorem dL_law_946 : decode cL_law 946 = .ok (.iconst 1, 1) := by decide +kernel
theorem dL_law_947 : decode cL_law 947 = .ok (.iand, 1) := by decide +kernel
theorem dL_law_948 : decode cL_law 948 = .ok (.iconst 1, 1) := by decide +kernel
theorem dL_law_949 : decode cL_law 949 = .ok (.if_icmp .ne 7, 3) := by decide +kernel
theorem dL_law_952 : decode cL_law 952 = .ok (.iconst 1, 1) := by decide +kernel
theorem dL_law_953 : decode cL_law 953 = .ok (.goto 4, 3) := by decide +kernel
theorem dL_law_956 : decode cL_law 956 = .ok (.iconst 0, 1) := by decide +kernel
theorem dL_law_957 : decode cL_law 957 = .ok (.iload 11, 2) := by decide +kernel
theorem dL_law_959 : decode cL_law 959 = .ok (.aload_n 1, 1) := by decide +kernel
theorem dL_law_960 : decode cL_law 960 = .ok (.bipush 10, 2) := by decide +kernel
theorem dL_law_962 : decode cL_law 962 = .ok (.invokevirtual 33, 3) := by decide +kernel
theorem dL_law_965 : decode cL_law 965 = .ok (.if_icmp .gt 7, 3) := by decide +kernel
theorem dL_law_968 : decode cL_law 968 = .ok (.iconst 1, 1) := by decide +kernel
theorem dL_law_969 : decode cL_law 969 = .ok (.goto 4, 3) := by decide +kernel
theorem dL_law_972 : decode cL_law 972 = .ok (.iconst 0, 1) := by decide +kernel
theorem dL_law_973 : decode cL_law 973 = .ok (.if_icmp .eq 5, 3) := by decide +kernel
theorem dL_law_976 : decode cL_law 976 = .ok (.iconst 0, 1) := by decide +kernel
theorem dL_law_977 : decode cL_law 977 = .ok (.ireturn, 1) := by decide +kernel
theorem dL_law_978 : decode cL_law 978 = .ok (.iinc 10 1, 3) := by decide +kernel
theorem dL_law_981 : decode cL_law 981 = .ok (.goto (-90), 3) := by decide +kernel
theorem dL_law_984 : decode cL_law 984 = .ok (.iinc 9 1, 3) := by decide +kernel
theorem dL_law_987 : decode cL_law 987 = .ok (.goto (-109), 3) := by decide +kernel
theorem dL_law_990 : decode cL_law 990 = .ok (.aload_n 1, 1) := by decide +kernel
theorem dL_law_991 : decode cL_law 991 = .ok (.invokevirtual 74, 3) := by decide +kernel
theorem dL_law_994 : decode cL_law 994 = .ok (.lload 7, 2) := by decide +kernel
theorem dL_law_996 : decode cL_law 996 = .ok (.lcmp, 1) := by decide +kernel
theorem dL_law_997 : decode cL_law 997 = .ok (.ifCond .ne 7, 3) := by decide +kernel
theorem dL_law_1000 : decode cL_law 1000 = .ok (.iconst 1, 1) := by decide +kernel
theorem dL_law_1001 : decode cL_law 1001 = .ok (.goto 4, 3) := by decide +kernel
theorem dL_law_1004 : decode cL_law 1004 = .ok (.iconst 0, 1) := by decide +kernel
theorem dL_law_1005 : decode cL_law 1005 = .ok (.ireturn, 1) := by decide +kernel
theorem dL_isFair_0 : decode cL_isFair 0 = .ok (.aload_n 0, 1) := by decide +kernel
theorem dL_isFair_1 : decode cL_isFair 1 = .ok (.bipush 10, 2) := by decide +kernel
theorem dL_isFair_3 : decode cL_isFair 3 = .ok (.invokevirtual 33, 3) := by decide +kernel
theorem dL_isFair_6 : decode cL_isFair 6 = .ok (.istore 4, 2) := by decide +kernel
theorem dL_isFair_8 : decode cL_isFair 8 = .ok (.iconst 0, 1) := by decide +kernel
theorem dL_isFair_9 : decode cL_isFair 9 = .ok (.istore 5, 2) := by decide +kernel
theorem dL_isFair_11 : decode cL_isFair 11 = .ok (.iconst 0, 1) := by decide +kernel
theorem dL_isFair_12 : decode cL_isFair 12 = .ok (.istore 6, 2) := by decide +kernel
theorem dL_isFair_14 : decode cL_isFair 14 = .ok (.iconst 0, 1) := by decide +kernel
theorem dL_isFair_15 : decode cL_isFair 15 = .ok (.istore 7, 2) := by decide +kernel
theorem dL_isFair_17 : decode cL_isFair 17 = .ok (.iload 7, 2) := by decide +kernel
theorem dL_isFair_19 : decode cL_isFair 19 = .ok (.aload_n 0, 1) := by decide +kernel
theorem dL_isFair_20 : decode cL_isFair 20 = .ok (.iconst 4, 1) := by decide +kernel
theorem dL_isFair_21 : decode cL_isFair 21 = .ok (.invokevirtual 33, 3) := by decide +kernel
theorem dL_isFair_24 : decode cL_isFair 24 = .ok (.if_icmp .ge 542, 3) := by decide +kernel
theorem dL_isFair_27 : decode cL_isFair 27 = .ok (.aload_n 0, 1) := by decide +kernel
theorem dL_isFair_28 : decode cL_isFair 28 = .ok (.iload 7, 2) := by decide +kernel
theorem dL_isFair_30 : decode cL_isFair 30 = .ok (.iconst 0, 1) := by decide +kernel
theorem dL_isFair_31 : decode cL_isFair 31 = .ok (.invokevirtual 52, 3) := by decide +kernel
theorem dL_isFair_34 : decode cL_isFair 34 = .ok (.istore 8, 2) := by decide +kernel
theorem dL_isFair_36 : decode cL_isFair 36 = .ok (.aload_n 0, 1) := by decide +kernel
theorem dL_isFair_37 : decode cL_isFair 37 = .ok (.iload 7, 2) := by decide +kernel
theorem dL_isFair_39 : decode cL_isFair 39 = .ok (.iconst 5, 1) := by decide +kernel
theorem dL_isFair_40 : decode cL_isFair 40 = .ok (.invokevirtual 52, 3) := by decide +kernel
theorem dL_isFair_43 : decode cL_isFair 43 = .ok (.iconst 1, 1) := by decide +kernel
theorem dL_isFair_44 : decode cL_isFair 44 = .ok (.if_icmp .ne 7, 3) := by decide +kernel
theorem dL_isFair_47 : decode cL_isFair 47 = .ok (.iconst 1, 1) := by decide +kernel
theorem dL_isFair_48 : decode cL_isFair 48 = .ok (.goto 4, 3) := by decide +kernel
theorem dL_isFair_51 : decode cL_isFair 51 = .ok (.iconst 0, 1) := by decide +kernel
theorem dL_isFair_52 : decode cL_isFair 52 = .ok (.istore 9, 2) := by decide +kernel
theorem dL_isFair_54 : decode cL_isFair 54 = .ok (.iconst 0, 1) := by decide +kernel
theorem dL_isFair_55 : decode cL_isFair 55 = .ok (.istore 10, 2) := by decide +kernel
theorem dL_isFair_57 : decode cL_isFair 57 = .ok (.iconst (-1), 1) := by decide +kernel
theorem dL_isFair_58 : decode cL_isFair 58 = .ok (.istore 11, 2) := by decide +kernel
theorem dL_isFair_60 : decode cL_isFair 60 = .ok (.iconst 1, 1) := by decide +kernel
theorem dL_isFair_61 : decode cL_isFair 61 = .ok (.istore 12, 2) := by decide +kernel
theorem dL_isFair_63 : decode cL_isFair 63 = .ok (.iconst 0, 1) := by decide +kernel
theorem dL_isFair_64 : decode cL_isFair 64 = .ok (.istore 13, 2) := by decide +kernel
theorem dL_isFair_66 : decode cL_isFair 66 = .ok (.iload 13, 2) := by decide +kernel
theorem dL_isFair_68 : decode cL_isFair 68 = .ok (.aload_n 1, 1) := by decide +kernel
theorem dL_isFair_69 : decode cL_isFair 69 = .ok (.arraylength, 1) := by decide +kernel
theorem dL_isFair_70 : decode cL_isFair 70 = .ok (.if_icmp .ge 380, 3) := by decide +kernel
theorem dL_isFair_73 : decode cL_isFair 73 = .ok (.iload 8, 2) := by decide +kernel
theorem dL_isFair_75 : decode cL_isFair 75 = .ok (.iload 13, 2) := by decide +kernel
theorem dL_isFair_77 : decode cL_isFair 77 = .ok (.ishr, 1) := by decide +kernel
theorem dL_isFair_78 : decode cL_isFair 78 = .ok (.iconst 1, 1) := by decide +kernel
theorem dL_isFair_79 : decode cL_isFair 79 = .ok (.iand, 1) := by decide +kernel
theorem dL_isFair_80 : decode cL_isFair 80 = .ok (.ifCond .ne 6, 3) := by decide +kernel
theorem dL_isFair_83 : decode cL_isFair 83 = .ok (.goto 361, 3) := by decide +kernel
theorem dL_isFair_86 : decode cL_isFair 86 = .ok (.aload_n 0, 1) := by decide +kernel
theorem dL_isFair_87 : decode cL_isFair 87 = .ok (.iload 7, 2) := by decide +kernel
theorem dL_isFair_89 : decode cL_isFair 89 = .ok (.iload 13, 2) := by decide +kernel
theorem dL_isFair_91 : decode cL_isFair 91 = .ok (.iconst 0, 1) := by decide +kernel
theorem dL_isFair_92 : decode cL_isFair 92 = .ok (.invokevirtual 81, 3) := by decide +kernel
theorem dL_isFair_95 : decode cL_isFair 95 = .ok (.istore 14, 2) := by decide +kernel
theorem dL_isFair_97 : decode cL_isFair 97 = .ok (.aload_n 0, 1) := by decide +kernel
theorem dL_isFair_98 : decode cL_isFair 98 = .ok (.iload 7, 2) := by decide +kernel
theorem dL_isFair_100 : decode cL_isFair 100 = .ok (.iload 13, 2) := by decide +kernel
theorem dL_isFair_102 : decode cL_isFair 102 = .ok (.iconst 1, 1) := by decide +kernel
theorem dL_isFair_103 : decode cL_isFair 103 = .ok (.invokevirtual 81, 3) := by decide +kernel
theorem dL_isFair_106 : decode cL_isFair 106 = .ok (.istore 15, 2) := by decide +kernel
theorem dL_isFair_108 : decode cL_isFair 108 = .ok (.aload_n 0, 1) := by decide +kernel
theorem dL_isFair_109 : decode cL_isFair 109 = .ok (.iload 7, 2) := by decide +kernel
theorem dL_isFair_111 : decode cL_isFair 111 = .ok (.iload 13, 2) := by decide +kernel
theorem dL_isFair_113 : decode cL_isFair 113 = .ok (.iconst 2, 1) := by decide +kernel
theorem dL_isFair_114 : decode cL_isFair 114 = .ok (.invokevirtual 81, 3) := by decide +kernel
theorem dL_isFair_117 : decode cL_isFair 117 = .ok (.istore 16, 2) := by decide +kernel
theorem dL_isFair_119 : decode cL_isFair 119 = .ok (.iload 5, 2) := by decide +kernel
theorem dL_isFair_121 : decode cL_isFair 121 = .ok (.aload_n 0, 1) := by decide +kernel
theorem dL_isFair_122 : decode cL_isFair 122 = .ok (.iload 7, 2) := by decide +kernel
theorem dL_isFair_124 : decode cL_isFair 124 = .ok (.iload 13, 2) := by decide +kernel
theorem dL_isFair_126 : decode cL_isFair 126 = .ok (.iconst 3, 1) := by decide +kernel
theorem dL_isFair_127 : decode cL_isFair 127 = .ok (.invokevirtual 81, 3) := by decide +kernel
theorem dL_isFair_130 : decode cL_isFair 130 = .ok (.ifCond .lt 7, 3) := by decide +kernel
theorem dL_isFair_133 : decode cL_isFair 133 = .ok (.iconst 1, 1) := by decide +kernel
theorem dL_isFair_134 : decode cL_isFair 134 = .ok (.goto 4, 3) := by decide +kernel
theorem dL_isFair_137 : decode cL_isFair 137 = .ok (.iconst 0, 1) := by decide +kernel
theorem dL_isFair_138 : decode cL_isFair 138 = .ok (.iadd, 1) := by decide +kernel
theorem dL_isFair_139 : decode cL_isFair 139 = .ok (.istore 5, 2) := by decide +kernel
theorem dL_isFair_141 : decode cL_isFair 141 = .ok (.iload 10, 2) := by decide +kernel
theorem dL_isFair_143 : decode cL_isFair 143 = .ok (.iload 14, 2) := by decide +kernel
theorem dL_isFair_145 : decode cL_isFair 145 = .ok (.iconst 2, 1) := by decide +kernel
theorem dL_isFair_146 : decode cL_isFair 146 = .ok (.if_icmp .ne 10, 3) := by decide +kernel
theorem dL_isFair_149 : decode cL_isFair 149 = .ok (.iconst 1, 1) := by decide +kernel
theorem dL_isFair_150 : decode cL_isFair 150 = .ok (.iload 13, 2) := by decide +kernel
theorem dL_isFair_152 : decode cL_isFair 152 = .ok (.ishl, 1) := by decide +kernel
theorem dL_isFair_153 : decode cL_isFair 153 = .ok (.goto 4, 3) := by decide +kernel
theorem dL_isFair_156 : decode cL_isFair 156 = .ok (.iconst 0, 1) := by decide +kernel
theorem dL_isFair_157 : decode cL_isFair 157 = .ok (.ior, 1) := by decide +kernel
theorem dL_isFair_158 : decode cL_isFair 158 = .ok (.istore 10, 2) := by decide +kernel
theorem dL_isFair_160 : decode cL_isFair 160 = .ok (.aload_n 0, 1) := by decide +kernel
theorem dL_isFair_161 : decode cL_isFair 161 = .ok (.iload 7, 2) := by decide +kernel
theorem dL_isFair_163 : decode cL_isFair 163 = .ok (.iload 13, 2) := by decide +kernel
theorem dL_isFair_165 : decode cL_isFair 165 = .ok (.iconst 3, 1) := by decide +kernel
theorem dL_isFair_166 : decode cL_isFair 166 = .ok (.invokevirtual 81, 3) := by decide +kernel
theorem dL_isFair_169 : decode cL_isFair 169 = .ok (.ifCond .lt 32, 3) := by decide +kernel
theorem dL_isFair_172 : decode cL_isFair 172 = .ok (.aload_n 1, 1) := by decide +kernel
theorem dL_isFair_173 : decode cL_isFair 173 = .ok (.iload 13, 2) := by decide +kernel
theorem dL_isFair_175 : decode cL_isFair 175 = .ok (.iaload, 1) := by decide +kernel
theorem dL_isFair_176 : decode cL_isFair 176 = .ok (.iconst 2, 1) := by decide +kernel
theorem dL_isFair_177 : decode cL_isFair 177 = .ok (.if_icmp .ne 22, 3) := by decide +kernel
theorem dL_isFair_180 : decode cL_isFair 180 = .ok (.aload_n 0, 1) := by decide +kernel
theorem dL_isFair_181 : decode cL_isFair 181 = .ok (.aload_n 0, 1) := by decide +kernel
theorem dL_isFair_182 : decode cL_isFair 182 = .ok (.iload 7, 2) := by decide +kernel
theorem dL_isFair_184 : decode cL_isFair 184 = .ok (.iload 13, 2) := by decide +kernel
theorem dL_isFair_186 : decode cL_isFair 186 = .ok (.iconst 3, 1) := by decide +kernel
theorem dL_isFair_187 : decode cL_isFair 187 = .ok (.invokevirtual 81, 3) := by decide +kernel
theorem dL_isFair_190 : decode cL_isFair 190 = .ok (.iconst 0, 1) := by decide +kernel
theorem dL_isFair_191 : decode cL_isFair 191 = .ok (.invokevirtual 84, 3) := by decide +kernel
theorem dL_isFair_194 : decode cL_isFair 194 = .ok (.iload 13, 2) := by decide +kernel
theorem dL_isFair_196 : decode cL_isFair 196 = .ok (.if_icmp .eq 5, 3) := by decide +kernel
theorem dL_isFair_199 : decode cL_isFair 199 = .ok (.iconst 0, 1) := by decide +kernel
theorem dL_isFair_200 : decode cL_isFair 200 = .ok (.ireturn, 1) := by decide +kernel
theorem dL_isFair_201 : decode cL_isFair 201 = .ok (.iload 9, 2) := by decide +kernel
theorem dL_isFair_203 : decode cL_isFair 203 = .ok (.ifCond .eq 34, 3) := by decide +kernel
theorem dL_isFair_206 : decode cL_isFair 206 = .ok (.iload 15, 2) := by decide +kernel
theorem dL_isFair_208 : decode cL_isFair 208 = .ok (.iconst (-1), 1) := by decide +kernel
theorem dL_isFair_209 : decode cL_isFair 209 = .ok (.if_icmp .ne 26, 3) := by decide +kernel
theorem dL_isFair_212 : decode cL_isFair 212 = .ok (.iload 16, 2) := by decide +kernel
theorem dL_isFair_214 : decode cL_isFair 214 = .ok (.iconst (-1), 1) := by decide +kernel
theorem dL_isFair_215 : decode cL_isFair 215 = .ok (.if_icmp .ne 20, 3) := by decide +kernel
theorem dL_isFair_218 : decode cL_isFair 218 = .ok (.iload 14, 2) := by decide +kernel
theorem dL_isFair_220 : decode cL_isFair 220 = .ok (.ifCond .ne 224, 3) := by decide +kernel
theorem dL_isFair_223 : decode cL_isFair 223 = .ok (.aload_n 0, 1) := by decide +kernel
theorem dL_isFair_224 : decode cL_isFair 224 = .ok (.iload 7, 2) := by decide +kernel
theorem dL_isFair_226 : decode cL_isFair 226 = .ok (.iload 13, 2) := by decide +kernel
theorem dL_isFair_228 : decode cL_isFair 228 = .ok (.iconst 3, 1) := by decide +kernel
theorem dL_isFair_229 : decode cL_isFair 229 = .ok (.invokevirtual 81, 3) := by decide +kernel
theorem dL_isFair_232 : decode cL_isFair 232 = .ok (.ifCond .lt 212, 3) := by decide +kernel
theorem dL_isFair_235 : decode cL_isFair 235 = .ok (.iconst 0, 1) := by decide +kernel
theorem dL_isFair_236 : decode cL_isFair 236 = .ok (.ireturn, 1) := by decide +kernel
theorem dL_isFair_237 : decode cL_isFair 237 = .ok (.iload 12, 2) := by decide +kernel
theorem dL_isFair_239 : decode cL_isFair 239 = .ok (.iload 16, 2) := by decide +kernel
theorem dL_isFair_241 : decode cL_isFair 241 = .ok (.ifCond .lt 7, 3) := by decide +kernel
theorem dL_isFair_244 : decode cL_isFair 244 = .ok (.iconst 1, 1) := by decide +kernel
theorem dL_isFair_245 : decode cL_isFair 245 = .ok (.goto 4, 3) := by decide +kernel
theorem dL_isFair_248 : decode cL_isFair 248 = .ok (.iconst 0, 1) := by decide +kernel
theorem dL_isFair_249 : decode cL_isFair 249 = .ok (.iand, 1) := by decide +kernel
theorem dL_isFair_250 : decode cL_isFair 250 = .ok (.istore 12, 2) := by decide +kernel
theorem dL_isFair_252 : decode cL_isFair 252 = .ok (.iload 11, 2) := by decide +kernel
theorem dL_isFair_254 : decode cL_isFair 254 = .ok (.iload 16, 2) := by decide +kernel
theorem dL_isFair_256 : decode cL_isFair 256 = .ok (.invokestatic 65, 3) := by decide +kernel
theorem dL_isFair_259 : decode cL_isFair 259 = .ok (.istore 11, 2) := by decide +kernel
theorem dL_isFair_261 : decode cL_isFair 261 = .ok (.iload 15, 2) := by decide +kernel
theorem dL_isFair_263 : decode cL_isFair 263 = .ok (.ifCond .ge 7, 3) := by decide +kernel
theorem dL_isFair_266 : decode cL_isFair 266 = .ok (.iconst 1, 1) := by decide +kernel
theorem dL_isFair_267 : decode cL_isFair 267 = .ok (.goto 4, 3) := by decide +kernel
theorem dL_isFair_270 : decode cL_isFair 270 = .ok (.iconst 0, 1) := by decide +kernel
theorem dL_isFair_271 : decode cL_isFair 271 = .ok (.iload 16, 2) := by decide +kernel
theorem dL_isFair_273 : decode cL_isFair 273 = .ok (.ifCond .ge 7, 3) := by decide +kernel
theorem dL_isFair_276 : decode cL_isFair 276 = .ok (.iconst 1, 1) := by decide +kernel
theorem dL_isFair_277 : decode cL_isFair 277 = .ok (.goto 4, 3) := by decide +kernel
theorem dL_isFair_280 : decode cL_isFair 280 = .ok (.iconst 0, 1) := by decide +kernel
theorem dL_isFair_281 : decode cL_isFair 281 = .ok (.if_icmp .ne 33, 3) := by decide +kernel
theorem dL_isFair_284 : decode cL_isFair 284 = .ok (.iload 15, 2) := by decide +kernel
theorem dL_isFair_286 : decode cL_isFair 286 = .ok (.ifCond .lt 22, 3) := by decide +kernel
theorem dL_isFair_289 : decode cL_isFair 289 = .ok (.iload 16, 2) := by decide +kernel
theorem dL_isFair_291 : decode cL_isFair 291 = .ok (.iload 15, 2) := by decide +kernel
theorem dL_isFair_293 : decode cL_isFair 293 = .ok (.aload_n 0, 1) := by decide +kernel
theorem dL_isFair_294 : decode cL_isFair 294 = .ok (.iload 7, 2) := by decide +kernel
theorem dL_isFair_296 : decode cL_isFair 296 = .ok (.iload 13, 2) := by decide +kernel
theorem dL_isFair_298 : decode cL_isFair 298 = .ok (.iconst 4, 1) := by decide +kernel
theorem dL_isFair_299 : decode cL_isFair 299 = .ok (.invokevirtual 81, 3) := by decide +kernel
theorem dL_isFair_302 : decode cL_isFair 302 = .ok (.iadd, 1) := by decide +kernel
theorem dL_isFair_303 : decode cL_isFair 303 = .ok (.iconst 1, 1) := by decide +kernel
theorem dL_isFair_304 : decode cL_isFair 304 = .ok (.isub, 1) := by decide +kernel
theorem dL_isFair_305 : decode cL_isFair 305 = .ok (.if_icmp .ne 9, 3) := by decide +kernel
theorem dL_isFair_308 : decode cL_isFair 308 = .ok (.iload 14, 2) := by decide +kernel
theorem dL_isFair_310 : decode cL_isFair 310 = .ok (.iconst 3, 1) := by decide +kernel
theorem dL_isFair_311 : decode cL_isFair 311 = .ok (.if_icmp .ne 5, 3) := by decide +kernel
theorem dL_isFair_314 : decode cL_isFair 314 = .ok (.iconst 0, 1) := by decide +kernel
theorem dL_isFair_315 : decode cL_isFair 315 = .ok (.ireturn, 1) := by decide +kernel
theorem dL_isFair_316 : decode cL_isFair 316 = .ok (.iload 15, 2) := by decide +kernel
theorem dL_isFair_318 : decode cL_isFair 318 = .ok (.ifCond .lt 62, 3) := by decide +kernel
theorem dL_isFair_321 : decode cL_isFair 321 = .ok (.iload 15, 2) := by decide +kernel
theorem dL_isFair_323 : decode cL_isFair 323 = .ok (.aload_n 0, 1) := by decide +kernel
theorem dL_isFair_324 : decode cL_isFair 324 = .ok (.iload 7, 2) := by decide +kernel
theorem dL_isFair_326 : decode cL_isFair 326 = .ok (.iconst 1, 1) := by decide +kernel
theorem dL_isFair_327 : decode cL_isFair 327 = .ok (.invokevirtual 52, 3) := by decide +kernel
theorem dL_isFair_330 : decode cL_isFair 330 = .ok (.if_icmp .lt 48, 3) := by decide +kernel
theorem dL_isFair_333 : decode cL_isFair 333 = .ok (.iload 14, 2) := by decide +kernel
theorem dL_isFair_335 : decode cL_isFair 335 = .ok (.ifCond .ne 10, 3) := by decide +kernel
theorem dL_isFair_338 : decode cL_isFair 338 = .ok (.iload 15, 2) := by decide +kernel
theorem dL_isFair_340 : decode cL_isFair 340 = .ok (.iload 4, 2) := by decide +kernel
theorem dL_isFair_342 : decode cL_isFair 342 = .ok (.if_icmp .le 36, 3) := by decide +kernel
theorem dL_isFair_345 : decode cL_isFair 345 = .ok (.iload 14, 2) := by decide +kernel
theorem dL_isFair_347 : decode cL_isFair 347 = .ok (.iconst 1, 1) := by decide +kernel
theorem dL_isFair_348 : decode cL_isFair 348 = .ok (.if_icmp .ne 17, 3) := by decide +kernel
theorem dL_isFair_351 : decode cL_isFair 351 = .ok (.iload 15, 2) := by decide +kernel
theorem dL_isFair_353 : decode cL_isFair 353 = .ok (.iload 4, 2) := by decide +kernel
theorem dL_isFair_355 : decode cL_isFair 355 = .ok (.if_icmp .gt 23, 3) := by decide +kernel
theorem dL_isFair_358 : decode cL_isFair 358 = .ok (.iload 16, 2) := by decide +kernel
theorem dL_isFair_360 : decode cL_isFair 360 = .ok (.iload 4, 2) := by decide +kernel
theorem dL_isFair_362 : decode cL_isFair 362 = .ok (.if_icmp .lt 16, 3) := by decide +kernel
theorem dL_isFair_365 : decode cL_isFair 365 = .ok (.iload 14, 2) := by decide +kernel
theorem dL_isFair_367 : decode cL_isFair 367 = .ok (.iconst 2, 1) := by decide +kernel
theorem dL_isFair_368 : decode cL_isFair 368 = .ok (.if_icmp .ne 12, 3) := by decide +kernel
theorem dL_isFair_371 : decode cL_isFair 371 = .ok (.iload 16, 2) := by decide +kernel
theorem dL_isFair_373 : decode cL_isFair 373 = .ok (.iload 4, 2) := by decide +kernel
theorem dL_isFair_375 : decode cL_isFair 375 = .ok (.if_icmp .lt 5, 3) := by decide +kernel
theorem dL_isFair_378 : decode cL_isFair 378 = .ok (.iconst 0, 1) := by decide +kernel
theorem dL_isFair_379 : decode cL_isFair 379 = .ok (.ireturn, 1) := by decide +kernel
theorem dL_isFair_380 : decode cL_isFair 380 = .ok (.iconst 0, 1) := by decide +kernel
theorem dL_isFair_381 : decode cL_isFair 381 = .ok (.istore 17, 2) := by decide +kernel
theorem dL_isFair_383 : decode cL_isFair 383 = .ok (.iload 17, 2) := by decide +kernel
theorem dL_isFair_385 : decode cL_isFair 385 = .ok (.iload 13, 2) := by decide +kernel
theorem dL_isFair_387 : decode cL_isFair 387 = .ok (.if_icmp .ge 57, 3) := by decide +kernel
theorem dL_isFair_390 : decode cL_isFair 390 = .ok (.iload 8, 2) := by decide +kernel
theorem dL_isFair_392 : decode cL_isFair 392 = .ok (.aload_n 2, 1) := by decide +kernel
theorem dL_isFair_393 : decode cL_isFair 393 = .ok (.iload 13, 2) := by decide +kernel
theorem dL_isFair_395 : decode cL_isFair 395 = .ok (.iaload, 1) := by decide +kernel
theorem dL_isFair_396 : decode cL_isFair 396 = .ok (.iand, 1) := by decide +kernel
theorem dL_isFair_397 : decode cL_isFair 397 = .ok (.iconst 1, 1) := by decide +kernel
theorem dL_isFair_398 : decode cL_isFair 398 = .ok (.iload 17, 2) := by decide +kernel
theorem dL_isFair_400 : decode cL_isFair 400 = .ok (.ishl, 1) := by decide +kernel
theorem dL_isFair_401 : decode cL_isFair 401 = .ok (.iand, 1) := by decide +kernel
theorem dL_isFair_402 : decode cL_isFair 402 = .ok (.ifCond .eq 36, 3) := by decide +kernel
theorem dL_isFair_405 : decode cL_isFair 405 = .ok (.iload 15, 2) := by decide +kernel
theorem dL_isFair_407 : decode cL_isFair 407 = .ok (.ifCond .lt 31, 3) := by decide +kernel
theorem dL_isFair_410 : decode cL_isFair 410 = .ok (.aload_n 0, 1) := by decide +kernel
theorem dL_isFair_411 : decode cL_isFair 411 = .ok (.iload 7, 2) := by decide +kernel
theorem dL_isFair_413 : decode cL_isFair 413 = .ok (.iload 17, 2) := by decide +kernel
theorem dL_isFair_415 : decode cL_isFair 415 = .ok (.iconst 2, 1) := by decide +kernel
theorem dL_isFair_416 : decode cL_isFair 416 = .ok (.invokevirtual 81, 3) := by decide +kernel
theorem dL_isFair_419 : decode cL_isFair 419 = .ok (.ifCond .lt 17, 3) := by decide +kernel
theorem dL_isFair_422 : decode cL_isFair 422 = .ok (.aload_n 0, 1) := by decide +kernel
theorem dL_isFair_423 : decode cL_isFair 423 = .ok (.iload 7, 2) := by decide +kernel
theorem dL_isFair_425 : decode cL_isFair 425 = .ok (.iload 17, 2) := by decide +kernel
theorem dL_isFair_427 : decode cL_isFair 427 = .ok (.iconst 2, 1) := by decide +kernel
theorem dL_isFair_428 : decode cL_isFair 428 = .ok (.invokevirtual 81, 3) := by decide +kernel
theorem dL_isFair_431 : decode cL_isFair 431 = .ok (.iload 15, 2) := by decide +kernel
theorem dL_isFair_433 : decode cL_isFair 433 = .ok (.if_icmp .lt 5, 3) := by decide +kernel
theorem dL_isFair_436 : decode cL_isFair 436 = .ok (.iconst 0, 1) := by decide +kernel
theorem dL_isFair_437 : decode cL_isFair 437 = .ok (.ireturn, 1) := by decide +kernel
theorem dL_isFair_438 : decode cL_isFair 438 = .ok (.iinc 17 1, 3) := by decide +kernel
theorem dL_isFair_441 : decode cL_isFair 441 = .ok (.goto (-58), 3) := by decide +kernel
theorem dL_isFair_444 : decode cL_isFair 444 = .ok (.iinc 13 1, 3) := by decide +kernel
theorem dL_isFair_447 : decode cL_isFair 447 = .ok (.goto (-381), 3) := by decide +kernel
theorem dL_isFair_450 : decode cL_isFair 450 = .ok (.iconst 0, 1) := by decide +kernel
theorem dL_isFair_451 : decode cL_isFair 451 = .ok (.istore 13, 2) := by decide +kernel
theorem dL_isFair_453 : decode cL_isFair 453 = .ok (.iconst 0, 1) := by decide +kernel
theorem dL_isFair_454 : decode cL_isFair 454 = .ok (.istore 14, 2) := by decide +kernel
theorem dL_isFair_456 : decode cL_isFair 456 = .ok (.iload 14, 2) := by decide +kernel
theorem dL_isFair_458 : decode cL_isFair 458 = .ok (.aload_n 3, 1) := by decide +kernel
theorem dL_isFair_459 : decode cL_isFair 459 = .ok (.arraylength, 1) := by decide +kernel
theorem dL_isFair_460 : decode cL_isFair 460 = .ok (.if_icmp .ge 34, 3) := by decide +kernel
theorem dL_isFair_463 : decode cL_isFair 463 = .ok (.iload 13, 2) := by decide +kernel
theorem dL_isFair_465 : decode cL_isFair 465 = .ok (.aload_n 3, 1) := by decide +kernel
theorem dL_isFair_466 : decode cL_isFair 466 = .ok (.iload 14, 2) := by decide +kernel
theorem dL_isFair_468 : decode cL_isFair 468 = .ok (.iaload, 1) := by decide +kernel
theorem dL_isFair_469 : decode cL_isFair 469 = .ok (.iload 10, 2) := by decide +kernel
theorem dL_isFair_471 : decode cL_isFair 471 = .ok (.iconst (-1), 1) := by decide +kernel
theorem dL_isFair_472 : decode cL_isFair 472 = .ok (.ixor, 1) := by decide +kernel
theorem dL_isFair_473 : decode cL_isFair 473 = .ok (.iand, 1) := by decide +kernel
theorem dL_isFair_474 : decode cL_isFair 474 = .ok (.ifCond .ne 10, 3) := by decide +kernel
theorem dL_isFair_477 : decode cL_isFair 477 = .ok (.iconst 1, 1) := by decide +kernel
theorem dL_isFair_478 : decode cL_isFair 478 = .ok (.iload 14, 2) := by decide +kernel
theorem dL_isFair_480 : decode cL_isFair 480 = .ok (.ishl, 1) := by decide +kernel
theorem dL_isFair_481 : decode cL_isFair 481 = .ok (.goto 4, 3) := by decide +kernel
theorem dL_isFair_484 : decode cL_isFair 484 = .ok (.iconst 0, 1) := by decide +kernel
theorem dL_isFair_485 : decode cL_isFair 485 = .ok (.ior, 1) := by decide +kernel
theorem dL_isFair_486 : decode cL_isFair 486 = .ok (.istore 13, 2) := by decide +kernel
theorem dL_isFair_488 : decode cL_isFair 488 = .ok (.iinc 14 1, 3) := by decide +kernel
theorem dL_isFair_491 : decode cL_isFair 491 = .ok (.goto (-35), 3) := by decide +kernel
theorem dL_isFair_494 : decode cL_isFair 494 = .ok (.aload_n 0, 1) := by decide +kernel
theorem dL_isFair_495 : decode cL_isFair 495 = .ok (.iload 7, 2) := by decide +kernel
theorem dL_isFair_497 : decode cL_isFair 497 = .ok (.iconst 4, 1) := by decide +kernel
theorem dL_isFair_498 : decode cL_isFair 498 = .ok (.invokevirtual 52, 3) := by decide +kernel
theorem dL_isFair_501 : decode cL_isFair 501 = .ok (.iload 13, 2) := by decide +kernel
theorem dL_isFair_503 : decode cL_isFair 503 = .ok (.if_icmp .ne 45, 3) := by decide +kernel
theorem dL_isFair_506 : decode cL_isFair 506 = .ok (.aload_n 0, 1) := by decide +kernel
theorem dL_isFair_507 : decode cL_isFair 507 = .ok (.iload 7, 2) := by decide +kernel
theorem dL_isFair_509 : decode cL_isFair 509 = .ok (.iconst 2, 1) := by decide +kernel
theorem dL_isFair_510 : decode cL_isFair 510 = .ok (.invokevirtual 52, 3) := by decide +kernel
theorem dL_isFair_513 : decode cL_isFair 513 = .ok (.iload 10, 2) := by decide +kernel
theorem dL_isFair_515 : decode cL_isFair 515 = .ok (.invokestatic 87, 3) := by decide +kernel
theorem dL_isFair_518 : decode cL_isFair 518 = .ok (.if_icmp .ne 30, 3) := by decide +kernel
theorem dL_isFair_521 : decode cL_isFair 521 = .ok (.iload 9, 2) := by decide +kernel
theorem dL_isFair_523 : decode cL_isFair 523 = .ok (.ifCond .ne 27, 3) := by decide +kernel
theorem dL_isFair_526 : decode cL_isFair 526 = .ok (.aload_n 0, 1) := by decide +kernel
theorem dL_isFair_527 : decode cL_isFair 527 = .ok (.iload 7, 2) := by decide +kernel
theorem dL_isFair_529 : decode cL_isFair 529 = .ok (.bipush 6, 2) := by decide +kernel
theorem dL_isFair_531 : decode cL_isFair 531 = .ok (.invokevirtual 52, 3) := by decide +kernel
theorem dL_isFair_534 : decode cL_isFair 534 = .ok (.iload 12, 2) := by decide +kernel
theorem dL_isFair_536 : decode cL_isFair 536 = .ok (.ifCond .eq 8, 3) := by decide +kernel
theorem dL_isFair_539 : decode cL_isFair 539 = .ok (.iload 11, 2) := by decide +kernel
theorem dL_isFair_541 : decode cL_isFair 541 = .ok (.goto 4, 3) := by decide +kernel
theorem dL_isFair_544 : decode cL_isFair 544 = .ok (.iconst (-1), 1) := by decide +kernel
theorem dL_isFair_545 : decode cL_isFair 545 = .ok (.if_icmp .eq 5, 3) := by decide +kernel
theorem dL_isFair_548 : decode cL_isFair 548 = .ok (.iconst 0, 1) := by decide +kernel
theorem dL_isFair_549 : decode cL_isFair 549 = .ok (.ireturn, 1) := by decide +kernel
theorem dL_isFair_550 : decode cL_isFair 550 = .ok (.iload 6, 2) := by decide +kernel
theorem dL_isFair_552 : decode cL_isFair 552 = .ok (.iload 10, 2) := by decide +kernel
theorem dL_isFair_554 : decode cL_isFair 554 = .ok (.invokestatic 87, 3) := by decide +kernel
theorem dL_isFair_557 : decode cL_isFair 557 = .ok (.iadd, 1) := by decide +kernel
theorem dL_isFair_558 : decode cL_isFair 558 = .ok (.istore 6, 2) := by decide +kernel
theorem dL_isFair_560 : decode cL_isFair 560 = .ok (.iinc 7 1, 3) := by decide +kernel
theorem dL_isFair_563 : decode cL_isFair 563 = .ok (.goto (-546), 3) := by decide +kernel
theorem dL_isFair_566 : decode cL_isFair 566 = .ok (.iconst 0, 1) := by decide +kernel
theorem dL_isFair_567 : decode cL_isFair 567 = .ok (.istore 7, 2) := by decide +kernel
theorem dL_isFair_569 : decode cL_isFair 569 = .ok (.iconst 0, 1) := by decide +kernel
theorem dL_isFair_570 : decode cL_isFair 570 = .ok (.istore 8, 2) := by decide +kernel
theorem dL_isFair_572 : decode cL_isFair 572 = .ok (.iload 8, 2) := by decide +kernel
theorem dL_isFair_574 : decode cL_isFair 574 = .ok (.aload_n 0, 1) := by decide +kernel
theorem dL_isFair_575 : decode cL_isFair 575 = .ok (.iconst 3, 1) := by decide +kernel
theorem dL_isFair_576 : decode cL_isFair 576 = .ok (.invokevirtual 33, 3) := by decide +kernel
theorem dL_isFair_579 : decode cL_isFair 579 = .ok (.if_icmp .ge 40, 3) := by decide +kernel
theorem dL_isFair_582 : decode cL_isFair 582 = .ok (.aload_n 0, 1) := by decide +kernel
theorem dL_isFair_583 : decode cL_isFair 583 = .ok (.iload 8, 2) := by decide +kernel
theorem dL_isFair_585 : decode cL_isFair 585 = .ok (.iconst 3, 1) := by decide +kernel
theorem dL_isFair_586 : decode cL_isFair 586 = .ok (.invokevirtual 84, 3) := by decide +kernel
theorem dL_isFair_589 : decode cL_isFair 589 = .ok (.aload_n 0, 1) := by decide +kernel
theorem dL_isFair_590 : decode cL_isFair 590 = .ok (.iload 8, 2) := by decide +kernel
theorem dL_isFair_592 : decode cL_isFair 592 = .ok (.iconst 2, 1) := by decide +kernel
theorem dL_isFair_593 : decode cL_isFair 593 = .ok (.invokevirtual 84, 3) := by decide +kernel
theorem dL_isFair_596 : decode cL_isFair 596 = .ok (.if_icmp .le 5, 3) := by decide +kernel
theorem dL_isFair_599 : decode cL_isFair 599 = .ok (.iconst 0, 1) := by decide +kernel
theorem dL_isFair_600 : decode cL_isFair 600 = .ok (.ireturn, 1) := by decide +kernel
theorem dL_isFair_601 : decode cL_isFair 601 = .ok (.iload 7, 2) := by decide +kernel
theorem dL_isFair_603 : decode cL_isFair 603 = .ok (.aload_n 0, 1) := by decide +kernel
theorem dL_isFair_604 : decode cL_isFair 604 = .ok (.iload 8, 2) := by decide +kernel
theorem dL_isFair_606 : decode cL_isFair 606 = .ok (.iconst 3, 1) := by decide +kernel
theorem dL_isFair_607 : decode cL_isFair 607 = .ok (.invokevirtual 84, 3) := by decide +kernel
theorem dL_isFair_610 : decode cL_isFair 610 = .ok (.iadd, 1) := by decide +kernel
theorem dL_isFair_611 : decode cL_isFair 611 = .ok (.istore 7, 2) := by decide +kernel
theorem dL_isFair_613 : decode cL_isFair 613 = .ok (.iinc 8 1, 3) := by decide +kernel
theorem dL_isFair_616 : decode cL_isFair 616 = .ok (.goto (-44), 3) := by decide +kernel
theorem dL_isFair_619 : decode cL_isFair 619 = .ok (.iload 7, 2) := by decide +kernel
theorem dL_isFair_621 : decode cL_isFair 621 = .ok (.iload 5, 2) := by decide +kernel
theorem dL_isFair_623 : decode cL_isFair 623 = .ok (.if_icmp .ne 47, 3) := by decide +kernel
theorem dL_isFair_626 : decode cL_isFair 626 = .ok (.aload_n 0, 1) := by decide +kernel
theorem dL_isFair_627 : decode cL_isFair 627 = .ok (.bipush 9, 2) := by decide +kernel
theorem dL_isFair_629 : decode cL_isFair 629 = .ok (.invokevirtual 33, 3) := by decide +kernel
theorem dL_isFair_632 : decode cL_isFair 632 = .ok (.iload 5, 2) := by decide +kernel
theorem dL_isFair_634 : decode cL_isFair 634 = .ok (.if_icmp .ne 36, 3) := by decide +kernel
theorem dL_isFair_637 : decode cL_isFair 637 = .ok (.aload_n 0, 1) := by decide +kernel
theorem dL_isFair_638 : decode cL_isFair 638 = .ok (.bipush 6, 2) := by decide +kernel
theorem dL_isFair_640 : decode cL_isFair 640 = .ok (.invokevirtual 33, 3) := by decide +kernel
theorem dL_isFair_643 : decode cL_isFair 643 = .ok (.iload 6, 2) := by decide +kernel
theorem dL_isFair_645 : decode cL_isFair 645 = .ok (.if_icmp .ne 25, 3) := by decide +kernel
theorem dL_isFair_648 : decode cL_isFair 648 = .ok (.aload_n 0, 1) := by decide +kernel
theorem dL_isFair_649 : decode cL_isFair 649 = .ok (.iconst 0, 1) := by decide +kernel
theorem dL_isFair_650 : decode cL_isFair 650 = .ok (.iconst 0, 1) := by decide +kernel
theorem dL_isFair_651 : decode cL_isFair 651 = .ok (.invokevirtual 43, 3) := by decide +kernel
theorem dL_isFair_654 : decode cL_isFair 654 = .ok (.ifCond .lt 16, 3) := by decide +kernel
theorem dL_isFair_657 : decode cL_isFair 657 = .ok (.aload_n 0, 1) := by decide +kernel
theorem dL_isFair_658 : decode cL_isFair 658 = .ok (.iconst 1, 1) := by decide +kernel
theorem dL_isFair_659 : decode cL_isFair 659 = .ok (.iconst 0, 1) := by decide +kernel
theorem dL_isFair_660 : decode cL_isFair 660 = .ok (.invokevirtual 43, 3) := by decide +kernel
theorem dL_isFair_663 : decode cL_isFair 663 = .ok (.ifCond .lt 7, 3) := by decide +kernel
theorem dL_isFair_666 : decode cL_isFair 666 = .ok (.iconst 1, 1) := by decide +kernel
theorem dL_isFair_667 : decode cL_isFair 667 = .ok (.goto 4, 3) := by decide +kernel
theorem dL_isFair_670 : decode cL_isFair 670 = .ok (.iconst 0, 1) := by decide +kernel
theorem dL_isFair_671 : decode cL_isFair 671 = .ok (.ireturn, 1) := by decide +kernel
end
section
section WORDS
/-- all good words of the tables: every method's own list is its code and these -/
def BIG : List Cond := lw_tbl.filter goodWord
theorem kB (i : Nat) {w : Cond} (h : tables_1[i]? = some w) (hg : goodWord w = true) : w ∈ BIG := List.mem_filter.mpr ⟨List.mem_append_right _ (List.mem_of_getElem? h), hg⟩
theorem kBs (i : Nat) {w : Cond} (h : (k2_sels lw_privs)[i]? = some w) (hg : goodWord w = true) : w ∈ BIG := List.mem_filter.mpr ⟨List.mem_append_left _ (List.mem_of_getElem? h), hg⟩
theorem kBu {ws : List Cond} (h : ∀ w ∈ ws, w ∈ lw_tbl) (hg : ws.all goodWord = true) : ∀ w ∈ ws, w ∈ BIG := fun w hw => List.mem_filter.mpr ⟨h w hw, List.all_eq_true.mp hg w hw⟩
theorem big_g {w : Cond} (h : w ∈ BIG) : w ∈ BIG ∧ ((w.onTables && w.keeps) = true ∨ ∃ ty, w = .arrayClass ty) := ⟨h, good_of_word (List.mem_filter.mp h).2⟩
theorem gB_0 {y : MethodName} {bytes : ByteArray} {maxL : Nat} {ret : Option FieldType} (h5 : Cond.code y bytes maxL ret ∈ BIG) : GoodIn BIG (.code y bytes maxL ret :: BIG) := fun w hw => by
  rcases List.mem_cons.mp hw with rfl | hw
  · exact big_g h5
  · exact big_g hw
theorem gB_H {y : MethodName} {bytes : ByteArray} {maxL : Nat} {ret : Option FieldType} {hh : List (Nat × Nat × Nat × Nat)} (h5 : Cond.codeWith y bytes maxL ret hh ∈ BIG) : GoodIn BIG (.codeWith y bytes maxL ret hh :: BIG) := fun w hw => by
  rcases List.mem_cons.mp hw with rfl | hw
  · exact big_g h5
  · exact big_g hw
theorem gB_app {a b : List Cond} (ha : ∀ w ∈ a, w ∈ BIG) (hb : GoodIn BIG b) : GoodIn BIG (a ++ b) := fun w hw => (List.mem_append.mp hw).elim (fun h => big_g (ha w h)) (hb w)
theorem gB_V {own C : String} {idx : Nat} {y : MethodName} {bytes : ByteArray} {maxL : Nat} {ret : Option FieldType} (h1 : Cond.methodLink own idx y ∈ BIG) (h2 : Cond.instanceMethod y ∈ BIG) (h3 : Cond.selects C y y ∈ BIG) (h4 : Cond.initialized C ∈ BIG) (h5 : Cond.code y bytes maxL ret ∈ BIG) : GoodIn BIG (wsV own idx C y (.code y bytes maxL ret :: BIG)) := by
  refine gB_app ?_ (gB_0 h5)
  intro w hw
  simp only [List.mem_cons, List.not_mem_nil, or_false] at hw
  rcases hw with rfl | rfl | rfl | rfl <;> assumption
theorem gB_S {own : String} {idx : Nat} {y : MethodName} {bytes : ByteArray} {maxL : Nat} {ret : Option FieldType} (h1 : Cond.methodLink own idx y ∈ BIG) (h2 : Cond.static y ∈ BIG) (h4 : Cond.initialized y.cls ∈ BIG) (h5 : Cond.code y bytes maxL ret ∈ BIG) : GoodIn BIG (va_wsS own idx y (.code y bytes maxL ret :: BIG)) := by
  refine gB_app ?_ (gB_0 h5)
  intro w hw
  simp only [List.mem_cons, List.not_mem_nil, or_false] at hw
  rcases hw with rfl | rfl | rfl <;> assumption
theorem gB_VH {own C : String} {idx : Nat} {y : MethodName} {bytes : ByteArray} {maxL : Nat} {ret : Option FieldType} {hh : List (Nat × Nat × Nat × Nat)} (h1 : Cond.methodLink own idx y ∈ BIG) (h2 : Cond.instanceMethod y ∈ BIG) (h3 : Cond.selects C y y ∈ BIG) (h4 : Cond.initialized C ∈ BIG) (h5 : Cond.codeWith y bytes maxL ret hh ∈ BIG) : GoodIn BIG (wsV own idx C y (.codeWith y bytes maxL ret hh :: BIG)) := by
  refine gB_app ?_ (gB_H h5)
  intro w hw
  simp only [List.mem_cons, List.not_mem_nil, or_false] at hw
  rcases hw with rfl | rfl | rfl | rfl <;> assumption
theorem gB_SH {own : String} {idx : Nat} {y : MethodName} {bytes : ByteArray} {maxL : Nat} {ret : Option FieldType} {hh : List (Nat × Nat × Nat × Nat)} (h1 : Cond.methodLink own idx y ∈ BIG) (h2 : Cond.static y ∈ BIG) (h4 : Cond.initialized y.cls ∈ BIG) (h5 : Cond.codeWith y bytes maxL ret hh ∈ BIG) : GoodIn BIG (va_wsS own idx y (.codeWith y bytes maxL ret hh :: BIG)) := by
  refine gB_app ?_ (gB_H h5)
  intro w hw
  simp only [List.mem_cons, List.not_mem_nil, or_false] at hw
  rcases hw with rfl | rfl | rfl <;> assumption
/-- the words of a throw of the class's own -/
abbrev kEx : List String := ["java/lang/RuntimeException", "java/lang/Exception"]
/-- the words that are not good, but go with the tables -/
def kmv : Cond → Bool
  | .methodLinkNest .. => true
  | .fieldLinkNest .. => true
  | .declares _ => true
  | .castable .. => true
  | _ => false
def KOW : List Cond := lw_tbl.filter kmv
theorem kO (i : Nat) {w : Cond} (h : tables_1[i]? = some w) (hg : kmv w = true) : w ∈ KOW := List.mem_filter.mpr ⟨List.mem_append_right _ (List.mem_of_getElem? h), hg⟩
theorem kmv_t {w : Cond} (h : kmv w = true) : w.onTables = true := by
  cases w <;> first | rfl | (simp [kmv] at h)
theorem kmv_w {w : Cond} (h : kmv w = true) {s U : State} (hW : s.WarmedH U.vm) (z : va_Nw w s) : va_Nw w U := by
  cases w <;> first | exact z.warmM hW | exact z.warmF hW | exact z.warmD hW | exact z.warmC hW | (simp [kmv] at h)
theorem xw_2 : ∀ w ∈ vx_atS RX5 62 "java/lang/IllegalArgumentException" kEx, w ∈ lw_tbl ∧ (goodWord w || kmv w) = true := by decide +kernel
theorem xw_3 : ∀ w ∈ vx_atS RX5 73 "java/lang/IllegalStateException" kEx, w ∈ lw_tbl ∧ (goodWord w || kmv w) = true := by decide +kernel
theorem xw_1 : ∀ w ∈ vx_atS RX5 78 "java/lang/IndexOutOfBoundsException" kEx, w ∈ lw_tbl ∧ (goodWord w || kmv w) = true := by decide +kernel
theorem xw_use {args : Array Value} {s : State} {w : Cond} (hts : ∀ w ∈ BIG, w.before args s = true) (hO : ∀ w ∈ KOW, va_Nw w s) (h : w ∈ lw_tbl ∧ (goodWord w || kmv w) = true) : w.before args s = true := by
  cases g : goodWord w with
  | true => exact hts w (List.mem_filter.mpr ⟨h.1, g⟩)
  | false =>
    have k : kmv w = true := by have := h.2; rw [g] at this; simpa using this
    exact (hO w (List.mem_filter.mpr ⟨h.1, k⟩)).use (kmv_t k)
theorem xh_1 {args : Array Value} {s : State} (hts : ∀ w ∈ BIG, w.before args s = true) (hO : ∀ w ∈ KOW, va_Nw w s) : ∀ w ∈ vx_atS RX5 78 "java/lang/IndexOutOfBoundsException" kEx, w.before args s = true := fun w hw => xw_use hts hO (xw_1 w hw)
theorem xh_2 {args : Array Value} {s : State} (hts : ∀ w ∈ BIG, w.before args s = true) (hO : ∀ w ∈ KOW, va_Nw w s) : ∀ w ∈ vx_atS RX5 62 "java/lang/IllegalArgumentException" kEx, w.before args s = true := fun w hw => xw_use hts hO (xw_2 w hw)
theorem xh_3 {args : Array Value} {s : State} (hts : ∀ w ∈ BIG, w.before args s = true) (hO : ∀ w ∈ KOW, va_Nw w s) : ∀ w ∈ vx_atS RX5 73 "java/lang/IllegalStateException" kEx, w.before args s = true := fun w hw => xw_use hts hO (xw_3 w hw)
theorem xg_1 : ∀ w ∈ Cond.classLink RX5 74 "java/lang/IndexOutOfBoundsException" :: Cond.initialized "java/lang/IndexOutOfBoundsException" :: vx_atS RX5 78 "java/lang/IndexOutOfBoundsException" kEx, vx_ot w = true := by decide +kernel
theorem xg_2 : ∀ w ∈ Cond.classLink RX5 58 "java/lang/IllegalArgumentException" :: Cond.initialized "java/lang/IllegalArgumentException" :: vx_atS RX5 62 "java/lang/IllegalArgumentException" kEx, vx_ot w = true := by decide +kernel
theorem xg_3 : ∀ w ∈ Cond.classLink RX5 69 "java/lang/IllegalStateException" :: Cond.initialized "java/lang/IllegalStateException" :: vx_atS RX5 73 "java/lang/IllegalStateException" kEx, vx_ot w = true := by decide +kernel
end WORDS
section KIT
/-! WORLDS BY IDS: a cell has a kind f and an owner o; its address is ad f o, what it holds ce f o; L lists the ids that are there -/
def wl (L : List (Nat × Nat)) (ad : Nat → Nat → Nat) (ce : Nat → Nat → va_E) : va_W := L.map fun i => (ad i.1 i.2, ce i.1 i.2)
def up2 (ce : Nat → Nat → va_E) (f o : Nat) (e : va_E) : Nat → Nat → va_E := fun f' => if f' = f then (fun o' => if o' = o then e else ce f o') else ce f'
def up3 (S : Nat → Nat → Nat → Int32) (f o k : Nat) (v : Int32) : Nat → Nat → Nat → Int32 := fun f' => if f' = f then (fun o' => if o' = o then upd (S f o) k v else S f o') else S f'
theorem up2_eq {ce : Nat → Nat → va_E} {f o : Nat} {e : va_E} : up2 ce f o e f o = e := by unfold up2; rw [if_pos rfl, if_pos rfl]
theorem up2_ne {ce : Nat → Nat → va_E} {f o : Nat} {e : va_E} {i : Nat × Nat} (h : i ≠ (f, o)) : up2 ce f o e i.1 i.2 = ce i.1 i.2 := by
  unfold up2
  by_cases h1 : i.1 = f
  · rw [if_pos h1]
    by_cases h2 : i.2 = o
    · exact absurd (Prod.ext h1 h2) h
    · rw [if_neg h2, h1]
  · rw [if_neg h1]
theorem wl_at {L : List (Nat × Nat)} {ad : Nat → Nat → Nat} {ce : Nat → Nat → va_E} {k f o : Nat} (h : L[k]? = some (f, o)) : (wl L ad ce)[k]? = some (ad f o, ce f o) := by
  unfold wl; rw [List.getElem?_map, h]; rfl
theorem wl_in {L : List (Nat × Nat)} {f o : Nat} (h : (f, o) ∈ L) : ∃ k : Nat, L[k]? = some (f, o) := List.mem_iff_getElem?.mp h
theorem wl_set {A : Nat → Prop} {L : List (Nat × Nat)} {ad : Nat → Nat → Nat} {ce : Nat → Nat → va_E} {k f o : Nat} {e : va_E} (hD : va_D A (wl L ad ce)) (hk : L[k]? = some (f, o)) : (wl L ad ce).set k (ad f o, e) = wl L ad (up2 ce f o e) := by
  apply List.ext_getElem?
  intro i
  rw [List.getElem?_set]
  by_cases hi : k = i
  · subst hi
    rw [if_pos rfl]
    have hlt : k < (wl L ad ce).length := by
      unfold wl; rw [List.length_map]; exact (List.getElem?_eq_some_iff.mp hk).1
    rw [if_pos hlt, wl_at hk, up2_eq]
  · rw [if_neg hi]
    unfold wl
    rw [List.getElem?_map, List.getElem?_map]
    cases hq : L[i]? with
    | none => rfl
    | some j =>
      have hj : j ≠ (f, o) := by
        intro e1
        subst e1
        exact hi (hD.1 k i _ _ (wl_at hk) (wl_at hq) rfl)
      show some (ad j.1 j.2, ce j.1 j.2) = some (ad j.1 j.2, up2 ce f o e j.1 j.2)
      rw [up2_ne hj]
/-- the world at a heap H, on the way from H0 -/
def wk (D : va_G) (A : Nat → Prop) (L : List (Nat × Nat)) (ad : Nat → Nat → Nat) (ce : Nat → Nat → va_E) (H0 H : Heap) (locs : List Loc) : Prop := va_P D vwCl (wl L ad ce) H ∧ va_D A (wl L ad ce) ∧ va_S A H0 H locs
variable {p : Program} {l : Launch} {e : Env} {R : Room} {s : State} {m : MethodId} {args : Array Value} {below : List Frame} {meth : Method} {c : Code} {H : Heap} {locs : List Loc} {cells slots : Nat} {Q : State → Prop} {cc : ByteArray} {pc : Nat} {ls : Array Slot} {rest : List Value} {D : va_G} {A : Nat → Prop} {tys : List (ClassId × FieldType)} {H0 : Heap} {L : List (Nat × Nat)} {ad : Nat → Nat → Nat} {ce : Nat → Nat → va_E}
theorem k_get (hx : p.tables.exec = Jvm.exec) (hb : c.code = cc) {own ref C : String} {T : u_T} {N ci index : Nat} {Ts : List Cond} (hts : ∀ w ∈ Ts, w.before args s = true) (hin : ∀ w ∈ u_ws C T N, w ∈ Ts) (hown : s.vm.findClass own = some m.cls) (hK : va_K D vwCl tys s) (hw : wk D A L ad ce H0 H locs) {f o : Nat} (hi : (f, o) ∈ L) {fs : List Value} (he : ce f o = .inr (ci, fs)) (hc : vwCl[ci]? = some (C, T, N)) (k : Nat) (hk : k < N) (hlink : (Cond.fieldLink own index ref (T k).2.1 (T k).2.2.1).before args s = true) (hsame : ∀ x, s.fieldFound? (T k).1 (T k).2.1 (T k).2.2.1 = some x → s.fieldFound? ref (T k).2.1 (T k).2.2.1 = some x) {v : Value} (hv : fs[k]? = some v) (hdg : decode cc pc = .ok (.getfield index, 3))
    (kk : W p l e R s m args below meth c H locs cells slots Q (F0 m (pc + 3) ls (v :: rest))) : W p l e R s m args below meth c H locs cells slots Q (F0 m pc ls (.ref (ad f o) :: rest)) := by
  obtain ⟨q, hq⟩ := wl_in hi
  exact va_get hx hb hts hin hown hK hw.1 q ((wl_at hq).trans (by rw [he])) hc k hk hlink hsame hv hdg kk
theorem k_put (hx : p.tables.exec = Jvm.exec) (hb : c.code = cc) {own ref C : String} {T : u_T} {N ci index : Nat} {Ts : List Cond} (hts : ∀ w ∈ Ts, w.before args s = true) (hin : ∀ w ∈ u_ws C T N, w ∈ Ts) (ty0 : Nat → FieldType) (hty : ∀ k, k < N → parseFieldDescriptor (T k).2.2.1 = some (ty0 k)) (hnm : ∀ a, a < N → ∀ b, b < N → a ≠ b → (T a).2.1 ≠ (T b).2.1) (hown : s.vm.findClass own = some m.cls) (hK : va_K D vwCl tys s) (hw : wk D A L ad ce H0 H locs) {f o : Nat} (hi : (f, o) ∈ L) {fs : List Value} (he : ce f o = .inr (ci, fs)) (hc : vwCl[ci]? = some (C, T, N)) (k : Nat) (hk : k < N) (hlink : (Cond.fieldLink own index ref (T k).2.1 (T k).2.2.1).before args s = true) (hsame : ∀ x, s.fieldFound? (T k).1 (T k).2.1 (T k).2.2.1 = some x → s.fieldFound? ref (T k).2.1 (T k).2.2.1 = some x) (hfin : (T k).2.2.2 = false) {ty : FieldType} {v : Value} (hd : parseFieldDescriptor (T k).2.2.1 = some ty) (hn : narrow ty v = v) (hfit : fits ty v = true) (hl : k < fs.length) {ce' : Nat → Nat → va_E} (hce : up2 ce f o (.inr (ci, fs.set k v)) = ce')
    (hdg : decode cc pc = .ok (.putfield index, 3)) (kk : ∀ (H1 : Heap) (locs1 : List Loc), wk D A L ad ce' H0 H1 locs1 → W p l e R s m args below meth c H1 locs1 cells slots Q (F0 m (pc + 3) ls rest)) : W p l e R s m args below meth c H locs cells slots Q (F0 m pc ls (v :: .ref (ad f o) :: rest)) := by
  obtain ⟨q, hq⟩ := wl_in hi
  subst hce
  refine va_put hx hb hts hin ty0 hty hnm hown hK hw.1 hw.2.1 hw.2.2 q ((wl_at hq).trans (by rw [he])) hc k hk hlink hsame hfin hd hn hfit hl hdg (fun H1 locs1 h1 h2 h3 => kk H1 locs1 ⟨?_, ?_, h3⟩)
  · rw [wl_set hw.2.1 hq] at h1; exact h1
  · rw [wl_set hw.2.1 hq] at h2; exact h2
theorem k_putF (hx : p.tables.exec = Jvm.exec) (hb : c.code = cc) {own ref C : String} {T : u_T} {N ci index : Nat} {Ts : List Cond} (hts : ∀ w ∈ Ts, w.before args s = true) (hin : ∀ w ∈ u_ws C T N, w ∈ Ts) (ty0 : Nat → FieldType) (hty : ∀ k, k < N → parseFieldDescriptor (T k).2.2.1 = some (ty0 k)) (hnm : ∀ a, a < N → ∀ b, b < N → a ≠ b → (T a).2.1 ≠ (T b).2.1) (hown : s.vm.findClass own = some m.cls) (hK : va_K D vwCl tys s) (hw : wk D A L ad ce H0 H locs) {f o : Nat} (hi : (f, o) ∈ L) {fs : List Value} (he : ce f o = .inr (ci, fs)) (hc : vwCl[ci]? = some (C, T, N)) (k : Nat) (hk : k < N) (hlink : (Cond.fieldLink own index ref (T k).2.1 (T k).2.2.1).before args s = true) (hsame : ∀ x, s.fieldFound? (T k).1 (T k).2.1 (T k).2.2.1 = some x → s.fieldFound? ref (T k).2.1 (T k).2.2.1 = some x) (hfin : (T k).2.2.2 = true) (hin2 : meth.name = "<init>") (hdecl : (T k).1 = own) {ty : FieldType} {v : Value} (hd : parseFieldDescriptor (T k).2.2.1 = some ty) (hn : narrow ty v = v) (hfit : fits ty v = true) (hl : k < fs.length) {ce' : Nat → Nat → va_E} (hce : up2 ce f o (.inr (ci, fs.set k v)) = ce')
    (hdg : decode cc pc = .ok (.putfield index, 3)) (kk : ∀ (H1 : Heap) (locs1 : List Loc), wk D A L ad ce' H0 H1 locs1 → W p l e R s m args below meth c H1 locs1 cells slots Q (F0 m (pc + 3) ls rest)) : W p l e R s m args below meth c H locs cells slots Q (F0 m pc ls (v :: .ref (ad f o) :: rest)) := by
  obtain ⟨q, hq⟩ := wl_in hi
  subst hce
  refine va_putF hx hb hts hin ty0 hty hnm hown hK hw.1 hw.2.1 hw.2.2 q ((wl_at hq).trans (by rw [he])) hc k hk hlink hsame hfin hin2 hdecl hd hn hfit hl hdg (fun H1 locs1 h1 h2 h3 => kk H1 locs1 ⟨?_, ?_, h3⟩)
  · rw [wl_set hw.2.1 hq] at h1; exact h1
  · rw [wl_set hw.2.1 hq] at h2; exact h2
/-- an int row read at any index -/
theorem k_ald (hx : p.tables.exec = Jvm.exec) (hb : c.code = cc) (hK : va_K D vwCl tys s) (hw : wk D A L ad ce H0 H locs) {f o : Nat} (hi : (f, o) ∈ L) (t0 : Nat) {cA : ClassId} {n : Nat} {g : Nat → Int32} (he : ce f o = .inl (cA, n, .inl g)) (ht : tys[t0]? = some (cA, .int)) {i : Int32} (hin : vp_in i n) (hdg : decode cc pc = .ok (.iaload, 1))
    (kk : W p l e R s m args below meth c H locs cells slots Q (F0 m (pc + 1) ls (.int (g i.toNatClampNeg) :: rest))) : W p l e R s m args below meth c H locs cells slots Q (F0 m pc ls (.int i :: .ref (ad f o) :: rest)) := by
  obtain ⟨q, hq⟩ := wl_in hi
  exact va_iald hx hb hK hw.1 q t0 ((wl_at hq).trans (by rw [he])) ht hin hdg kk
/-- .. at an index that is a number -/
theorem k_aldn (hx : p.tables.exec = Jvm.exec) (hb : c.code = cc) (hK : va_K D vwCl tys s) (hw : wk D A L ad ce H0 H locs) {f o : Nat} (hi : (f, o) ∈ L) (t0 : Nat) {cA : ClassId} {n : Nat} {g : Nat → Int32} (he : ce f o = .inl (cA, n, .inl g)) (ht : tys[t0]? = some (cA, .int)) {i : Nat} (hin : i < n) (hn : n < 2 ^ 31) (hdg : decode cc pc = .ok (.iaload, 1))
    (kk : W p l e R s m args below meth c H locs cells slots Q (F0 m (pc + 1) ls (.int (g i) :: rest))) : W p l e R s m args below meth c H locs cells slots Q (F0 m pc ls (.int (nI i) :: .ref (ad f o) :: rest)) :=
  k_ald hx hb hK hw hi t0 he ht (vp_in_nI hin hn) hdg (by rw [nI_clamp (Nat.lt_trans hin hn)]; exact kk)
theorem k_ast (hx : p.tables.exec = Jvm.exec) (hb : c.code = cc) (hK : va_K D vwCl tys s) (hw : wk D A L ad ce H0 H locs) {f o : Nat} (hi : (f, o) ∈ L) (t0 : Nat) {cA : ClassId} {n : Nat} {g : Nat → Int32} (he : ce f o = .inl (cA, n, .inl g)) (ht : tys[t0]? = some (cA, .int)) {i x : Int32} (hin : vp_in i n) {ce' : Nat → Nat → va_E} (hce : up2 ce f o (.inl (cA, n, .inl (upd g i.toNatClampNeg x))) = ce') (hdg : decode cc pc = .ok (.iastore, 1))
    (kk : ∀ (H1 : Heap) (locs1 : List Loc), wk D A L ad ce' H0 H1 locs1 → W p l e R s m args below meth c H1 locs1 cells slots Q (F0 m (pc + 1) ls rest)) : W p l e R s m args below meth c H locs cells slots Q (F0 m pc ls (.int x :: .int i :: .ref (ad f o) :: rest)) := by
  obtain ⟨q, hq⟩ := wl_in hi
  subst hce
  refine va_iast hx hb hK hw.1 hw.2.1 hw.2.2 q t0 ((wl_at hq).trans (by rw [he])) ht hin hdg (fun H1 locs1 h1 h2 h3 => kk H1 locs1 ⟨?_, ?_, h3⟩)
  · rw [wl_set hw.2.1 hq] at h1; exact h1
  · rw [wl_set hw.2.1 hq] at h2; exact h2
theorem k_astn (hx : p.tables.exec = Jvm.exec) (hb : c.code = cc) (hK : va_K D vwCl tys s) (hw : wk D A L ad ce H0 H locs) {f o : Nat} (hi : (f, o) ∈ L) (t0 : Nat) {cA : ClassId} {n : Nat} {g : Nat → Int32} (he : ce f o = .inl (cA, n, .inl g)) (ht : tys[t0]? = some (cA, .int)) {i : Nat} {x : Int32} (hin : i < n) (hn : n < 2 ^ 31) {ce' : Nat → Nat → va_E} (hce : up2 ce f o (.inl (cA, n, .inl (upd g i x))) = ce') (hdg : decode cc pc = .ok (.iastore, 1))
    (kk : ∀ (H1 : Heap) (locs1 : List Loc), wk D A L ad ce' H0 H1 locs1 → W p l e R s m args below meth c H1 locs1 cells slots Q (F0 m (pc + 1) ls rest)) : W p l e R s m args below meth c H locs cells slots Q (F0 m pc ls (.int x :: .int (nI i) :: .ref (ad f o) :: rest)) :=
  k_ast hx hb hK hw hi t0 he ht (vp_in_nI hin hn) (by rw [nI_clamp (Nat.lt_trans hin hn)]; exact hce) hdg kk
/-- a reference row read -/
theorem k_aldq (hx : p.tables.exec = Jvm.exec) (hb : c.code = cc) (hK : va_K D vwCl tys s) (hw : wk D A L ad ce H0 H locs) {f o : Nat} (hi : (f, o) ∈ L) (t0 : Nat) {cA : ClassId} {C : String} {n : Nat} {g : Nat → Option Nat} (he : ce f o = .inl (cA, n, .inr (.inr (.inr (.inr g))))) (ht : tys[t0]? = some (cA, .object C)) {i : Int32} (hin : vp_in i n) {a : Nat} (ha : g i.toNatClampNeg = some a) (hdg : decode cc pc = .ok (.aaload, 1))
    (kk : W p l e R s m args below meth c H locs cells slots Q (F0 m (pc + 1) ls (.ref a :: rest))) : W p l e R s m args below meth c H locs cells slots Q (F0 m pc ls (.int i :: .ref (ad f o) :: rest)) := by
  obtain ⟨q, hq⟩ := wl_in hi
  exact va_aldq hx hb hK hw.1 q t0 ((wl_at hq).trans (by rw [he])) ht hin hdg (by rw [ha]; exact kk)
end KIT
section KIT2
def kstr : List (String × Nat × String) := [(RX5, 60, "no STEP can be so"), (RX5, 71, "there are all STEPS that can be"), (RX5, 76, "no such ROLE"), (RX5, 79, "no such set of STEPS"), (RX5, 89, "there are all RIGHTS that can be"), (RX5, 91, "no such ITEM"), (RX5, 93, "not so many at once"), (RX5, 105, "no ORDER can be so"), (RX5, 111, "there are all ORDERS that can be"), (RX5, 124, "no such STEP"), (RX5, 129, "no SESSION can be so"), (RX5, 134, "there are all SESSIONS that can be"), (RX5, 312, "no such JOINER"), (RX5, 158, "nothing of an ITEM is told so"), (RX5, 172, "nobody can START then"), (RX5, 177, "nobody can join with that ROLE"), (RX5, 193, "it has LEFT"), (RX5, 208, "it is the last DAY"), (RX5, 241, "nothing of a JOINER is told so"), (RX5, 247, "nothing is counted so"), (RX5, 271, "no such RIGHT"), (RX5, 142, "no such SESSION"), (RX5, 144, "nothing of a SESSION is told so"), (RX5, 229, "no such STEP of that JOINER"), (RX5, 231, "nothing of a STEP is told so")]
/-- what is old: statics, texts, nest mates; nothing in A -/
def OW (A : Nat → Prop) (K0 : Nat → Nat) (U : State) : Prop :=
  (vx_Zq Bundle.tN "UNASSIGNED_STACK" Bundle.steD A U U.heap ∧ vx_Zq Bundle.tN "SUPPRESSED_SENTINEL" Bundle.listD A U U.heap) ∧
  (∀ q ∈ kstr, ∃ sa, vk_R q.1 q.2.1 q.2.2 sa U) ∧
  (∀ w ∈ KOW, va_Nw w U) ∧
  (va_X (K0 0) (K0 1) (fun i => nI (K0 (2 + i))) U U.heap ∧ K0 0 < U.heap.size ∧ ¬ A (K0 0)) ∧
  (va_AO "OnboardingWorks$Joiner" U ∧ True)
theorem OW.go {A : Nat → Prop} {K0 : Nat → Nat} {s U : State} {H : Heap} {locs : List Loc} (h : OW A K0 s) (hS : va_S A s.heap H locs) (hU : U.heap = H) (hW : s.WarmedH U.vm) : OW A K0 U := by
  obtain ⟨⟨a1, a2⟩, b, c, ⟨d1, d2, d3⟩, ⟨e1, -⟩⟩ := h
  have al := hW.alike
  have hk : ∀ a : Nat, a < s.heap.size → ¬ A a → U.heap[a]? = s.heap[a]? := fun a x y => by rw [hU]; exact hS.2.1 a x y
  exact ⟨⟨(a1.moved al).kept hk, (a2.moved al).kept hk⟩, fun q hq => (b q hq).imp fun _ z => z.warm hW, fun q hq => kmv_w (List.mem_filter.mp hq).2 hW (c q hq), ⟨(d1.moved al).kept (by rw [hU]; exact hS.2.1 _ d2 d3), by rw [hU]; exact Nat.lt_of_lt_of_le d2 hS.1, d3⟩, ⟨e1.moved al, trivial⟩⟩
theorem OW.cal {A : Nat → Prop} {K0 : Nat → Nat} {U : State} (g : JFrame) (mk : MethodId) (a : Array Value) (h : OW A K0 U) : OW A K0 (U.calling g mk a) := by
  obtain ⟨⟨a1, a2⟩, b, c, ⟨d1, d2, d3⟩, ⟨e1, -⟩⟩ := h
  have al : U.vm.Alike (U.calling g mk a).vm := Vm.Alike.refl U.vm
  exact ⟨⟨a1.moved al, a2.moved al⟩, fun q hq => (b q hq).imp fun _ z => z.same rfl, fun q hq => va_Nw.same (u := U) (U := U.calling g mk a) (kmv_t (List.mem_filter.mp hq).2) rfl (c q hq), ⟨d1.moved al, d2, d3⟩, ⟨e1.moved al, trivial⟩⟩
def ktys (cI cG cJ cO : ClassId) : List (ClassId × FieldType) := [(cI, .int), (cG, .int), (cJ, .object "OnboardingWorks$Joiner"), (cO, .object "OnboardingWorks$Joiner")]
/-- a method's start: this world -/
def WS (D : va_G) (tys : List (ClassId × FieldType)) (K0 : Nat → Nat) (A : Nat → Prop) (L : List (Nat × Nat)) (ad : Nat → Nat → Nat) (ce : Nat → Nat → va_E) (sz : Nat) (U : State) : Prop :=
  U.heap.size = sz ∧ va_P D vwCl (wl L ad ce) U.heap ∧ va_D A (wl L ad ce) ∧ va_K D vwCl tys U ∧ OW A K0 U
/-- .. and its end -/
def WE (D : va_G) (A : Nat → Prop) (L : List (Nat × Nat)) (ad : Nat → Nat → Nat) (ce : Nat → Nat → va_E) (t : State) : Prop := va_P D vwCl (wl L ad ce) t.heap ∧ va_D A (wl L ad ce)
abbrev kP (D : va_G) (tys : List (ClassId × FieldType)) (K0 : Nat → Nat) (A : Nat → Prop) (L : List (Nat × Nat)) (ad : Nat → Nat → Nat) (ce : Nat → Nat → va_E) (sz : Nat) (as : List Value) : Array Value → State → Prop := va_Pc as (WS D tys K0 A L ad ce sz)
abbrev kQi (D : va_G) (A : Nat → Prop) (v : Int32) (L : List (Nat × Nat)) (ad : Nat → Nat → Nat) (ce : Nat → Nat → va_E) : Array Value → State → Outcome → State → Prop := va_Qi (fun (r : Int32) (_ : Unit) => r = v) (fun _ t => WE D A L ad ce t) A
abbrev kQl (D : va_G) (A : Nat → Prop) (v : Int64) (L : List (Nat × Nat)) (ad : Nat → Nat → Nat) (ce : Nat → Nat → va_E) : Array Value → State → Outcome → State → Prop := va_Ql (fun (r : Int64) (_ : Unit) => r = v) (fun _ t => WE D A L ad ce t) A
abbrev kQv (D : va_G) (A : Nat → Prop) (L : List (Nat × Nat)) (ad : Nat → Nat → Nat) (ce : Nat → Nat → va_E) : Array Value → State → Outcome → State → Prop := va_Qv (fun (_ : Unit) => True) (fun _ t => WE D A L ad ce t) A
abbrev kQr (D : va_G) (A : Nat → Prop) (v : Nat) (L : List (Nat × Nat)) (ad : Nat → Nat → Nat) (ce : Nat → Nat → va_E) : Array Value → State → Outcome → State → Prop := va_Qr (fun (_ : Unit) => True) (fun _ a t => a = v ∧ WE D A L ad ce t) A
variable {p : Program} {l : Launch} {e : Env} {R : Room} {s : State} {m : MethodId} {args : Array Value} {below : List Frame} {meth : Method} {c : Code} {H : Heap} {locs : List Loc} {cells slots : Nat} {Q : State → Prop} {cc : ByteArray} {pc : Nat} {ls : Array Slot} {rest st0 : List Value} {D : va_G} {A : Nat → Prop} {tys : List (ClassId × FieldType)} {K0 : Nat → Nat} {L L' : List (Nat × Nat)} {ad ad' : Nat → Nat → Nat} {ce ce' : Nat → Nat → va_E}
variable {y : MethodName} {bytes : ByteArray} {maxL nL mc ms n index : Nat} {ret : Option FieldType} {ws : List Cond} {rm : Room} {Ts : List Cond} {own C host : String} {As : List Value}
theorem WS.blind {sz : Nat} {as : List Value} : FrameBlind (kP D tys K0 A L ad ce sz as) := fun a U g mk q => by
  obtain ⟨q0, q1, qP, qD, qK, qO⟩ := q
  exact ⟨q0, q1, qP, qD, va_K.moved (u := U) (U := U.calling g mk a) (Vm.Alike.refl U.vm) qK, qO.cal g mk a⟩
theorem WS.at (hK : va_K D vwCl tys s) (hO : OW A K0 s) (hw : wk D A L ad ce s.heap H locs) (as : List Value) : ∀ U : State, U.heap = H → s.WarmedH U.vm → kP D tys K0 A L ad ce H.size as as.toArray U := fun U hU hW =>
  ⟨rfl, by rw [hU], by rw [hU]; exact hw.1, hw.2.1, va_K.moved hW.alike hK, hO.go hw.2.2 hU hW⟩
theorem wk.recv (hK : va_K D vwCl tys s) (hw : wk D A L ad ce s.heap H locs) {f o : Nat} (hi : (f, o) ∈ L) {ci : Nat} {fs : List Value} (he : ce f o = .inr (ci, fs)) {q : vw_C} (hc : vwCl[ci]? = some q) : ∃ cell : Cell, H[ad f o]? = some cell ∧ cell.vm.isStatics = false ∧ s.vm.findClass q.1 = some cell.cls := by
  obtain ⟨k, hk⟩ := wl_in hi
  exact va_recv hK hw.1 hc ((wl_at hk).trans (by rw [he]))
/-- what a call's row gives, whichever way it is made -/
abbrev kRun (p : Program) (l : Launch) (e : Env) (R : Room) (s : State) (m : MethodId) (args : Array Value) (below : List Frame) (meth : Method) (c : Code) (H : Heap) (locs : List Loc) (cells slots mc ms : Nat) (pc : Nat) (ls : Array Slot) (st0 rest : List Value) (A : Nat → Prop) (Qa : State → Outcome → State → Prop) : Prop := va_Run p l e R s m args below meth c H locs cells slots mc ms (F0 m pc ls st0) rest Qa A
theorem k_ci {v : Int32} {a : Array Value} (hw : wk D A L ad ce s.heap H locs) (hr : kRun p l e R s m args below meth c H locs cells slots mc ms pc ls st0 rest A (kQi D A v L' ad' ce' a))
    (kk : ∀ (H1 : Heap) (locs1 : List Loc), wk D A L' ad' ce' s.heap H1 locs1 → W p l e R s m args below meth c H1 locs1 (cells + mc) (slots + ms) Q (F0 m (pc + 3) ls (.int v :: rest))) : W p l e R s m args below meth c H locs cells slots Q (F0 m pc ls st0) :=
  va_calli hr hw.2.2 (fun _ _ h => h) (fun _ h => h) (fun r _ t H1 locs1 ht _ hp hB _ _ hS => by
    subst hp
    exact kk H1 locs1 ⟨by rw [← ht]; exact hB.1, hB.2, hS⟩)
theorem k_cl {v : Int64} {a : Array Value} (hw : wk D A L ad ce s.heap H locs) (hr : kRun p l e R s m args below meth c H locs cells slots mc ms pc ls st0 rest A (kQl D A v L' ad' ce' a))
    (kk : ∀ (H1 : Heap) (locs1 : List Loc), wk D A L' ad' ce' s.heap H1 locs1 → W p l e R s m args below meth c H1 locs1 (cells + mc) (slots + ms) Q (F0 m (pc + 3) ls (.long v :: rest))) : W p l e R s m args below meth c H locs cells slots Q (F0 m pc ls st0) :=
  va_calll hr hw.2.2 (fun _ _ h => h) (fun _ h => h) (fun r _ t H1 locs1 ht _ hp hB _ _ hS => by
    subst hp
    exact kk H1 locs1 ⟨by rw [← ht]; exact hB.1, hB.2, hS⟩)
theorem k_cv {a : Array Value} (hw : wk D A L ad ce s.heap H locs) (hr : kRun p l e R s m args below meth c H locs cells slots mc ms pc ls st0 rest A (kQv D A L' ad' ce' a))
    (kk : ∀ (H1 : Heap) (locs1 : List Loc), wk D A L' ad' ce' s.heap H1 locs1 → W p l e R s m args below meth c H1 locs1 (cells + mc) (slots + ms) Q (F0 m (pc + 3) ls rest)) : W p l e R s m args below meth c H locs cells slots Q (F0 m pc ls st0) :=
  va_callv hr hw.2.2 (fun _ _ h => h) (fun _ h => h) (fun _ t H1 locs1 ht _ _ hB _ _ hS => kk H1 locs1 ⟨by rw [← ht]; exact hB.1, hB.2, hS⟩)
theorem k_cr {v : Nat} {a : Array Value} (hw : wk D A L ad ce s.heap H locs) (hr : kRun p l e R s m args below meth c H locs cells slots mc ms pc ls st0 rest A (kQr D A v L' ad' ce' a))
    (kk : ∀ (H1 : Heap) (locs1 : List Loc), wk D A L' ad' ce' s.heap H1 locs1 → W p l e R s m args below meth c H1 locs1 (cells + mc) (slots + ms) Q (F0 m (pc + 3) ls (.ref v :: rest))) : W p l e R s m args below meth c H locs cells slots Q (F0 m pc ls st0) :=
  va_callr hr hw.2.2 (fun _ _ h => h) (fun _ h => h) (fun _ ra t H1 locs1 ht _ _ hB _ _ hS => by
    obtain ⟨rfl, hB⟩ := hB
    exact kk H1 locs1 ⟨by rw [← ht]; exact hB.1, hB.2, hS⟩)
/-- the receiver is the world's cell (f, o) -/
theorem k_rV {Qc : Array Value → State → Outcome → State → Prop} (F : CallFix p m c cc nL s args Ts own) (hK : va_K D vwCl tys s) (hO : OW A K0 s) (hw : wk D A L ad ce s.heap H locs) {f o : Nat} (hM : Met l y ws rm (kP D tys K0 A L ad ce H.size (.ref (ad f o) :: As)) Qc mc ms A) (cw : CallW R s args own C index y bytes maxL ret ws rm mc ms n) (hi : (f, o) ∈ L) {ci : Nat} {fs : List Value} (he : ce f o = .inr (ci, fs)) {T : u_T} {N : Nat} (hc : vwCl[ci]? = some (C, T, N)) (hn : As.length = n) (hsize : ls.size = nL) (hst : st0 = As.reverse ++ .ref (ad f o) :: rest) (hW : (rest.map fun v => v.category).sum ≤ 8) (hdg : decode cc pc = .ok (.invokevirtual index, 3)) (hf : cells + mc ≤ R.cells ∧ slots + ms ≤ R.slots) :
    kRun p l e R s m args below meth c H locs cells slots mc ms pc ls st0 rest A (Qc (Value.ref (ad f o) :: As).toArray) :=
  va_runV F hM cw ⟨WS.blind, wk.recv hK hw hi he hc, WS.at hK hO hw _⟩ rfl hn hsize hst (by show 2 * 0 + _ ≤ 8; omega) hdg hf
theorem k_rS {Qc : Array Value → State → Outcome → State → Prop} (F : CallFix p m c cc nL s args Ts own) (hK : va_K D vwCl tys s) (hO : OW A K0 s) (hw : wk D A L ad ce s.heap H locs) (hM : Met l y ws rm (kP D tys K0 A L ad ce H.size As) Qc mc ms A) (cw : CallB R s args own index y bytes maxL ret ws rm mc ms n ∧ (Cond.static y).before args s = true) (hn : As.length = n) (hsize : ls.size = nL) (hst : st0 = As.reverse ++ rest) (hW : (rest.map fun v => v.category).sum ≤ 8) (hdg : decode cc pc = .ok (.invokestatic index, 3)) (hf : cells + mc ≤ R.cells ∧ slots + ms ≤ R.slots) :
    kRun p l e R s m args below meth c H locs cells slots mc ms pc ls st0 rest A (Qc As.toArray) :=
  va_runS F hM cw ⟨WS.blind, WS.at hK hO hw _⟩ rfl hn hsize hst (by show 2 * 0 + _ ≤ 8; omega) hdg hf
theorem k_rSN {Qc : Array Value → State → Outcome → State → Prop} (F : CallFix p m c cc nL s args Ts own) (hK : va_K D vwCl tys s) (hO : OW A K0 s) (hw : wk D A L ad ce s.heap H locs) (hM : Met l y ws rm (kP D tys K0 A L ad ce H.size As) Qc mc ms A) (cw : va_CN R s args own index y host bytes maxL ret ws rm mc ms n ∧ (Cond.static y).before args s = true ∧ True) (hn : As.length = n) (hsize : ls.size = nL) (hst : st0 = As.reverse ++ rest) (hW : (rest.map fun v => v.category).sum ≤ 8) (hdg : decode cc pc = .ok (.invokestatic index, 3)) (hf : cells + mc ≤ R.cells ∧ slots + ms ≤ R.slots) :
    kRun p l e R s m args below meth c H locs cells slots mc ms pc ls st0 rest A (Qc As.toArray) :=
  va_runSN F hM cw ⟨WS.blind, WS.at hK hO hw _⟩ rfl hn hsize hst (by show 2 * 0 + _ ≤ 8; omega) hdg hf
theorem k_rI {Qc : Array Value → State → Outcome → State → Prop} (F : CallFix p m c cc nL s args Ts own) (hK : va_K D vwCl tys s) (hO : OW A K0 s) (hw : wk D A L ad ce s.heap H locs) {b : Nat} (hM : Met l y ws rm (kP D tys K0 A L ad ce H.size (.ref b :: As)) Qc mc ms A) (cw : CallB R s args own index y bytes maxL none ws rm mc ms n ∧ y.name = "<init>" ∧ (Cond.instanceMethod y).before args s = true) (hn : As.length = n) (hsize : ls.size = nL) (hst : st0 = As.reverse ++ .ref b :: rest) (hW : (rest.map fun v => v.category).sum ≤ 8) (hdg : decode cc pc = .ok (.invokespecial index, 3)) (hf : cells + mc ≤ R.cells ∧ slots + ms ≤ R.slots) :
    kRun p l e R s m args below meth c H locs cells slots mc ms pc ls st0 rest A (Qc (Value.ref b :: As).toArray) :=
  va_runI F hM cw ⟨WS.blind, WS.at hK hO hw _⟩ rfl hn hsize hst (by show 2 * 0 + _ ≤ 8; omega) hdg hf
theorem k_rIN {Qc : Array Value → State → Outcome → State → Prop} (F : CallFix p m c cc nL s args Ts own) (hK : va_K D vwCl tys s) (hO : OW A K0 s) (hw : wk D A L ad ce s.heap H locs) {b : Nat} (hM : Met l y ws rm (kP D tys K0 A L ad ce H.size (.ref b :: As)) Qc mc ms A) (cw : va_CN R s args own index y host bytes maxL none ws rm mc ms n ∧ y.name = "<init>" ∧ (Cond.instanceMethod y).before args s = true) (hn : As.length = n) (hsize : ls.size = nL) (hst : st0 = As.reverse ++ .ref b :: rest) (hW : (rest.map fun v => v.category).sum ≤ 8) (hdg : decode cc pc = .ok (.invokespecial index, 3)) (hf : cells + mc ≤ R.cells ∧ slots + ms ≤ R.slots) :
    kRun p l e R s m args below meth c H locs cells slots mc ms pc ls st0 rest A (Qc (Value.ref b :: As).toArray) :=
  va_runIN F hM cw ⟨WS.blind, WS.at hK hO hw _⟩ rfl hn hsize hst (by show 2 * 0 + _ ≤ 8; omega) hdg hf
/-- ends -/
theorem k_iret {v v0 : Int32} {ty : FieldType} (hx : p.tables.exec = Jvm.exec) (hb : c.code = cc) (hr : meth.sig.returnType = some ty) (hlocks : meth.locks = false) (hn : narrow ty (.int v) = .int v) (hw : wk D A L ad ce s.heap H locs) (hv : v0 = v) (hce : ce' = ce) (hdg : decode cc pc = .ok (.ireturn, 1)) : W p l e R s m args below meth c H locs cells slots (MQ below (kQi D A v0 L ad ce') args s cells slots A) (F0 m pc ls [.int v]) := by
  subst hv; subst hce
  exact W.zret hx hb hr hn (fun t ht _ => ⟨⟨_, (), rfl, rfl, by rw [ht]; exact hw.1, hw.2.1⟩, hw.2.2.F ht⟩) hw.2.2.2.2 hdg hlocks
theorem k_lret {v v0 : Int64} (hx : p.tables.exec = Jvm.exec) (hb : c.code = cc) (hr : meth.sig.returnType = some .long) (hlocks : meth.locks = false) (hw : wk D A L ad ce s.heap H locs) (hv : v0 = v) (hce : ce' = ce) (hdg : decode cc pc = .ok (.lreturn, 1)) : W p l e R s m args below meth c H locs cells slots (MQ below (kQl D A v0 L ad ce') args s cells slots A) (F0 m pc ls [.long v]) := by
  subst hv; subst hce
  exact W.lret hx hb hr (fun t ht _ => ⟨⟨_, (), rfl, rfl, by rw [ht]; exact hw.1, hw.2.1⟩, hw.2.2.F ht⟩) hw.2.2.2.2 hdg hlocks
theorem k_vret (hx : p.tables.exec = Jvm.exec) (hb : c.code = cc) (hr : meth.sig.returnType = none) (hlocks : meth.locks = false) (hw : wk D A L ad ce s.heap H locs) (hce : ce' = ce) (hdg : decode cc pc = .ok (.return_, 1)) : W p l e R s m args below meth c H locs cells slots (MQ below (kQv D A L ad ce') args s cells slots A) (F0 m pc ls []) := by
  subst hce
  exact W.vret hx hb hr (fun t ht _ => ⟨⟨(), rfl, trivial, by rw [ht]; exact hw.1, hw.2.1⟩, hw.2.2.F ht⟩) hw.2.2.2.2 hdg hlocks
theorem k_rret {v v0 : Nat} {rt : FieldType} (hx : p.tables.exec = Jvm.exec) (hb : c.code = cc) (hr : meth.sig.returnType = some rt) (hrt : (∃ n, rt = .object n) ∨ ∃ t, rt = .array t) (hlocks : meth.locks = false) (hw : wk D A L ad ce s.heap H locs) (hv : v0 = v) (hce : ce' = ce) (hdg : decode cc pc = .ok (.areturn, 1)) : W p l e R s m args below meth c H locs cells slots (MQ below (kQr D A v0 L ad ce') args s cells slots A) (F0 m pc ls [.ref v]) := by
  subst hv; subst hce
  exact W.aret hx hb hr hrt (Or.inr ⟨_, rfl⟩) (fun t ht _ => ⟨⟨(), _, rfl, trivial, rfl, by rw [ht]; exact hw.1, hw.2.1⟩, hw.2.2.F ht⟩) hw.2.2.2.2 hdg hlocks
/-- loops that count -/
theorem lp_o {i N : Nat} {b : Int32} (hb : b = nI N) (h : i + 0 = N) (hN : N < 2 ^ 31) : b ≤ nI i := by
  subst hb; subst h; exact nI_le (Nat.le_refl _) hN
theorem lp_i {i k N : Nat} {b : Int32} (hb : b = nI N) (h : i + (k + 1) = N) (hN : N < 2 ^ 31) : ¬ b ≤ nI i := by
  subst hb; exact nI_ge (by omega) hN
theorem lp_s {i k N : Nat} (h : i + (k + 1) = N) : i + 1 + k = N := by omega
theorem lp_l {i k N : Nat} (h : i + (k + 1) = N) : i < N := by omega
theorem k_in {x b : Int32} {n : Nat} (h1 : ¬ x < 0) (h2 : ¬ b ≤ x) (hb : b.toInt ≤ n) : vp_in x n := by
  rw [vp_in_iff]
  rw [Int32.lt_iff_toInt_lt] at h1
  rw [Int32.le_iff_toInt_le] at h2
  have h0 : (0 : Int32).toInt = 0 := rfl
  omega
theorem k_in' {x b : Int32} {n : Nat} (h1 : ¬ x < 0) (h2 : x < b) (hb : b.toInt ≤ n) : vp_in x n := by
  rw [vp_in_iff]
  rw [Int32.lt_iff_toInt_lt] at h1 h2
  have h0 : (0 : Int32).toInt = 0 := rfl
  omega
end KIT2
end
section
section
variable {p : Program} {l : Launch} {e : Env} {R : Room} {s : State} {m : MethodId} {args : Array Value} {below : List Frame} {meth : Method} {c : Code} {H : Heap} {locs : List Loc} {cells slots : Nat} {Q : State → Prop}
variable {mc ms : Nat} {free : Addr → Prop} {A0 A1 : Nat → Prop} {H0 : Heap} {a : Array Value} {pc : Nat} {ls : Array Slot} {st0 rest : List Value}
theorem vx_callq {S SX : Type} {post : Option Nat → S → Prop} {px : SX → Prop} {B : S → State → Prop} {BX : String → SX → State → Prop} {AX : Nat → Prop} (hr : vx_Run p l e R s m args below meth c H locs cells slots mc ms (F0 m pc ls st0) rest (va_Qq post B A1 a) (vx_X px BX AX) free) (hS : va_S A0 H0 H locs) (hA : ∀ q, q < H.size → A1 q → A0 q) (hf : ∀ q, free q → A0 q) (hAX : ∀ q, q < H.size → AX q → A0 q)
    (kx : ∀ (E : String) (ce : Cell) (q9 : Addr) (u : SX) (t : State) (H1 : Heap) (locs1 : List Loc), t.heap = H1 → s.vm.Alike t.vm → px u → BX E u t → H.size ≤ H1.size → (∀ q : Nat, q < H.size → ¬ AX q → H1[q]? = H[q]?) → va_S A0 H0 H1 locs1 → H1[q9]? = some ce → ce.vm = .none → s.vm.findClass E = some ce.cls → vx_W p l e R s m args below meth c H1 locs1 (cells + mc) (slots + ms) Q (F0 m pc ls rest) q9)
    (kk : ∀ (r : Option Nat) (u : S) (t : State) (H1 : Heap) (locs1 : List Loc), t.heap = H1 → s.vm.Alike t.vm → post r u → B u t → H.size ≤ H1.size → (∀ q : Nat, q < H.size → ¬ A1 q → H1[q]? = H[q]?) → va_S A0 H0 H1 locs1 → W p l e R s m args below meth c H1 locs1 (cells + mc) (slots + ms) Q (F0 m (pc + 3) ls (va_rf r :: rest))) : W p l e R s m args below meth c H locs cells slots Q (F0 m pc ls st0) := by
  intro T hT X
  rcases hr T hT X with ⟨v, st₀, t, T', L, h0, X', hL, e1, e2, ⟨⟨r, u, hv, hp, hb⟩, hF⟩, st⟩ | ⟨q, st₀, t, T', L, E, ce, h0, X', hL, e1, e2, ⟨u, hp, hb, hF⟩, hce, hcv, hcl, st⟩
  · cases hv
    obtain ⟨k1, k2, k3⟩ := vx_keep h0 e1 hS hA hf hL hF
    obtain ⟨t2, a1, b1⟩ := kk r u t T'.heap (locs ++ L) e1.symm (by rw [← e2]; exact X'.warmed.alike) hp hb k1 k2 k3 T' rfl X'
    exact ⟨t2, st t2 a1, b1⟩
  · obtain ⟨k1, k2, k3⟩ := vx_keep h0 e1 hS hAX hf hL hF
    obtain ⟨t2, a1, b1⟩ := kx E ce q u t T'.heap (locs ++ L) e1.symm (by rw [← e2]; exact X'.warmed.alike) hp hb k1 k2 k3 (by rw [e1]; exact hce) hcv hcl T' rfl X'
    exact ⟨t2, st.trans a1, b1⟩
end
section KIT3
variable {p : Program} {l : Launch} {e : Env} {R : Room} {s : State} {m : MethodId} {args : Array Value} {below : List Frame} {meth : Method} {c : Code} {H : Heap} {locs : List Loc} {cells slots : Nat} {Q : State → Prop} {cc : ByteArray} {pc : Nat} {ls : Array Slot} {rest st0 : List Value} {D : va_G} {A : Nat → Prop} {tys : List (ClassId × FieldType)} {K0 : Nat → Nat} {L L' : List (Nat × Nat)} {ad ad' : Nat → Nat → Nat} {ce ce' : Nat → Nat → va_E}
variable {y : MethodName} {bytes : ByteArray} {maxL nL mc ms n index : Nat} {ret : Option FieldType} {ws : List Cond} {rm : Room} {Ts : List Cond} {own C host : String} {As : List Value}
theorem wk.start (hP : va_P D vwCl (wl L ad ce) H) (hD : va_D A (wl L ad ce)) : wk D A L ad ce H H [] := ⟨hP, hD, va_S.rf⟩
theorem wk.hA (hw : wk D A L ad ce s.heap H locs) (hA : ∀ q, s.heap.size ≤ q → A q) : ∀ q, H.size ≤ q → A q := fun q h => hA q (Nat.le_trans hw.2.2.1 h)
theorem k_start {av : List Value} {sl : List Slot} (hs : sl = lg_sl av) (h : args = av.toArray) (hn : sl.length ≤ n) (k : ∀ ls : Array Slot, lv_has ls n (lv_args 0 av) → W p l e R s m args below meth c H locs cells slots Q (F0 m 0 ls [])) : W p l e R s m args below meth c H locs cells slots Q (entryFrame m args n) := by
  subst hs
  have hl := lv_entry av hn
  have k2 := k _ hl
  have e1 : entryFrame m args n = F0 m 0 ((lg_sl av ++ List.replicate (n - (lg_sl av).length) Slot.unset).toArray) [] := by rw [h]; exact lg_entry_eq ..
  rw [e1]; exact k2
theorem k_ci0 {v : Int32} {a : Array Value} (hw : wk D A L ad ce s.heap H locs) (hr : kRun p l e R s m args below meth c H locs cells slots 0 0 pc ls st0 rest A (kQi D A v L' ad' ce' a))
    (kk : ∀ (H1 : Heap) (locs1 : List Loc), wk D A L' ad' ce' s.heap H1 locs1 → W p l e R s m args below meth c H1 locs1 cells slots Q (F0 m (pc + 3) ls (.int v :: rest))) : W p l e R s m args below meth c H locs cells slots Q (F0 m pc ls st0) := k_ci hw hr kk
theorem k_cl0 {v : Int64} {a : Array Value} (hw : wk D A L ad ce s.heap H locs) (hr : kRun p l e R s m args below meth c H locs cells slots 0 0 pc ls st0 rest A (kQl D A v L' ad' ce' a))
    (kk : ∀ (H1 : Heap) (locs1 : List Loc), wk D A L' ad' ce' s.heap H1 locs1 → W p l e R s m args below meth c H1 locs1 cells slots Q (F0 m (pc + 3) ls (.long v :: rest))) : W p l e R s m args below meth c H locs cells slots Q (F0 m pc ls st0) := k_cl hw hr kk
theorem k_cv0 {a : Array Value} (hw : wk D A L ad ce s.heap H locs) (hr : kRun p l e R s m args below meth c H locs cells slots 0 0 pc ls st0 rest A (kQv D A L' ad' ce' a))
    (kk : ∀ (H1 : Heap) (locs1 : List Loc), wk D A L' ad' ce' s.heap H1 locs1 → W p l e R s m args below meth c H1 locs1 cells slots Q (F0 m (pc + 3) ls rest)) : W p l e R s m args below meth c H locs cells slots Q (F0 m pc ls st0) := k_cv hw hr kk
theorem k_cr0 {v : Nat} {a : Array Value} (hw : wk D A L ad ce s.heap H locs) (hr : kRun p l e R s m args below meth c H locs cells slots 0 0 pc ls st0 rest A (kQr D A v L' ad' ce' a))
    (kk : ∀ (H1 : Heap) (locs1 : List Loc), wk D A L' ad' ce' s.heap H1 locs1 → W p l e R s m args below meth c H1 locs1 cells slots Q (F0 m (pc + 3) ls (.ref v :: rest))) : W p l e R s m args below meth c H locs cells slots Q (F0 m pc ls st0) := k_cr hw hr kk
theorem k_nz {x : Int32} (h : x = 0 ∨ x = 1) : narrow .boolean (.int x) = .int x := by rcases h with rfl | rfl <;> rfl
theorem cn_lt (x : Int32) : x.toNatClampNeg < 2 ^ 31 := by
  have h := Int32.toInt_lt x
  have h2 : x.toNatClampNeg = x.toInt.toNat := rfl
  omega
theorem cn_eq {x : Int32} (h : 0 ≤ x.toInt) : x = nI x.toNatClampNeg := by
  apply Int32.toInt_inj.mp
  rw [nI_toInt (cn_lt x)]
  have h2 : x.toNatClampNeg = x.toInt.toNat := rfl
  omega
theorem cn_le {x : Int32} {n : Nat} (h : x.toInt ≤ n) : x.toNatClampNeg ≤ n := by
  have h2 : x.toNatClampNeg = x.toInt.toNat := rfl
  omega
theorem k_lt {x : Int32} {n : Nat} (h : vp_in x n) : x.toNatClampNeg < n := by
  unfold vp_in at h
  exact Nat.lt_of_not_le (fun z => h (Or.inr z))
theorem sw_lt {x : Int32} {k : Nat} (hk : k < 2 ^ 31) (h : ∀ j, j < k → ¬ x = nI j) : x.toInt < 0 ∨ ((k : Int) - 1) < x.toInt := by
  rcases Int.lt_or_le x.toInt 0 with q | q
  · exact Or.inl q
  · refine Or.inr ?_
    rcases Int.lt_or_le ((k : Int) - 1) x.toInt with r | r
    · exact r
    · exfalso
      have h2 : x.toNatClampNeg = x.toInt.toNat := rfl
      exact h x.toNatClampNeg (by omega) (cn_eq q)
theorem sw_out3 {x : Int32} (h0 : ¬ x = 0) (h1 : ¬ x = 1) (h2 : ¬ x = 2) : x.toInt < 0 ∨ 2 < x.toInt := sw_lt (k := 3) (by decide) (fun j hj => by rcases (show j = 0 ∨ j = 1 ∨ j = 2 by omega) with rfl | rfl | rfl <;> assumption)
theorem sw_out4 {x : Int32} (h0 : ¬ x = 0) (h1 : ¬ x = 1) (h2 : ¬ x = 2) (h3 : ¬ x = 3) : x.toInt < 0 ∨ 3 < x.toInt := sw_lt (k := 4) (by decide) (fun j hj => by rcases (show j = 0 ∨ j = 1 ∨ j = 2 ∨ j = 3 by omega) with rfl | rfl | rfl | rfl <;> assumption)
theorem sw_out5 {x : Int32} (h0 : ¬ x = 0) (h1 : ¬ x = 1) (h2 : ¬ x = 2) (h3 : ¬ x = 3) (h4 : ¬ x = 4) : x.toInt < 0 ∨ 4 < x.toInt := sw_lt (k := 5) (by decide) (fun j hj => by rcases (show j = 0 ∨ j = 1 ∨ j = 2 ∨ j = 3 ∨ j = 4 by omega) with rfl | rfl | rfl | rfl | rfl <;> assumption)
theorem sw_out6 {x : Int32} (h0 : ¬ x = 0) (h1 : ¬ x = 1) (h2 : ¬ x = 2) (h3 : ¬ x = 3) (h4 : ¬ x = 4) (h5 : ¬ x = 5) : x.toInt < 0 ∨ 5 < x.toInt := sw_lt (k := 6) (by decide) (fun j hj => by rcases (show j = 0 ∨ j = 1 ∨ j = 2 ∨ j = 3 ∨ j = 4 ∨ j = 5 by omega) with rfl | rfl | rfl | rfl | rfl | rfl <;> assumption)
theorem sw_out10 {x : Int32} (h0 : ¬ x = 0) (h1 : ¬ x = 1) (h2 : ¬ x = 2) (h3 : ¬ x = 3) (h4 : ¬ x = 4) (h5 : ¬ x = 5) (h6 : ¬ x = 6) (h7 : ¬ x = 7) (h8 : ¬ x = 8) (h9 : ¬ x = 9) : x.toInt < 0 ∨ 9 < x.toInt := sw_lt (k := 10) (by decide) (fun j hj => by rcases (show j = 0 ∨ j = 1 ∨ j = 2 ∨ j = 3 ∨ j = 4 ∨ j = 5 ∨ j = 6 ∨ j = 7 ∨ j = 8 ∨ j = 9 by omega) with rfl | rfl | rfl | rfl | rfl | rfl | rfl | rfl | rfl | rfl <;> assumption)
/-! exceptions -/
def kE (E : String) (k : Nat) : Prop := (k = 1 ∧ E = "java/lang/IndexOutOfBoundsException") ∨ (k = 2 ∧ E = "java/lang/IllegalArgumentException") ∨ (k = 3 ∧ E = "java/lang/IllegalStateException")
theorem kE_1 : kE "java/lang/IndexOutOfBoundsException" 1 := Or.inl ⟨rfl, rfl⟩
theorem kE_2 : kE "java/lang/IllegalArgumentException" 2 := Or.inr (Or.inl ⟨rfl, rfl⟩)
theorem kE_3 : kE "java/lang/IllegalStateException" 3 := Or.inr (Or.inr ⟨rfl, rfl⟩)
theorem kE.ne {E : String} {k : Nat} (h : kE E k) : ¬ k = 0 := by rcases h with ⟨rfl, -⟩ | ⟨rfl, -⟩ | ⟨rfl, -⟩ <;> decide
/-- where a method of the class throws: nothing has changed -/
abbrev kX (D : va_G) (A : Nat → Prop) (k : Nat) (L : List (Nat × Nat)) (ad : Nat → Nat → Nat) (ce : Nat → Nat → va_E) : String → State → State → Prop := vx_X (fun (_ : Unit) => True) (fun E _ t => kE E k ∧ WE D A L ad ce t) A
theorem WE.kept {t : State} (hw : wk D A L ad ce s.heap H locs) (h1 : ∀ q : Nat, q < H.size → t.heap[q]? = H[q]?) : WE D A L ad ce t := ⟨hw.1.kept (fun k q hk => h1 _ (hw.1 k q hk).lt), hw.2.1⟩
theorem k_throw {k : Nat} {Qc : Array Value → State → Outcome → State → Prop} (hx : p.tables.exec = Jvm.exec) (hb : c.code = cc) (hl : l.stackTraces = false) {cls text : String} {names : List String} {ik is ic sa : Nat}
    (hown : s.vm.findClass own = some m.cls) (hcls : Bundle.fit cls = true) (hnames : ∀ n ∈ names, Bundle.fit n = true) (hk : (Cond.classLink own ik cls).before args s = true) (hini : (Cond.initialized cls).before args s = true) (hstr : vk_R own is text sa s) (hat : ∀ w ∈ vx_atS own ic cls names, w.before args s = true)
    (hgood : ∀ w ∈ Cond.classLink own ik cls :: Cond.initialized cls :: vx_atS own ic cls names, vx_ot w = true) (hO : OW A K0 s) (hw : wk D A L ad ce s.heap H locs) (hsize : ls.size = nL) (hml : c.maxLocals = nL)
    (d0 : decode cc pc = .ok (.new ik, 3)) (d3 : decode cc (pc + 3) = .ok (.dup, 1)) (d4 : decode cc (pc + 4) = .ok (.ldc is, 2)) (d6 : decode cc (pc + 6) = .ok (.invokespecial ic, 3)) (d9 : decode cc (pc + 9) = .ok (.athrow, 1))
    (hexn : ∀ x ∈ c.exceptionTable.toList, False) (hRframes : names.length + 3 < R.frames) (hRlocals : (rest.map fun v => v.category).sum + (13 * (names.length + 1) + 43) ≤ R.locals) (hRcells : cells + 1 ≤ R.cells) (hRslots : slots + 6 ≤ R.slots) (hlocks : meth.locks = false) (hkE : kE cls k) (hc : cells + 1 ≤ mc) (hs : slots + 6 ≤ ms) :
    W p l e R s m args below meth c H locs cells slots (vx_MQ below Qc (kX D A k L ad ce) args s mc ms A) (F0 m pc ls rest) :=
  vx_throwS hx hb hl hown hcls hnames hk hini hstr hat hgood hO.1.1 hO.1.2 hw.2.2 (hsize.trans hml.symm) d0 d3 d4 d6 d9 (fun x h => (hexn x h).elim) hRframes hRlocals hRcells hRslots hlocks
    (fun t _ h1 h2 => ⟨(), trivial, ⟨hkE, WE.kept hw h2⟩, Nat.le_trans hw.2.2.1 h1, fun q hq hA => (h2 q (Nat.lt_of_lt_of_le hq hw.2.2.1)).trans (hw.2.2.2.1 q hq hA)⟩) hw.2.2.2.2 hc hs
theorem k_throwW {k : Nat} {Qc : Array Value → State → Outcome → State → Prop} (hx : p.tables.exec = Jvm.exec) (hb : c.code = cc) (hl : l.stackTraces = false) {cls text : String} {names : List String} {ik is ic sa : Nat}
    (hown : s.vm.findClass own = some m.cls) (hcls : Bundle.fit cls = true) (hnames : ∀ n ∈ names, Bundle.fit n = true) (hk : (Cond.classLink own ik cls).before args s = true) (hini : (Cond.initialized cls).before args s = true) (hstr : vk_R own is text sa s) (hat : ∀ w ∈ vx_atS own ic cls names, w.before args s = true)
    (hgood : ∀ w ∈ Cond.classLink own ik cls :: Cond.initialized cls :: vx_atS own ic cls names, vx_ot w = true) (hO : OW A K0 s) (hw : wk D A L ad ce s.heap H locs) (hsize : ls.size = nL) (hml : c.maxLocals = nL)
    (d0 : decode cc pc = .ok (.new ik, 3)) (d3 : decode cc (pc + 3) = .ok (.dup, 1)) (d4 : decode cc (pc + 4) = .ok (.ldc_w is, 3)) (d6 : decode cc (pc + 7) = .ok (.invokespecial ic, 3)) (d9 : decode cc (pc + 10) = .ok (.athrow, 1))
    (hexn : ∀ x ∈ c.exceptionTable.toList, False) (hRframes : names.length + 3 < R.frames) (hRlocals : (rest.map fun v => v.category).sum + (13 * (names.length + 1) + 43) ≤ R.locals) (hRcells : cells + 1 ≤ R.cells) (hRslots : slots + 6 ≤ R.slots) (hlocks : meth.locks = false) (hkE : kE cls k) (hc : cells + 1 ≤ mc) (hs : slots + 6 ≤ ms) :
    W p l e R s m args below meth c H locs cells slots (vx_MQ below Qc (kX D A k L ad ce) args s mc ms A) (F0 m pc ls rest) :=
  vx_throwSW hx hb hl hown hcls hnames hk hini hstr hat hgood hO.1.1 hO.1.2 hw.2.2 (hsize.trans hml.symm) d0 d3 d4 d6 d9 (fun x h => (hexn x h).elim) hRframes hRlocals hRcells hRslots hlocks
    (fun t _ h1 h2 => ⟨(), trivial, ⟨hkE, WE.kept hw h2⟩, Nat.le_trans hw.2.2.1 h1, fun q hq hA => (h2 q (Nat.lt_of_lt_of_le hq hw.2.2.1)).trans (hw.2.2.2.1 q hq hA)⟩) hw.2.2.2.2 hc hs
theorem x_rV {Qc : Array Value → State → Outcome → State → Prop} {XC : String → State → State → Prop} (F : CallFix p m c cc nL s args Ts own) (hK : va_K D vwCl tys s) (hO : OW A K0 s) (hw : wk D A L ad ce s.heap H locs) {f o : Nat} (hM : vx_Met l y ws rm (kP D tys K0 A L ad ce H.size (.ref (ad f o) :: As)) Qc XC mc ms A) (cw : CallW R s args own C index y bytes maxL ret ws rm mc ms n) (hi : (f, o) ∈ L) {ci : Nat} {fs : List Value} (he : ce f o = .inr (ci, fs)) {T : u_T} {N : Nat} (hc : vwCl[ci]? = some (C, T, N)) (hn : As.length = n) (hsize : ls.size = nL) (hst : st0 = As.reverse ++ .ref (ad f o) :: rest) (hW : (rest.map fun v => v.category).sum ≤ 8) (hdg : decode cc pc = .ok (.invokevirtual index, 3)) (hf : cells + mc ≤ R.cells ∧ slots + ms ≤ R.slots) :
    vx_Run p l e R s m args below meth c H locs cells slots mc ms (F0 m pc ls st0) rest (Qc (Value.ref (ad f o) :: As).toArray) XC A :=
  vx_runV F hM cw ⟨WS.blind, wk.recv hK hw hi he hc, WS.at hK hO hw _⟩ rfl hn hsize hst (by show 2 * 0 + _ ≤ 8; omega) hdg hf
theorem x_ci {v : Int32} {k : Nat} {cd : Prop} {a : Array Value} (hw : wk D A L ad ce s.heap H locs) (hr : vx_Run p l e R s m args below meth c H locs cells slots mc ms (F0 m pc ls st0) rest (va_Qi (fun (r : Int32) (_ : Unit) => r = v ∧ cd) (fun _ t => WE D A L' ad' ce' t) A a) (kX D A k L ad ce) A)
    (kx : ∀ (E : String) (cx : Cell) (q9 : Addr) (H1 : Heap) (locs1 : List Loc), kE E k → wk D A L ad ce s.heap H1 locs1 → H1[q9]? = some cx → cx.vm = .none → s.vm.findClass E = some cx.cls → vx_W p l e R s m args below meth c H1 locs1 (cells + mc) (slots + ms) Q (F0 m pc ls rest) q9)
    (kk : ∀ (H1 : Heap) (locs1 : List Loc), cd → wk D A L' ad' ce' s.heap H1 locs1 → W p l e R s m args below meth c H1 locs1 (cells + mc) (slots + ms) Q (F0 m (pc + 3) ls (.int v :: rest))) : W p l e R s m args below meth c H locs cells slots Q (F0 m pc ls st0) :=
  vx_calli hr hw.2.2 (fun _ _ h => h) (fun _ h => h) (fun _ _ h => h) (fun E cx q9 _ t H1 locs1 ht _ _ hB _ _ hS h1 h2 h3 => kx E cx q9 H1 locs1 hB.1 ⟨by rw [← ht]; exact hB.2.1, hB.2.2, hS⟩ h1 h2 h3) (fun r _ t H1 locs1 ht _ hp hB _ _ hS => by
    obtain ⟨rfl, hcd⟩ := hp
    exact kk H1 locs1 hcd ⟨by rw [← ht]; exact hB.1, hB.2, hS⟩)
theorem x_cl {v : Int64} {k : Nat} {cd : Prop} {a : Array Value} (hw : wk D A L ad ce s.heap H locs) (hr : vx_Run p l e R s m args below meth c H locs cells slots mc ms (F0 m pc ls st0) rest (va_Ql (fun (r : Int64) (_ : Unit) => r = v ∧ cd) (fun _ t => WE D A L' ad' ce' t) A a) (kX D A k L ad ce) A)
    (kx : ∀ (E : String) (cx : Cell) (q9 : Addr) (H1 : Heap) (locs1 : List Loc), kE E k → wk D A L ad ce s.heap H1 locs1 → H1[q9]? = some cx → cx.vm = .none → s.vm.findClass E = some cx.cls → vx_W p l e R s m args below meth c H1 locs1 (cells + mc) (slots + ms) Q (F0 m pc ls rest) q9)
    (kk : ∀ (H1 : Heap) (locs1 : List Loc), cd → wk D A L' ad' ce' s.heap H1 locs1 → W p l e R s m args below meth c H1 locs1 (cells + mc) (slots + ms) Q (F0 m (pc + 3) ls (.long v :: rest))) : W p l e R s m args below meth c H locs cells slots Q (F0 m pc ls st0) :=
  vx_calll hr hw.2.2 (fun _ _ h => h) (fun _ h => h) (fun _ _ h => h) (fun E cx q9 _ t H1 locs1 ht _ _ hB _ _ hS h1 h2 h3 => kx E cx q9 H1 locs1 hB.1 ⟨by rw [← ht]; exact hB.2.1, hB.2.2, hS⟩ h1 h2 h3) (fun r _ t H1 locs1 ht _ hp hB _ _ hS => by
    obtain ⟨rfl, hcd⟩ := hp
    exact kk H1 locs1 hcd ⟨by rw [← ht]; exact hB.1, hB.2, hS⟩)
theorem x_cv {k : Nat} {cd : Prop} {a : Array Value} (hw : wk D A L ad ce s.heap H locs) (hr : vx_Run p l e R s m args below meth c H locs cells slots mc ms (F0 m pc ls st0) rest (va_Qv (fun (_ : Unit) => cd) (fun _ t => WE D A L' ad' ce' t) A a) (kX D A k L ad ce) A)
    (kx : ∀ (E : String) (cx : Cell) (q9 : Addr) (H1 : Heap) (locs1 : List Loc), kE E k → wk D A L ad ce s.heap H1 locs1 → H1[q9]? = some cx → cx.vm = .none → s.vm.findClass E = some cx.cls → vx_W p l e R s m args below meth c H1 locs1 (cells + mc) (slots + ms) Q (F0 m pc ls rest) q9)
    (kk : ∀ (H1 : Heap) (locs1 : List Loc), cd → wk D A L' ad' ce' s.heap H1 locs1 → W p l e R s m args below meth c H1 locs1 (cells + mc) (slots + ms) Q (F0 m (pc + 3) ls rest)) : W p l e R s m args below meth c H locs cells slots Q (F0 m pc ls st0) :=
  vx_callv hr hw.2.2 (fun _ _ h => h) (fun _ h => h) (fun _ _ h => h) (fun E cx q9 _ t H1 locs1 ht _ _ hB _ _ hS h1 h2 h3 => kx E cx q9 H1 locs1 hB.1 ⟨by rw [← ht]; exact hB.2.1, hB.2.2, hS⟩ h1 h2 h3) (fun _ t H1 locs1 ht _ hp hB _ _ hS => kk H1 locs1 hp ⟨by rw [← ht]; exact hB.1, hB.2, hS⟩)
theorem x_cq {v : Nat} {k : Nat} {cd : Prop} {a : Array Value} (hw : wk D A L ad ce s.heap H locs) (hr : vx_Run p l e R s m args below meth c H locs cells slots mc ms (F0 m pc ls st0) rest (va_Qq (fun (r : Option Nat) (_ : Unit) => r = some v ∧ cd) (fun _ t => WE D A L' ad' ce' t) A a) (kX D A k L ad ce) A)
    (kx : ∀ (E : String) (cx : Cell) (q9 : Addr) (H1 : Heap) (locs1 : List Loc), kE E k → wk D A L ad ce s.heap H1 locs1 → H1[q9]? = some cx → cx.vm = .none → s.vm.findClass E = some cx.cls → vx_W p l e R s m args below meth c H1 locs1 (cells + mc) (slots + ms) Q (F0 m pc ls rest) q9)
    (kk : ∀ (H1 : Heap) (locs1 : List Loc), cd → wk D A L' ad' ce' s.heap H1 locs1 → W p l e R s m args below meth c H1 locs1 (cells + mc) (slots + ms) Q (F0 m (pc + 3) ls (.ref v :: rest))) : W p l e R s m args below meth c H locs cells slots Q (F0 m pc ls st0) :=
  vx_callq hr hw.2.2 (fun _ _ h => h) (fun _ h => h) (fun _ _ h => h) (fun E cx q9 _ t H1 locs1 ht _ _ hB _ _ hS h1 h2 h3 => kx E cx q9 H1 locs1 hB.1 ⟨by rw [← ht]; exact hB.2.1, hB.2.2, hS⟩ h1 h2 h3) (fun r _ t H1 locs1 ht _ hp hB _ _ hS => by
    obtain ⟨rfl, hcd⟩ := hp
    exact kk H1 locs1 hcd ⟨by rw [← ht]; exact hB.1, hB.2, hS⟩)
theorem x_out {k : Nat} {E : String} {cx : Cell} {q : Addr} {Qc : Array Value → State → Outcome → State → Prop} (hexn : ∀ x ∈ c.exceptionTable.toList, False) (hlocks : meth.locks = false) (hw : wk D A L ad ce s.heap H locs) (h1 : H[q]? = some cx) (h2 : cx.vm = .none) (h3 : s.vm.findClass E = some cx.cls) (hk : kE E k) (hc : cells ≤ mc) (hs : slots ≤ ms) :
    vx_W p l e R s m args below meth c H locs cells slots (vx_MQ below Qc (kX D A k L ad ce) args s mc ms A) (F0 m pc ls rest) q :=
  vx_out (fun x h => (hexn x h).elim) hlocks h1 h2 h3 (fun t ht _ => ⟨(), trivial, ⟨hk, by rw [ht]; exact hw.1, hw.2.1⟩, hw.2.2.F ht⟩) hw.2.2.2.2 hc hs
theorem x_iret {v v0 : Int32} {cd : Prop} {ty : FieldType} {XC : String → State → State → Prop} (hx : p.tables.exec = Jvm.exec) (hb : c.code = cc) (hr : meth.sig.returnType = some ty) (hlocks : meth.locks = false) (hn : narrow ty (.int v) = .int v) (hw : wk D A L ad ce s.heap H locs) (hv : v0 = v) (hcd : cd) (hce : ce' = ce) (hc : cells ≤ mc) (hs : slots ≤ ms) (hdg : decode cc pc = .ok (.ireturn, 1)) : W p l e R s m args below meth c H locs cells slots (vx_MQ below (va_Qi (fun (r : Int32) (_ : Unit) => r = v0 ∧ cd) (fun _ t => WE D A L ad ce' t) A) XC args s mc ms A) (F0 m pc ls [.int v]) := by
  subst hv; subst hce
  exact W.widen hc hs (vx_ret (W.zret hx hb hr hn (fun t ht _ => ⟨⟨_, (), rfl, ⟨rfl, hcd⟩, by rw [ht]; exact hw.1, hw.2.1⟩, hw.2.2.F ht⟩) hw.2.2.2.2 hdg hlocks))
theorem x_lret {v v0 : Int64} {cd : Prop} {XC : String → State → State → Prop} (hx : p.tables.exec = Jvm.exec) (hb : c.code = cc) (hr : meth.sig.returnType = some .long) (hlocks : meth.locks = false) (hw : wk D A L ad ce s.heap H locs) (hv : v0 = v) (hcd : cd) (hce : ce' = ce) (hc : cells ≤ mc) (hs : slots ≤ ms) (hdg : decode cc pc = .ok (.lreturn, 1)) : W p l e R s m args below meth c H locs cells slots (vx_MQ below (va_Ql (fun (r : Int64) (_ : Unit) => r = v0 ∧ cd) (fun _ t => WE D A L ad ce' t) A) XC args s mc ms A) (F0 m pc ls [.long v]) := by
  subst hv; subst hce
  exact W.widen hc hs (vx_ret (W.lret hx hb hr (fun t ht _ => ⟨⟨_, (), rfl, ⟨rfl, hcd⟩, by rw [ht]; exact hw.1, hw.2.1⟩, hw.2.2.F ht⟩) hw.2.2.2.2 hdg hlocks))
theorem x_vret {cd : Prop} {XC : String → State → State → Prop} (hx : p.tables.exec = Jvm.exec) (hb : c.code = cc) (hr : meth.sig.returnType = none) (hlocks : meth.locks = false) (hw : wk D A L ad ce s.heap H locs) (hcd : cd) (hce : ce' = ce) (hc : cells ≤ mc) (hs : slots ≤ ms) (hdg : decode cc pc = .ok (.return_, 1)) : W p l e R s m args below meth c H locs cells slots (vx_MQ below (va_Qv (fun (_ : Unit) => cd) (fun _ t => WE D A L ad ce' t) A) XC args s mc ms A) (F0 m pc ls []) := by
  subst hce
  exact W.widen hc hs (vx_ret (W.vret hx hb hr (fun t ht _ => ⟨⟨(), rfl, hcd, by rw [ht]; exact hw.1, hw.2.1⟩, hw.2.2.F ht⟩) hw.2.2.2.2 hdg hlocks))
theorem x_qret {v v0 : Nat} {cd : Prop} {rt : FieldType} {XC : String → State → State → Prop} (hx : p.tables.exec = Jvm.exec) (hb : c.code = cc) (hr : meth.sig.returnType = some rt) (hrt : (∃ n, rt = .object n) ∨ ∃ t, rt = .array t) (hlocks : meth.locks = false) (hw : wk D A L ad ce s.heap H locs) (hv : v0 = v) (hcd : cd) (hce : ce' = ce) (hc : cells ≤ mc) (hs : slots ≤ ms) (hdg : decode cc pc = .ok (.areturn, 1)) : W p l e R s m args below meth c H locs cells slots (vx_MQ below (va_Qq (fun (r : Option Nat) (_ : Unit) => r = some v0 ∧ cd) (fun _ t => WE D A L ad ce' t) A) XC args s mc ms A) (F0 m pc ls [.ref v]) := by
  subst hv; subst hce
  exact W.widen hc hs (vx_ret (W.aret hx hb hr hrt (Or.inr ⟨_, rfl⟩) (fun t ht _ => ⟨⟨some _, (), rfl, ⟨rfl, hcd⟩, by rw [ht]; exact hw.1, hw.2.1⟩, hw.2.2.F ht⟩) hw.2.2.2.2 hdg hlocks))
end KIT3
section COMP
/-! THE CLASS'S STATE: S f o k, the row f of the owner o at k -/
def clen (f : Nat) : Nat := match f with
  | 11 => 4 | 12 => 6 | 13 => 4 | 21 => 4 | 14 => 20 | 15 => 20 | 16 => 20 | 17 => 20 | 18 => 20 | 19 => 20 | 20 => 20 | _ => 12
def ccell (cI cJ : ClassId) (ad : Nat → Nat → Nat) (f o : Nat) (g : Nat → Int32) : va_E := match f with
  | 0 => .inr (5, [.ref (ad 1 0), .ref (ad 2 0), .ref (ad 3 0), .ref (ad 4 0), .ref (ad 5 0), .int (g 0), .int (g 1)])
  | 1 => .inr (2, [.ref (ad 7 0), .ref (ad 8 0), .ref (ad 9 0), .ref (ad 10 0), .ref (ad 11 0), .ref (ad 12 0), .int (g 0), .int (g 1)])
  | 2 => .inr (3, [.ref (ad 13 0), .ref (ad 14 0), .ref (ad 15 0), .ref (ad 16 0), .int (g 0)])
  | 3 => .inr (4, [.ref (ad 17 0), .ref (ad 18 0), .ref (ad 19 0), .ref (ad 20 0), .int (g 0)])
  | 4 => .inr (0, [.ref (ad 1 0), .ref (ad 2 0), .ref (ad 3 0), .ref (ad 21 0), .ref (ad 22 0), .ref (ad 23 0), .int (g 0)])
  | 5 => .inl (cJ, 8, .inr (.inr (.inr (.inr (fun k => if k < 8 then some (ad 6 k) else none)))))
  | 6 => .inr (1, [.ref (ad 24 o), .ref (ad 25 o), .ref (ad 26 o), .ref (ad 27 o), .ref (ad 28 o), .int (g 0), .int (g 1), .int (g 2)])
  | n + 7 => .inl (cI, clen (n + 7), .inl g)
def cK (cI cJ : ClassId) (ad : Nat → Nat → Nat) (ce : Nat → Nat → va_E) (S : Nat → Nat → Nat → Int32) : Nat → Nat → va_E := fun f o => if f < 30 then ccell cI cJ ad f o (S f o) else ce f o
def cid (f o : Nat) : Bool := if f = 6 then decide (o < 8) else if f < 24 then decide (o = 0) else if f < 29 then decide (o < 8) else false
theorem cidJ6 {j : Nat} (h : j < 8) : cid 6 j = true := decide_eq_true h
theorem cidJ24 {j : Nat} (h : j < 8) : cid 24 j = true := decide_eq_true h
theorem cidJ25 {j : Nat} (h : j < 8) : cid 25 j = true := decide_eq_true h
theorem cidJ26 {j : Nat} (h : j < 8) : cid 26 j = true := decide_eq_true h
theorem cidJ27 {j : Nat} (h : j < 8) : cid 27 j = true := decide_eq_true h
theorem cidJ28 {j : Nat} (h : j < 8) : cid 28 j = true := decide_eq_true h
variable {cI cJ : ClassId} {ad : Nat → Nat → Nat} {ce : Nat → Nat → va_E} {S T U : Nat → Nat → Nat → Int32} {o : Nat}
theorem cK_up {f i : Nat} {x : Int32} {e : va_E} (hf : f < 30) (he : e = ccell cI cJ ad f o (upd (S f o) i x)) : up2 (cK cI cJ ad ce S) f o e = cK cI cJ ad ce (up3 S f o i x) := by
  funext f' o'
  unfold up2 cK up3
  by_cases h1 : f' = f
  · subst h1
    rw [if_pos rfl, if_pos hf, if_pos rfl]
    by_cases h2 : o' = o
    · subst h2
      rw [if_pos rfl, if_pos rfl, he, if_pos hf]
    · rw [if_neg h2, if_neg h2, if_pos hf]
  · rw [if_neg h1, if_neg h1]
theorem cke_0 : cK cI cJ ad ce S 0 o = .inr (5, [.ref (ad 1 0), .ref (ad 2 0), .ref (ad 3 0), .ref (ad 4 0), .ref (ad 5 0), .int (S 0 o 0), .int (S 0 o 1)]) := rfl
theorem cke_1 : cK cI cJ ad ce S 1 o = .inr (2, [.ref (ad 7 0), .ref (ad 8 0), .ref (ad 9 0), .ref (ad 10 0), .ref (ad 11 0), .ref (ad 12 0), .int (S 1 o 0), .int (S 1 o 1)]) := rfl
theorem cke_2 : cK cI cJ ad ce S 2 o = .inr (3, [.ref (ad 13 0), .ref (ad 14 0), .ref (ad 15 0), .ref (ad 16 0), .int (S 2 o 0)]) := rfl
theorem cke_3 : cK cI cJ ad ce S 3 o = .inr (4, [.ref (ad 17 0), .ref (ad 18 0), .ref (ad 19 0), .ref (ad 20 0), .int (S 3 o 0)]) := rfl
theorem cke_4 : cK cI cJ ad ce S 4 o = .inr (0, [.ref (ad 1 0), .ref (ad 2 0), .ref (ad 3 0), .ref (ad 21 0), .ref (ad 22 0), .ref (ad 23 0), .int (S 4 o 0)]) := rfl
theorem cke_5 : cK cI cJ ad ce S 5 o = .inl (cJ, 8, .inr (.inr (.inr (.inr (fun k => if k < 8 then some (ad 6 k) else none))))) := rfl
theorem cke_6 : cK cI cJ ad ce S 6 o = .inr (1, [.ref (ad 24 o), .ref (ad 25 o), .ref (ad 26 o), .ref (ad 27 o), .ref (ad 28 o), .int (S 6 o 0), .int (S 6 o 1), .int (S 6 o 2)]) := rfl
theorem cke_7 : cK cI cJ ad ce S 7 o = .inl (cI, 12, .inl (S 7 o)) := rfl
theorem cke_8 : cK cI cJ ad ce S 8 o = .inl (cI, 12, .inl (S 8 o)) := rfl
theorem cke_9 : cK cI cJ ad ce S 9 o = .inl (cI, 12, .inl (S 9 o)) := rfl
theorem cke_10 : cK cI cJ ad ce S 10 o = .inl (cI, 12, .inl (S 10 o)) := rfl
theorem cke_11 : cK cI cJ ad ce S 11 o = .inl (cI, 4, .inl (S 11 o)) := rfl
theorem cke_12 : cK cI cJ ad ce S 12 o = .inl (cI, 6, .inl (S 12 o)) := rfl
theorem cke_13 : cK cI cJ ad ce S 13 o = .inl (cI, 4, .inl (S 13 o)) := rfl
theorem cke_14 : cK cI cJ ad ce S 14 o = .inl (cI, 20, .inl (S 14 o)) := rfl
theorem cke_15 : cK cI cJ ad ce S 15 o = .inl (cI, 20, .inl (S 15 o)) := rfl
theorem cke_16 : cK cI cJ ad ce S 16 o = .inl (cI, 20, .inl (S 16 o)) := rfl
theorem cke_17 : cK cI cJ ad ce S 17 o = .inl (cI, 20, .inl (S 17 o)) := rfl
theorem cke_18 : cK cI cJ ad ce S 18 o = .inl (cI, 20, .inl (S 18 o)) := rfl
theorem cke_19 : cK cI cJ ad ce S 19 o = .inl (cI, 20, .inl (S 19 o)) := rfl
theorem cke_20 : cK cI cJ ad ce S 20 o = .inl (cI, 20, .inl (S 20 o)) := rfl
theorem cke_21 : cK cI cJ ad ce S 21 o = .inl (cI, 4, .inl (S 21 o)) := rfl
theorem cke_22 : cK cI cJ ad ce S 22 o = .inl (cI, 12, .inl (S 22 o)) := rfl
theorem cke_23 : cK cI cJ ad ce S 23 o = .inl (cI, 12, .inl (S 23 o)) := rfl
theorem cke_24 : cK cI cJ ad ce S 24 o = .inl (cI, 12, .inl (S 24 o)) := rfl
theorem cke_25 : cK cI cJ ad ce S 25 o = .inl (cI, 12, .inl (S 25 o)) := rfl
theorem cke_26 : cK cI cJ ad ce S 26 o = .inl (cI, 12, .inl (S 26 o)) := rfl
theorem cke_27 : cK cI cJ ad ce S 27 o = .inl (cI, 12, .inl (S 27 o)) := rfl
theorem cke_28 : cK cI cJ ad ce S 28 o = .inl (cI, 12, .inl (S 28 o)) := rfl
/-- the counters stay within the document's bounds -/
def CI (S : Nat → Nat → Nat → Int32) : Prop := (0 ≤ (S 1 0 0).toInt ∧ (S 1 0 0).toInt ≤ 12) ∧ (0 ≤ (S 1 0 1).toInt ∧ (S 1 0 1).toInt ≤ 6) ∧ (0 ≤ (S 2 0 0).toInt ∧ (S 2 0 0).toInt ≤ 20) ∧ (0 ≤ (S 3 0 0).toInt ∧ (S 3 0 0).toInt ≤ 20) ∧ (0 ≤ (S 0 0 0).toInt ∧ (S 0 0 0).toInt ≤ 8)
theorem CI.le1 (h : CI S) {n : Nat} (hn : 12 ≤ n) : (S 1 0 0).toInt ≤ n := by have := h.1.2; omega
theorem CI.le2 (h : CI S) {n : Nat} (hn : 6 ≤ n) : (S 1 0 1).toInt ≤ n := by have := h.2.1.2; omega
theorem CI.le3 (h : CI S) {n : Nat} (hn : 20 ≤ n) : (S 2 0 0).toInt ≤ n := by have := h.2.2.1.2; omega
theorem CI.le4 (h : CI S) {n : Nat} (hn : 20 ≤ n) : (S 3 0 0).toInt ≤ n := by have := h.2.2.2.1.2; omega
theorem CI.le5 (h : CI S) {n : Nat} (hn : 8 ≤ n) : (S 0 0 0).toInt ≤ n := by have := h.2.2.2.2.2; omega
theorem CI.n1 (h : CI S) : (S 1 0 0).toNatClampNeg ≤ 12 := cn_le h.1.2
theorem CI.n2 (h : CI S) : (S 1 0 1).toNatClampNeg ≤ 6 := cn_le h.2.1.2
theorem CI.n3 (h : CI S) : (S 2 0 0).toNatClampNeg ≤ 20 := cn_le h.2.2.1.2
theorem CI.n4 (h : CI S) : (S 3 0 0).toNatClampNeg ≤ 20 := cn_le h.2.2.2.1.2
theorem CI.n5 (h : CI S) : (S 0 0 0).toNatClampNeg ≤ 8 := cn_le h.2.2.2.2.2
theorem lt_nle {x b : Int32} (h : x < b) : ¬ b ≤ x := by
  rw [Int32.lt_iff_toInt_lt] at h
  rw [Int32.le_iff_toInt_le]
  omega
theorem k_inC {x b : Int32} {n : Nat} (h0 : 0 ≤ x.toInt) (h2 : ¬ b ≤ x) (hb : b.toInt ≤ n) : vp_in x n := by
  rw [vp_in_iff]
  rw [Int32.le_iff_toInt_le] at h2
  omega
theorem CI.in1 (h : CI S) (c : ¬ 12 ≤ S 1 0 0) : vp_in (S 1 0 0) 12 := k_inC h.1.1 c (by decide)
theorem CI.in2 (h : CI S) (c : ¬ 6 ≤ S 1 0 1) : vp_in (S 1 0 1) 6 := k_inC h.2.1.1 c (by decide)
theorem CI.in3 (h : CI S) (c : ¬ 20 ≤ S 2 0 0) : vp_in (S 2 0 0) 20 := k_inC h.2.2.1.1 c (by decide)
theorem CI.in4 (h : CI S) (c : ¬ 20 ≤ S 3 0 0) : vp_in (S 3 0 0) 20 := k_inC h.2.2.2.1.1 c (by decide)
theorem CI.in5 (h : CI S) (c : ¬ 8 ≤ S 0 0 0) : vp_in (S 0 0 0) 8 := k_inC h.2.2.2.2.1 c (by decide)
theorem cn_nn {x : Int32} (h : ¬ x < 0) : x = nI x.toNatClampNeg := cn_eq (by
  rw [Int32.lt_iff_toInt_lt] at h
  have h0 : (0 : Int32).toInt = 0 := rfl
  omega)
theorem inc_le {x : Int32} {n : Nat} {b : Int32} (h0 : 0 ≤ x.toInt) (hb : b.toInt = n) (hn : n < 2 ^ 31) (c : ¬ b ≤ x) : 0 ≤ (x + 1).toInt ∧ (x + 1).toInt ≤ n := by
  rw [Int32.le_iff_toInt_le] at c
  have e : x + 1 = nI (x.toNatClampNeg + 1) := by
    conv => lhs; rw [cn_eq h0]
    exact nI_1 _
  have h2 : x.toNatClampNeg = x.toInt.toNat := rfl
  rw [e, nI_toInt (by omega)]
  omega
/-- the counters are the same -/
def SF (S T : Nat → Nat → Nat → Int32) : Prop := T 0 = S 0 ∧ T 1 = S 1 ∧ T 2 = S 2 ∧ T 3 = S 3
theorem SF.rf (S : Nat → Nat → Nat → Int32) : SF S S := ⟨rfl, rfl, rfl, rfl⟩
theorem SF.tr (h : SF S T) (k : SF T U) : SF S U := ⟨k.1.trans h.1, k.2.1.trans h.2.1, k.2.2.1.trans h.2.2.1, k.2.2.2.trans h.2.2.2⟩
theorem SF.up {f i : Nat} {x : Int32} (hf : 4 ≤ f) (h : SF S T) : SF S (up3 T f o i x) := by
  have k : ∀ g, g < 4 → up3 T f o i x g = T g := fun g hg => by unfold up3; rw [if_neg (by omega)]
  exact ⟨(k 0 (by decide)).trans h.1, (k 1 (by decide)).trans h.2.1, (k 2 (by decide)).trans h.2.2.1, (k 3 (by decide)).trans h.2.2.2⟩
theorem SF.ci (h : SF S T) (k : CI S) : CI T := by
  unfold CI; rw [h.1, h.2.1, h.2.2.1, h.2.2.2]; exact k
theorem SF.q5 {q : Nat} (h : SF S T) (hq : q < (S 0 0 0).toNatClampNeg) : q < (T 0 0 0).toNatClampNeg := by rw [h.1]; exact hq
theorem lp_o' {i N : Nat} {b : Int32} (hb : b = nI N) (h : i + 0 = N + 1) (hN : N + 1 < 2 ^ 31) : b < nI i := by
  subst hb; rw [show i = N + 1 by omega]; exact nI_lt (by omega) hN
theorem lp_i' {i k N : Nat} {b : Int32} (hb : b = nI N) (h : i + (k + 1) = N + 1) (hN : N + 1 < 2 ^ 31) : ¬ b < nI i := by
  subst hb; exact nI_nlt (by omega) (by omega)
theorem SF.b1 (h : SF S T) (k : CI S) : T 1 0 0 = nI (S 1 0 0).toNatClampNeg := by rw [h.2.1]; exact cn_eq k.1.1
theorem SF.b2 (h : SF S T) (k : CI S) : T 1 0 1 = nI (S 1 0 1).toNatClampNeg := by rw [h.2.1]; exact cn_eq k.2.1.1
theorem SF.b3 (h : SF S T) (k : CI S) : T 2 0 0 = nI (S 2 0 0).toNatClampNeg := by rw [h.2.2.1]; exact cn_eq k.2.2.1.1
theorem SF.b4 (h : SF S T) (k : CI S) : T 3 0 0 = nI (S 3 0 0).toNatClampNeg := by rw [h.2.2.2]; exact cn_eq k.2.2.2.1.1
theorem SF.b5 (h : SF S T) (k : CI S) : T 0 0 0 = nI (S 0 0 0).toNatClampNeg := by rw [h.1]; exact cn_eq k.2.2.2.2.1
end COMP
end
section
theorem inB_X0 : ∀ w ∈ u_ws RX0 TX0 7, w ∈ BIG := kBu (by decide +kernel) (by decide +kernel)
theorem inB_X1 : ∀ w ∈ u_ws RX1 TX1 8, w ∈ BIG := kBu (by decide +kernel) (by decide +kernel)
theorem inB_X2 : ∀ w ∈ u_ws RX2 TX2 8, w ∈ BIG := kBu (by decide +kernel) (by decide +kernel)
theorem inB_X3 : ∀ w ∈ u_ws RX3 TX3 5, w ∈ BIG := kBu (by decide +kernel) (by decide +kernel)
theorem inB_X4 : ∀ w ∈ u_ws RX4 TX4 5, w ∈ BIG := kBu (by decide +kernel) (by decide +kernel)
theorem inB_X5 : ∀ w ∈ u_ws RX5 TX5 7, w ∈ BIG := kBu (by decide +kernel) (by decide +kernel)
theorem w_in_L : Cond.initialized RL ∈ BIG := kB 0 (by decide +kernel) (by decide +kernel)
theorem w_in_X5 : Cond.initialized RX5 ∈ BIG := kB 1 (by decide +kernel) (by decide +kernel)
theorem w_in_X2 : Cond.initialized RX2 ∈ BIG := kB 2 (by decide +kernel) (by decide +kernel)
theorem w_in_X3 : Cond.initialized RX3 ∈ BIG := kB 3 (by decide +kernel) (by decide +kernel)
theorem w_in_X4 : Cond.initialized RX4 ∈ BIG := kB 4 (by decide +kernel) (by decide +kernel)
theorem w_in_X0 : Cond.initialized RX0 ∈ BIG := kB 5 (by decide +kernel) (by decide +kernel)
theorem w_in_X1 : Cond.initialized RX1 ∈ BIG := kB 6 (by decide +kernel) (by decide +kernel)
theorem w_in_java_lang_Throwable : Cond.initialized "java/lang/Throwable" ∈ BIG := kB 7 (by decide +kernel) (by decide +kernel)
theorem w_in_java_lang_Exception : Cond.initialized "java/lang/Exception" ∈ BIG := kB 8 (by decide +kernel) (by decide +kernel)
theorem w_in_java_lang_RuntimeException : Cond.initialized "java/lang/RuntimeException" ∈ BIG := kB 9 (by decide +kernel) (by decide +kernel)
theorem w_in_java_lang_IllegalArgumentException : Cond.initialized "java/lang/IllegalArgumentException" ∈ BIG := kB 10 (by decide +kernel) (by decide +kernel)
theorem w_in_java_lang_IllegalStateException : Cond.initialized "java/lang/IllegalStateException" ∈ BIG := kB 11 (by decide +kernel) (by decide +kernel)
theorem w_in_java_lang_IndexOutOfBoundsException : Cond.initialized "java/lang/IndexOutOfBoundsException" ∈ BIG := kB 12 (by decide +kernel) (by decide +kernel)
theorem w_in_J6 : Cond.initialized RJ6 ∈ BIG := kB 13 (by decide +kernel) (by decide +kernel)
theorem w_in_J9 : Cond.initialized RJ9 ∈ BIG := kB 14 (by decide +kernel) (by decide +kernel)
theorem w_cl_L_9 : Cond.classLink RL 9 "OnboardingWorks" ∈ BIG := kB 15 (by decide +kernel) (by decide +kernel)
theorem w_ml_L_11 : Cond.methodLink RL 11 yX5_init ∈ BIG := kB 17 (by decide +kernel) (by decide +kernel)
theorem w_im_X5_init : Cond.instanceMethod yX5_init ∈ BIG := kB 18 (by decide +kernel) (by decide +kernel)
theorem w_co_X5_init : Cond.code yX5_init cX5_init 2 none ∈ BIG := kB 19 (by decide +kernel) (by decide +kernel)
theorem w_cl_X5_7 : Cond.classLink RX5 7 "OnboardingWorks$Plan" ∈ BIG := kB 23 (by decide +kernel) (by decide +kernel)
theorem w_im_X2_init : Cond.instanceMethod yX2_init ∈ BIG := kB 26 (by decide +kernel) (by decide +kernel)
theorem w_co_X2_init : Cond.code yX2_init cX2_init 1 none ∈ BIG := kB 27 (by decide +kernel) (by decide +kernel)
theorem w_f_X2_9 : Cond.fieldLink RX2 9 "OnboardingWorks$Plan" "kinds" "[I" ∈ BIG := kB 29 (by decide +kernel) (by decide +kernel)
theorem w_f_X0_93 : Cond.fieldLink RX0 93 "OnboardingWorks$Plan" "kinds" "[I" ∈ BIG := kB 30 (by decide +kernel) (by decide +kernel)
theorem w_f_X5_126 : Cond.fieldLink RX5 126 "OnboardingWorks$Plan" "kinds" "[I" ∈ BIG := kB 31 (by decide +kernel) (by decide +kernel)
theorem w_f_X2_15 : Cond.fieldLink RX2 15 "OnboardingWorks$Plan" "baseLengths" "[I" ∈ BIG := kB 32 (by decide +kernel) (by decide +kernel)
theorem w_f_X2_18 : Cond.fieldLink RX2 18 "OnboardingWorks$Plan" "needs" "[I" ∈ BIG := kB 33 (by decide +kernel) (by decide +kernel)
theorem w_f_X0_90 : Cond.fieldLink RX0 90 "OnboardingWorks$Plan" "needs" "[I" ∈ BIG := kB 34 (by decide +kernel) (by decide +kernel)
theorem w_f_X5_375 : Cond.fieldLink RX5 375 "OnboardingWorks$Plan" "needs" "[I" ∈ BIG := kB 35 (by decide +kernel) (by decide +kernel)
theorem w_f_X2_21 : Cond.fieldLink RX2 21 "OnboardingWorks$Plan" "ofs" "[I" ∈ BIG := kB 36 (by decide +kernel) (by decide +kernel)
theorem w_f_X0_105 : Cond.fieldLink RX0 105 "OnboardingWorks$Plan" "ofs" "[I" ∈ BIG := kB 37 (by decide +kernel) (by decide +kernel)
theorem w_f_X5_321 : Cond.fieldLink RX5 321 "OnboardingWorks$Plan" "ofs" "[I" ∈ BIG := kB 38 (by decide +kernel) (by decide +kernel)
theorem w_f_X2_24 : Cond.fieldLink RX2 24 "OnboardingWorks$Plan" "roles" "[I" ∈ BIG := kB 39 (by decide +kernel) (by decide +kernel)
theorem w_f_X5_81 : Cond.fieldLink RX5 81 "OnboardingWorks$Plan" "roles" "[I" ∈ BIG := kB 40 (by decide +kernel) (by decide +kernel)
theorem w_f_X2_27 : Cond.fieldLink RX2 27 "OnboardingWorks$Plan" "rights" "[I" ∈ BIG := kB 41 (by decide +kernel) (by decide +kernel)
theorem w_f_X5_273 : Cond.fieldLink RX5 273 "OnboardingWorks$Plan" "rights" "[I" ∈ BIG := kB 42 (by decide +kernel) (by decide +kernel)
theorem w_f_X2_30 : Cond.fieldLink RX2 30 "OnboardingWorks$Plan" "stepCount" "I" ∈ BIG := kB 43 (by decide +kernel) (by decide +kernel)
theorem w_f_X5_120 : Cond.fieldLink RX5 120 "OnboardingWorks$Plan" "stepCount" "I" ∈ BIG := kB 44 (by decide +kernel) (by decide +kernel)
theorem w_f_X2_34 : Cond.fieldLink RX2 34 "OnboardingWorks$Plan" "rightCount" "I" ∈ BIG := kB 45 (by decide +kernel) (by decide +kernel)
theorem w_f_X5_249 : Cond.fieldLink RX5 249 "OnboardingWorks$Plan" "rightCount" "I" ∈ BIG := kB 46 (by decide +kernel) (by decide +kernel)
theorem w_cl_X5_16 : Cond.classLink RX5 16 "OnboardingWorks$Storeroom" ∈ BIG := kB 65 (by decide +kernel) (by decide +kernel)
theorem w_im_X3_init : Cond.instanceMethod yX3_init ∈ BIG := kB 68 (by decide +kernel) (by decide +kernel)
theorem w_co_X3_init : Cond.code yX3_init cX3_init 1 none ∈ BIG := kB 69 (by decide +kernel) (by decide +kernel)
theorem w_f_X3_9 : Cond.fieldLink RX3 9 "OnboardingWorks$Storeroom" "pieces" "[I" ∈ BIG := kB 71 (by decide +kernel) (by decide +kernel)
theorem w_f_X5_99 : Cond.fieldLink RX5 99 "OnboardingWorks$Storeroom" "pieces" "[I" ∈ BIG := kB 72 (by decide +kernel) (by decide +kernel)
theorem w_f_X3_15 : Cond.fieldLink RX3 15 "OnboardingWorks$Storeroom" "orderItems" "[I" ∈ BIG := kB 73 (by decide +kernel) (by decide +kernel)
theorem w_f_X3_18 : Cond.fieldLink RX3 18 "OnboardingWorks$Storeroom" "orderPieces" "[I" ∈ BIG := kB 74 (by decide +kernel) (by decide +kernel)
theorem w_f_X3_21 : Cond.fieldLink RX3 21 "OnboardingWorks$Storeroom" "orderDays" "[I" ∈ BIG := kB 75 (by decide +kernel) (by decide +kernel)
theorem w_f_X3_28 : Cond.fieldLink RX3 28 "OnboardingWorks$Storeroom" "orderCount" "I" ∈ BIG := kB 76 (by decide +kernel) (by decide +kernel)
theorem w_f_X5_252 : Cond.fieldLink RX5 252 "OnboardingWorks$Storeroom" "orderCount" "I" ∈ BIG := kB 77 (by decide +kernel) (by decide +kernel)
theorem w_cl_X5_23 : Cond.classLink RX5 23 "OnboardingWorks$Timetable" ∈ BIG := kB 89 (by decide +kernel) (by decide +kernel)
theorem w_im_X4_init : Cond.instanceMethod yX4_init ∈ BIG := kB 92 (by decide +kernel) (by decide +kernel)
theorem w_co_X4_init : Cond.code yX4_init cX4_init 1 none ∈ BIG := kB 93 (by decide +kernel) (by decide +kernel)
theorem w_f_X4_9 : Cond.fieldLink RX4 9 "OnboardingWorks$Timetable" "courses" "[I" ∈ BIG := kB 95 (by decide +kernel) (by decide +kernel)
theorem w_f_X5_146 : Cond.fieldLink RX5 146 "OnboardingWorks$Timetable" "courses" "[I" ∈ BIG := kB 96 (by decide +kernel) (by decide +kernel)
theorem w_f_X4_15 : Cond.fieldLink RX4 15 "OnboardingWorks$Timetable" "days" "[I" ∈ BIG := kB 97 (by decide +kernel) (by decide +kernel)
theorem w_f_X5_149 : Cond.fieldLink RX5 149 "OnboardingWorks$Timetable" "days" "[I" ∈ BIG := kB 98 (by decide +kernel) (by decide +kernel)
theorem w_f_X4_18 : Cond.fieldLink RX4 18 "OnboardingWorks$Timetable" "seats" "[I" ∈ BIG := kB 99 (by decide +kernel) (by decide +kernel)
theorem w_f_X5_152 : Cond.fieldLink RX5 152 "OnboardingWorks$Timetable" "seats" "[I" ∈ BIG := kB 100 (by decide +kernel) (by decide +kernel)
theorem w_f_X4_21 : Cond.fieldLink RX4 21 "OnboardingWorks$Timetable" "taken" "[I" ∈ BIG := kB 101 (by decide +kernel) (by decide +kernel)
theorem w_f_X5_155 : Cond.fieldLink RX5 155 "OnboardingWorks$Timetable" "taken" "[I" ∈ BIG := kB 102 (by decide +kernel) (by decide +kernel)
theorem w_f_X4_24 : Cond.fieldLink RX4 24 "OnboardingWorks$Timetable" "sessionCount" "I" ∈ BIG := kB 103 (by decide +kernel) (by decide +kernel)
theorem w_f_X5_139 : Cond.fieldLink RX5 139 "OnboardingWorks$Timetable" "sessionCount" "I" ∈ BIG := kB 104 (by decide +kernel) (by decide +kernel)
theorem w_cl_X5_30 : Cond.classLink RX5 30 "OnboardingWorks$Forecast" ∈ BIG := kB 116 (by decide +kernel) (by decide +kernel)
theorem w_ml_X5_32 : Cond.methodLink RX5 32 yX0_init ∈ BIG := kB 118 (by decide +kernel) (by decide +kernel)
theorem w_im_X0_init : Cond.instanceMethod yX0_init ∈ BIG := kB 119 (by decide +kernel) (by decide +kernel)
theorem w_co_X0_init : Cond.code yX0_init cX0_init 4 none ∈ BIG := kB 120 (by decide +kernel) (by decide +kernel)
theorem w_f_X0_21 : Cond.fieldLink RX0 21 "OnboardingWorks$Forecast" "plan" "LOnboardingWorks$Plan;" ∈ BIG := kB 122 (by decide +kernel) (by decide +kernel)
theorem w_f_X0_25 : Cond.fieldLink RX0 25 "OnboardingWorks$Forecast" "storeroom" "LOnboardingWorks$Storeroom;" ∈ BIG := kB 123 (by decide +kernel) (by decide +kernel)
theorem w_f_X0_29 : Cond.fieldLink RX0 29 "OnboardingWorks$Forecast" "timetable" "LOnboardingWorks$Timetable;" ∈ BIG := kB 124 (by decide +kernel) (by decide +kernel)
theorem w_f_X0_9 : Cond.fieldLink RX0 9 "OnboardingWorks$Forecast" "supplyDays" "[I" ∈ BIG := kB 125 (by decide +kernel) (by decide +kernel)
theorem w_f_X0_15 : Cond.fieldLink RX0 15 "OnboardingWorks$Forecast" "begins" "[I" ∈ BIG := kB 126 (by decide +kernel) (by decide +kernel)
theorem w_f_X5_362 : Cond.fieldLink RX5 362 "OnboardingWorks$Forecast" "begins" "[I" ∈ BIG := kB 127 (by decide +kernel) (by decide +kernel)
theorem w_f_X0_18 : Cond.fieldLink RX0 18 "OnboardingWorks$Forecast" "ends" "[I" ∈ BIG := kB 128 (by decide +kernel) (by decide +kernel)
theorem w_f_X5_369 : Cond.fieldLink RX5 369 "OnboardingWorks$Forecast" "ends" "[I" ∈ BIG := kB 129 (by decide +kernel) (by decide +kernel)
theorem w_f_X0_41 : Cond.fieldLink RX0 41 "OnboardingWorks$Forecast" "tomorrow" "I" ∈ BIG := kB 130 (by decide +kernel) (by decide +kernel)
theorem w_cl_X5_39 : Cond.classLink RX5 39 "OnboardingWorks$Joiner" ∈ BIG := kB 146 (by decide +kernel) (by decide +kernel)
theorem w_ml_X5_45 : Cond.methodLink RX5 45 yX1_init ∈ BIG := kB 149 (by decide +kernel) (by decide +kernel)
theorem w_im_X1_init : Cond.instanceMethod yX1_init ∈ BIG := kB 150 (by decide +kernel) (by decide +kernel)
theorem w_co_X1_init : Cond.code yX1_init cX1_init 2 none ∈ BIG := kB 151 (by decide +kernel) (by decide +kernel)
theorem w_f_X1_9 : Cond.fieldLink RX1 9 "OnboardingWorks$Joiner" "states" "[I" ∈ BIG := kB 153 (by decide +kernel) (by decide +kernel)
theorem w_f_X0_77 : Cond.fieldLink RX0 77 "OnboardingWorks$Joiner" "states" "[I" ∈ BIG := kB 154 (by decide +kernel) (by decide +kernel)
theorem w_f_X2_46 : Cond.fieldLink RX2 46 "OnboardingWorks$Joiner" "states" "[I" ∈ BIG := kB 155 (by decide +kernel) (by decide +kernel)
theorem w_f_X5_195 : Cond.fieldLink RX5 195 "OnboardingWorks$Joiner" "states" "[I" ∈ BIG := kB 156 (by decide +kernel) (by decide +kernel)
theorem w_f_X1_15 : Cond.fieldLink RX1 15 "OnboardingWorks$Joiner" "begins" "[I" ∈ BIG := kB 157 (by decide +kernel) (by decide +kernel)
theorem w_f_X0_80 : Cond.fieldLink RX0 80 "OnboardingWorks$Joiner" "begins" "[I" ∈ BIG := kB 158 (by decide +kernel) (by decide +kernel)
theorem w_f_X5_333 : Cond.fieldLink RX5 333 "OnboardingWorks$Joiner" "begins" "[I" ∈ BIG := kB 159 (by decide +kernel) (by decide +kernel)
theorem w_f_X1_18 : Cond.fieldLink RX1 18 "OnboardingWorks$Joiner" "lengths" "[I" ∈ BIG := kB 160 (by decide +kernel) (by decide +kernel)
theorem w_f_X2_49 : Cond.fieldLink RX2 49 "OnboardingWorks$Joiner" "lengths" "[I" ∈ BIG := kB 161 (by decide +kernel) (by decide +kernel)
theorem w_f_X5_327 : Cond.fieldLink RX5 327 "OnboardingWorks$Joiner" "lengths" "[I" ∈ BIG := kB 162 (by decide +kernel) (by decide +kernel)
theorem w_f_X1_21 : Cond.fieldLink RX1 21 "OnboardingWorks$Joiner" "booked" "[I" ∈ BIG := kB 163 (by decide +kernel) (by decide +kernel)
theorem w_f_X0_96 : Cond.fieldLink RX0 96 "OnboardingWorks$Joiner" "booked" "[I" ∈ BIG := kB 164 (by decide +kernel) (by decide +kernel)
theorem w_f_X5_198 : Cond.fieldLink RX5 198 "OnboardingWorks$Joiner" "booked" "[I" ∈ BIG := kB 165 (by decide +kernel) (by decide +kernel)
theorem w_f_X1_24 : Cond.fieldLink RX1 24 "OnboardingWorks$Joiner" "losses" "[I" ∈ BIG := kB 166 (by decide +kernel) (by decide +kernel)
theorem w_f_X5_348 : Cond.fieldLink RX5 348 "OnboardingWorks$Joiner" "losses" "[I" ∈ BIG := kB 167 (by decide +kernel) (by decide +kernel)
theorem w_f_X1_27 : Cond.fieldLink RX1 27 "OnboardingWorks$Joiner" "steps" "I" ∈ BIG := kB 168 (by decide +kernel) (by decide +kernel)
theorem w_f_X0_70 : Cond.fieldLink RX0 70 "OnboardingWorks$Joiner" "steps" "I" ∈ BIG := kB 169 (by decide +kernel) (by decide +kernel)
theorem w_f_X2_37 : Cond.fieldLink RX2 37 "OnboardingWorks$Joiner" "steps" "I" ∈ BIG := kB 170 (by decide +kernel) (by decide +kernel)
theorem w_f_X5_183 : Cond.fieldLink RX5 183 "OnboardingWorks$Joiner" "steps" "I" ∈ BIG := kB 171 (by decide +kernel) (by decide +kernel)
theorem w_f_X0_81 : Cond.fieldLink RX0 81 "OnboardingWorks$Joiner" "start" "I" ∈ BIG := kB 172 (by decide +kernel) (by decide +kernel)
theorem w_f_X5_186 : Cond.fieldLink RX5 186 "OnboardingWorks$Joiner" "start" "I" ∈ BIG := kB 173 (by decide +kernel) (by decide +kernel)
theorem w_f_X1_44 : Cond.fieldLink RX1 44 "OnboardingWorks$Joiner" "left" "Z" ∈ BIG := kB 174 (by decide +kernel) (by decide +kernel)
theorem w_f_X0_64 : Cond.fieldLink RX0 64 "OnboardingWorks$Joiner" "left" "Z" ∈ BIG := kB 175 (by decide +kernel) (by decide +kernel)
theorem w_f_X5_189 : Cond.fieldLink RX5 189 "OnboardingWorks$Joiner" "left" "Z" ∈ BIG := kB 176 (by decide +kernel) (by decide +kernel)
theorem w_f_X5_10 : Cond.fieldLink RX5 10 "OnboardingWorks" "plan" "LOnboardingWorks$Plan;" ∈ BIG := kB 194 (by decide +kernel) (by decide +kernel)
theorem w_f_X5_19 : Cond.fieldLink RX5 19 "OnboardingWorks" "storeroom" "LOnboardingWorks$Storeroom;" ∈ BIG := kB 195 (by decide +kernel) (by decide +kernel)
theorem w_f_X5_26 : Cond.fieldLink RX5 26 "OnboardingWorks" "timetable" "LOnboardingWorks$Timetable;" ∈ BIG := kB 196 (by decide +kernel) (by decide +kernel)
theorem w_f_X5_35 : Cond.fieldLink RX5 35 "OnboardingWorks" "forecast" "LOnboardingWorks$Forecast;" ∈ BIG := kB 197 (by decide +kernel) (by decide +kernel)
theorem w_f_X5_41 : Cond.fieldLink RX5 41 "OnboardingWorks" "joiners" "[LOnboardingWorks$Joiner;" ∈ BIG := kB 198 (by decide +kernel) (by decide +kernel)
theorem w_f_X5_174 : Cond.fieldLink RX5 174 "OnboardingWorks" "joinerCount" "I" ∈ BIG := kB 199 (by decide +kernel) (by decide +kernel)
theorem w_f_X5_160 : Cond.fieldLink RX5 160 "OnboardingWorks" "today" "I" ∈ BIG := kB 200 (by decide +kernel) (by decide +kernel)
theorem w_ml_L_22 : Cond.methodLink RL 22 yX5_step ∈ BIG := kB 216 (by decide +kernel) (by decide +kernel)
theorem w_im_X5_step : Cond.instanceMethod yX5_step ∈ BIG := kB 217 (by decide +kernel) (by decide +kernel)
theorem w_co_X5_step : Cond.code yX5_step cX5_step 6 (some .int) ∈ BIG := kB 219 (by decide +kernel) (by decide +kernel)
theorem w_ml_X5_46 : Cond.methodLink RX5 46 yX5_isWithin ∈ BIG := kB 220 (by decide +kernel) (by decide +kernel)
theorem w_st_X5_isWithin : Cond.static yX5_isWithin ∈ BIG := kB 221 (by decide +kernel) (by decide +kernel)
theorem w_co_X5_isWithin : Cond.code yX5_isWithin cX5_isWithin 3 (some .boolean) ∈ BIG := kB 222 (by decide +kernel) (by decide +kernel)
theorem w_ml_X5_50 : Cond.methodLink RX5 50 yX2_knows ∈ BIG := kB 223 (by decide +kernel) (by decide +kernel)
theorem w_im_X2_knows : Cond.instanceMethod yX2_knows ∈ BIG := kB 224 (by decide +kernel) (by decide +kernel)
theorem w_co_X2_knows : Cond.code yX2_knows cX2_knows 2 (some .boolean) ∈ BIG := kB 226 (by decide +kernel) (by decide +kernel)
theorem w_ml_X5_54 : Cond.methodLink RX5 54 yX5_isOfKind ∈ BIG := kB 227 (by decide +kernel) (by decide +kernel)
theorem w_st_X5_isOfKind : Cond.static yX5_isOfKind ∈ BIG := kB 228 (by decide +kernel) (by decide +kernel)
theorem w_co_X5_isOfKind : Cond.code yX5_isOfKind cX5_isOfKind 2 (some .boolean) ∈ BIG := kB 229 (by decide +kernel) (by decide +kernel)
theorem w_cl_X5_58 : Cond.classLink RX5 58 "java/lang/IllegalArgumentException" ∈ BIG := kB 230 (by decide +kernel) (by decide +kernel)
theorem w_ml_X5_65 : Cond.methodLink RX5 65 yX2_addStep ∈ BIG := kB 298 (by decide +kernel) (by decide +kernel)
theorem w_im_X2_addStep : Cond.instanceMethod yX2_addStep ∈ BIG := kB 299 (by decide +kernel) (by decide +kernel)
theorem w_co_X2_addStep : Cond.code yX2_addStep cX2_addStep 5 (some .int) ∈ BIG := kB 301 (by decide +kernel) (by decide +kernel)
theorem w_cl_X5_69 : Cond.classLink RX5 69 "java/lang/IllegalStateException" ∈ BIG := kB 302 (by decide +kernel) (by decide +kernel)
theorem w_ml_L_30 : Cond.methodLink RL 30 yX5_role ∈ BIG := kB 318 (by decide +kernel) (by decide +kernel)
theorem w_im_X5_role : Cond.instanceMethod yX5_role ∈ BIG := kB 319 (by decide +kernel) (by decide +kernel)
theorem w_co_X5_role : Cond.code yX5_role cX5_role 4 (some .int) ∈ BIG := kB 321 (by decide +kernel) (by decide +kernel)
theorem w_cl_X5_74 : Cond.classLink RX5 74 "java/lang/IndexOutOfBoundsException" ∈ BIG := kB 322 (by decide +kernel) (by decide +kernel)
theorem w_ml_L_26 : Cond.methodLink RL 26 yX5_right ∈ BIG := kB 339 (by decide +kernel) (by decide +kernel)
theorem w_im_X5_right : Cond.instanceMethod yX5_right ∈ BIG := kB 340 (by decide +kernel) (by decide +kernel)
theorem w_co_X5_right : Cond.code yX5_right cX5_right 3 (some .int) ∈ BIG := kB 342 (by decide +kernel) (by decide +kernel)
theorem w_ml_X5_85 : Cond.methodLink RX5 85 yX2_addRight ∈ BIG := kB 343 (by decide +kernel) (by decide +kernel)
theorem w_im_X2_addRight : Cond.instanceMethod yX2_addRight ∈ BIG := kB 344 (by decide +kernel) (by decide +kernel)
theorem w_co_X2_addRight : Cond.code yX2_addRight cX2_addRight 2 (some .int) ∈ BIG := kB 346 (by decide +kernel) (by decide +kernel)
theorem w_ml_L_46 : Cond.methodLink RL 46 yX5_stock ∈ BIG := kB 348 (by decide +kernel) (by decide +kernel)
theorem w_im_X5_stock : Cond.instanceMethod yX5_stock ∈ BIG := kB 349 (by decide +kernel) (by decide +kernel)
theorem w_co_X5_stock : Cond.code yX5_stock cX5_stock 3 (some .int) ∈ BIG := kB 351 (by decide +kernel) (by decide +kernel)
theorem w_ml_X5_95 : Cond.methodLink RX5 95 yX3_putIn ∈ BIG := kB 354 (by decide +kernel) (by decide +kernel)
theorem w_im_X3_putIn : Cond.instanceMethod yX3_putIn ∈ BIG := kB 355 (by decide +kernel) (by decide +kernel)
theorem w_co_X3_putIn : Cond.code yX3_putIn cX3_putIn 3 none ∈ BIG := kB 357 (by decide +kernel) (by decide +kernel)
theorem w_ml_L_49 : Cond.methodLink RL 49 yX5_order ∈ BIG := kB 358 (by decide +kernel) (by decide +kernel)
theorem w_im_X5_order : Cond.instanceMethod yX5_order ∈ BIG := kB 359 (by decide +kernel) (by decide +kernel)
theorem w_co_X5_order : Cond.code yX5_order cX5_order 5 (some .int) ∈ BIG := kB 361 (by decide +kernel) (by decide +kernel)
theorem w_ml_X5_102 : Cond.methodLink RX5 102 yX5_isAhead ∈ BIG := kB 362 (by decide +kernel) (by decide +kernel)
theorem w_im_X5_isAhead : Cond.instanceMethod yX5_isAhead ∈ BIG := kB 364 (by decide +kernel) (by decide +kernel)
theorem w_co_X5_isAhead : Cond.code yX5_isAhead cX5_isAhead 2 (some .boolean) ∈ BIG := kB 365 (by decide +kernel) (by decide +kernel)
theorem w_ml_X5_107 : Cond.methodLink RX5 107 yX3_addOrder ∈ BIG := kB 367 (by decide +kernel) (by decide +kernel)
theorem w_im_X3_addOrder : Cond.instanceMethod yX3_addOrder ∈ BIG := kB 368 (by decide +kernel) (by decide +kernel)
theorem w_co_X3_addOrder : Cond.code yX3_addOrder cX3_addOrder 4 (some .int) ∈ BIG := kB 370 (by decide +kernel) (by decide +kernel)
theorem w_ml_L_39 : Cond.methodLink RL 39 yX5_session ∈ BIG := kB 372 (by decide +kernel) (by decide +kernel)
theorem w_im_X5_session : Cond.instanceMethod yX5_session ∈ BIG := kB 373 (by decide +kernel) (by decide +kernel)
theorem w_co_X5_session : Cond.code yX5_session cX5_session 5 (some .int) ∈ BIG := kB 375 (by decide +kernel) (by decide +kernel)
theorem w_ml_X5_131 : Cond.methodLink RX5 131 yX4_addSession ∈ BIG := kB 378 (by decide +kernel) (by decide +kernel)
theorem w_im_X4_addSession : Cond.instanceMethod yX4_addSession ∈ BIG := kB 379 (by decide +kernel) (by decide +kernel)
theorem w_co_X4_addSession : Cond.code yX4_addSession cX4_addSession 4 (some .int) ∈ BIG := kB 381 (by decide +kernel) (by decide +kernel)
theorem w_ml_X5_136 : Cond.methodLink RX5 136 yX5_bookAll ∈ BIG := kB 383 (by decide +kernel) (by decide +kernel)
theorem w_im_X5_bookAll : Cond.instanceMethod yX5_bookAll ∈ BIG := kB 385 (by decide +kernel) (by decide +kernel)
theorem w_co_X5_bookAll : Cond.code yX5_bookAll cX5_bookAll 3 none ∈ BIG := kB 386 (by decide +kernel) (by decide +kernel)
theorem w_ml_X5_351 : Cond.methodLink RX5 351 yX0_lookFrom ∈ BIG := kB 387 (by decide +kernel) (by decide +kernel)
theorem w_im_X0_lookFrom : Cond.instanceMethod yX0_lookFrom ∈ BIG := kB 388 (by decide +kernel) (by decide +kernel)
theorem w_co_X0_lookFrom : Cond.code yX0_lookFrom cX0_lookFrom 5 none ∈ BIG := kB 390 (by decide +kernel) (by decide +kernel)
theorem w_ml_X0_45 : Cond.methodLink RX0 45 yX3_hasPiece ∈ BIG := kB 391 (by decide +kernel) (by decide +kernel)
theorem w_im_X3_hasPiece : Cond.instanceMethod yX3_hasPiece ∈ BIG := kB 392 (by decide +kernel) (by decide +kernel)
theorem w_co_X3_hasPiece : Cond.code yX3_hasPiece cX3_hasPiece 2 (some .boolean) ∈ BIG := kB 394 (by decide +kernel) (by decide +kernel)
theorem w_ml_X0_51 : Cond.methodLink RX0 51 yX3_earliestToCome ∈ BIG := kB 395 (by decide +kernel) (by decide +kernel)
theorem w_im_X3_earliestToCome : Cond.instanceMethod yX3_earliestToCome ∈ BIG := kB 396 (by decide +kernel) (by decide +kernel)
theorem w_co_X3_earliestToCome : Cond.code yX3_earliestToCome cX3_earliestToCome 8 (some .int) ∈ BIG := kB 398 (by decide +kernel) (by decide +kernel)
theorem w_ml_X3_36 : Cond.methodLink RX3 36 yJ9_min_7cf53 ∈ BIG := kB 399 (by decide +kernel) (by decide +kernel)
theorem w_st_J9_min_7cf53 : Cond.static yJ9_min_7cf53 ∈ BIG := kB 400 (by decide +kernel) (by decide +kernel)
theorem w_co_J9_min_7cf53 : Cond.code yJ9_min_7cf53 cJ9_min_7cf53 2 (some .int) ∈ BIG := kB 401 (by decide +kernel) (by decide +kernel)
theorem w_ml_X5_179 : Cond.methodLink RX5 179 yX5_joinerAt ∈ BIG := kB 402 (by decide +kernel) (by decide +kernel)
theorem w_im_X5_joinerAt : Cond.instanceMethod yX5_joinerAt ∈ BIG := kB 404 (by decide +kernel) (by decide +kernel)
theorem w_co_X5_joinerAt : Cond.code yX5_joinerAt cX5_joinerAt 3 (some (.object "OnboardingWorks$Joiner")) ∈ BIG := kB 405 (by decide +kernel) (by decide +kernel)
theorem w_ml_X5_355 : Cond.methodLink RX5 355 yX5_bookFor ∈ BIG := kB 407 (by decide +kernel) (by decide +kernel)
theorem w_im_X5_bookFor : Cond.instanceMethod yX5_bookFor ∈ BIG := kB 409 (by decide +kernel) (by decide +kernel)
theorem w_co_X5_bookFor : Cond.code yX5_bookFor cX5_bookFor 3 none ∈ BIG := kB 410 (by decide +kernel) (by decide +kernel)
theorem w_ml_X5_358 : Cond.methodLink RX5 358 yX0_foreseeStep ∈ BIG := kB 411 (by decide +kernel) (by decide +kernel)
theorem w_im_X0_foreseeStep : Cond.instanceMethod yX0_foreseeStep ∈ BIG := kB 412 (by decide +kernel) (by decide +kernel)
theorem w_co_X0_foreseeStep : Cond.code yX0_foreseeStep cX0_foreseeStep 4 none ∈ BIG := kB 414 (by decide +kernel) (by decide +kernel)
theorem w_ml_X0_55 : Cond.methodLink RX0 55 yX0_beginOf ∈ BIG := kB 415 (by decide +kernel) (by decide +kernel)
theorem w_im_X0_beginOf : Cond.instanceMethod yX0_beginOf ∈ BIG := kB 417 (by decide +kernel) (by decide +kernel)
theorem w_co_X0_beginOf : Cond.code yX0_beginOf cX0_beginOf 6 (some .int) ∈ BIG := kB 418 (by decide +kernel) (by decide +kernel)
theorem w_st_X5_has : Cond.static yX5_has ∈ BIG := kB 420 (by decide +kernel) (by decide +kernel)
theorem w_co_X5_has : Cond.code yX5_has cX5_has 2 (some .boolean) ∈ BIG := kB 421 (by decide +kernel) (by decide +kernel)
theorem w_ml_X0_84 : Cond.methodLink RX0 84 yJ9_max_7cf53 ∈ BIG := kB 422 (by decide +kernel) (by decide +kernel)
theorem w_st_J9_max_7cf53 : Cond.static yJ9_max_7cf53 ∈ BIG := kB 423 (by decide +kernel) (by decide +kernel)
theorem w_co_J9_max_7cf53 : Cond.code yJ9_max_7cf53 cJ9_max_7cf53 2 (some .int) ∈ BIG := kB 424 (by decide +kernel) (by decide +kernel)
theorem w_ml_X0_99 : Cond.methodLink RX0 99 yX4_dayOf ∈ BIG := kB 425 (by decide +kernel) (by decide +kernel)
theorem w_im_X4_dayOf : Cond.instanceMethod yX4_dayOf ∈ BIG := kB 426 (by decide +kernel) (by decide +kernel)
theorem w_co_X4_dayOf : Cond.code yX4_dayOf cX4_dayOf 2 (some .int) ∈ BIG := kB 428 (by decide +kernel) (by decide +kernel)
theorem w_ml_X0_108 : Cond.methodLink RX0 108 yX0_withSupply ∈ BIG := kB 429 (by decide +kernel) (by decide +kernel)
theorem w_im_X0_withSupply : Cond.instanceMethod yX0_withSupply ∈ BIG := kB 431 (by decide +kernel) (by decide +kernel)
theorem w_co_X0_withSupply : Cond.code yX0_withSupply cX0_withSupply 3 (some .int) ∈ BIG := kB 432 (by decide +kernel) (by decide +kernel)
theorem w_ml_X0_59 : Cond.methodLink RX0 59 yX2_lengthFor ∈ BIG := kB 433 (by decide +kernel) (by decide +kernel)
theorem w_im_X2_lengthFor : Cond.instanceMethod yX2_lengthFor ∈ BIG := kB 434 (by decide +kernel) (by decide +kernel)
theorem w_co_X2_lengthFor : Cond.code yX2_lengthFor cX2_lengthFor 6 (some .int) ∈ BIG := kB 436 (by decide +kernel) (by decide +kernel)
theorem w_ml_X2_42 : Cond.methodLink RX2 42 yX1_stepsIn ∈ BIG := kB 437 (by decide +kernel) (by decide +kernel)
theorem w_im_X1_stepsIn : Cond.instanceMethod yX1_stepsIn ∈ BIG := kB 438 (by decide +kernel) (by decide +kernel)
theorem w_co_X1_stepsIn : Cond.code yX1_stepsIn cX1_stepsIn 4 (some .int) ∈ BIG := kB 440 (by decide +kernel) (by decide +kernel)
theorem w_ml_X2_56 : Cond.methodLink RX2 56 yJ6_bitCount_0f7a4 ∈ BIG := kB 442 (by decide +kernel) (by decide +kernel)
theorem w_st_J6_bitCount_0f7a4 : Cond.static yJ6_bitCount_0f7a4 ∈ BIG := kB 443 (by decide +kernel) (by decide +kernel)
theorem w_co_J6_bitCount_0f7a4 : Cond.code yJ6_bitCount_0f7a4 cJ6_bitCount_0f7a4 1 (some .int) ∈ BIG := kB 444 (by decide +kernel) (by decide +kernel)
theorem w_ml_X5_336 : Cond.methodLink RX5 336 yX1_isIn ∈ BIG := kB 448 (by decide +kernel) (by decide +kernel)
theorem w_im_X1_isIn : Cond.instanceMethod yX1_isIn ∈ BIG := kB 449 (by decide +kernel) (by decide +kernel)
theorem w_co_X1_isIn : Cond.code yX1_isIn cX1_isIn 3 (some .boolean) ∈ BIG := kB 451 (by decide +kernel) (by decide +kernel)
theorem w_ml_X5_363 : Cond.methodLink RX5 363 yX4_book ∈ BIG := kB 453 (by decide +kernel) (by decide +kernel)
theorem w_im_X4_book : Cond.instanceMethod yX4_book ∈ BIG := kB 454 (by decide +kernel) (by decide +kernel)
theorem w_co_X4_book : Cond.code yX4_book cX4_book 6 (some .int) ∈ BIG := kB 456 (by decide +kernel) (by decide +kernel)
theorem w_ml_X4_28 : Cond.methodLink RX4 28 yX4_dayOf ∈ BIG := kB 457 (by decide +kernel) (by decide +kernel)
theorem w_ml_L_43 : Cond.methodLink RL 43 yX5_ofItem ∈ BIG := kB 458 (by decide +kernel) (by decide +kernel)
theorem w_im_X5_ofItem : Cond.instanceMethod yX5_ofItem ∈ BIG := kB 459 (by decide +kernel) (by decide +kernel)
theorem w_co_X5_ofItem : Cond.code yX5_ofItem cX5_ofItem 3 (some .int) ∈ BIG := kB 461 (by decide +kernel) (by decide +kernel)
theorem w_ml_X5_163 : Cond.methodLink RX5 163 yX3_piecesToCome ∈ BIG := kB 463 (by decide +kernel) (by decide +kernel)
theorem w_im_X3_piecesToCome : Cond.instanceMethod yX3_piecesToCome ∈ BIG := kB 464 (by decide +kernel) (by decide +kernel)
theorem w_co_X3_piecesToCome : Cond.code yX3_piecesToCome cX3_piecesToCome 5 (some .int) ∈ BIG := kB 466 (by decide +kernel) (by decide +kernel)
theorem w_ml_X5_166 : Cond.methodLink RX5 166 yX3_earliestToCome ∈ BIG := kB 467 (by decide +kernel) (by decide +kernel)
theorem w_ml_X5_169 : Cond.methodLink RX5 169 yX5_countWaitingFor ∈ BIG := kB 468 (by decide +kernel) (by decide +kernel)
theorem w_im_X5_countWaitingFor : Cond.instanceMethod yX5_countWaitingFor ∈ BIG := kB 470 (by decide +kernel) (by decide +kernel)
theorem w_co_X5_countWaitingFor : Cond.code yX5_countWaitingFor cX5_countWaitingFor 6 (some .int) ∈ BIG := kB 471 (by decide +kernel) (by decide +kernel)
theorem w_ml_X5_314 : Cond.methodLink RX5 314 yX5_isReady ∈ BIG := kB 472 (by decide +kernel) (by decide +kernel)
theorem w_im_X5_isReady : Cond.instanceMethod yX5_isReady ∈ BIG := kB 474 (by decide +kernel) (by decide +kernel)
theorem w_co_X5_isReady : Cond.code yX5_isReady cX5_isReady 3 (some .boolean) ∈ BIG := kB 475 (by decide +kernel) (by decide +kernel)
theorem w_ml_X5_339 : Cond.methodLink RX5 339 yX2_needsAreDone ∈ BIG := kB 476 (by decide +kernel) (by decide +kernel)
theorem w_im_X2_needsAreDone : Cond.instanceMethod yX2_needsAreDone ∈ BIG := kB 477 (by decide +kernel) (by decide +kernel)
theorem w_co_X2_needsAreDone : Cond.code yX2_needsAreDone cX2_needsAreDone 3 (some .boolean) ∈ BIG := kB 479 (by decide +kernel) (by decide +kernel)
theorem w_ml_L_36 : Cond.methodLink RL 36 yX5_join ∈ BIG := kB 480 (by decide +kernel) (by decide +kernel)
theorem w_im_X5_join : Cond.instanceMethod yX5_join ∈ BIG := kB 481 (by decide +kernel) (by decide +kernel)
theorem w_co_X5_join : Cond.code yX5_join cX5_join 5 (some .int) ∈ BIG := kB 483 (by decide +kernel) (by decide +kernel)
theorem w_ml_L_55 : Cond.methodLink RL 55 yX5_leave ∈ BIG := kB 486 (by decide +kernel) (by decide +kernel)
theorem w_im_X5_leave : Cond.instanceMethod yX5_leave ∈ BIG := kB 487 (by decide +kernel) (by decide +kernel)
theorem w_co_X5_leave : Cond.code yX5_leave cX5_leave 4 (some .int) ∈ BIG := kB 489 (by decide +kernel) (by decide +kernel)
theorem w_ml_X5_201 : Cond.methodLink RX5 201 yX4_release ∈ BIG := kB 491 (by decide +kernel) (by decide +kernel)
theorem w_im_X4_release : Cond.instanceMethod yX4_release ∈ BIG := kB 492 (by decide +kernel) (by decide +kernel)
theorem w_co_X4_release : Cond.code yX4_release cX4_release 2 none ∈ BIG := kB 494 (by decide +kernel) (by decide +kernel)
theorem w_ml_X5_205 : Cond.methodLink RX5 205 yX1_countIn ∈ BIG := kB 495 (by decide +kernel) (by decide +kernel)
theorem w_im_X1_countIn : Cond.instanceMethod yX1_countIn ∈ BIG := kB 496 (by decide +kernel) (by decide +kernel)
theorem w_co_X1_countIn : Cond.code yX1_countIn cX1_countIn 2 (some .int) ∈ BIG := kB 498 (by decide +kernel) (by decide +kernel)
theorem w_ml_X1_35 : Cond.methodLink RX1 35 yX1_stepsIn ∈ BIG := kB 499 (by decide +kernel) (by decide +kernel)
theorem w_ml_X1_39 : Cond.methodLink RX1 39 yJ6_bitCount_0f7a4 ∈ BIG := kB 500 (by decide +kernel) (by decide +kernel)
theorem w_ml_L_61 : Cond.methodLink RL 61 yX5_day ∈ BIG := kB 501 (by decide +kernel) (by decide +kernel)
theorem w_im_X5_day : Cond.instanceMethod yX5_day ∈ BIG := kB 502 (by decide +kernel) (by decide +kernel)
theorem w_co_X5_day : Cond.code yX5_day cX5_day 3 (some .int) ∈ BIG := kB 504 (by decide +kernel) (by decide +kernel)
theorem w_ml_X5_210 : Cond.methodLink RX5 210 yX3_receive ∈ BIG := kB 506 (by decide +kernel) (by decide +kernel)
theorem w_im_X3_receive : Cond.instanceMethod yX3_receive ∈ BIG := kB 507 (by decide +kernel) (by decide +kernel)
theorem w_co_X3_receive : Cond.code yX3_receive cX3_receive 3 none ∈ BIG := kB 509 (by decide +kernel) (by decide +kernel)
theorem w_ml_X3_32 : Cond.methodLink RX3 32 yX3_putIn ∈ BIG := kB 510 (by decide +kernel) (by decide +kernel)
theorem w_ml_X5_213 : Cond.methodLink RX5 213 yX1_finishSteps ∈ BIG := kB 511 (by decide +kernel) (by decide +kernel)
theorem w_im_X1_finishSteps : Cond.instanceMethod yX1_finishSteps ∈ BIG := kB 512 (by decide +kernel) (by decide +kernel)
theorem w_co_X1_finishSteps : Cond.code yX1_finishSteps cX1_finishSteps 4 (some .int) ∈ BIG := kB 514 (by decide +kernel) (by decide +kernel)
theorem w_ml_X5_216 : Cond.methodLink RX5 216 yX5_beginSteps ∈ BIG := kB 515 (by decide +kernel) (by decide +kernel)
theorem w_im_X5_beginSteps : Cond.instanceMethod yX5_beginSteps ∈ BIG := kB 517 (by decide +kernel) (by decide +kernel)
theorem w_co_X5_beginSteps : Cond.code yX5_beginSteps cX5_beginSteps 3 none ∈ BIG := kB 518 (by decide +kernel) (by decide +kernel)
theorem w_ml_X5_318 : Cond.methodLink RX5 318 yX5_canBegin ∈ BIG := kB 519 (by decide +kernel) (by decide +kernel)
theorem w_im_X5_canBegin : Cond.instanceMethod yX5_canBegin ∈ BIG := kB 521 (by decide +kernel) (by decide +kernel)
theorem w_co_X5_canBegin : Cond.code yX5_canBegin cX5_canBegin 3 (some .boolean) ∈ BIG := kB 522 (by decide +kernel) (by decide +kernel)
theorem w_ml_X5_342 : Cond.methodLink RX5 342 yX3_hasPiece ∈ BIG := kB 523 (by decide +kernel) (by decide +kernel)
theorem w_ml_X5_345 : Cond.methodLink RX5 345 yX4_dayOf ∈ BIG := kB 524 (by decide +kernel) (by decide +kernel)
theorem w_ml_X5_324 : Cond.methodLink RX5 324 yX3_takeOne ∈ BIG := kB 525 (by decide +kernel) (by decide +kernel)
theorem w_im_X3_takeOne : Cond.instanceMethod yX3_takeOne ∈ BIG := kB 526 (by decide +kernel) (by decide +kernel)
theorem w_co_X3_takeOne : Cond.code yX3_takeOne cX3_takeOne 2 none ∈ BIG := kB 528 (by decide +kernel) (by decide +kernel)
theorem w_ml_X3_24 : Cond.methodLink RX3 24 yX3_hasPiece ∈ BIG := kB 529 (by decide +kernel) (by decide +kernel)
theorem w_ml_X5_330 : Cond.methodLink RX5 330 yX2_lengthFor ∈ BIG := kB 530 (by decide +kernel) (by decide +kernel)
theorem w_ml_X5_220 : Cond.methodLink RX5 220 yX5_loseSessions ∈ BIG := kB 531 (by decide +kernel) (by decide +kernel)
theorem w_im_X5_loseSessions : Cond.instanceMethod yX5_loseSessions ∈ BIG := kB 533 (by decide +kernel) (by decide +kernel)
theorem w_co_X5_loseSessions : Cond.code yX5_loseSessions cX5_loseSessions 3 none ∈ BIG := kB 534 (by decide +kernel) (by decide +kernel)
theorem w_ml_X5_223 : Cond.methodLink RX5 223 yX5_takeBackStep ∈ BIG := kB 535 (by decide +kernel) (by decide +kernel)
theorem w_im_X5_takeBackStep : Cond.instanceMethod yX5_takeBackStep ∈ BIG := kB 537 (by decide +kernel) (by decide +kernel)
theorem w_co_X5_takeBackStep : Cond.code yX5_takeBackStep cX5_takeBackStep 3 none ∈ BIG := kB 538 (by decide +kernel) (by decide +kernel)
theorem w_ml_X5_366 : Cond.methodLink RX5 366 yX1_lastBegun ∈ BIG := kB 539 (by decide +kernel) (by decide +kernel)
theorem w_im_X1_lastBegun : Cond.instanceMethod yX1_lastBegun ∈ BIG := kB 540 (by decide +kernel) (by decide +kernel)
theorem w_co_X1_lastBegun : Cond.code yX1_lastBegun cX1_lastBegun 5 (some .int) ∈ BIG := kB 542 (by decide +kernel) (by decide +kernel)
theorem w_ml_L_52 : Cond.methodLink RL 52 yX5_ofJoiner ∈ BIG := kB 543 (by decide +kernel) (by decide +kernel)
theorem w_im_X5_ofJoiner : Cond.instanceMethod yX5_ofJoiner ∈ BIG := kB 544 (by decide +kernel) (by decide +kernel)
theorem w_co_X5_ofJoiner : Cond.code yX5_ofJoiner cX5_ofJoiner 4 (some .int) ∈ BIG := kB 546 (by decide +kernel) (by decide +kernel)
theorem w_ml_X5_233 : Cond.methodLink RX5 233 yX0_foresee ∈ BIG := kB 548 (by decide +kernel) (by decide +kernel)
theorem w_im_X0_foresee : Cond.instanceMethod yX0_foresee ∈ BIG := kB 549 (by decide +kernel) (by decide +kernel)
theorem w_co_X0_foresee : Cond.code yX0_foresee cX0_foresee 6 none ∈ BIG := kB 551 (by decide +kernel) (by decide +kernel)
theorem w_ml_X0_33 : Cond.methodLink RX0 33 yX0_lookFrom ∈ BIG := kB 552 (by decide +kernel) (by decide +kernel)
theorem w_ml_X0_37 : Cond.methodLink RX0 37 yX0_foreseeStep ∈ BIG := kB 553 (by decide +kernel) (by decide +kernel)
theorem w_ml_X5_243 : Cond.methodLink RX5 243 yX5_foreseenOfJoiner ∈ BIG := kB 554 (by decide +kernel) (by decide +kernel)
theorem w_im_X5_foreseenOfJoiner : Cond.instanceMethod yX5_foreseenOfJoiner ∈ BIG := kB 556 (by decide +kernel) (by decide +kernel)
theorem w_co_X5_foreseenOfJoiner : Cond.code yX5_foreseenOfJoiner cX5_foreseenOfJoiner 3 (some .int) ∈ BIG := kB 557 (by decide +kernel) (by decide +kernel)
theorem w_ml_X5_372 : Cond.methodLink RX5 372 yX2_rightsOf ∈ BIG := kB 558 (by decide +kernel) (by decide +kernel)
theorem w_im_X2_rightsOf : Cond.instanceMethod yX2_rightsOf ∈ BIG := kB 559 (by decide +kernel) (by decide +kernel)
theorem w_co_X2_rightsOf : Cond.code yX2_rightsOf cX2_rightsOf 5 (some .int) ∈ BIG := kB 561 (by decide +kernel) (by decide +kernel)
theorem w_ml_X5_268 : Cond.methodLink RX5 268 yX0_greatestEnd ∈ BIG := kB 562 (by decide +kernel) (by decide +kernel)
theorem w_im_X0_greatestEnd : Cond.instanceMethod yX0_greatestEnd ∈ BIG := kB 563 (by decide +kernel) (by decide +kernel)
theorem w_co_X0_greatestEnd : Cond.code yX0_greatestEnd cX0_greatestEnd 4 (some .int) ∈ BIG := kB 565 (by decide +kernel) (by decide +kernel)
theorem w_ml_L_33 : Cond.methodLink RL 33 yX5_many ∈ BIG := kB 566 (by decide +kernel) (by decide +kernel)
theorem w_im_X5_many : Cond.instanceMethod yX5_many ∈ BIG := kB 567 (by decide +kernel) (by decide +kernel)
theorem w_co_X5_many : Cond.code yX5_many cX5_many 2 (some .int) ∈ BIG := kB 569 (by decide +kernel) (by decide +kernel)
theorem w_ml_X5_255 : Cond.methodLink RX5 255 yX5_countLeft ∈ BIG := kB 571 (by decide +kernel) (by decide +kernel)
theorem w_im_X5_countLeft : Cond.instanceMethod yX5_countLeft ∈ BIG := kB 573 (by decide +kernel) (by decide +kernel)
theorem w_co_X5_countLeft : Cond.code yX5_countLeft cX5_countLeft 3 (some .int) ∈ BIG := kB 574 (by decide +kernel) (by decide +kernel)
theorem w_ml_X5_259 : Cond.methodLink RX5 259 yX5_countStepsIn ∈ BIG := kB 575 (by decide +kernel) (by decide +kernel)
theorem w_im_X5_countStepsIn : Cond.instanceMethod yX5_countStepsIn ∈ BIG := kB 577 (by decide +kernel) (by decide +kernel)
theorem w_co_X5_countStepsIn : Cond.code yX5_countStepsIn cX5_countStepsIn 4 (some .int) ∈ BIG := kB 578 (by decide +kernel) (by decide +kernel)
theorem w_ml_X5_262 : Cond.methodLink RX5 262 yX5_countRights ∈ BIG := kB 579 (by decide +kernel) (by decide +kernel)
theorem w_im_X5_countRights : Cond.instanceMethod yX5_countRights ∈ BIG := kB 581 (by decide +kernel) (by decide +kernel)
theorem w_co_X5_countRights : Cond.code yX5_countRights cX5_countRights 3 (some .int) ∈ BIG := kB 582 (by decide +kernel) (by decide +kernel)
theorem w_ml_X5_381 : Cond.methodLink RX5 381 yJ6_bitCount_0f7a4 ∈ BIG := kB 583 (by decide +kernel) (by decide +kernel)
theorem w_ml_X5_265 : Cond.methodLink RX5 265 yX4_seatsTaken ∈ BIG := kB 584 (by decide +kernel) (by decide +kernel)
theorem w_im_X4_seatsTaken : Cond.instanceMethod yX4_seatsTaken ∈ BIG := kB 585 (by decide +kernel) (by decide +kernel)
theorem w_co_X4_seatsTaken : Cond.code yX4_seatsTaken cX4_seatsTaken 3 (some .int) ∈ BIG := kB 587 (by decide +kernel) (by decide +kernel)
theorem w_ml_L_78 : Cond.methodLink RL 78 yX5_rightOn ∈ BIG := kB 588 (by decide +kernel) (by decide +kernel)
theorem w_im_X5_rightOn : Cond.instanceMethod yX5_rightOn ∈ BIG := kB 589 (by decide +kernel) (by decide +kernel)
theorem w_co_X5_rightOn : Cond.code yX5_rightOn cX5_rightOn 4 (some .int) ∈ BIG := kB 591 (by decide +kernel) (by decide +kernel)
theorem w_ml_X5_276 : Cond.methodLink RX5 276 yX0_dayBehind ∈ BIG := kB 593 (by decide +kernel) (by decide +kernel)
theorem w_im_X0_dayBehind : Cond.instanceMethod yX0_dayBehind ∈ BIG := kB 594 (by decide +kernel) (by decide +kernel)
theorem w_co_X0_dayBehind : Cond.code yX0_dayBehind cX0_dayBehind 3 (some .int) ∈ BIG := kB 596 (by decide +kernel) (by decide +kernel)
theorem w_ml_X0_111 : Cond.methodLink RX0 111 yX0_greatestEnd ∈ BIG := kB 597 (by decide +kernel) (by decide +kernel)
theorem w_ml_L_58 : Cond.methodLink RL 58 yX5_next ∈ BIG := kB 598 (by decide +kernel) (by decide +kernel)
theorem w_im_X5_next : Cond.instanceMethod yX5_next ∈ BIG := kB 599 (by decide +kernel) (by decide +kernel)
theorem w_co_X5_next : Cond.code yX5_next cX5_next 2 (some .int) ∈ BIG := kB 601 (by decide +kernel) (by decide +kernel)
theorem w_ml_X5_279 : Cond.methodLink RX5 279 yX5_nextStep ∈ BIG := kB 602 (by decide +kernel) (by decide +kernel)
theorem w_im_X5_nextStep : Cond.instanceMethod yX5_nextStep ∈ BIG := kB 604 (by decide +kernel) (by decide +kernel)
theorem w_co_X5_nextStep : Cond.code yX5_nextStep cX5_nextStep 4 (some .int) ∈ BIG := kB 605 (by decide +kernel) (by decide +kernel)
theorem w_ml_L_74 : Cond.methodLink RL 74 yX5_digest ∈ BIG := kB 606 (by decide +kernel) (by decide +kernel)
theorem w_im_X5_digest : Cond.instanceMethod yX5_digest ∈ BIG := kB 607 (by decide +kernel) (by decide +kernel)
theorem w_co_X5_digest : Cond.code yX5_digest cX5_digest 5 (some .long) ∈ BIG := kB 609 (by decide +kernel) (by decide +kernel)
theorem w_ml_X5_290 : Cond.methodLink RX5 290 yX5_many ∈ BIG := kB 612 (by decide +kernel) (by decide +kernel)
theorem w_ml_X5_293 : Cond.methodLink RX5 293 yX5_ofItem ∈ BIG := kB 613 (by decide +kernel) (by decide +kernel)
theorem w_ml_X5_296 : Cond.methodLink RX5 296 yX5_ofSession ∈ BIG := kB 614 (by decide +kernel) (by decide +kernel)
theorem w_im_X5_ofSession : Cond.instanceMethod yX5_ofSession ∈ BIG := kB 615 (by decide +kernel) (by decide +kernel)
theorem w_co_X5_ofSession : Cond.code yX5_ofSession cX5_ofSession 3 (some .int) ∈ BIG := kB 617 (by decide +kernel) (by decide +kernel)
theorem w_ml_X5_299 : Cond.methodLink RX5 299 yX5_digestWith ∈ BIG := kB 620 (by decide +kernel) (by decide +kernel)
theorem w_im_X5_digestWith : Cond.instanceMethod yX5_digestWith ∈ BIG := kB 622 (by decide +kernel) (by decide +kernel)
theorem w_co_X5_digestWith : Cond.code yX5_digestWith cX5_digestWith 8 (some .long) ∈ BIG := kB 623 (by decide +kernel) (by decide +kernel)
theorem w_ml_X5_226 : Cond.methodLink RX5 226 yX5_has ∈ BIG := kB 624 (by decide +kernel) (by decide +kernel)
theorem w_ml_X5_237 : Cond.methodLink RX5 237 yX5_foreseenOfStep ∈ BIG := kB 625 (by decide +kernel) (by decide +kernel)
theorem w_im_X5_foreseenOfStep : Cond.instanceMethod yX5_foreseenOfStep ∈ BIG := kB 627 (by decide +kernel) (by decide +kernel)
theorem w_co_X5_foreseenOfStep : Cond.code yX5_foreseenOfStep cX5_foreseenOfStep 4 (some .int) ∈ BIG := kB 628 (by decide +kernel) (by decide +kernel)
theorem w_ml_X5_283 : Cond.methodLink RX5 283 yX5_countWaitingOn ∈ BIG := kB 629 (by decide +kernel) (by decide +kernel)
theorem w_im_X5_countWaitingOn : Cond.instanceMethod yX5_countWaitingOn ∈ BIG := kB 631 (by decide +kernel) (by decide +kernel)
theorem w_co_X5_countWaitingOn : Cond.code yX5_countWaitingOn cX5_countWaitingOn 6 (some .int) ∈ BIG := kB 632 (by decide +kernel) (by decide +kernel)
theorem w_ml_X5_378 : Cond.methodLink RX5 378 yX1_stepsIn ∈ BIG := kB 633 (by decide +kernel) (by decide +kernel)
theorem w_ml_L_18 : Cond.methodLink RL 18 yL_below ∈ BIG := kB 634 (by decide +kernel) (by decide +kernel)
theorem w_st_L_below : Cond.static yL_below ∈ BIG := kB 635 (by decide +kernel) (by decide +kernel)
theorem w_co_L_below : Cond.code yL_below cL_below 2 (some .int) ∈ BIG := kB 636 (by decide +kernel) (by decide +kernel)
theorem w_ml_L_12 : Cond.methodLink RL 12 yL_cell ∈ BIG := kB 638 (by decide +kernel) (by decide +kernel)
theorem w_st_L_cell : Cond.static yL_cell ∈ BIG := kB 639 (by decide +kernel) (by decide +kernel)
theorem w_co_L_cell : Cond.code yL_cell cL_cell 2 (some .int) ∈ BIG := kB 640 (by decide +kernel) (by decide +kernel)
theorem w_ml_L_70 : Cond.methodLink RL 70 yL_isFair ∈ BIG := kB 642 (by decide +kernel) (by decide +kernel)
theorem w_st_L_isFair : Cond.static yL_isFair ∈ BIG := kB 643 (by decide +kernel) (by decide +kernel)
theorem w_ml_L_81 : Cond.methodLink RL 81 yX5_ofStep ∈ BIG := kB 645 (by decide +kernel) (by decide +kernel)
theorem w_im_X5_ofStep : Cond.instanceMethod yX5_ofStep ∈ BIG := kB 646 (by decide +kernel) (by decide +kernel)
theorem w_co_X5_ofStep : Cond.code yX5_ofStep cX5_ofStep 5 (some .int) ∈ BIG := kB 648 (by decide +kernel) (by decide +kernel)
theorem w_ml_L_84 : Cond.methodLink RL 84 yX5_ofSession ∈ BIG := kB 651 (by decide +kernel) (by decide +kernel)
theorem w_ml_L_65 : Cond.methodLink RL 65 yJ9_max_7cf53 ∈ BIG := kB 652 (by decide +kernel) (by decide +kernel)
theorem w_ml_L_87 : Cond.methodLink RL 87 yJ6_bitCount_0f7a4 ∈ BIG := kB 653 (by decide +kernel) (by decide +kernel)
theorem w_se_X0_foresee : Cond.selects RX0 yX0_foresee yX0_foresee ∈ BIG := kB 550 (by decide +kernel) (by decide +kernel)
theorem w_se_X0_lookFrom : Cond.selects RX0 yX0_lookFrom yX0_lookFrom ∈ BIG := kB 389 (by decide +kernel) (by decide +kernel)
theorem w_se_X0_foreseeStep : Cond.selects RX0 yX0_foreseeStep yX0_foreseeStep ∈ BIG := kB 413 (by decide +kernel) (by decide +kernel)
theorem w_se_X0_beginOf : Cond.selects RX0 yX0_beginOf yX0_beginOf ∈ BIG := kBs 5 (by decide +kernel) (by decide +kernel)
theorem w_se_X0_withSupply : Cond.selects RX0 yX0_withSupply yX0_withSupply ∈ BIG := kBs 6 (by decide +kernel) (by decide +kernel)
theorem w_se_X0_dayBehind : Cond.selects RX0 yX0_dayBehind yX0_dayBehind ∈ BIG := kB 595 (by decide +kernel) (by decide +kernel)
theorem w_se_X0_greatestEnd : Cond.selects RX0 yX0_greatestEnd yX0_greatestEnd ∈ BIG := kB 564 (by decide +kernel) (by decide +kernel)
theorem w_se_X1_isIn : Cond.selects RX1 yX1_isIn yX1_isIn ∈ BIG := kB 450 (by decide +kernel) (by decide +kernel)
theorem w_se_X1_stepsIn : Cond.selects RX1 yX1_stepsIn yX1_stepsIn ∈ BIG := kB 439 (by decide +kernel) (by decide +kernel)
theorem w_se_X1_countIn : Cond.selects RX1 yX1_countIn yX1_countIn ∈ BIG := kB 497 (by decide +kernel) (by decide +kernel)
theorem w_se_X1_finishSteps : Cond.selects RX1 yX1_finishSteps yX1_finishSteps ∈ BIG := kB 513 (by decide +kernel) (by decide +kernel)
theorem w_se_X1_lastBegun : Cond.selects RX1 yX1_lastBegun yX1_lastBegun ∈ BIG := kB 541 (by decide +kernel) (by decide +kernel)
theorem w_se_X2_knows : Cond.selects RX2 yX2_knows yX2_knows ∈ BIG := kB 225 (by decide +kernel) (by decide +kernel)
theorem w_se_X2_addStep : Cond.selects RX2 yX2_addStep yX2_addStep ∈ BIG := kB 300 (by decide +kernel) (by decide +kernel)
theorem w_se_X2_addRight : Cond.selects RX2 yX2_addRight yX2_addRight ∈ BIG := kB 345 (by decide +kernel) (by decide +kernel)
theorem w_se_X2_needsAreDone : Cond.selects RX2 yX2_needsAreDone yX2_needsAreDone ∈ BIG := kB 478 (by decide +kernel) (by decide +kernel)
theorem w_se_X2_lengthFor : Cond.selects RX2 yX2_lengthFor yX2_lengthFor ∈ BIG := kB 435 (by decide +kernel) (by decide +kernel)
theorem w_se_X2_rightsOf : Cond.selects RX2 yX2_rightsOf yX2_rightsOf ∈ BIG := kB 560 (by decide +kernel) (by decide +kernel)
theorem w_se_X3_hasPiece : Cond.selects RX3 yX3_hasPiece yX3_hasPiece ∈ BIG := kB 393 (by decide +kernel) (by decide +kernel)
theorem w_se_X3_putIn : Cond.selects RX3 yX3_putIn yX3_putIn ∈ BIG := kB 356 (by decide +kernel) (by decide +kernel)
theorem w_se_X3_takeOne : Cond.selects RX3 yX3_takeOne yX3_takeOne ∈ BIG := kB 527 (by decide +kernel) (by decide +kernel)
theorem w_se_X3_addOrder : Cond.selects RX3 yX3_addOrder yX3_addOrder ∈ BIG := kB 369 (by decide +kernel) (by decide +kernel)
theorem w_se_X3_receive : Cond.selects RX3 yX3_receive yX3_receive ∈ BIG := kB 508 (by decide +kernel) (by decide +kernel)
theorem w_se_X3_piecesToCome : Cond.selects RX3 yX3_piecesToCome yX3_piecesToCome ∈ BIG := kB 465 (by decide +kernel) (by decide +kernel)
theorem w_se_X3_earliestToCome : Cond.selects RX3 yX3_earliestToCome yX3_earliestToCome ∈ BIG := kB 397 (by decide +kernel) (by decide +kernel)
theorem w_se_X4_addSession : Cond.selects RX4 yX4_addSession yX4_addSession ∈ BIG := kB 380 (by decide +kernel) (by decide +kernel)
theorem w_se_X4_dayOf : Cond.selects RX4 yX4_dayOf yX4_dayOf ∈ BIG := kB 427 (by decide +kernel) (by decide +kernel)
theorem w_se_X4_book : Cond.selects RX4 yX4_book yX4_book ∈ BIG := kB 455 (by decide +kernel) (by decide +kernel)
theorem w_se_X4_release : Cond.selects RX4 yX4_release yX4_release ∈ BIG := kB 493 (by decide +kernel) (by decide +kernel)
theorem w_se_X4_seatsTaken : Cond.selects RX4 yX4_seatsTaken yX4_seatsTaken ∈ BIG := kB 586 (by decide +kernel) (by decide +kernel)
theorem w_se_X5_step : Cond.selects RX5 yX5_step yX5_step ∈ BIG := kB 218 (by decide +kernel) (by decide +kernel)
theorem w_se_X5_role : Cond.selects RX5 yX5_role yX5_role ∈ BIG := kB 320 (by decide +kernel) (by decide +kernel)
theorem w_se_X5_right : Cond.selects RX5 yX5_right yX5_right ∈ BIG := kB 341 (by decide +kernel) (by decide +kernel)
theorem w_se_X5_stock : Cond.selects RX5 yX5_stock yX5_stock ∈ BIG := kB 350 (by decide +kernel) (by decide +kernel)
theorem w_se_X5_order : Cond.selects RX5 yX5_order yX5_order ∈ BIG := kB 360 (by decide +kernel) (by decide +kernel)
theorem w_se_X5_session : Cond.selects RX5 yX5_session yX5_session ∈ BIG := kB 374 (by decide +kernel) (by decide +kernel)
theorem w_se_X5_ofSession : Cond.selects RX5 yX5_ofSession yX5_ofSession ∈ BIG := kB 616 (by decide +kernel) (by decide +kernel)
theorem w_se_X5_ofItem : Cond.selects RX5 yX5_ofItem yX5_ofItem ∈ BIG := kB 460 (by decide +kernel) (by decide +kernel)
theorem w_se_X5_join : Cond.selects RX5 yX5_join yX5_join ∈ BIG := kB 482 (by decide +kernel) (by decide +kernel)
theorem w_se_X5_leave : Cond.selects RX5 yX5_leave yX5_leave ∈ BIG := kB 488 (by decide +kernel) (by decide +kernel)
theorem w_se_X5_day : Cond.selects RX5 yX5_day yX5_day ∈ BIG := kB 503 (by decide +kernel) (by decide +kernel)
theorem w_se_X5_ofStep : Cond.selects RX5 yX5_ofStep yX5_ofStep ∈ BIG := kB 647 (by decide +kernel) (by decide +kernel)
theorem w_se_X5_ofJoiner : Cond.selects RX5 yX5_ofJoiner yX5_ofJoiner ∈ BIG := kB 545 (by decide +kernel) (by decide +kernel)
theorem w_se_X5_many : Cond.selects RX5 yX5_many yX5_many ∈ BIG := kB 568 (by decide +kernel) (by decide +kernel)
theorem w_se_X5_rightOn : Cond.selects RX5 yX5_rightOn yX5_rightOn ∈ BIG := kB 590 (by decide +kernel) (by decide +kernel)
theorem w_se_X5_next : Cond.selects RX5 yX5_next yX5_next ∈ BIG := kB 600 (by decide +kernel) (by decide +kernel)
theorem w_se_X5_digest : Cond.selects RX5 yX5_digest yX5_digest ∈ BIG := kB 608 (by decide +kernel) (by decide +kernel)
theorem w_se_X5_isAhead : Cond.selects RX5 yX5_isAhead yX5_isAhead ∈ BIG := kBs 1 (by decide +kernel) (by decide +kernel)
theorem w_se_X5_joinerAt : Cond.selects RX5 yX5_joinerAt yX5_joinerAt ∈ BIG := kBs 3 (by decide +kernel) (by decide +kernel)
theorem w_se_X5_beginSteps : Cond.selects RX5 yX5_beginSteps yX5_beginSteps ∈ BIG := kBs 9 (by decide +kernel) (by decide +kernel)
theorem w_se_X5_isReady : Cond.selects RX5 yX5_isReady yX5_isReady ∈ BIG := kBs 8 (by decide +kernel) (by decide +kernel)
theorem w_se_X5_canBegin : Cond.selects RX5 yX5_canBegin yX5_canBegin ∈ BIG := kBs 10 (by decide +kernel) (by decide +kernel)
theorem w_se_X5_loseSessions : Cond.selects RX5 yX5_loseSessions yX5_loseSessions ∈ BIG := kBs 11 (by decide +kernel) (by decide +kernel)
theorem w_se_X5_bookAll : Cond.selects RX5 yX5_bookAll yX5_bookAll ∈ BIG := kBs 2 (by decide +kernel) (by decide +kernel)
theorem w_se_X5_bookFor : Cond.selects RX5 yX5_bookFor yX5_bookFor ∈ BIG := kBs 4 (by decide +kernel) (by decide +kernel)
theorem w_se_X5_takeBackStep : Cond.selects RX5 yX5_takeBackStep yX5_takeBackStep ∈ BIG := kBs 12 (by decide +kernel) (by decide +kernel)
theorem w_se_X5_foreseenOfStep : Cond.selects RX5 yX5_foreseenOfStep yX5_foreseenOfStep ∈ BIG := kBs 19 (by decide +kernel) (by decide +kernel)
theorem w_se_X5_foreseenOfJoiner : Cond.selects RX5 yX5_foreseenOfJoiner yX5_foreseenOfJoiner ∈ BIG := kBs 13 (by decide +kernel) (by decide +kernel)
theorem w_se_X5_nextStep : Cond.selects RX5 yX5_nextStep yX5_nextStep ∈ BIG := kBs 17 (by decide +kernel) (by decide +kernel)
theorem w_se_X5_countWaitingOn : Cond.selects RX5 yX5_countWaitingOn yX5_countWaitingOn ∈ BIG := kBs 20 (by decide +kernel) (by decide +kernel)
theorem w_se_X5_countWaitingFor : Cond.selects RX5 yX5_countWaitingFor yX5_countWaitingFor ∈ BIG := kBs 7 (by decide +kernel) (by decide +kernel)
theorem w_se_X5_countLeft : Cond.selects RX5 yX5_countLeft yX5_countLeft ∈ BIG := kBs 14 (by decide +kernel) (by decide +kernel)
theorem w_se_X5_countStepsIn : Cond.selects RX5 yX5_countStepsIn yX5_countStepsIn ∈ BIG := kBs 15 (by decide +kernel) (by decide +kernel)
theorem w_se_X5_countRights : Cond.selects RX5 yX5_countRights yX5_countRights ∈ BIG := kBs 16 (by decide +kernel) (by decide +kernel)
theorem w_se_X5_digestWith : Cond.selects RX5 yX5_digestWith yX5_digestWith ∈ BIG := kBs 18 (by decide +kernel) (by decide +kernel)
theorem w_ct_J6_265 : Cond.constant RJ6 265 1431655765 ∈ BIG := kB 445 (by decide +kernel) (by decide +kernel)
theorem w_ct_J6_266 : Cond.constant RJ6 266 858993459 ∈ BIG := kB 446 (by decide +kernel) (by decide +kernel)
theorem w_ct_J6_267 : Cond.constant RJ6 267 252645135 ∈ BIG := kB 447 (by decide +kernel) (by decide +kernel)
theorem w_mn_X1_31 : Cond.methodLinkNest RX1 31 yX5_has RX5 ∈ KOW := kO 452 (by decide +kernel) (by decide +kernel)
theorem w_st_min : Cond.static Lib.Math.min.name ∈ BIG := kB 400 (by decide +kernel) (by decide +kernel)
theorem w_co_min : Cond.code Lib.Math.min.name Lib.Math.min.code 2 (some .int) ∈ BIG := kB 401 (by decide +kernel) (by decide +kernel)
theorem w_mn_X2_52 : Cond.methodLinkNest RX2 52 yX5_has RX5 ∈ KOW := kO 441 (by decide +kernel) (by decide +kernel)
theorem w_st_max : Cond.static Lib.Math.max.name ∈ BIG := kB 423 (by decide +kernel) (by decide +kernel)
theorem w_co_max : Cond.code Lib.Math.max.name Lib.Math.max.code 2 (some .int) ∈ BIG := kB 424 (by decide +kernel) (by decide +kernel)
theorem w_mn_X0_73 : Cond.methodLinkNest RX0 73 yX5_has RX5 ∈ KOW := kO 419 (by decide +kernel) (by decide +kernel)
theorem w_cq_X5_288 : Cond.constantLong RX5 288 31 ∈ BIG := kB 611 (by decide +kernel) (by decide +kernel)
theorem w_cq_X5_286 : Cond.constantLong RX5 286 58120 ∈ BIG := kB 610 (by decide +kernel) (by decide +kernel)
end
section
set_option maxRecDepth 1000000 in
theorem w_co_L_isFair : Cond.code yL_isFair cL_isFair 18 (some .boolean) ∈ BIG := kB 644 rfl (by decide +kernel)
end
section
section ENDS
variable {p : Program} {l : Launch} {e : Env} {R : Room} {s : State} {m : MethodId} {args : Array Value} {below : List Frame} {meth : Method} {c : Code} {H : Heap} {locs : List Loc} {cells slots : Nat} {cc : ByteArray} {pc : Nat} {ls : Array Slot} {D : va_G} {A : Nat → Prop} {L : List (Nat × Nat)} {ad : Nat → Nat → Nat} {ce : Nat → Nat → va_E} {mc ms : Nat} {cI cJ : ClassId} {S' : Nat → Nat → Nat → Int32} {XC : String → State → State → Prop}
theorem x_iretE {sp : Nat × Int32 × (Nat → Nat → Nat → Int32)} {v : Int32} {ty : FieldType} (hx : p.tables.exec = Jvm.exec) (hb : c.code = cc) (hr : meth.sig.returnType = some ty) (hlocks : meth.locks = false) (hn : narrow ty (.int v) = .int v) (hw : wk D A L ad (cK cI cJ ad ce S') s.heap H locs) (hE : sp = (0, v, S')) (hc : cells ≤ mc) (hs : slots ≤ ms) (hdg : decode cc pc = .ok (.ireturn, 1)) : W p l e R s m args below meth c H locs cells slots (vx_MQ below (va_Qi (fun (r : Int32) (_ : Unit) => r = sp.2.1 ∧ sp.1 = 0) (fun _ t => WE D A L ad (cK cI cJ ad ce sp.2.2) t) A) XC args s mc ms A) (F0 m pc ls [.int v]) := by
  subst hE
  exact x_iret hx hb hr hlocks hn hw rfl rfl rfl hc hs hdg
theorem x_iretP {sp : Nat × Int32} {v : Int32} {ty : FieldType} (hx : p.tables.exec = Jvm.exec) (hb : c.code = cc) (hr : meth.sig.returnType = some ty) (hlocks : meth.locks = false) (hn : narrow ty (.int v) = .int v) (hw : wk D A L ad ce s.heap H locs) (hE : sp = (0, v)) (hc : cells ≤ mc) (hs : slots ≤ ms) (hdg : decode cc pc = .ok (.ireturn, 1)) : W p l e R s m args below meth c H locs cells slots (vx_MQ below (va_Qi (fun (r : Int32) (_ : Unit) => r = sp.2 ∧ sp.1 = 0) (fun _ t => WE D A L ad ce t) A) XC args s mc ms A) (F0 m pc ls [.int v]) := by
  subst hE
  exact x_iret hx hb hr hlocks hn hw rfl rfl rfl hc hs hdg
theorem x_vretP {sp : Nat × Unit} (hx : p.tables.exec = Jvm.exec) (hb : c.code = cc) (hr : meth.sig.returnType = none) (hlocks : meth.locks = false) (hw : wk D A L ad ce s.heap H locs) (hE : sp = (0, ())) (hc : cells ≤ mc) (hs : slots ≤ ms) (hdg : decode cc pc = .ok (.return_, 1)) : W p l e R s m args below meth c H locs cells slots (vx_MQ below (va_Qv (fun (_ : Unit) => sp.1 = 0) (fun _ t => WE D A L ad ce t) A) XC args s mc ms A) (F0 m pc ls []) := by
  subst hE
  exact x_vret hx hb hr hlocks hw rfl rfl hc hs hdg
theorem k_iretE {sp : Int32 × (Nat → Nat → Nat → Int32)} {v : Int32} {ty : FieldType} (hx : p.tables.exec = Jvm.exec) (hb : c.code = cc) (hr : meth.sig.returnType = some ty) (hlocks : meth.locks = false) (hn : narrow ty (.int v) = .int v) (hw : wk D A L ad (cK cI cJ ad ce S') s.heap H locs) (hE : sp = (v, S')) (hdg : decode cc pc = .ok (.ireturn, 1)) : W p l e R s m args below meth c H locs cells slots (MQ below (kQi D A sp.1 L ad (cK cI cJ ad ce sp.2)) args s cells slots A) (F0 m pc ls [.int v]) := by
  subst hE
  exact k_iret hx hb hr hlocks hn hw rfl rfl hdg
theorem k_lretE {sp : Int64 × (Nat → Nat → Nat → Int32)} {v : Int64} (hx : p.tables.exec = Jvm.exec) (hb : c.code = cc) (hr : meth.sig.returnType = some .long) (hlocks : meth.locks = false) (hw : wk D A L ad (cK cI cJ ad ce S') s.heap H locs) (hE : sp = (v, S')) (hdg : decode cc pc = .ok (.lreturn, 1)) : W p l e R s m args below meth c H locs cells slots (MQ below (kQl D A sp.1 L ad (cK cI cJ ad ce sp.2)) args s cells slots A) (F0 m pc ls [.long v]) := by
  subst hE
  exact k_lret hx hb hr hlocks hw rfl rfl hdg
theorem k_vretE {sp : Nat → Nat → Nat → Int32} (hx : p.tables.exec = Jvm.exec) (hb : c.code = cc) (hr : meth.sig.returnType = none) (hlocks : meth.locks = false) (hw : wk D A L ad (cK cI cJ ad ce S') s.heap H locs) (hE : sp = S') (hdg : decode cc pc = .ok (.return_, 1)) : W p l e R s m args below meth c H locs cells slots (MQ below (kQv D A L ad (cK cI cJ ad ce sp)) args s cells slots A) (F0 m pc ls []) := by
  subst hE
  exact k_vret hx hb hr hlocks hw rfl hdg
end ENDS
end
