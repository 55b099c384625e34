section
-- ===== PART A: goes FIRST, ahead of the names: the tables' words, and 'selects' of the private methods out of them =====
/-- a private method of a class that the tables say can be made, by its rows of tables_1 -/
def lw_okq (q : MethodName × Nat) : Prop := (q.1.cls ≠ "java/lang/invoke/MethodHandle" ∧ q.1.cls ≠ "java/lang/invoke/VarHandle") ∧ Cond.instantiable q.1.cls q.2 ∈ tables_1 ∧ Cond.privateMethod q.1 ∈ tables_1 ∧ Cond.instanceMethod q.1 ∈ tables_1
theorem lw_p0 : lw_okq (⟨"FacetCounts", "renewKinds", "(I)V"⟩, 7) := ⟨⟨by decide +kernel, by decide +kernel⟩, List.mem_of_getElem? (i := 10) (by decide +kernel), List.mem_of_getElem? (i := 60) (by decide +kernel), List.mem_of_getElem? (i := 61) (by decide +kernel)⟩
theorem lw_p1 : lw_okq (⟨"FacetCounts", "withUppers", "(II)I"⟩, 7) := ⟨⟨by decide +kernel, by decide +kernel⟩, List.mem_of_getElem? (i := 10) (by decide +kernel), List.mem_of_getElem? (i := 64) (by decide +kernel), List.mem_of_getElem? (i := 65) (by decide +kernel)⟩
theorem lw_p2 : lw_okq (⟨"FacetCounts", "countKept", "()I"⟩, 7) := ⟨⟨by decide +kernel, by decide +kernel⟩, List.mem_of_getElem? (i := 10) (by decide +kernel), List.mem_of_getElem? (i := 80) (by decide +kernel), List.mem_of_getElem? (i := 81) (by decide +kernel)⟩
theorem lw_p3 : lw_okq (⟨"FacetCounts", "lackedHeads", "(I)I"⟩, 7) := ⟨⟨by decide +kernel, by decide +kernel⟩, List.mem_of_getElem? (i := 10) (by decide +kernel), List.mem_of_getElem? (i := 84) (by decide +kernel), List.mem_of_getElem? (i := 85) (by decide +kernel)⟩
theorem lw_p4 : lw_okq (⟨"FacetCounts", "valuesOf", "(II)I"⟩, 7) := ⟨⟨by decide +kernel, by decide +kernel⟩, List.mem_of_getElem? (i := 10) (by decide +kernel), List.mem_of_getElem? (i := 88) (by decide +kernel), List.mem_of_getElem? (i := 89) (by decide +kernel)⟩
theorem lw_p5 : lw_okq (⟨"FacetCounts", "countWithAny", "(II)I"⟩, 7) := ⟨⟨by decide +kernel, by decide +kernel⟩, List.mem_of_getElem? (i := 10) (by decide +kernel), List.mem_of_getElem? (i := 104) (by decide +kernel), List.mem_of_getElem? (i := 105) (by decide +kernel)⟩
theorem lw_p6 : lw_okq (⟨"FacetCounts", "isKeptBut", "(II)Z"⟩, 7) := ⟨⟨by decide +kernel, by decide +kernel⟩, List.mem_of_getElem? (i := 10) (by decide +kernel), List.mem_of_getElem? (i := 108) (by decide +kernel), List.mem_of_getElem? (i := 109) (by decide +kernel)⟩
theorem lw_p7 : lw_okq (⟨"FacetCounts", "countAll", "()V"⟩, 7) := ⟨⟨by decide +kernel, by decide +kernel⟩, List.mem_of_getElem? (i := 10) (by decide +kernel), List.mem_of_getElem? (i := 116) (by decide +kernel), List.mem_of_getElem? (i := 117) (by decide +kernel)⟩
theorem lw_p8 : lw_okq (⟨"FacetCounts", "countValues", "(II)V"⟩, 7) := ⟨⟨by decide +kernel, by decide +kernel⟩, List.mem_of_getElem? (i := 10) (by decide +kernel), List.mem_of_getElem? (i := 120) (by decide +kernel), List.mem_of_getElem? (i := 121) (by decide +kernel)⟩
theorem lw_p9 : lw_okq (⟨"FacetCounts", "rankOf", "(II)I"⟩, 7) := ⟨⟨by decide +kernel, by decide +kernel⟩, List.mem_of_getElem? (i := 10) (by decide +kernel), List.mem_of_getElem? (i := 124) (by decide +kernel), List.mem_of_getElem? (i := 125) (by decide +kernel)⟩
theorem lw_p10 : lw_okq (⟨"java/lang/Throwable", "fillInStackTrace", "(I)Ljava/lang/Throwable;"⟩, 6) := ⟨⟨by decide +kernel, by decide +kernel⟩, List.mem_of_getElem? (i := 200) (by decide +kernel), List.mem_of_getElem? (i := 198) (by decide +kernel), List.mem_of_getElem? (i := 199) (by decide +kernel)⟩
theorem lw_p11 : lw_okq (⟨"FacetCounts", "countKeptBut", "(I)I"⟩, 7) := ⟨⟨by decide +kernel, by decide +kernel⟩, List.mem_of_getElem? (i := 10) (by decide +kernel), List.mem_of_getElem? (i := 230) (by decide +kernel), List.mem_of_getElem? (i := 231) (by decide +kernel)⟩
theorem lw_p12 : lw_okq (⟨"FacetCountsModel", "isUnder", "(II)Z"⟩, 7) := ⟨⟨by decide +kernel, by decide +kernel⟩, List.mem_of_getElem? (i := 238) (by decide +kernel), List.mem_of_getElem? (i := 295) (by decide +kernel), List.mem_of_getElem? (i := 296) (by decide +kernel)⟩
theorem lw_p13 : lw_okq (⟨"FacetCountsModel", "all", "(I)I"⟩, 7) := ⟨⟨by decide +kernel, by decide +kernel⟩, List.mem_of_getElem? (i := 238) (by decide +kernel), List.mem_of_getElem? (i := 303) (by decide +kernel), List.mem_of_getElem? (i := 304) (by decide +kernel)⟩
theorem lw_p14 : lw_okq (⟨"FacetCountsModel", "isKeptBut", "(II)Z"⟩, 7) := ⟨⟨by decide +kernel, by decide +kernel⟩, List.mem_of_getElem? (i := 238) (by decide +kernel), List.mem_of_getElem? (i := 307) (by decide +kernel), List.mem_of_getElem? (i := 308) (by decide +kernel)⟩
theorem lw_p15 : lw_okq (⟨"FacetCountsModel", "isMet", "(II)Z"⟩, 7) := ⟨⟨by decide +kernel, by decide +kernel⟩, List.mem_of_getElem? (i := 238) (by decide +kernel), List.mem_of_getElem? (i := 311) (by decide +kernel), List.mem_of_getElem? (i := 312) (by decide +kernel)⟩
def lw_privs_1 : List (MethodName × Nat) := [(⟨"FacetCounts", "renewKinds", "(I)V"⟩, 7), (⟨"FacetCounts", "withUppers", "(II)I"⟩, 7), (⟨"FacetCounts", "countKept", "()I"⟩, 7), (⟨"FacetCounts", "lackedHeads", "(I)I"⟩, 7), (⟨"FacetCounts", "valuesOf", "(II)I"⟩, 7), (⟨"FacetCounts", "countWithAny", "(II)I"⟩, 7), (⟨"FacetCounts", "isKeptBut", "(II)Z"⟩, 7), (⟨"FacetCounts", "countAll", "()V"⟩, 7), (⟨"FacetCounts", "countValues", "(II)V"⟩, 7), (⟨"FacetCounts", "rankOf", "(II)I"⟩, 7), (⟨"java/lang/Throwable", "fillInStackTrace", "(I)Ljava/lang/Throwable;"⟩, 6), (⟨"FacetCounts", "countKeptBut", "(I)I"⟩, 7), (⟨"FacetCountsModel", "isUnder", "(II)Z"⟩, 7), (⟨"FacetCountsModel", "all", "(I)I"⟩, 7), (⟨"FacetCountsModel", "isKeptBut", "(II)Z"⟩, 7), (⟨"FacetCountsModel", "isMet", "(II)Z"⟩, 7)]
theorem lw_r1 : ∀ q ∈ lw_privs_1, lw_okq q := List.forall_mem_cons.mpr ⟨lw_p0, List.forall_mem_cons.mpr ⟨lw_p1, List.forall_mem_cons.mpr ⟨lw_p2, List.forall_mem_cons.mpr ⟨lw_p3, List.forall_mem_cons.mpr ⟨lw_p4, List.forall_mem_cons.mpr ⟨lw_p5, List.forall_mem_cons.mpr ⟨lw_p6, List.forall_mem_cons.mpr ⟨lw_p7, List.forall_mem_cons.mpr ⟨lw_p8, List.forall_mem_cons.mpr ⟨lw_p9, List.forall_mem_cons.mpr ⟨lw_p10, List.forall_mem_cons.mpr ⟨lw_p11, List.forall_mem_cons.mpr ⟨lw_p12, List.forall_mem_cons.mpr ⟨lw_p13, List.forall_mem_cons.mpr ⟨lw_p14, List.forall_mem_cons.mpr ⟨lw_p15, fun _ h => absurd h List.not_mem_nil⟩⟩⟩⟩⟩⟩⟩⟩⟩⟩⟩⟩⟩⟩⟩⟩
theorem lw_p16 : lw_okq (⟨"FacetCountsModel", "owns", "(III)Z"⟩, 7) := ⟨⟨by decide +kernel, by decide +kernel⟩, List.mem_of_getElem? (i := 238) (by decide +kernel), List.mem_of_getElem? (i := 315) (by decide +kernel), List.mem_of_getElem? (i := 316) (by decide +kernel)⟩
theorem lw_p17 : lw_okq (⟨"FacetCountsModel", "count", "(II)I"⟩, 7) := ⟨⟨by decide +kernel, by decide +kernel⟩, List.mem_of_getElem? (i := 238) (by decide +kernel), List.mem_of_getElem? (i := 331) (by decide +kernel), List.mem_of_getElem? (i := 332) (by decide +kernel)⟩
def lw_privs_2 : List (MethodName × Nat) := [(⟨"FacetCountsModel", "owns", "(III)Z"⟩, 7), (⟨"FacetCountsModel", "count", "(II)I"⟩, 7)]
theorem lw_r2 : ∀ q ∈ lw_privs_2, lw_okq q := List.forall_mem_cons.mpr ⟨lw_p16, List.forall_mem_cons.mpr ⟨lw_p17, fun _ h => absurd h List.not_mem_nil⟩⟩
def lw_privs : List (MethodName × Nat) := lw_privs_1 ++ (lw_privs_2)
def lw_tbl : List Cond := k2_sels lw_privs ++ tables_1
theorem lw_privs_ok : ∀ q ∈ lw_privs, lw_okq q := by
  show ∀ q ∈ lw_privs_1 ++ (lw_privs_2), lw_okq q
  exact List.forall_mem_append.mpr ⟨lw_r1, lw_r2⟩
/-! ===== BEGIN words of one list among another's, by their places ===== -/
theorem goodIn_r {big : List Cond} (ws : List Cond) (ps : List Nat) (hp : ws = ps.filterMap (fun i => big[i]?)) (h : ws.all goodWord = true) : GoodIn big ws := by
  intro w hw
  have h1 := List.all_eq_true.mp h w hw
  rw [hp] at hw
  obtain ⟨i, -, hi⟩ := List.mem_filterMap.mp hw
  have hm : w ∈ big := by first | exact List.mem_of_getElem? hi | exact List.getElem?_mem hi
  exact ⟨hm, good_of_word h1⟩
theorem goodIn_app {big a b : List Cond} (ha : GoodIn big a) (hb : GoodIn big b) : GoodIn big (a ++ b) := fun w h => (List.mem_append.mp h).elim (ha w) (hb w)
theorem goodIn_ca {big a b : List Cond} {c : Cond} (ha : GoodIn big (c :: a)) (hb : GoodIn big b) : GoodIn big (c :: (a ++ b)) := fun w h => (List.mem_cons.mp h).elim (fun e => ha w (List.mem_cons.mpr (Or.inl e))) (fun h => (List.mem_append.mp h).elim (fun h => ha w (List.mem_cons.mpr (Or.inr h))) (hb w))
theorem goodIn_sub {big ws : List Cond} (hm : ∀ w ∈ ws, w ∈ big) (h : ws.all goodWord = true) : GoodIn big ws := fun w hw => ⟨hm w hw, good_of_word (List.all_eq_true.mp h w hw)⟩
/-! ===== END ===== -/

/-! ===== BEGIN exceptions that leave a method, and their catching by the caller (launches without stack traces) ===== -/
section VXA
/-! The laws vx_back, vx_callV, vx_callS, vx_callSW, vx_throw0, vx_throwS follow proofs of the library, with one case more: JvmDerived/Free/Laws.lean (Back.of_free), Shelf42/LK1.lean (callV, callS), Shelf/KitTraced.lean (throwNew0V, throwNewS). -/
/-- where a method has thrown q: the class by its name, the cell, what was written, the world -/
def vx_T (XC : String → State → State → Prop) (st : State) (q : Addr) (t : State) (mc ms : Nat) (free : Addr → Prop) : Prop :=
  ∃ (E : String) (ce : Cell) (L : List Loc), XC E st t ∧ t.heap[q]? = some ce ∧ ce.vm = .none ∧ st.vm.findClass E = some ce.cls ∧ st.WarmedH t.vm ∧ st.sameButNew ({ t with vm := st.vm } : State) L mc ms ∧ ∀ z ∈ L, free z.base
def vx_Q (Qc : Array Value → State → Outcome → State → Prop) (XC : String → State → State → Prop) (mc ms : Nat) (free : Addr → Prop) : Array Value → State → Outcome → State → Prop := fun a st o t =>
  (Qc a st o t ∧ ∃ L, FrameEnd st o t L mc ms ∧ ∀ q ∈ L, free q.base) ∨ ∃ q, o = .threw q ∧ vx_T XC st q t mc ms free
/-- a callee that returns or throws -/
def vx_Met (l : Launch) (y : MethodName) (ws : List Cond) (rm : Room) (Pc : Array Value → State → Prop) (Qc : Array Value → State → Outcome → State → Prop) (XC : String → State → State → Prop) (mc ms : Nat) (free : Addr → Prop) : Prop :=
  MetFree l y (headSpec ws rm) Pc (fun _ _ _ _ _ => True) (vx_Q Qc XC mc ms free)
def vx_Post (XC : String → State → State → Prop) (mc ms : Nat) (free : Addr → Prop) : Pt → Array Value → Addr → Pt → Prop := fun A a q B =>
  ∃ (g : JFrame) (mk : MethodId) (t : State) (L : List Loc) (E : String) (ce : Cell), B.U.heap = t.heap ∧ B.U.vm = t.vm ∧ XC E (A.U.calling g mk a) t ∧ t.heap[q]? = some ce ∧ ce.vm = .none ∧ A.U.vm.findClass E = some ce.cls ∧ B.locs = A.locs ++ L ∧ (∀ z ∈ L, free z.base) ∧ B.cells = A.cells + mc ∧ B.slots = A.slots + ms
def vx_Back (l : Launch) (R : Room) (p : Program) (e : Env) (below : List Frame) (s : State) (sargs : Array Value) (y : MethodName) (len W9 : Nat)
    (Pre : Pt → Array Value → Prop) (Post : Pt → Array Value → Option Value → Pt → Prop) (PostX : Pt → Array Value → Addr → Pt → Prop) : Prop :=
  ∀ (m : MethodId) (meth : Method) (c : Code) (A : Pt) (g : JFrame) (ig : Instr) (mk : MethodId) (a : Array Value),
    Stand p l e R s m sargs below meth c A.U A.locs A.cells A.slots → g.method = m → g.locals.size = c.maxLocals → decode c.code g.pc = .ok (ig, len) →
    2 * g.monitorRoom + (g.stack.map fun v => v.category).sum ≤ W9 → A.U.methodNamed? y = some mk → Pre A a →
    (∃ (v : Option Value) (B : Pt), Stand p l e R s m sargs below meth c B.U B.locs B.cells B.slots ∧ Post A a v B ∧
      Steps p.tables e below (doInvoke e (A.U.setTop g) [] mk a).1 (B.U.setTop { g with pc := g.pc + len, stack := v.toList ++ g.stack })) ∨
    (∃ (q : Addr) (B : Pt), Stand p l e R s m sargs below meth c B.U B.locs B.cells B.slots ∧ PostX A a q B ∧
      Steps p.tables e below (doInvoke e (A.U.setTop g) [] mk a).1 ((B.U.setTop g).pushFrame (.throwing q)))
section Payer
variable {l : Launch} {R : Room} {p : Program} {e : Env} {below : List Frame} {s : State} {sargs : Array Value} {y : MethodName} {len W9 : Nat}
theorem vx_back {ws : List Cond} {rm : Room} {Pc : Array Value → State → Prop} {Qc : Array Value → State → Outcome → State → Prop} {XC : String → State → State → Prop} {mc ms : Nat} {free : Addr → Prop} {bytes : ByteArray} {maxL : Nat} {ret : Option FieldType}
    (hM : vx_Met l y ws rm Pc Qc XC mc ms free) (hblind : FrameBlind Pc) (hrc : rm.cells = mc) (hrs : rm.slots = ms)
    (hframes : rm.frames + 1 ≤ R.frames) (hlocals : W9 + (maxL + 11) + rm.locals ≤ R.locals)
    (hws : ∀ w ∈ ws, ∀ a' U, s.WarmedH U.vm → w.before a' U = true) (hcode : Cond.code y bytes maxL ret ∈ ws) (hinit : ∀ a' U, s.WarmedH U.vm → (Cond.initialized y.cls).before a' U = true) :
    vx_Back l R p e below s sargs y len W9 (PreOf R mc ms Pc) (PostOf Qc mc ms free) (vx_Post XC mc ms free) := by
  intro m meth c A g ig mk a X hg hsize hdg hW hn hp
  have h1 : (headSpec ws rm).pre.before a A.U = true := atoms_intro fun w hw => hws w hw _ _ X.warmed
  have h2 : (Cond.code y bytes maxL ret).before a A.U = true := hws _ hcode _ _ X.warmed
  have h3 : (Cond.initialized y.cls).before a A.U = true := hinit _ _ X.warmed
  have h4 : A.cells + (headSpec ws rm).room.cells ≤ R.cells := by rw [show (headSpec ws rm).room.cells = mc from hrc]; exact hp.1
  have h5 : A.slots + (headSpec ws rm).room.slots ≤ R.slots := by rw [show (headSpec ws rm).room.slots = ms from hrs]; exact hp.2.1
  have hPc : Pc a (A.U.calling g mk a) := hblind _ _ _ _ hp.2.2
  obtain ⟨U, Ls, c0, s0⟩ := A
  dsimp only [Pt.U, Pt.locs, Pt.cells, Pt.slots] at h1 h2 h3 h4 h5 X hn hPc ⊢
  obtain ⟨methY, cY, hmY, hcY, -, hlY, -, -, -, -⟩ := Cond.code_spec hn h2
  obtain ⟨kY, hkY, -⟩ := className_of_methodNamed hn
  have hinitY : kY.init = .initialized := Cond.initialized_spec (findClass_of_methodNamed hn) hkY h3
  have h : At U g.method c below := by rw [hg]; exact X.here
  have hlocals9 : W9 + (maxL + 11) + (headSpec ws rm).room.locals ≤ R.locals := hlocals
  have happ : (headSpec ws rm).appliesLoose y e.platform (U.calling g mk a) = true :=
    Spec.appliesLoose_calling (g := g) h hdg hn hkY hinitY
      (X.room_calling (g := g) (R' := (headSpec ws rm).room) hsize hmY hcY hframes (by rw [hlY]; omega) h4 h5) h1
  obtain ⟨mid, hmid⟩ := h.above
  have hfr : (U.setTop g).frames = (.java g :: mid) ++ below := by rw [State.frames_setTop' g h.top, hmid]; rfl
  obtain ⟨o, s₂, hsteps, -, hend, hq⟩ := Steps.callFree hM p X.admits X.cas X.clock (acts := []) hfr happ hPc trivial
  have hq' : vx_Q Qc XC mc ms free a (U.calling g mk a) o s₂ := hq
  rw [State.frames_setTop' g h.top] at hend
  obtain ⟨g₀, hg0⟩ := Option.isSome_iff_exists.mp h.top
  obtain ⟨r, hr⟩ := State.topJava?_eq_some.mp hg0
  have hr' : (({ U with heap := s₂.heap, slotsUsed := s₂.slotsUsed } : State).setVm s₂.vm).frames = .java g₀ :: r := hr
  rcases hq' with ⟨hqc, L, hfe, hL⟩ | ⟨q, rfl, E, ce, L, hx, hce, hcv, hcl, hW₂, hsm, hL⟩
  · obtain ⟨⟨v, rfl⟩, hW₂, e2, q2, q3, q4, q5, q6⟩ := id hfe
    have e3 : s₂ = ({ (U.calling g mk a).setFrames s₂.frames with heap := s₂.heap, slotsUsed := s₂.slotsUsed } : State).setVm s₂.vm := by
      have : s₂ = ({ s₂ with vm := (U.calling g mk a).vm } : State).setVm s₂.vm := rfl
      rw [e2] at this
      exact this
    obtain ⟨c₂, i₂, len₂, hc₂, hd₂, hf₂⟩ := hend
    have hW' : U.WarmedH s₂.vm := hW₂
    have hcc : c₂ = c := by
      have h1 : s₂.code? g.method = U.code? g.method := by
        rw [State.code?_eq, State.code?_eq, hW'.alike.method?]
      exact Option.some.inj (hc₂.symm.trans (h1.trans h.code))
    subst hcc
    have hlen : len₂ = len := by rw [hdg] at hd₂; cases hd₂; rfl
    subst hlen
    have hs₂ : s₂ = (({ U with heap := s₂.heap, slotsUsed := s₂.slotsUsed } : State).setVm s₂.vm).setTop { g with pc := g.pc + len₂, stack := v.toList ++ g.stack } := by
      refine e3.trans ?_
      rw [hf₂, State.calling_eq h.top, State.setFrames_setFrames, State.setTop_of_frames _ hr', hr]
      rfl
    have hsame : U.sameButNew ({ U with heap := s₂.heap, slotsUsed := s₂.slotsUsed } : State) L mc ms := by
      refine ⟨?_, q2, q3, q4, q5, q6⟩
      obtain ⟨t, ht, -⟩ := State.frames_cons hr
      show ({ U with heap := s₂.heap, slotsUsed := s₂.slotsUsed } : State) = { U.setFrames U.frames with heap := s₂.heap, slotsUsed := s₂.slotsUsed }
      rw [State.setFrames_self ht]
    subst hg
    refine Or.inl ⟨v, ⟨(({ U with heap := s₂.heap, slotsUsed := s₂.slotsUsed } : State).setVm s₂.vm), Ls ++ L, c0 + mc, s0 + ms⟩,
      ⟨X.admits, X.cas, X.clock, X.frames, X.room, X.hears, X.method, X.code, (X.here.setHeapUsed s₂.heap s₂.slotsUsed).setVm hW'.alike, X.tail, State.WarmedH.trans X.warmed hW', X.limits, X.bytes, X.same.trans (hsame.setVm s.vm)⟩,
      ⟨g, mk, s₂, L, rfl, rfl, hqc, rfl, hL, rfl, rfl⟩, ?_⟩
    show Steps p.tables e below _ ((({ U with heap := s₂.heap, slotsUsed := s₂.slotsUsed } : State).setVm s₂.vm).setTop { g with pc := g.pc + len₂, stack := v.toList ++ g.stack })
    rw [← hs₂]
    exact hsteps
  · obtain ⟨e2, q2, q3, q4, q5, q6⟩ := id hsm
    have e3 : s₂ = ({ (U.calling g mk a).setFrames s₂.frames with heap := s₂.heap, slotsUsed := s₂.slotsUsed } : State).setVm s₂.vm := by
      have : s₂ = ({ s₂ with vm := (U.calling g mk a).vm } : State).setVm s₂.vm := rfl
      rw [e2] at this
      exact this
    have hf₂ : s₂.frames = .throwing q :: .java g :: U.frames.tail := hend
    have hW' : U.WarmedH s₂.vm := hW₂
    have hs₂ : s₂ = ((({ U with heap := s₂.heap, slotsUsed := s₂.slotsUsed } : State).setVm s₂.vm).setTop g).pushFrame (.throwing q) := by
      refine e3.trans ?_
      rw [hf₂, State.calling_eq h.top, State.setFrames_setFrames, State.pushFrame, State.frames_setTop _ hr', State.setTop_of_frames _ hr', State.setFrames_setFrames, hr]
      rfl
    have hsame : U.sameButNew ({ U with heap := s₂.heap, slotsUsed := s₂.slotsUsed } : State) L mc ms := by
      refine ⟨?_, q2, q3, q4, q5, q6⟩
      obtain ⟨t, ht, -⟩ := State.frames_cons hr
      show ({ U with heap := s₂.heap, slotsUsed := s₂.slotsUsed } : State) = { U.setFrames U.frames with heap := s₂.heap, slotsUsed := s₂.slotsUsed }
      rw [State.setFrames_self ht]
    subst hg
    refine Or.inr ⟨q, ⟨(({ U with heap := s₂.heap, slotsUsed := s₂.slotsUsed } : State).setVm s₂.vm), Ls ++ L, c0 + mc, s0 + ms⟩,
      ⟨X.admits, X.cas, X.clock, X.frames, X.room, X.hears, X.method, X.code, (X.here.setHeapUsed s₂.heap s₂.slotsUsed).setVm hW'.alike, X.tail, State.WarmedH.trans X.warmed hW', X.limits, X.bytes, X.same.trans (hsame.setVm s.vm)⟩,
      ⟨g, mk, s₂, L, E, ce, rfl, rfl, hx, hce, hcv, hcl, rfl, hL, rfl, rfl⟩, ?_⟩
    show Steps p.tables e below _ (((({ U with heap := s₂.heap, slotsUsed := s₂.slotsUsed } : State).setVm s₂.vm).setTop g).pushFrame (.throwing q))
    rw [← hs₂]
    exact hsteps
end Payer
section Calls
variable {p : Program} {l : Launch} {e : Env} {R : Room} {s : State} {m : MethodId} {args : Array Value} {below : List Frame} {meth : Method} {c : Code} {T : State} {locs : List Loc} {cells slots : Nat}
theorem vx_callV (X : Stand p l e R s m args below meth c T locs cells slots) (hexec : p.tables.exec = Jvm.exec) {own C : String} {index : Nat} {y : MethodName} {bytes : ByteArray} {maxL : Nat} {ret : Option FieldType}
    (hown : s.vm.findClass own = some m.cls) (hlink : (Cond.methodLink own index y).before args s = true) (hinst : (Cond.instanceMethod y).before args s = true) (hsel : (Cond.selects C y y).before args s = true)
    (hcode : (Cond.code y bytes maxL ret).before args s = true) (hy : y.cls ≠ "java/lang/invoke/MethodHandle" ∧ y.cls ≠ "java/lang/invoke/VarHandle")
    {W9 : Nat} {Pre : Pt → Array Value → Prop} {Post : Pt → Array Value → Option Value → Pt → Prop} {PostX : Pt → Array Value → Addr → Pt → Prop} (hK : vx_Back l R p e below s args y 3 W9 Pre Post PostX)
    {b : Addr} {cellB : Cell} (hcell : T.heap[b]? = some cellB) (hobj : cellB.vm.isStatics = false) (hcls : s.vm.findClass C = some cellB.cls)
    {g : JFrame} (hg : g.method = m) (hsize : g.locals.size = c.maxLocals) {argsL rest : List Value} (hlen : ∀ sig, parseMethodDescriptor y.desc = some sig → argsL.length = sig.parameters.length)
    (hstack : g.stack = argsL.reverse ++ .ref b :: rest) (hW : 2 * g.monitorRoom + (rest.map fun v => v.category).sum ≤ W9) (hdg : decode c.code g.pc = .ok (.invokevirtual index, 3))
    (hpre : ∀ vm₁, s.WarmedH vm₁ → Pre ⟨T.setVm vm₁, locs, cells, slots⟩ (Value.ref b :: argsL).toArray) :
    (∃ (v : Option Value) (vm₁ : Vm) (B : Pt), s.WarmedH vm₁ ∧ Stand p l e R s m args below meth c B.U B.locs B.cells B.slots ∧ Post ⟨T.setVm vm₁, locs, cells, slots⟩ (Value.ref b :: argsL).toArray v B ∧
      ∀ target, Steps p.tables e below (B.U.setTop { g with pc := g.pc + 3, stack := v.toList ++ rest }) target → Steps p.tables e below (T.setTop g) target) ∨
    (∃ (q : Addr) (vm₁ : Vm) (B : Pt), s.WarmedH vm₁ ∧ Stand p l e R s m args below meth c B.U B.locs B.cells B.slots ∧ PostX ⟨T.setVm vm₁, locs, cells, slots⟩ (Value.ref b :: argsL).toArray q B ∧
      Steps p.tables e below (T.setTop g) ((B.U.setTop { g with stack := rest }).pushFrame (.throwing q))) := by
  obtain ⟨mk, methM, hnamed, hmethM, hstM, habM⟩ := Cond.instanceMethod_spec hinst
  obtain ⟨methM', cM, hmethM', -, -, -, -, -, -, hsigM⟩ := Cond.code_spec hnamed hcode
  cases hmethM.symm.trans hmethM'
  obtain ⟨c2, r2, m2, q1, q2, q3, q4, kP, hkP, hkPi⟩ := Cond.selects_spec hsel
  cases hcls.symm.trans q1
  cases (State.methodFound?_of_named hnamed hy).symm.trans q2
  cases hnamed.symm.trans q3
  have hselP : selectMethod e.platform s.vm cellB.cls mk = .method mk := by rw [Launch.admits_selectMethod X.admits]; exact q4
  obtain ⟨vm₁, X₁, hstep₁⟩ := X.invokevirtual hexec hown hlink hnamed hmethM hstM hkP hkPi hy (a := b) (cell := cellB) hcell
    (fun z h => by rw [h] at hobj; cases hobj) hselP hmethM habM hkP hkPi (g := g) hg (argsL := argsL) (rest := rest) (hlen _ hsigM) hstack hdg
  rcases hK m meth c ⟨T.setVm vm₁, locs, cells, slots⟩ { g with stack := rest } (.invokevirtual index) mk (Value.ref b :: argsL).toArray X₁ hg hsize hdg hW (X₁.named hnamed) (hpre vm₁ X₁.warmed) with ⟨v, B, X', hpost, hsteps⟩ | ⟨q, B, X', hpost, hsteps⟩
  · exact Or.inl ⟨v, vm₁, B, X₁.warmed, X', hpost, fun target h => hstep₁ _ fun acts => by rw [doInvoke_state]; exact hsteps.trans h⟩
  · exact Or.inr ⟨q, vm₁, B, X₁.warmed, X', hpost, hstep₁ _ fun acts => by rw [doInvoke_state]; exact hsteps⟩
theorem vx_callS (X : Stand p l e R s m args below meth c T locs cells slots) (hexec : p.tables.exec = Jvm.exec) {own : String} {index : Nat} {y : MethodName} {bytes : ByteArray} {maxL : Nat} {ret : Option FieldType}
    (hown : s.vm.findClass own = some m.cls) (hlink : (Cond.methodLink own index y).before args s = true) (hstat : (Cond.static y).before args s = true) (hinit : (Cond.initialized y.cls).before args s = true)
    (hcode : (Cond.code y bytes maxL ret).before args s = true) (hy : y.cls ≠ "java/lang/invoke/MethodHandle" ∧ y.cls ≠ "java/lang/invoke/VarHandle")
    {W9 : Nat} {Pre : Pt → Array Value → Prop} {Post : Pt → Array Value → Option Value → Pt → Prop} {PostX : Pt → Array Value → Addr → Pt → Prop} (hK : vx_Back l R p e below s args y 3 W9 Pre Post PostX)
    {g : JFrame} (hg : g.method = m) (hsize : g.locals.size = c.maxLocals) {argsL rest : List Value} (hlen : ∀ sig, parseMethodDescriptor y.desc = some sig → argsL.length = sig.parameters.length)
    (hstack : g.stack = argsL.reverse ++ rest) (hW : 2 * g.monitorRoom + (rest.map fun v => v.category).sum ≤ W9) (hdg : decode c.code g.pc = .ok (.invokestatic index, 3))
    (hpre : ∀ vm₁, s.WarmedH vm₁ → Pre ⟨T.setVm vm₁, locs, cells, slots⟩ argsL.toArray) :
    (∃ (v : Option Value) (vm₁ : Vm) (B : Pt), s.WarmedH vm₁ ∧ Stand p l e R s m args below meth c B.U B.locs B.cells B.slots ∧ Post ⟨T.setVm vm₁, locs, cells, slots⟩ argsL.toArray v B ∧
      ∀ target, Steps p.tables e below (B.U.setTop { g with pc := g.pc + 3, stack := v.toList ++ rest }) target → Steps p.tables e below (T.setTop g) target) ∨
    (∃ (q : Addr) (vm₁ : Vm) (B : Pt), s.WarmedH vm₁ ∧ Stand p l e R s m args below meth c B.U B.locs B.cells B.slots ∧ PostX ⟨T.setVm vm₁, locs, cells, slots⟩ argsL.toArray q B ∧
      Steps p.tables e below (T.setTop g) ((B.U.setTop { g with stack := rest }).pushFrame (.throwing q))) := by
  obtain ⟨mk, hnamed⟩ := Cond.code_named hcode
  obtain ⟨methM, cM, hmethM, -, -, -, -, -, -, hsigM⟩ := Cond.code_spec hnamed hcode
  have hstatic : methM.isStatic = true := Cond.static_spec hnamed hmethM hstat
  obtain ⟨kP, hkP, -⟩ := className_of_methodNamed hnamed
  have hinitP : kP.init = .initialized := Cond.initialized_spec (findClass_of_methodNamed hnamed) hkP hinit
  obtain ⟨vm₁, X₁, hstep₁⟩ := X.invokestatic hexec hown hlink hnamed hmethM hstatic hkP hinitP hy (g := g) hg (argsL := argsL) (rest := rest) (hlen _ hsigM) hstack hdg
  rcases hK m meth c ⟨T.setVm vm₁, locs, cells, slots⟩ { g with stack := rest } (.invokestatic index) mk argsL.toArray X₁ hg hsize hdg hW (X₁.named hnamed) (hpre vm₁ X₁.warmed) with ⟨v, B, X', hpost, hsteps⟩ | ⟨q, B, X', hpost, hsteps⟩
  · exact Or.inl ⟨v, vm₁, B, X₁.warmed, X', hpost, fun target h => hstep₁ _ fun acts => by rw [doInvoke_state]; exact hsteps.trans h⟩
  · exact Or.inr ⟨q, vm₁, B, X₁.warmed, X', hpost, hstep₁ _ fun acts => by rw [doInvoke_state]; exact hsteps⟩
end Calls
theorem vx_cls {s : State} {T : State} {vm₁ : Vm} {E : String} {k : ClassId} (hW : s.WarmedH vm₁) (h : (T.setVm vm₁).vm.findClass E = some k) : s.vm.findClass E = some k := by
  have h1 : vm₁.findClass E = some k := h
  rw [hW.alike.findClass] at h1
  exact h1
/-- the method's frame g, with q thrown over it -/
def vx_W (p : Program) (l : Launch) (e : Env) (R : Room) (s : State) (m : MethodId) (args : Array Value) (below : List Frame) (meth : Method) (c : Code) (H : Heap) (locs : List Loc) (cells slots : Nat) (Q : State → Prop) (g : JFrame) (q : Addr) : Prop :=
  ∀ T : State, T.heap = H → Stand p l e R s m args below meth c T locs cells slots → ∃ t, Steps p.tables e below ((T.setTop g).pushFrame (.throwing q)) t ∧ Q t
def vx_Run (p : Program) (l : Launch) (e : Env) (R : Room) (s : State) (m : MethodId) (args : Array Value) (below : List Frame) (meth : Method) (c : Code) (H : Heap) (locs : List Loc) (cells slots mc ms : Nat) (g : JFrame) (rest : List Value) (Qa : State → Outcome → State → Prop) (XC : String → State → State → Prop) (free : Addr → Prop) : Prop :=
  ∀ T : State, T.heap = H → Stand p l e R s m args below meth c T locs cells slots →
    (∃ (v : Option Value) (st₀ t T' : State) (L : List Loc), st₀.heap = H ∧ Stand p l e R s m args below meth c T' (locs ++ L) (cells + mc) (slots + ms) ∧ (∀ q ∈ L, free q.base) ∧ T'.heap = t.heap ∧ T'.vm = t.vm ∧ Qa st₀ (.returned v) t ∧
      Goes p e below T g T' { g with pc := g.pc + 3, stack := v.toList ++ rest }) ∨
    (∃ (q : Addr) (st₀ t T' : State) (L : List Loc) (E : String) (ce : Cell), st₀.heap = H ∧ Stand p l e R s m args below meth c T' (locs ++ L) (cells + mc) (slots + ms) ∧ (∀ z ∈ L, free z.base) ∧ T'.heap = t.heap ∧ T'.vm = t.vm ∧ XC E st₀ t ∧ t.heap[q]? = some ce ∧ ce.vm = .none ∧ s.vm.findClass E = some ce.cls ∧
      Steps p.tables e below (T.setTop g) ((T'.setTop { g with stack := rest }).pushFrame (.throwing q)))
def vx_X {S : Type} (px : S → Prop) (B : String → S → State → Prop) (A : Nat → Prop) : String → State → State → Prop := fun E st t => ∃ u : S, px u ∧ B E u t ∧ va_F A st t
section Runs
variable {p : Program} {l : Launch} {e : Env} {R : Room} {s : State} {m : MethodId} {args : Array Value} {below : List Frame} {meth : Method} {c : Code} {H : Heap} {locs : List Loc} {cells slots : Nat}
variable {y : MethodName} {bytes cc : ByteArray} {maxL nL mc ms n index : Nat} {ret : Option FieldType} {ws : List Cond} {rm : Room} {Pc : Array Value → State → Prop} {Qc : Array Value → State → Outcome → State → Prop} {XC : String → State → State → Prop} {free : Addr → Prop} {Ts : List Cond} {own C : String} {b : Addr} {As rest : List Value} {g : JFrame}
theorem vx_callBack (cb : CallB R s args own index y bytes maxL ret ws rm mc ms n) (hM : vx_Met l y ws rm Pc Qc XC mc ms free) (hbl : FrameBlind Pc) : vx_Back l R p e below s args y 3 8 (PreOf R mc ms Pc) (PostOf Qc mc ms free) (vx_Post XC mc ms free) := by
  obtain ⟨hrc, hrs, hfr, hlo, hws, hcw, -, hini, -⟩ := cb
  exact vx_back (bytes := bytes) (maxL := maxL) (ret := ret) hM hbl hrc hrs hfr hlo hws hcw (fun a' U hW => word_at hW (Or.inl (by first | rfl | simp [Cond.onTables, Cond.keeps, Cond.steady])) hini)
theorem vx_runV (S : CallFix p m c cc nL s args Ts own) (hM : vx_Met l y ws rm Pc Qc XC mc ms free) (cw : CallW R s args own C index y bytes maxL ret ws rm mc ms n) (hp : PreV s H C b Pc As)
    (hg : g.method = m) (hn : As.length = n) (hsize : g.locals.size = nL) (hstack : g.stack = As.reverse ++ .ref b :: rest) (hW : 2 * g.monitorRoom + (rest.map fun v => v.category).sum ≤ 8) (hdg : decode cc g.pc = .ok (.invokevirtual index, 3)) (hf : cells + mc ≤ R.cells ∧ slots + ms ≤ R.slots) :
    vx_Run p l e R s m args below meth c H locs cells slots mc ms g rest (Qc (Value.ref b :: As).toArray) XC free := by
  have hK : vx_Back l R p e below s args y 3 8 (PreOf R mc ms Pc) (PostOf Qc mc ms free) (vx_Post XC mc ms free) := vx_callBack cw.1 hM hp.1
  obtain ⟨⟨-, -, -, -, -, -, hcode, -, hy, hlen, hl⟩, hin, hse⟩ := cw
  obtain ⟨hx, hb, hml, ho, -⟩ := S
  obtain ⟨-, ⟨cellB, hcB, hoB, hclB⟩, hPc⟩ := hp
  intro T hT X
  rcases vx_callV X hx (C := C) (bytes := bytes) (maxL := maxL) (ret := ret) ho hl hin hse hcode hy hK (by rw [hT]; exact hcB) hoB hclB hg (hsize.trans hml.symm) (argsL := As) (rest := rest) (fun sig h => hn.trans (hlen sig h)) hstack hW (by rw [hb]; exact hdg)
    (fun vm₁ hW₁ => ⟨hf.1, hf.2, hPc (T.setVm vm₁) hT hW₁⟩) with ⟨v, vm₁, ⟨U', l2, c2, s2⟩, hW₁, X', ⟨g', mk, t, L, e1, e2, hq, h1, hL, h2, h3⟩, st⟩ | ⟨q, vm₁, ⟨U', l2, c2, s2⟩, hW₁, X', ⟨g', mk, t, L, E, ce, e1, e2, hq, hce, hcv, hcl, h1, hL, h2, h3⟩, st⟩
  · dsimp only [Pt.U, Pt.locs, Pt.cells, Pt.slots] at X' e1 e2 h1 h2 h3 st
    subst h1; subst h2; subst h3
    exact Or.inl ⟨v, (T.setVm vm₁).calling g' mk (Value.ref b :: As).toArray, t, U', L, hT, X', hL, e1, e2, hq, st⟩
  · dsimp only [Pt.U, Pt.locs, Pt.cells, Pt.slots] at X' e1 e2 h1 h2 h3 st hcl
    subst h1; subst h2; subst h3
    exact Or.inr ⟨q, (T.setVm vm₁).calling g' mk (Value.ref b :: As).toArray, t, U', L, E, ce, hT, X', hL, e1, e2, hq, hce, hcv, vx_cls hW₁ hcl, st⟩
theorem vx_runS (S : CallFix p m c cc nL s args Ts own) (hM : vx_Met l y ws rm Pc Qc XC mc ms free) (cw : CallB R s args own index y bytes maxL ret ws rm mc ms n ∧ (Cond.static y).before args s = true) (hp : PreS s H Pc As)
    (hg : g.method = m) (hn : As.length = n) (hsize : g.locals.size = nL) (hstack : g.stack = As.reverse ++ rest) (hW : 2 * g.monitorRoom + (rest.map fun v => v.category).sum ≤ 8) (hdg : decode cc g.pc = .ok (.invokestatic index, 3)) (hf : cells + mc ≤ R.cells ∧ slots + ms ≤ R.slots) :
    vx_Run p l e R s m args below meth c H locs cells slots mc ms g rest (Qc As.toArray) XC free := by
  have hK : vx_Back l R p e below s args y 3 8 (PreOf R mc ms Pc) (PostOf Qc mc ms free) (vx_Post XC mc ms free) := vx_callBack cw.1 hM hp.1
  obtain ⟨⟨-, -, -, -, -, -, hcode, hini, hy, hlen, hl⟩, hstt⟩ := cw
  obtain ⟨hx, hb, hml, ho, -⟩ := S
  intro T hT X
  rcases vx_callS X hx (bytes := bytes) (maxL := maxL) (ret := ret) ho hl hstt hini hcode hy hK hg (hsize.trans hml.symm) (argsL := As) (rest := rest) (fun sig h => hn.trans (hlen sig h)) hstack hW (by rw [hb]; exact hdg)
    (fun vm₁ hW₁ => ⟨hf.1, hf.2, hp.2 (T.setVm vm₁) hT hW₁⟩) with ⟨v, vm₁, ⟨U', l2, c2, s2⟩, hW₁, X', ⟨g', mk, t, L, e1, e2, hq, h1, hL, h2, h3⟩, st⟩ | ⟨q, vm₁, ⟨U', l2, c2, s2⟩, hW₁, X', ⟨g', mk, t, L, E, ce, e1, e2, hq, hce, hcv, hcl, h1, hL, h2, h3⟩, st⟩
  · dsimp only [Pt.U, Pt.locs, Pt.cells, Pt.slots] at X' e1 e2 h1 h2 h3 st
    subst h1; subst h2; subst h3
    exact Or.inl ⟨v, (T.setVm vm₁).calling g' mk As.toArray, t, U', L, hT, X', hL, e1, e2, hq, st⟩
  · dsimp only [Pt.U, Pt.locs, Pt.cells, Pt.slots] at X' e1 e2 h1 h2 h3 st hcl
    subst h1; subst h2; subst h3
    exact Or.inr ⟨q, (T.setVm vm₁).calling g' mk As.toArray, t, U', L, E, ce, hT, X', hL, e1, e2, hq, hce, hcv, vx_cls hW₁ hcl, st⟩
end Runs
section Rows
variable {p : Program} {l : Launch} {e : Env} {R : Room} {s : State} {m : MethodId} {args : Array Value} {below : List Frame} {meth : Method} {c : Code} {H : Heap} {locs : List Loc} {cells slots : Nat} {Q : State → Prop}
variable {mc ms : Nat} {free : Addr → Prop} {A0 A1 : Nat → Prop} {H0 : Heap} {a : Array Value} {pc : Nat} {ls : Array Slot} {st0 rest : List Value}
theorem vx_keep {st₀ t T' : State} {L : List Loc} (h0 : st₀.heap = H) (e1 : T'.heap = t.heap) (hS : va_S A0 H0 H locs) (hA : ∀ q, q < H.size → A1 q → A0 q) (hf : ∀ q, free q → A0 q) (hL : ∀ q ∈ L, free q.base) (hF : va_F A1 st₀ t) :
    H.size ≤ T'.heap.size ∧ (∀ q : Nat, q < H.size → ¬ A1 q → T'.heap[q]? = H[q]?) ∧ va_S A0 H0 T'.heap (locs ++ L) := by
  obtain ⟨hz, hk⟩ := hF
  rw [h0] at hz hk
  exact ⟨by rw [e1]; exact hz, fun q h1 h2 => by rw [e1]; exact hk q h1 h2,
    ⟨Nat.le_trans hS.1 (by rw [e1]; exact hz), fun q h1 h2 => by rw [e1, hk q (Nat.lt_of_lt_of_le h1 hS.1) (fun z => h2 (hA q (Nat.lt_of_lt_of_le h1 hS.1) z))]; exact hS.2.1 q h1 h2, fun q hq => by
      rcases List.mem_append.mp hq with h | h
      · exact hS.2.2 q h
      · exact hf _ (hL q h)⟩⟩
theorem vx_calli {S SX : Type} {post : Int32 → S → Prop} {px : SX → Prop} {B : S → State → Prop} {BX : String → SX → State → Prop} {AX : Nat → Prop} (hr : vx_Run p l e R s m args below meth c H locs cells slots mc ms (F0 m pc ls st0) rest (va_Qi post B A1 a) (vx_X px BX AX) free) (hS : va_S A0 H0 H locs) (hA : ∀ q, q < H.size → A1 q → A0 q) (hf : ∀ q, free q → A0 q) (hAX : ∀ q, q < H.size → AX q → A0 q)
    (kx : ∀ (E : String) (ce : Cell) (q9 : Addr) (u : SX) (t : State) (H1 : Heap) (locs1 : List Loc), t.heap = H1 → s.vm.Alike t.vm → px u → BX E u t → H.size ≤ H1.size → (∀ q : Nat, q < H.size → ¬ AX q → H1[q]? = H[q]?) → va_S A0 H0 H1 locs1 → H1[q9]? = some ce → ce.vm = .none → s.vm.findClass E = some ce.cls → vx_W p l e R s m args below meth c H1 locs1 (cells + mc) (slots + ms) Q (F0 m pc ls rest) q9)
    (kk : ∀ (r : Int32) (u : S) (t : State) (H1 : Heap) (locs1 : List Loc), t.heap = H1 → s.vm.Alike t.vm → post r u → B u t → H.size ≤ H1.size → (∀ q : Nat, q < H.size → ¬ A1 q → H1[q]? = H[q]?) → va_S A0 H0 H1 locs1 → W p l e R s m args below meth c H1 locs1 (cells + mc) (slots + ms) Q (F0 m (pc + 3) ls (.int r :: rest))) : W p l e R s m args below meth c H locs cells slots Q (F0 m pc ls st0) := by
  intro T hT X
  rcases hr T hT X with ⟨v, st₀, t, T', L, h0, X', hL, e1, e2, ⟨⟨r, u, hv, hp, hb⟩, hF⟩, st⟩ | ⟨q, st₀, t, T', L, E, ce, h0, X', hL, e1, e2, ⟨u, hp, hb, hF⟩, hce, hcv, hcl, st⟩
  · cases hv
    obtain ⟨k1, k2, k3⟩ := vx_keep h0 e1 hS hA hf hL hF
    obtain ⟨t2, a1, b1⟩ := kk r u t T'.heap (locs ++ L) e1.symm (by rw [← e2]; exact X'.warmed.alike) hp hb k1 k2 k3 T' rfl X'
    exact ⟨t2, st t2 a1, b1⟩
  · obtain ⟨k1, k2, k3⟩ := vx_keep h0 e1 hS hAX hf hL hF
    obtain ⟨t2, a1, b1⟩ := kx E ce q u t T'.heap (locs ++ L) e1.symm (by rw [← e2]; exact X'.warmed.alike) hp hb k1 k2 k3 (by rw [e1]; exact hce) hcv hcl T' rfl X'
    exact ⟨t2, st.trans a1, b1⟩
theorem vx_calll {S SX : Type} {post : Int64 → S → Prop} {px : SX → Prop} {B : S → State → Prop} {BX : String → SX → State → Prop} {AX : Nat → Prop} (hr : vx_Run p l e R s m args below meth c H locs cells slots mc ms (F0 m pc ls st0) rest (va_Ql post B A1 a) (vx_X px BX AX) free) (hS : va_S A0 H0 H locs) (hA : ∀ q, q < H.size → A1 q → A0 q) (hf : ∀ q, free q → A0 q) (hAX : ∀ q, q < H.size → AX q → A0 q)
    (kx : ∀ (E : String) (ce : Cell) (q9 : Addr) (u : SX) (t : State) (H1 : Heap) (locs1 : List Loc), t.heap = H1 → s.vm.Alike t.vm → px u → BX E u t → H.size ≤ H1.size → (∀ q : Nat, q < H.size → ¬ AX q → H1[q]? = H[q]?) → va_S A0 H0 H1 locs1 → H1[q9]? = some ce → ce.vm = .none → s.vm.findClass E = some ce.cls → vx_W p l e R s m args below meth c H1 locs1 (cells + mc) (slots + ms) Q (F0 m pc ls rest) q9)
    (kk : ∀ (r : Int64) (u : S) (t : State) (H1 : Heap) (locs1 : List Loc), t.heap = H1 → s.vm.Alike t.vm → post r u → B u t → H.size ≤ H1.size → (∀ q : Nat, q < H.size → ¬ A1 q → H1[q]? = H[q]?) → va_S A0 H0 H1 locs1 → W p l e R s m args below meth c H1 locs1 (cells + mc) (slots + ms) Q (F0 m (pc + 3) ls (.long r :: rest))) : W p l e R s m args below meth c H locs cells slots Q (F0 m pc ls st0) := by
  intro T hT X
  rcases hr T hT X with ⟨v, st₀, t, T', L, h0, X', hL, e1, e2, ⟨⟨r, u, hv, hp, hb⟩, hF⟩, st⟩ | ⟨q, st₀, t, T', L, E, ce, h0, X', hL, e1, e2, ⟨u, hp, hb, hF⟩, hce, hcv, hcl, st⟩
  · cases hv
    obtain ⟨k1, k2, k3⟩ := vx_keep h0 e1 hS hA hf hL hF
    obtain ⟨t2, a1, b1⟩ := kk r u t T'.heap (locs ++ L) e1.symm (by rw [← e2]; exact X'.warmed.alike) hp hb k1 k2 k3 T' rfl X'
    exact ⟨t2, st t2 a1, b1⟩
  · obtain ⟨k1, k2, k3⟩ := vx_keep h0 e1 hS hAX hf hL hF
    obtain ⟨t2, a1, b1⟩ := kx E ce q u t T'.heap (locs ++ L) e1.symm (by rw [← e2]; exact X'.warmed.alike) hp hb k1 k2 k3 (by rw [e1]; exact hce) hcv hcl T' rfl X'
    exact ⟨t2, st.trans a1, b1⟩
theorem vx_callf {S SX : Type} {post : UInt32 → S → Prop} {px : SX → Prop} {B : S → State → Prop} {BX : String → SX → State → Prop} {AX : Nat → Prop} (hr : vx_Run p l e R s m args below meth c H locs cells slots mc ms (F0 m pc ls st0) rest (va_Qf post B A1 a) (vx_X px BX AX) free) (hS : va_S A0 H0 H locs) (hA : ∀ q, q < H.size → A1 q → A0 q) (hf : ∀ q, free q → A0 q) (hAX : ∀ q, q < H.size → AX q → A0 q)
    (kx : ∀ (E : String) (ce : Cell) (q9 : Addr) (u : SX) (t : State) (H1 : Heap) (locs1 : List Loc), t.heap = H1 → s.vm.Alike t.vm → px u → BX E u t → H.size ≤ H1.size → (∀ q : Nat, q < H.size → ¬ AX q → H1[q]? = H[q]?) → va_S A0 H0 H1 locs1 → H1[q9]? = some ce → ce.vm = .none → s.vm.findClass E = some ce.cls → vx_W p l e R s m args below meth c H1 locs1 (cells + mc) (slots + ms) Q (F0 m pc ls rest) q9)
    (kk : ∀ (r : UInt32) (u : S) (t : State) (H1 : Heap) (locs1 : List Loc), t.heap = H1 → s.vm.Alike t.vm → post r u → B u t → H.size ≤ H1.size → (∀ q : Nat, q < H.size → ¬ A1 q → H1[q]? = H[q]?) → va_S A0 H0 H1 locs1 → W p l e R s m args below meth c H1 locs1 (cells + mc) (slots + ms) Q (F0 m (pc + 3) ls (.float r :: rest))) : W p l e R s m args below meth c H locs cells slots Q (F0 m pc ls st0) := by
  intro T hT X
  rcases hr T hT X with ⟨v, st₀, t, T', L, h0, X', hL, e1, e2, ⟨⟨r, u, hv, hp, hb⟩, hF⟩, st⟩ | ⟨q, st₀, t, T', L, E, ce, h0, X', hL, e1, e2, ⟨u, hp, hb, hF⟩, hce, hcv, hcl, st⟩
  · cases hv
    obtain ⟨k1, k2, k3⟩ := vx_keep h0 e1 hS hA hf hL hF
    obtain ⟨t2, a1, b1⟩ := kk r u t T'.heap (locs ++ L) e1.symm (by rw [← e2]; exact X'.warmed.alike) hp hb k1 k2 k3 T' rfl X'
    exact ⟨t2, st t2 a1, b1⟩
  · obtain ⟨k1, k2, k3⟩ := vx_keep h0 e1 hS hAX hf hL hF
    obtain ⟨t2, a1, b1⟩ := kx E ce q u t T'.heap (locs ++ L) e1.symm (by rw [← e2]; exact X'.warmed.alike) hp hb k1 k2 k3 (by rw [e1]; exact hce) hcv hcl T' rfl X'
    exact ⟨t2, st.trans a1, b1⟩
theorem vx_calld {S SX : Type} {post : UInt64 → S → Prop} {px : SX → Prop} {B : S → State → Prop} {BX : String → SX → State → Prop} {AX : Nat → Prop} (hr : vx_Run p l e R s m args below meth c H locs cells slots mc ms (F0 m pc ls st0) rest (va_Qd post B A1 a) (vx_X px BX AX) free) (hS : va_S A0 H0 H locs) (hA : ∀ q, q < H.size → A1 q → A0 q) (hf : ∀ q, free q → A0 q) (hAX : ∀ q, q < H.size → AX q → A0 q)
    (kx : ∀ (E : String) (ce : Cell) (q9 : Addr) (u : SX) (t : State) (H1 : Heap) (locs1 : List Loc), t.heap = H1 → s.vm.Alike t.vm → px u → BX E u t → H.size ≤ H1.size → (∀ q : Nat, q < H.size → ¬ AX q → H1[q]? = H[q]?) → va_S A0 H0 H1 locs1 → H1[q9]? = some ce → ce.vm = .none → s.vm.findClass E = some ce.cls → vx_W p l e R s m args below meth c H1 locs1 (cells + mc) (slots + ms) Q (F0 m pc ls rest) q9)
    (kk : ∀ (r : UInt64) (u : S) (t : State) (H1 : Heap) (locs1 : List Loc), t.heap = H1 → s.vm.Alike t.vm → post r u → B u t → H.size ≤ H1.size → (∀ q : Nat, q < H.size → ¬ A1 q → H1[q]? = H[q]?) → va_S A0 H0 H1 locs1 → W p l e R s m args below meth c H1 locs1 (cells + mc) (slots + ms) Q (F0 m (pc + 3) ls (.double r :: rest))) : W p l e R s m args below meth c H locs cells slots Q (F0 m pc ls st0) := by
  intro T hT X
  rcases hr T hT X with ⟨v, st₀, t, T', L, h0, X', hL, e1, e2, ⟨⟨r, u, hv, hp, hb⟩, hF⟩, st⟩ | ⟨q, st₀, t, T', L, E, ce, h0, X', hL, e1, e2, ⟨u, hp, hb, hF⟩, hce, hcv, hcl, st⟩
  · cases hv
    obtain ⟨k1, k2, k3⟩ := vx_keep h0 e1 hS hA hf hL hF
    obtain ⟨t2, a1, b1⟩ := kk r u t T'.heap (locs ++ L) e1.symm (by rw [← e2]; exact X'.warmed.alike) hp hb k1 k2 k3 T' rfl X'
    exact ⟨t2, st t2 a1, b1⟩
  · obtain ⟨k1, k2, k3⟩ := vx_keep h0 e1 hS hAX hf hL hF
    obtain ⟨t2, a1, b1⟩ := kx E ce q u t T'.heap (locs ++ L) e1.symm (by rw [← e2]; exact X'.warmed.alike) hp hb k1 k2 k3 (by rw [e1]; exact hce) hcv hcl T' rfl X'
    exact ⟨t2, st.trans a1, b1⟩
theorem vx_callv {S SX : Type} {post : S → Prop} {px : SX → Prop} {B : S → State → Prop} {BX : String → SX → State → Prop} {AX : Nat → Prop} (hr : vx_Run p l e R s m args below meth c H locs cells slots mc ms (F0 m pc ls st0) rest (va_Qv post B A1 a) (vx_X px BX AX) free) (hS : va_S A0 H0 H locs) (hA : ∀ q, q < H.size → A1 q → A0 q) (hf : ∀ q, free q → A0 q) (hAX : ∀ q, q < H.size → AX q → A0 q)
    (kx : ∀ (E : String) (ce : Cell) (q9 : Addr) (u : SX) (t : State) (H1 : Heap) (locs1 : List Loc), t.heap = H1 → s.vm.Alike t.vm → px u → BX E u t → H.size ≤ H1.size → (∀ q : Nat, q < H.size → ¬ AX q → H1[q]? = H[q]?) → va_S A0 H0 H1 locs1 → H1[q9]? = some ce → ce.vm = .none → s.vm.findClass E = some ce.cls → vx_W p l e R s m args below meth c H1 locs1 (cells + mc) (slots + ms) Q (F0 m pc ls rest) q9)
    (kk : ∀ (u : S) (t : State) (H1 : Heap) (locs1 : List Loc), t.heap = H1 → s.vm.Alike t.vm → post u → B u t → H.size ≤ H1.size → (∀ q : Nat, q < H.size → ¬ A1 q → H1[q]? = H[q]?) → va_S A0 H0 H1 locs1 → W p l e R s m args below meth c H1 locs1 (cells + mc) (slots + ms) Q (F0 m (pc + 3) ls (rest))) : W p l e R s m args below meth c H locs cells slots Q (F0 m pc ls st0) := by
  intro T hT X
  rcases hr T hT X with ⟨v, st₀, t, T', L, h0, X', hL, e1, e2, ⟨⟨u, hv, hp, hb⟩, hF⟩, st⟩ | ⟨q, st₀, t, T', L, E, ce, h0, X', hL, e1, e2, ⟨u, hp, hb, hF⟩, hce, hcv, hcl, st⟩
  · cases hv
    obtain ⟨k1, k2, k3⟩ := vx_keep h0 e1 hS hA hf hL hF
    obtain ⟨t2, a1, b1⟩ := kk u t T'.heap (locs ++ L) e1.symm (by rw [← e2]; exact X'.warmed.alike) hp hb k1 k2 k3 T' rfl X'
    exact ⟨t2, st t2 a1, b1⟩
  · obtain ⟨k1, k2, k3⟩ := vx_keep h0 e1 hS hAX hf hL hF
    obtain ⟨t2, a1, b1⟩ := kx E ce q u t T'.heap (locs ++ L) e1.symm (by rw [← e2]; exact X'.warmed.alike) hp hb k1 k2 k3 (by rw [e1]; exact hce) hcv hcl T' rfl X'
    exact ⟨t2, st.trans a1, b1⟩
/-- caught by the row x of this method's table; the rows ahead don't take it -/
theorem vx_catch {own name : String} {E : String} {ce : Cell} {q : Addr} (hown : s.vm.findClass own = some m.cls) (pre : List ExceptionTableEntry) (x : ExceptionTableEntry) (suf : List ExceptionTableEntry) (hsplit : c.exceptionTable.toList = pre ++ x :: suf)
    (hpass : ∀ z ∈ pre, covers z pc = false ∨ (z.catchType ≠ 0 ∧ ∃ nm : String, (Cond.classLink own z.catchType nm).before args s = true ∧ va_Nc E nm s)) (hx : covers x pc = true) (h0 : x.catchType ≠ 0)
    (hlink : (Cond.classLink own x.catchType name).before args s = true) (hcast : (Cond.castable E name).before args s = true) (hcell : H[q]? = some ce) (hv : ce.vm = .none) (hcl : s.vm.findClass E = some ce.cls)
    (kk : W p l e R s m args below meth c H locs cells slots Q (F0 m x.handlerPc ls [.ref q])) : vx_W p l e R s m args below meth c H locs cells slots Q (F0 m pc ls rest) q := by
  intro T hT X
  have hpl : e.platform.magicAccessors = ({} : Platform).magicAccessors := by rw [X.admits.platform]
  obtain ⟨c3, c4, hc3, hc4, hasg⟩ := Cond.castable_spec hcast
  cases Option.some.inj (hc3.symm.trans hcl)
  obtain ⟨c5, hc5, hcl5⟩ := Cond.classLink_spec hown hlink e.platform hpl
  cases Option.some.inj (hc4.symm.trans hc5)
  obtain ⟨vm', X', st⟩ := X.thenCaughtThrough q (g := F0 m pc ls rest) rfl (Steps.refl _) (by rw [hT]; exact hcell) (by rw [hv]; rfl) (by obtain ⟨k9, h9, -⟩ := Vm.findClass_spec hcl; exact ⟨k9, h9⟩) pre x suf hsplit
    (fun z hz => by
      rcases hpass z hz with h | ⟨hz0, nm, hl1, hn1⟩
      · exact Or.inl h
      · obtain ⟨c6, hc6, hcl6⟩ := Cond.classLink_spec hown hl1 e.platform hpl
        obtain ⟨a8, b8, h1, h2, h3⟩ := hn1
        cases Option.some.inj (h1.symm.trans hcl)
        cases Option.some.inj (h2.symm.trans hc6)
        exact Or.inr ⟨hz0, _, hcl6, h3⟩) hx (Or.inr ⟨h0, c4, hcl5, hasg⟩)
  obtain ⟨t, a1, b1⟩ := kk (T.setVm vm') hT X'
  exact ⟨t, st.trans a1, b1⟩
end Rows
section Ends
variable {p : Program} {l : Launch} {e : Env} {R : Room} {s : State} {m : MethodId} {args : Array Value} {below : List Frame} {meth : Method} {c : Code} {H : Heap} {locs : List Loc} {cells slots : Nat} {Q : State → Prop}
variable {mc ms : Nat} {free : Addr → Prop} {A0 A1 : Nat → Prop} {H0 : Heap} {a : Array Value} {ls : Array Slot} {st0 rest : List Value}
variable {Qc : Array Value → State → Outcome → State → Prop} {XC : String → State → State → Prop}
/-- what a body that may throw owes at its end -/
def vx_MQ (below : List Frame) (Qc : Array Value → State → Outcome → State → Prop) (XC : String → State → State → Prop) (a : Array Value) (s : State) (mc ms : Nat) (free : Addr → Prop) : State → Prop := fun t =>
  ∃ o, t.status = .running ∧ Ended t below o ∧ vx_Q Qc XC mc ms free a s o t
theorem vx_ret {g : JFrame} {mc ms : Nat} (k : W p l e R s m args below meth c H locs cells slots (MQ below Qc args s mc ms free) g) : W p l e R s m args below meth c H locs cells slots (vx_MQ below Qc XC args s mc ms free) g := by
  intro T hT X
  obtain ⟨t, a1, o, b1, b2, b3, b4⟩ := k T hT X
  exact ⟨t, a1, o, b1, b2, Or.inl ⟨b3, b4⟩⟩
/-- not caught here: it goes on to the caller -/
theorem vx_widen {g : JFrame} {q : Addr} {k n : Nat} (h1 : cells ≤ k) (h2 : slots ≤ n) (kk : vx_W p l e R s m args below meth c H locs k n Q g q) : vx_W p l e R s m args below meth c H locs cells slots Q g q := fun T hT X => kk T hT (stand_widen X h1 h2)
theorem vx_out {pc : Nat} {E : String} {ce : Cell} {q : Addr} {mc ms : Nat} (hout : ∀ x ∈ c.exceptionTable.toList, covers x pc = false) (hlocks : meth.locks = false) (hcell : H[q]? = some ce) (hv : ce.vm = .none) (hcl : s.vm.findClass E = some ce.cls)
    (hx : ∀ t : State, t.heap = H → s.vm.Alike t.vm → XC E s t) (hf : ∀ z ∈ locs, free z.base) (hc : cells ≤ mc) (hs : slots ≤ ms) :
    vx_W p l e R s m args below meth c H locs cells slots (vx_MQ below Qc XC args s mc ms free) (F0 m pc ls rest) q := by
  intro T hT X
  obtain ⟨st1, hrun, hend, hW, hsm⟩ := X.leaveThrown q (g := F0 m pc ls rest) rfl rfl rfl hout hlocks
  have hcell9 : (T.setFrames (.throwing q :: below)).heap[q]? = some ce := by
    show T.heap[q]? = some ce
    rw [hT]; exact hcell
  exact ⟨_, st1, .threw q, hrun, hend, Or.inr ⟨q, rfl, E, ce, locs, hx _ hT hW.alike, hcell9, hv, hcl, hW, hsm.mono hc hs, hf⟩⟩
theorem vx_frame {U : State} {k n : Nat} (h : s.sameButNew ({ U with vm := s.vm } : State) locs k n) : s.heap.size ≤ U.heap.size ∧ ∀ q : Nat, q < s.heap.size → (∀ z ∈ locs, z.base ≠ q) → U.heap[q]? = s.heap[q]? := by
  obtain ⟨-, h2, -, -, -, h6⟩ := h
  refine ⟨h2, fun q hq hz => ?_⟩
  obtain ⟨c9, e1, e2, e3, e4⟩ := h6 q _ (Array.getElem?_eq_getElem hq)
  have hs : c9.slots = (s.heap[q]).slots := Array.ext_getElem? fun i => e4 i fun hm => hz _ hm rfl
  have h9 : c9 = s.heap[q] := by
    rw [hs] at e2
    exact e2
  have e5 : U.heap[q]? = some c9 := e1
  rw [e5, h9, Array.getElem?_eq_getElem hq]
/-- the words of a throw but the four that speak of the heap -/
def vx_no (w : Cond) : Bool := decide (w ≠ .isRef (.static Bundle.tN "UNASSIGNED_STACK" Bundle.steD)) && decide (w ≠ .isRef (.static Bundle.tN "SUPPRESSED_SENTINEL" Bundle.listD)) && decide (w ≠ .laysStatic Bundle.tN "UNASSIGNED_STACK" Bundle.steD) && decide (w ≠ .laysStatic Bundle.tN "SUPPRESSED_SENTINEL" Bundle.listD)
def vx_at0 (own : String) (ic : Nat) (X : String) (names : List String) : List Cond := (Bundle.ownAtoms0 own ic X names).filter vx_no
def vx_atS (own : String) (ic : Nat) (X : String) (names : List String) : List Cond := (Bundle.ownAtoms own ic X names).filter vx_no
/-- a word that the tables alone decide, or a good one -/
def vx_ot (w : Cond) : Bool := w.onTables || goodWord w
theorem vx_ot_at {args a' : Array Value} {s U : State} {w : Cond} (hW : s.WarmedH U.vm) (hvm : s.vm = U.vm) (hg : vx_ot w = true) (h : w.before args s = true) : w.before a' U = true := by
  simp only [vx_ot, Bool.or_eq_true] at hg
  rcases hg with hg | hg
  · exact va_tabs hg hvm h
  · exact word_at hW (good_of_word hg) h
/-- a list's words: the good ones out of the method's own list, the others by premises of their own -/
theorem vx_hat {args : Array Value} {s : State} {L B : List Cond} (h1 : ∀ w ∈ L.filter goodWord, w.before args s = true) (h2 : ∀ w ∈ L.filter (fun w => !goodWord w), w ∈ B) (h3 : ∀ w ∈ B, w.before args s = true) : ∀ w ∈ L, w.before args s = true := by
  intro w hw
  by_cases g : goodWord w = true
  · exact h1 w (List.mem_filter.mpr ⟨hw, g⟩)
  · refine h3 w (h2 w (List.mem_filter.mpr ⟨hw, ?_⟩))
    show (!goodWord w) = true
    cases hgw : goodWord w
    · rfl
    · exact absurd hgw g
theorem vx_c {args : Array Value} {s : State} {w : Cond} {B : List Cond} (h : w.before args s = true) (t : ∀ w ∈ B, w.before args s = true) : ∀ w' ∈ w :: B, w'.before args s = true := fun w' h' => (List.mem_cons.mp h').elim (fun e => by rw [e]; exact h) (t w')
theorem vx_n {args : Array Value} {s : State} : ∀ w ∈ ([] : List Cond), w.before args s = true := fun _ h => nomatch h
theorem vx_own {args : Array Value} {s : State} {L : List Cond} (h1 : ∀ w ∈ L.filter vx_no, w.before args s = true)
    (hU : (Cond.isRef (.static Bundle.tN "UNASSIGNED_STACK" Bundle.steD)).before args s = true) (hN : (Cond.isRef (.static Bundle.tN "SUPPRESSED_SENTINEL" Bundle.listD)).before args s = true)
    (lU : (Cond.laysStatic Bundle.tN "UNASSIGNED_STACK" Bundle.steD).before args s = true) (lN : (Cond.laysStatic Bundle.tN "SUPPRESSED_SENTINEL" Bundle.listD).before args s = true) : ∀ w ∈ L, w.before args s = true := by
  intro w hw
  by_cases e1 : w = .isRef (.static Bundle.tN "UNASSIGNED_STACK" Bundle.steD)
  · rw [e1]; exact hU
  · by_cases e2 : w = .isRef (.static Bundle.tN "SUPPRESSED_SENTINEL" Bundle.listD)
    · rw [e2]; exact hN
    · by_cases e3 : w = .laysStatic Bundle.tN "UNASSIGNED_STACK" Bundle.steD
      · rw [e3]; exact lU
      · by_cases e4 : w = .laysStatic Bundle.tN "SUPPRESSED_SENTINEL" Bundle.listD
        · rw [e4]; exact lN
        · exact h1 w (List.mem_filter.mpr ⟨hw, by unfold vx_no; rw [decide_eq_true e1, decide_eq_true e2, decide_eq_true e3, decide_eq_true e4]; rfl⟩)
/-- where a static field lies, its class's statics cell in H -/
def vx_L (C n d : String) (A : Nat → Prop) (U : State) (H : Heap) : Prop := ∃ (c : ClassId) (k : Class) (i : Nat) (f : Field) (a : Nat) (cell : Cell), U.vm.findClass C = some c ∧ U.fieldFound? C n d = some (c, k, i, f) ∧ f.isStatic = true ∧ k.statics = some a ∧ H[a]? = some cell ∧ cell.vm.isStatics = true ∧ cell.cls = c ∧ f.slot < cell.slots.size ∧ k.staticTypes[f.slot]? = some f.type ∧ ¬ A a
theorem vx_L.moved {C n d : String} {A : Nat → Prop} {u U : State} {H : Heap} (hvm : u.vm.Alike U.vm) (h : vx_L C n d A u H) : vx_L C n d A U H := by
  obtain ⟨c, k, i, f, a, cell, h1, h2, h3, h4, h5, h6, h7, h8, h9, h10⟩ := h
  obtain ⟨k', hi', he⟩ := State.fieldFound?_setVm hvm h2
  exact ⟨c, k', i, f, a, cell, by rw [hvm.findClass]; exact h1, hi', h3, by rw [he]; exact h4, h5, h6, h7, h8, by rw [he]; exact h9, h10⟩
theorem vx_L.kept {C n d : String} {A : Nat → Prop} {U : State} {H H1 : Heap} (h : vx_L C n d A U H) (hq : ∀ a : Nat, a < H.size → ¬ A a → H1[a]? = H[a]?) : vx_L C n d A U H1 := by
  obtain ⟨c, k, i, f, a, cell, h1, h2, h3, h4, h5, h6, h7, h8, h9, h10⟩ := h
  exact ⟨c, k, i, f, a, cell, h1, h2, h3, h4, by rw [hq a (Array.getElem?_eq_some_iff.mp h5).1 h10]; exact h5, h6, h7, h8, h9, h10⟩
theorem vx_L.narrow {C n d : String} {A B : Nat → Prop} {U : State} {H : Heap} (h : vx_L C n d A U H) (hAB : ∀ q, B q → A q) : vx_L C n d B U H := by
  obtain ⟨c, k, i, f, a, cell, h1, h2, h3, h4, h5, h6, h7, h8, h9, h10⟩ := h
  exact ⟨c, k, i, f, a, cell, h1, h2, h3, h4, h5, h6, h7, h8, h9, fun z => h10 (hAB _ z)⟩
theorem vx_L.word {C n d : String} {A : Nat → Prop} {s : State} {args : Array Value} (h : vx_L C n d A s s.heap) : (Cond.laysStatic C n d).before args s = true := by
  obtain ⟨c, k, i, f, a, cell, h1, h2, h3, h4, h5, h6, h7, h8, h9, -⟩ := h
  show (Cond.laysStatic C n d).holds args s none s [] = true
  exact Cond.laysStatic_of h1 h2 h3 h4 h5 h6 h7 h8 h9
/-- .. and what it holds: null or some reference -/
def vx_Zq (C n d : String) (A : Nat → Prop) (U : State) (H : Heap) : Prop := va_Zq C n d A U H ∧ vx_L C n d A U H
theorem vx_Zq.moved {C n d : String} {A : Nat → Prop} {u U : State} {H : Heap} (hvm : u.vm.Alike U.vm) (h : vx_Zq C n d A u H) : vx_Zq C n d A U H := ⟨va_Zq.moved hvm h.1, vx_L.moved hvm h.2⟩
theorem vx_Zq.kept {C n d : String} {A : Nat → Prop} {U : State} {H H1 : Heap} (h : vx_Zq C n d A U H) (hq : ∀ a : Nat, a < H.size → ¬ A a → H1[a]? = H[a]?) : vx_Zq C n d A U H1 := ⟨va_Zq.kept h.1 hq, vx_L.kept h.2 hq⟩
theorem vx_Zq.narrow {C n d : String} {A B : Nat → Prop} {U : State} {H : Heap} (h : vx_Zq C n d A U H) (hAB : ∀ q, B q → A q) : vx_Zq C n d B U H := ⟨va_Zq.narrow h.1 hAB, vx_L.narrow h.2 hAB⟩
theorem vx_Zqof {args : Array Value} {s : State} {C n d : String} {A : Nat → Prop} (hl : (Cond.laysStatic C n d).before args s = true) (hini : (Cond.initialized C).before args s = true) (h : (Cond.isRef (.static C n d)).before args s = true) (hA : ∀ a : Nat, a < s.heap.size → ¬ A a) : vx_Zq C n d A s s.heap := by
  refine ⟨va_Zqof hl hini h hA, ?_⟩
  obtain ⟨c, k, i, f, a, cell, h1, h2, h3, h4, h5, h6, h7, h8, h9⟩ := Cond.laysStatic_spec hl
  exact ⟨c, k, i, f, a, cell, h1, h2, h3, h4, h5, h6, h7, h8, h9, hA a (Array.getElem?_eq_some_iff.mp h5).1⟩
theorem vx_isRef {C n d : String} {v : Value} {A : Nat → Prop} {s : State} {args : Array Value} (h : va_Z C n d v A s s.heap) (hv : v.isRef = true) : (Cond.isRef (.static C n d)).before args s = true := by
  obtain ⟨cf, kf, fi, f, a, cell, h1, h2, h3, h4, h5, h6, h7, -⟩ := h
  have he : (Term.static C n d).eval args s none [] s = some v := by
    simp [Term.eval, State.fieldNamed?, h1, h2, h4, h5, h6, h7]
  simp only [Cond.before, Cond.holds, Cond.value, he]
  cases v <;> simp_all [Value.isRef]
theorem vx_isRefq {C n d : String} {A : Nat → Prop} {s : State} {args : Array Value} (h : va_Zq C n d A s s.heap) : (Cond.isRef (.static C n d)).before args s = true := by
  rcases h with h | ⟨t, h⟩
  · exact vx_isRef h rfl
  · exact vx_isRef h rfl
/-- the same frame, seen from here: as if the method were called anew in this heap -/
theorem vx_rebase {T : State} (X : Stand p l e R s m args below meth c T locs cells slots) {R' : Room} (hf : R'.frames ≤ R.frames) (hl : R'.locals ≤ R.locals) (hc : cells + R'.cells ≤ R.cells) (hs : slots + R'.slots ≤ R.slots) :
    Stand p l e R' ((T.setVm s.vm).setFrames (.invoking m args :: below)) m args below meth c T [] 0 0 := by
  have htop : (T.setVm s.vm).topJava?.isSome := X.here.top
  have hF : ((T.setVm s.vm).setFrames (.invoking m args :: below)).frames = .invoking m args :: below := State.frames_setFrames _ (State.cur_lt_of_top htop)
  obtain ⟨g₀, hg0⟩ := Option.isSome_iff_exists.mp htop
  obtain ⟨r, hr⟩ := State.topJava?_eq_some.mp hg0
  have hl9 : e.platform.stackLimits (T.setVm s.vm).me = e.platform.stackLimits s.me := X.limits
  have hb9 : (T.setVm s.vm).me.stackBytes = s.me.stackBytes := X.bytes
  refine ⟨X.admits, X.cas, X.clock, hF, ?_, X.hears, X.method, X.code, X.here, X.tail, X.warmed, ?_, ?_, ?_⟩
  · have h := X.room
    have hU : ((T.setVm s.vm).setFrames (.invoking m args :: below)).localsInUse = s.localsInUse := by
      rw [State.localsInUse_invoking hF (meth := meth) (c := c) X.method X.code, State.localsInUse_invoking X.frames X.method X.code]
    simp only [State.hasRoom, Bool.and_eq_true, decide_eq_true_eq] at h ⊢
    obtain ⟨⟨⟨⟨h1, h2, h3, h4, h5, h6⟩, h7⟩, h8⟩, h9⟩ := h
    rw [X.frames, List.length_cons] at h2 h3
    have q1 := X.heapSize
    have q2 := X.used
    simp only [hF, hU, List.length_cons, State.stackLimits_setFrames, State.stackBytes_setFrames, hl9, hb9]
    refine ⟨⟨⟨⟨by omega, by omega, by omega, by omega, by omega, h6⟩, ?_⟩, ?_⟩, X.book⟩
    · show T.heap.size + R'.cells ≤ e.platform.maxCells
      omega
    · show T.slotsUsed + R'.slots ≤ e.platform.maxSlots
      omega
  · rw [State.stackLimits_setFrames]; rfl
  · rw [State.stackBytes_setFrames]; rfl
  · refine ⟨?_, Nat.le_refl _, Nat.le_refl _, ?_, ?_, fun a c9 h9 => ⟨c9, h9, rfl, rfl, fun _ _ => rfl⟩⟩
    · obtain ⟨t, ht, -⟩ := State.frames_cons hr
      show T.setVm s.vm = { ((T.setVm s.vm).setFrames (.invoking m args :: below)).setFrames (T.setVm s.vm).frames with heap := T.heap, slotsUsed := T.slotsUsed }
      rw [State.setFrames_setFrames, State.setFrames_self ht]
      rfl
    · show T.slotsUsed = T.slotsUsed + ((T.heap.toList.drop T.heap.size).map (·.slots.size)).sum
      rw [List.drop_eq_nil_of_le (Nat.le_of_eq Array.length_toList)]
      rfl
    · show ((T.heap.toList.drop T.heap.size).map (·.slots.size)).sum ≤ 0
      rw [List.drop_eq_nil_of_le (Nat.le_of_eq Array.length_toList)]
      exact Nat.le_refl _
/-- 'throw new E()': new; dup; invokespecial; athrow -/
theorem vx_throw0 {cc : ByteArray} {pc : Nat} (hexec : p.tables.exec = Jvm.exec) (hb : c.code = cc) (hl : l.stackTraces = false) {own cls : String} {names : List String} {ik ic mc ms : Nat} {A : Nat → Prop}
    (hown : s.vm.findClass own = some m.cls) (hcls : Bundle.fit cls = true) (hnames : ∀ n ∈ names, Bundle.fit n = true)
    (hk : (Cond.classLink own ik cls).before args s = true) (hini : (Cond.initialized cls).before args s = true) (hat : ∀ w ∈ vx_at0 own ic cls names, w.before args s = true)
    (hgood : ∀ w ∈ Cond.classLink own ik cls :: Cond.initialized cls :: vx_at0 own ic cls names, vx_ot w = true)
    (hU : vx_Zq Bundle.tN "UNASSIGNED_STACK" Bundle.steD A s s.heap) (hN : vx_Zq Bundle.tN "SUPPRESSED_SENTINEL" Bundle.listD A s s.heap) (hS : va_S A s.heap H locs) (hsize : ls.size = c.maxLocals)
    (d0 : decode cc pc = .ok (.new ik, 3)) (d3 : decode cc (pc + 3) = .ok (.dup, 1)) (d4 : decode cc (pc + 4) = .ok (.invokespecial ic, 3)) (d7 : decode cc (pc + 7) = .ok (.athrow, 1))
    (hout : ∀ x ∈ c.exceptionTable.toList, covers x (pc + 7) = false)
    (hRframes : names.length + 3 < R.frames) (hRlocals : (rest.map fun v => v.category).sum + (13 * (names.length + 1) + 42) ≤ R.locals) (hRcells : cells + 1 ≤ R.cells) (hRslots : slots + 6 ≤ R.slots) (hlocks : meth.locks = false)
    (hx : ∀ t : State, s.vm.Alike t.vm → H.size ≤ t.heap.size → (∀ q : Nat, q < H.size → t.heap[q]? = H[q]?) → XC cls s t)
    (hf : ∀ z ∈ locs, free z.base) (hc : cells + 1 ≤ mc) (hs : slots + 6 ≤ ms) :
    W p l e R s m args below meth c H locs cells slots (vx_MQ below Qc XC args s mc ms free) (F0 m pc ls rest) := by
  intro T hT X
  have htr : e.platform.stackTraces = false := (show e.platform.stackTraces = l.stackTraces by rw [X.admits.platform]).trans hl
  have Y := vx_rebase X (R' := { frames := R.frames, locals := R.locals, cells := 1, slots := 6 }) (Nat.le_refl _) (Nat.le_refl _) hRcells hRslots
  obtain ⟨s', hA⟩ : ∃ z, z = (T.setVm s.vm).setFrames (.invoking m args :: below) := ⟨_, rfl⟩
  rw [← hA] at Y
  have hvm : s'.vm = s.vm := by rw [hA]; rfl
  have hhp : s'.heap = H := by rw [hA]; exact hT
  have hW0 : s.WarmedH s'.vm := by rw [hvm]; exact State.WarmedH.refl s
  have hat' : ∀ w ∈ vx_at0 own ic cls names, w.before args s' = true := fun w hw => vx_ot_at hW0 hvm.symm (hgood w (List.mem_cons_of_mem _ (List.mem_cons_of_mem _ hw))) (hat w hw)
  have hk' : (Cond.classLink own ik cls).before args s' = true := vx_ot_at hW0 hvm.symm (hgood _ List.mem_cons_self) hk
  have hini' : (Cond.initialized cls).before args s' = true := vx_ot_at hW0 hvm.symm (hgood _ (List.mem_cons_of_mem _ List.mem_cons_self)) hini
  have hU' : vx_Zq Bundle.tN "UNASSIGNED_STACK" Bundle.steD A s' s'.heap := by rw [hhp]; exact vx_Zq.moved hW0.alike (hU.kept hS.2.1)
  have hN' : vx_Zq Bundle.tN "SUPPRESSED_SENTINEL" Bundle.listD A s' s'.heap := by rw [hhp]; exact vx_Zq.moved hW0.alike (hN.kept hS.2.1)
  have h : ∀ w ∈ Bundle.ownAtoms0 own ic cls names, w.before args s' = true := vx_own hat' (vx_isRefq hU'.1) (vx_isRefq hN'.1) hU'.2.word hN'.2.word
  have hown' : s'.vm.findClass own = some m.cls := by rw [hvm]; exact hown
  have hins : (Cond.instantiable cls 6).before args s' = true := h _ (by simp [Bundle.ownAtoms0])
  obtain ⟨vm₁, cX, kX, hfX, hkX, -, -, X₁, st1⟩ := Y.newCold hexec (own := own) (C := cls) (index := ik) (n := 6) hown' hk' hins hini'
    (g := F0 m pc ls rest) rfl (by rw [hb]; exact d0) (Nat.le_refl _) (Nat.le_refl _)
  generalize hT1 : (T.setVm vm₁).pushCell { cls := cX, slots := kX.instanceTypes.map defaultValue, vm := .none } = T1 at X₁ st1
  have hcat : (Value.ref T.heap.size).category = 1 := rfl
  have hcellA : T1.heap[T.heap.size]? = some (freshCell cX kX) := by rw [← hT1]; exact State.heap_pushCell_size _ _
  have d3' : decode c.code (pc + 3) = .ok (.dup, 1) := by rw [hb]; exact d3
  obtain ⟨U, hsteps, hrun, hend, hW, hsame, ce, hce, hO⟩ := X₁.ctorThrow0 hexec htr (own := own) (cls := cls) (names := names) (ic := ic) hown' hcls hnames h (fun x hx => nomatch hx) hfX hkX hcellA (by rw [hhp, hT]; exact Nat.le_refl _)
    (g := { method := m, pc := pc + 4, locals := ls, stack := .ref T.heap.size :: .ref T.heap.size :: rest, locked := none }) rfl hsize rfl rfl (rest := rest) rfl
    (by rw [hb]; exact d4) (by rw [hb]; exact d7) hout hRframes (by simp only [List.map_cons, List.sum_cons, hcat]; omega) hlocks
  obtain ⟨f1, f2⟩ := vx_frame hsame
  rw [hhp] at f1 f2
  have hWs : s.WarmedH U.vm := State.WarmedH.trans hW0 hW
  have hcl : s.vm.findClass cls = some ce.cls := by
    have h9 := hO.cls
    rw [hvm] at h9
    exact h9
  have hall : s.sameButNew ({ U with vm := s.vm } : State) locs mc ms := by
    subst hA
    obtain ⟨e1, e2⟩ := hsame
    rw [State.setFrames_setFrames] at e1
    have h2 : (T.setVm s.vm).sameButNew ({ U with vm := s.vm } : State) [] (0 + 1) (0 + 6) := ⟨e1, e2⟩
    have h3 := X.same.trans h2
    rw [List.append_nil] at h3
    exact h3.mono hc hs
  refine ⟨U, ?_, .threw T.heap.size, hrun, hend, Or.inr ⟨T.heap.size, rfl, cls, ce, locs, hx U hWs.alike f1 (fun q hq => f2 q hq (fun z hz => nomatch hz)), hce, hO.vm, hcl, hWs, hall, hf⟩⟩
  refine st1 _ ?_
  show Steps p.tables e below (T1.setTop { method := m, pc := pc + 3, locals := ls, stack := .ref T.heap.size :: rest, locked := none }) _
  jvm_step X₁.here [X₁.here.top, hexec, d3', Value.category]
  exact hsteps
/-- 'throw new E("text")': new; dup; ldc; invokespecial; athrow -/
theorem vx_throwS {cc : ByteArray} {pc : Nat} (hexec : p.tables.exec = Jvm.exec) (hb : c.code = cc) (hl : l.stackTraces = false) {own cls text : String} {names : List String} {ik is ic mc ms sa : Nat} {A : Nat → Prop}
    (hown : s.vm.findClass own = some m.cls) (hcls : Bundle.fit cls = true) (hnames : ∀ n ∈ names, Bundle.fit n = true)
    (hk : (Cond.classLink own ik cls).before args s = true) (hini : (Cond.initialized cls).before args s = true) (hstr : vk_R own is text sa s) (hat : ∀ w ∈ vx_atS own ic cls names, w.before args s = true)
    (hgood : ∀ w ∈ Cond.classLink own ik cls :: Cond.initialized cls :: vx_atS own ic cls names, vx_ot w = true)
    (hU : vx_Zq Bundle.tN "UNASSIGNED_STACK" Bundle.steD A s s.heap) (hN : vx_Zq Bundle.tN "SUPPRESSED_SENTINEL" Bundle.listD A s s.heap) (hS : va_S A s.heap H locs) (hsize : ls.size = c.maxLocals)
    (d0 : decode cc pc = .ok (.new ik, 3)) (d3 : decode cc (pc + 3) = .ok (.dup, 1)) (d4 : decode cc (pc + 4) = .ok (.ldc is, 2)) (d6 : decode cc (pc + 6) = .ok (.invokespecial ic, 3)) (d9 : decode cc (pc + 9) = .ok (.athrow, 1))
    (hout : ∀ x ∈ c.exceptionTable.toList, covers x (pc + 9) = false)
    (hRframes : names.length + 3 < R.frames) (hRlocals : (rest.map fun v => v.category).sum + (13 * (names.length + 1) + 43) ≤ R.locals) (hRcells : cells + 1 ≤ R.cells) (hRslots : slots + 6 ≤ R.slots) (hlocks : meth.locks = false)
    (hx : ∀ t : State, s.vm.Alike t.vm → H.size ≤ t.heap.size → (∀ q : Nat, q < H.size → t.heap[q]? = H[q]?) → XC cls s t)
    (hf : ∀ z ∈ locs, free z.base) (hc : cells + 1 ≤ mc) (hs : slots + 6 ≤ ms) :
    W p l e R s m args below meth c H locs cells slots (vx_MQ below Qc XC args s mc ms free) (F0 m pc ls rest) := by
  intro T hT X
  have htr : e.platform.stackTraces = false := (show e.platform.stackTraces = l.stackTraces by rw [X.admits.platform]).trans hl
  have Y := vx_rebase X (R' := { frames := R.frames, locals := R.locals, cells := 1, slots := 6 }) (Nat.le_refl _) (Nat.le_refl _) hRcells hRslots
  obtain ⟨s', hA⟩ : ∃ z, z = (T.setVm s.vm).setFrames (.invoking m args :: below) := ⟨_, rfl⟩
  rw [← hA] at Y
  have hvm : s'.vm = s.vm := by rw [hA]; rfl
  have hhp : s'.heap = H := by rw [hA]; exact hT
  have hW0 : s.WarmedH s'.vm := by rw [hvm]; exact State.WarmedH.refl s
  have hat' : ∀ w ∈ vx_atS own ic cls names, w.before args s' = true := fun w hw => vx_ot_at hW0 hvm.symm (hgood w (List.mem_cons_of_mem _ (List.mem_cons_of_mem _ hw))) (hat w hw)
  have hk' : (Cond.classLink own ik cls).before args s' = true := vx_ot_at hW0 hvm.symm (hgood _ List.mem_cons_self) hk
  have hini' : (Cond.initialized cls).before args s' = true := vx_ot_at hW0 hvm.symm (hgood _ (List.mem_cons_of_mem _ List.mem_cons_self)) hini
  have hU' : vx_Zq Bundle.tN "UNASSIGNED_STACK" Bundle.steD A s' s'.heap := by rw [hhp]; exact vx_Zq.moved hW0.alike (hU.kept hS.2.1)
  have hN' : vx_Zq Bundle.tN "SUPPRESSED_SENTINEL" Bundle.listD A s' s'.heap := by rw [hhp]; exact vx_Zq.moved hW0.alike (hN.kept hS.2.1)
  have h : ∀ w ∈ Bundle.ownAtoms own ic cls names, w.before args s' = true := vx_own hat' (vx_isRefq hU'.1) (vx_isRefq hN'.1) hU'.2.word hN'.2.word
  have hown' : s'.vm.findClass own = some m.cls := by rw [hvm]; exact hown
  have hins : (Cond.instantiable cls 6).before args s' = true := h _ (by simp [Bundle.ownAtoms])
  obtain ⟨vm₁, cX, kX, hfX, hkX, -, -, X₁, st1⟩ := Y.newCold hexec (own := own) (C := cls) (index := ik) (n := 6) hown' hk' hins hini'
    (g := F0 m pc ls rest) rfl (by rw [hb]; exact d0) (Nat.le_refl _) (Nat.le_refl _)
  generalize hT1 : (T.setVm vm₁).pushCell { cls := cX, slots := kX.instanceTypes.map defaultValue, vm := .none } = T1 at X₁ st1
  have hcat : (Value.ref T.heap.size).category = 1 := rfl
  have hcellA : T1.heap[T.heap.size]? = some (freshCell cX kX) := by rw [← hT1]; exact State.heap_pushCell_size _ _
  have d3' : decode c.code (pc + 3) = .ok (.dup, 1) := by rw [hb]; exact d3
  have d4' : decode c.code (pc + 4) = .ok (.ldc is, 2) := by rw [hb]; exact d4
  have hstr' : vk_R own is text sa s' := vk_R.warm hW0 hstr
  obtain ⟨U, hsteps, hrun, hend, hW, hsame, ce, hce, hO⟩ := X₁.ctorThrowS hexec htr (own := own) (cls := cls) (names := names) (ic := ic) hown' hcls hnames h (fun x hx => nomatch hx) hfX hkX hcellA (by rw [hhp, hT]; exact Nat.le_refl _) (msg := .ref sa) rfl
    (g := { method := m, pc := pc + 6, locals := ls, stack := .ref sa :: .ref T.heap.size :: .ref T.heap.size :: rest, locked := none }) rfl hsize rfl rfl (rest := rest) rfl
    (by rw [hb]; exact d6) (by rw [hb]; exact d9) hout hRframes (by simp only [List.map_cons, List.sum_cons, hcat]; omega) hlocks
  obtain ⟨f1, f2⟩ := vx_frame hsame
  rw [hhp] at f1 f2
  have hWs : s.WarmedH U.vm := State.WarmedH.trans hW0 hW
  have hcl : s.vm.findClass cls = some ce.cls := by
    have h9 := hO.cls
    rw [hvm] at h9
    exact h9
  have hall : s.sameButNew ({ U with vm := s.vm } : State) locs mc ms := by
    subst hA
    obtain ⟨e1, e2⟩ := hsame
    rw [State.setFrames_setFrames] at e1
    have h2 : (T.setVm s.vm).sameButNew ({ U with vm := s.vm } : State) [] (0 + 1) (0 + 6) := ⟨e1, e2⟩
    have h3 := X.same.trans h2
    rw [List.append_nil] at h3
    exact h3.mono hc hs
  refine ⟨U, ?_, .threw T.heap.size, hrun, hend, Or.inr ⟨T.heap.size, rfl, cls, ce, locs, hx U hWs.alike f1 (fun q hq => f2 q hq (fun z hz => nomatch hz)), hce, hO.vm, hcl, hWs, hall, hf⟩⟩
  refine st1 _ ?_
  show Steps p.tables e below (T1.setTop { method := m, pc := pc + 3, locals := ls, stack := .ref T.heap.size :: rest, locked := none }) _
  jvm_step X₁.here [X₁.here.top, hexec, d3', Value.category]
  exact X₁.ldcString hexec (own := own) (text := text) (index := is) (a := sa) hown' hstr'.1 hstr'.2
    (g := { method := m, pc := pc + 4, locals := ls, stack := .ref T.heap.size :: .ref T.heap.size :: rest, locked := none }) rfl d4' _ hsteps
/-- 'throw new E("text")', the text by a wide index -/
theorem vx_throwSW {cc : ByteArray} {pc : Nat} (hexec : p.tables.exec = Jvm.exec) (hb : c.code = cc) (hl : l.stackTraces = false) {own cls text : String} {names : List String} {ik is ic mc ms sa : Nat} {A : Nat → Prop}
    (hown : s.vm.findClass own = some m.cls) (hcls : Bundle.fit cls = true) (hnames : ∀ n ∈ names, Bundle.fit n = true)
    (hk : (Cond.classLink own ik cls).before args s = true) (hini : (Cond.initialized cls).before args s = true) (hstr : vk_R own is text sa s) (hat : ∀ w ∈ vx_atS own ic cls names, w.before args s = true)
    (hgood : ∀ w ∈ Cond.classLink own ik cls :: Cond.initialized cls :: vx_atS own ic cls names, vx_ot w = true)
    (hU : vx_Zq Bundle.tN "UNASSIGNED_STACK" Bundle.steD A s s.heap) (hN : vx_Zq Bundle.tN "SUPPRESSED_SENTINEL" Bundle.listD A s s.heap) (hS : va_S A s.heap H locs) (hsize : ls.size = c.maxLocals)
    (d0 : decode cc pc = .ok (.new ik, 3)) (d3 : decode cc (pc + 3) = .ok (.dup, 1)) (d4 : decode cc (pc + 4) = .ok (.ldc_w is, 3)) (d7 : decode cc (pc + 7) = .ok (.invokespecial ic, 3)) (d10 : decode cc (pc + 10) = .ok (.athrow, 1))
    (hout : ∀ x ∈ c.exceptionTable.toList, covers x (pc + 10) = false)
    (hRframes : names.length + 3 < R.frames) (hRlocals : (rest.map fun v => v.category).sum + (13 * (names.length + 1) + 43) ≤ R.locals) (hRcells : cells + 1 ≤ R.cells) (hRslots : slots + 6 ≤ R.slots) (hlocks : meth.locks = false)
    (hx : ∀ t : State, s.vm.Alike t.vm → H.size ≤ t.heap.size → (∀ q : Nat, q < H.size → t.heap[q]? = H[q]?) → XC cls s t)
    (hf : ∀ z ∈ locs, free z.base) (hc : cells + 1 ≤ mc) (hs : slots + 6 ≤ ms) :
    W p l e R s m args below meth c H locs cells slots (vx_MQ below Qc XC args s mc ms free) (F0 m pc ls rest) := by
  intro T hT X
  have htr : e.platform.stackTraces = false := (show e.platform.stackTraces = l.stackTraces by rw [X.admits.platform]).trans hl
  have Y := vx_rebase X (R' := { frames := R.frames, locals := R.locals, cells := 1, slots := 6 }) (Nat.le_refl _) (Nat.le_refl _) hRcells hRslots
  obtain ⟨s', hA⟩ : ∃ z, z = (T.setVm s.vm).setFrames (.invoking m args :: below) := ⟨_, rfl⟩
  rw [← hA] at Y
  have hvm : s'.vm = s.vm := by rw [hA]; rfl
  have hhp : s'.heap = H := by rw [hA]; exact hT
  have hW0 : s.WarmedH s'.vm := by rw [hvm]; exact State.WarmedH.refl s
  have hat' : ∀ w ∈ vx_atS own ic cls names, w.before args s' = true := fun w hw => vx_ot_at hW0 hvm.symm (hgood w (List.mem_cons_of_mem _ (List.mem_cons_of_mem _ hw))) (hat w hw)
  have hk' : (Cond.classLink own ik cls).before args s' = true := vx_ot_at hW0 hvm.symm (hgood _ List.mem_cons_self) hk
  have hini' : (Cond.initialized cls).before args s' = true := vx_ot_at hW0 hvm.symm (hgood _ (List.mem_cons_of_mem _ List.mem_cons_self)) hini
  have hU' : vx_Zq Bundle.tN "UNASSIGNED_STACK" Bundle.steD A s' s'.heap := by rw [hhp]; exact vx_Zq.moved hW0.alike (hU.kept hS.2.1)
  have hN' : vx_Zq Bundle.tN "SUPPRESSED_SENTINEL" Bundle.listD A s' s'.heap := by rw [hhp]; exact vx_Zq.moved hW0.alike (hN.kept hS.2.1)
  have h : ∀ w ∈ Bundle.ownAtoms own ic cls names, w.before args s' = true := vx_own hat' (vx_isRefq hU'.1) (vx_isRefq hN'.1) hU'.2.word hN'.2.word
  have hown' : s'.vm.findClass own = some m.cls := by rw [hvm]; exact hown
  have hins : (Cond.instantiable cls 6).before args s' = true := h _ (by simp [Bundle.ownAtoms])
  obtain ⟨vm₁, cX, kX, hfX, hkX, -, -, X₁, st1⟩ := Y.newCold hexec (own := own) (C := cls) (index := ik) (n := 6) hown' hk' hins hini'
    (g := F0 m pc ls rest) rfl (by rw [hb]; exact d0) (Nat.le_refl _) (Nat.le_refl _)
  generalize hT1 : (T.setVm vm₁).pushCell { cls := cX, slots := kX.instanceTypes.map defaultValue, vm := .none } = T1 at X₁ st1
  have hcat : (Value.ref T.heap.size).category = 1 := rfl
  have hcellA : T1.heap[T.heap.size]? = some (freshCell cX kX) := by rw [← hT1]; exact State.heap_pushCell_size _ _
  have d3' : decode c.code (pc + 3) = .ok (.dup, 1) := by rw [hb]; exact d3
  have d4' : decode c.code (pc + 4) = .ok (.ldc_w is, 3) := by rw [hb]; exact d4
  have hstr' : vk_R own is text sa s' := vk_R.warm hW0 hstr
  obtain ⟨U, hsteps, hrun, hend, hW, hsame, ce, hce, hO⟩ := X₁.ctorThrowS hexec htr (own := own) (cls := cls) (names := names) (ic := ic) hown' hcls hnames h (fun x hx => nomatch hx) hfX hkX hcellA (by rw [hhp, hT]; exact Nat.le_refl _) (msg := .ref sa) rfl
    (g := { method := m, pc := pc + 7, locals := ls, stack := .ref sa :: .ref T.heap.size :: .ref T.heap.size :: rest, locked := none }) rfl hsize rfl rfl (rest := rest) rfl
    (by rw [hb]; exact d7) (by rw [hb]; exact d10) hout hRframes (by simp only [List.map_cons, List.sum_cons, hcat]; omega) hlocks
  obtain ⟨f1, f2⟩ := vx_frame hsame
  rw [hhp] at f1 f2
  have hWs : s.WarmedH U.vm := State.WarmedH.trans hW0 hW
  have hcl : s.vm.findClass cls = some ce.cls := by
    have h9 := hO.cls
    rw [hvm] at h9
    exact h9
  have hall : s.sameButNew ({ U with vm := s.vm } : State) locs mc ms := by
    subst hA
    obtain ⟨e1, e2⟩ := hsame
    rw [State.setFrames_setFrames] at e1
    have h2 : (T.setVm s.vm).sameButNew ({ U with vm := s.vm } : State) [] (0 + 1) (0 + 6) := ⟨e1, e2⟩
    have h3 := X.same.trans h2
    rw [List.append_nil] at h3
    exact h3.mono hc hs
  refine ⟨U, ?_, .threw T.heap.size, hrun, hend, Or.inr ⟨T.heap.size, rfl, cls, ce, locs, hx U hWs.alike f1 (fun q hq => f2 q hq (fun z hz => nomatch hz)), hce, hO.vm, hcl, hWs, hall, hf⟩⟩
  refine st1 _ ?_
  show Steps p.tables e below (T1.setTop { method := m, pc := pc + 3, locals := ls, stack := .ref T.heap.size :: rest, locked := none }) _
  jvm_step X₁.here [X₁.here.top, hexec, d3', Value.category]
  exact X₁.ldcStringW hexec (own := own) (text := text) (index := is) (a := sa) hown' hstr'.1 hstr'.2
    (g := { method := m, pc := pc + 4, locals := ls, stack := .ref T.heap.size :: .ref T.heap.size :: rest, locked := none }) rfl d4' _ hsteps
end Ends
section Bodies
variable {l : Launch}
theorem vx_ofW {y : MethodName} {ws ws' : List Cond} {rm : Room} {Pc : Array Value → State → Prop} {Qc : Array Value → State → Outcome → State → Prop} {XC : String → State → State → Prop} {mc ms : Nat} {free : Addr → Prop} {cc : ByteArray} {maxL : Nat} {ret : Option FieldType}
    (hy : plainName y.cls = true) (hw : ws = Cond.code y cc maxL ret :: ws')
    (body : ∀ p e s m args below meth c s₁, BodyLoose p l y (headSpec ws rm) cc maxL ret e s m args below meth c s₁ → c.maxLocals = maxL → (∀ x ∈ c.exceptionTable.toList, False) → Pc args s →
      W p l e (headSpec ws rm).room s m args below meth c s.heap [] 0 0 (vx_MQ below Qc XC args s mc ms free) (entryFrame m args maxL)) : vx_Met l y ws rm Pc Qc XC mc ms free := by
  refine MetFree.of_bodyS (code := cc) (maxLocals := maxL) (ret := ret) hy ?_ ?_
  · intro args s m h hn
    obtain ⟨meth, c, h1, h2, h3, h4, h5, h6, -, -⟩ := Cond.code_spec hn (atoms_spec (ws := ws) h _ (by rw [hw]; exact List.mem_cons_self))
    exact ⟨meth, c, h1, h2, h3, h4, h5, h6⟩
  · intro p e s m args below meth c s₁ B hml hP _
    have hh0 : s₁.heap = s.heap := by rw [B.state]; rfl
    have ht : ∀ x ∈ c.exceptionTable.toList, False := by
      obtain ⟨meth9, c9, h1, h2, -, -, -, -, h7, -⟩ := Cond.code_spec B.named (atoms_spec (ws := ws) B.pre _ (by rw [hw]; exact List.mem_cons_self))
      cases Option.some.inj (h1.symm.trans B.method)
      cases Option.some.inj (h2.symm.trans (Stand.of_body B).code)
      intro x hx
      rw [Array.isEmpty_iff.mp h7] at hx
      cases hx
    obtain ⟨t, a1, o, b1, b2, b3⟩ := body p e s m args below meth c s₁ B hml ht hP s₁ hh0 (Stand.of_body B)
    exact ⟨t, o, a1, b1, b2, b3⟩
/-- the table of a body with handlers -/
theorem vx_table {p : Program} {x y : MethodName} {S : Spec} {cc bytes : ByteArray} {maxL maxL' : Nat} {ret ret' : Option FieldType} {e : Env} {s s₁ : State} {m : MethodId} {args : Array Value} {below : List Frame} {meth : Method} {c : Code} {hh : List (Nat × Nat × Nat × Nat)}
    (B : BodyLoose p l y S cc maxL ret e s m args below meth c s₁) (h : (Cond.codeWith y bytes maxL' ret' hh).before args s = true) : c.exceptionTable.toList = tableOf hh := by
  obtain ⟨m9, meth9, c9, hn9, h1, h2, -, -, h6, -⟩ := Cond.codeWith_spec h
  cases Option.some.inj (hn9.symm.trans B.named)
  cases Option.some.inj (h1.symm.trans B.method)
  cases Option.some.inj (h2.symm.trans (Stand.of_body B).code)
  rw [← h6, table_eq]
end Bodies
end VXA
/-! ===== END ===== -/
/-! ===== BEGIN a static call of a method with an exception table ===== -/
section VXS
variable {p : Program} {l : Launch} {e : Env} {R : Room} {s : State} {m : MethodId} {args : Array Value} {below : List Frame} {meth : Method} {c : Code} {T : State} {H : Heap} {locs : List Loc} {cells slots : Nat}
abbrev vx_CSW (R : Room) (s : State) (args : Array Value) (own : String) (index : Nat) (y : MethodName) (bytes : ByteArray) (maxL : Nat) (ret : Option FieldType) (hh : List (Nat × Nat × Nat × Nat)) (ws : List Cond) (rm : Room) (mc ms n : Nat) : Prop :=
  (rm.cells = mc ∧ rm.slots = ms ∧ rm.frames + 1 ≤ R.frames ∧ 8 + (maxL + 11) + rm.locals ≤ R.locals ∧ (∀ w ∈ ws, ∀ (a' : Array Value) (U : State), s.WarmedH U.vm → w.before a' U = true) ∧ Cond.codeWith y bytes maxL ret hh ∈ ws) ∧
  (Cond.codeWith y bytes maxL ret hh).before args s = true ∧ (Cond.initialized y.cls).before args s = true ∧ (y.cls ≠ "java/lang/invoke/MethodHandle" ∧ y.cls ≠ "java/lang/invoke/VarHandle") ∧
  (∀ sig, parseMethodDescriptor y.desc = some sig → n = sig.parameters.length) ∧ (Cond.methodLink own index y).before args s = true ∧ (Cond.static y).before args s = true
theorem vx_cwSW {own : String} {index maxL mc ms : Nat} {y : MethodName} {bytes : ByteArray} {ret : Option FieldType} {hh : List (Nat × Nat × Nat × Nat)} {Ts ws ws' : List Cond} {rm : Room} (n : Nat) (ht : ∀ w ∈ Ts, w.before args s = true) (hT : GoodIn Ts (va_wsS own index y ws)) (hw : ws = Cond.codeWith y bytes maxL ret hh :: ws') (hrc : rm.cells = mc) (hrs : rm.slots = ms)
    (hd : y.cls ≠ "java/lang/invoke/MethodHandle" ∧ y.cls ≠ "java/lang/invoke/VarHandle" ∧ (parseMethodDescriptor y.desc).map (fun d => d.parameters.length) = some n) (hR : rm.frames + 1 ≤ R.frames ∧ 8 + (maxL + 11) + rm.locals ≤ R.locals) :
    vx_CSW R s args own index y bytes maxL ret hh ws rm mc ms n := by
  have ok : ∀ w ∈ va_wsS own index y ws, w.before args s = true := fun w h => ht w (hT w h).1
  have hG : GoodIn Ts ws := fun w h => hT w (by unfold va_wsS; exact List.mem_append_right _ h)
  have hc : Cond.codeWith y bytes maxL ret hh ∈ ws := by rw [hw]; exact List.mem_cons_self
  refine ⟨⟨hrc, hrs, hR.1, hR.2, pay_in ht hG, hc⟩, ht _ (hG _ hc).1, ok _ (by simp [va_wsS]), ⟨hd.1, hd.2.1⟩, fun sig h => ?_, ok _ (by simp [va_wsS]), ok _ (by simp [va_wsS])⟩
  have h2 := hd.2.2
  rw [h] at h2
  exact (Option.some.inj h2).symm
theorem vx_callSW (X : Stand p l e R s m args below meth c T locs cells slots) (hexec : p.tables.exec = Jvm.exec) {own : String} {index : Nat} {y : MethodName} {bytes : ByteArray} {maxL : Nat} {ret : Option FieldType} {hh : List (Nat × Nat × Nat × Nat)}
    (hown : s.vm.findClass own = some m.cls) (hlink : (Cond.methodLink own index y).before args s = true) (hstat : (Cond.static y).before args s = true) (hinit : (Cond.initialized y.cls).before args s = true)
    (hcode : (Cond.codeWith y bytes maxL ret hh).before args s = true) (hy : y.cls ≠ "java/lang/invoke/MethodHandle" ∧ y.cls ≠ "java/lang/invoke/VarHandle")
    {W9 : Nat} {Pre : Pt → Array Value → Prop} {Post : Pt → Array Value → Option Value → Pt → Prop} (hK : Back l R p e below s args y 3 W9 Pre Post)
    {g : JFrame} (hg : g.method = m) (hsize : g.locals.size = c.maxLocals) {argsL rest : List Value} (hlen : ∀ sig, parseMethodDescriptor y.desc = some sig → argsL.length = sig.parameters.length)
    (hstack : g.stack = argsL.reverse ++ rest) (hW : 2 * g.monitorRoom + (rest.map fun v => v.category).sum ≤ W9) (hdg : decode c.code g.pc = .ok (.invokestatic index, 3))
    (hpre : ∀ vm₁, s.WarmedH vm₁ → Pre ⟨T.setVm vm₁, locs, cells, slots⟩ argsL.toArray) :
    ∃ (v : Option Value) (vm₁ : Vm) (B : Pt), s.WarmedH vm₁ ∧ Stand p l e R s m args below meth c B.U B.locs B.cells B.slots ∧ Post ⟨T.setVm vm₁, locs, cells, slots⟩ argsL.toArray v B ∧
      ∀ target, Steps p.tables e below (B.U.setTop { g with pc := g.pc + 3, stack := v.toList ++ rest }) target → Steps p.tables e below (T.setTop g) target := by
  obtain ⟨mk, methM, cM, hnamed, hmethM, -, -, -, -, -, -, hsigM⟩ := Cond.codeWith_spec hcode
  have hstatic : methM.isStatic = true := Cond.static_spec hnamed hmethM hstat
  obtain ⟨kP, hkP, -⟩ := className_of_methodNamed hnamed
  have hinitP : kP.init = .initialized := Cond.initialized_spec (findClass_of_methodNamed hnamed) hkP hinit
  obtain ⟨vm₁, X₁, hstep₁⟩ := X.invokestatic hexec hown hlink hnamed hmethM hstatic hkP hinitP hy (g := g) hg (argsL := argsL) (rest := rest) (hlen _ hsigM) hstack hdg
  obtain ⟨v, B, X', hpost, hsteps⟩ := hK m meth c ⟨T.setVm vm₁, locs, cells, slots⟩ { g with stack := rest } (.invokestatic index) mk argsL.toArray X₁ hg hsize hdg hW (X₁.named hnamed) (hpre vm₁ X₁.warmed)
  exact ⟨v, vm₁, B, X₁.warmed, X', hpost, fun target h => hstep₁ _ fun acts => by rw [doInvoke_state]; exact hsteps.trans h⟩
theorem vx_runSW {y : MethodName} {bytes cc : ByteArray} {maxL nL mc ms n index : Nat} {ret : Option FieldType} {hh : List (Nat × Nat × Nat × Nat)} {ws : List Cond} {rm : Room} {Pc : Array Value → State → Prop} {Qc : Array Value → State → Outcome → State → Prop} {free : Addr → Prop} {Ts : List Cond} {own : String} {As rest : List Value} {g : JFrame}
    (S : CallFix p m c cc nL s args Ts own) (hM : Met l y ws rm Pc Qc mc ms free) (cw : vx_CSW R s args own index y bytes maxL ret hh ws rm mc ms n) (hp : PreS s H Pc As)
    (hg : g.method = m) (hn : As.length = n) (hsize : g.locals.size = nL) (hstack : g.stack = As.reverse ++ rest) (hW : 2 * g.monitorRoom + (rest.map fun v => v.category).sum ≤ 8) (hdg : decode cc g.pc = .ok (.invokestatic index, 3)) (hf : cells + mc ≤ R.cells ∧ slots + ms ≤ R.slots) :
    va_Run p l e R s m args below meth c H locs cells slots mc ms g rest (Qc As.toArray) (free) := by
  obtain ⟨⟨hrc, hrs, hfr, hlo, hws, hcw⟩, hcode, hini, hy, hlen, hl, hstt⟩ := cw
  have hK : Back l R p e below s args y 3 8 (PreOf R mc ms Pc) (PostOf Qc mc ms free) := va_backW (hh := hh) (bytes := bytes) (maxL := maxL) (ret := ret) hM hp.1 hrc hrs hfr hlo hws hcw (fun a' U hW => word_at hW (Or.inl (by first | rfl | simp [Cond.onTables, Cond.keeps, Cond.steady])) hini)
  obtain ⟨hx, hb, hml, ho, -⟩ := S
  intro T hT X
  obtain ⟨v, vm₁, ⟨U', l2, c2, s2⟩, hW₁, X', ⟨g', mk, t, L, e1, e2, hq, h1, hL, h2, h3⟩, st⟩ := vx_callSW X hx (hh := hh) (bytes := bytes) (maxL := maxL) (ret := ret) ho hl hstt hini hcode hy hK hg (hsize.trans hml.symm) (argsL := As) (rest := rest) (fun sig h => hn.trans (hlen sig h)) hstack hW (by rw [hb]; exact hdg)
    (fun vm₁ hW₁ => ⟨hf.1, hf.2, hp.2 (T.setVm vm₁) hT hW₁⟩)
  dsimp only [Pt.U, Pt.locs, Pt.cells, Pt.slots] at X' e1 e2 h1 h2 h3 st
  subst h1; subst h2; subst h3
  exact ⟨v, (T.setVm vm₁).calling g' mk As.toArray, t, U', L, hT, X', hL, e1, e2, hq, st⟩
/-- not caught here, past rows that name other classes: it goes on to the caller -/
theorem vx_outP {p : Program} {l : Launch} {e : Env} {R : Room} {s : State} {m : MethodId} {args : Array Value} {below : List Frame} {meth : Method} {c : Code} {H : Heap} {locs : List Loc} {cells slots : Nat} {free : Addr → Prop} {ls : Array Slot} {rest : List Value} {Qc : Array Value → State → Outcome → State → Prop} {XC : String → State → State → Prop}
    {pc : Nat} {own E : String} {ce : Cell} {q : Addr} {mc ms : Nat} (hown : s.vm.findClass own = some m.cls) (hlocks : meth.locks = false)
    (hpass : ∀ z ∈ c.exceptionTable.toList, covers z pc = false ∨ (z.catchType ≠ 0 ∧ ∃ nm : String, (Cond.classLink own z.catchType nm).before args s = true ∧ va_Nc E nm s)) (hcell : H[q]? = some ce) (hv : ce.vm = .none) (hcl : s.vm.findClass E = some ce.cls)
    (hx : ∀ t : State, t.heap = H → s.vm.Alike t.vm → XC E s t) (hf : ∀ z ∈ locs, free z.base) (hc : cells ≤ mc) (hs : slots ≤ ms) :
    vx_W p l e R s m args below meth c H locs cells slots (vx_MQ below Qc XC args s mc ms free) (F0 m pc ls rest) q := by
  intro T hT X
  have hpl : e.platform.magicAccessors = ({} : Platform).magicAccessors := by rw [X.admits.platform]
  obtain ⟨vm', hW', X', st⟩ := X.outThrough hlocks q (g := F0 m pc ls rest) rfl rfl rfl (cell := ce) (by rw [hT]; exact hcell) (by rw [hv]; rfl)
    (by obtain ⟨k9, h9, -⟩ := Vm.findClass_spec hcl; exact ⟨k9, h9⟩) (fun z hz => by
      rcases hpass z hz with h | ⟨hz0, nm, hl1, hn1⟩
      · exact Or.inl h
      · obtain ⟨c6, hc6, hcl6⟩ := Cond.classLink_spec hown hl1 e.platform hpl
        obtain ⟨a8, b8, h1, h2, h3⟩ := hn1
        cases Option.some.inj (h1.symm.trans hcl)
        cases Option.some.inj (h2.symm.trans hc6)
        exact Or.inr ⟨hz0, _, hcl6, h3⟩)
  obtain ⟨g₀, hfr⟩ := X'.frames_eq
  have hcell9 : ((T.setVm vm').setFrames (.throwing q :: below)).heap[q]? = some ce := by
    show T.heap[q]? = some ce
    rw [hT]; exact hcell
  have hend : Ended ((T.setVm vm').setFrames (.throwing q :: below)) below (.threw q) := State.frames_setFrames _ (State.cur_lt_of_frames hfr)
  refine ⟨(T.setVm vm').setFrames (.throwing q :: below), ?_, .threw q, X'.here.running, hend, Or.inr ⟨q, rfl, E, ce, locs, hx _ hT (X'.ends _).1.alike, hcell9, hv, hcl, (X'.ends _).1, (X'.ends _).2.mono hc hs, hf⟩⟩
  rw [X.pushThrowing_eq]
  exact st
/-- a thing of a world lies in the heap -/
theorem vx_lt {D : va_G} {cl : List vw_C} {ws : va_W} {H1 : Heap} (h : va_P D cl ws H1) {k : Nat} {q : Nat × va_E} (hk : ws[k]? = some q) : q.1 < H1.size := (h k q hk).lt
end VXS
/-! ===== END ===== -/
/-! ===== BEGIN methods with a table of their own: called by a name, returning or throwing ===== -/
section VXH
/-! vx_backW, vx_callVX, vx_callSX, vx_callVW, vx_runVW, vx_runVX, vx_runSX, vx_ofWH follow the same proofs as their sisters above (Free/Laws.lean, Shelf42/LK1.lean); vx_outP calls Shelf42/NT130.lean (outThrough). -/
section
variable {l : Launch} {R : Room} {p : Program} {e : Env} {below : List Frame} {s : State} {sargs : Array Value} {y : MethodName} {len W9 : Nat}
theorem vx_backW {ws : List Cond} {rm : Room} {Pc : Array Value → State → Prop} {Qc : Array Value → State → Outcome → State → Prop} {XC : String → State → State → Prop} {mc ms : Nat} {free : Addr → Prop} {bytes : ByteArray} {maxL : Nat} {ret : Option FieldType} {hh : List (Nat × Nat × Nat × Nat)}
    (hM : vx_Met l y ws rm Pc Qc XC mc ms free) (hblind : FrameBlind Pc) (hrc : rm.cells = mc) (hrs : rm.slots = ms)
    (hframes : rm.frames + 1 ≤ R.frames) (hlocals : W9 + (maxL + 11) + rm.locals ≤ R.locals)
    (hws : ∀ w ∈ ws, ∀ a' U, s.WarmedH U.vm → w.before a' U = true) (hcode : Cond.codeWith y bytes maxL ret hh ∈ ws) (hinit : ∀ a' U, s.WarmedH U.vm → (Cond.initialized y.cls).before a' U = true) :
    vx_Back l R p e below s sargs y len W9 (PreOf R mc ms Pc) (PostOf Qc mc ms free) (vx_Post XC mc ms free) := by
  intro m meth c A g ig mk a X hg hsize hdg hW hn hp
  have h1 : (headSpec ws rm).pre.before a A.U = true := atoms_intro fun w hw => hws w hw _ _ X.warmed
  have h2 : (Cond.codeWith y bytes maxL ret hh).before a A.U = true := hws _ hcode _ _ X.warmed
  have h3 : (Cond.initialized y.cls).before a A.U = true := hinit _ _ X.warmed
  have h4 : A.cells + (headSpec ws rm).room.cells ≤ R.cells := by rw [show (headSpec ws rm).room.cells = mc from hrc]; exact hp.1
  have h5 : A.slots + (headSpec ws rm).room.slots ≤ R.slots := by rw [show (headSpec ws rm).room.slots = ms from hrs]; exact hp.2.1
  have hPc : Pc a (A.U.calling g mk a) := hblind _ _ _ _ hp.2.2
  obtain ⟨U, Ls, c0, s0⟩ := A
  dsimp only [Pt.U, Pt.locs, Pt.cells, Pt.slots] at h1 h2 h3 h4 h5 X hn hPc ⊢
  obtain ⟨m9, methY, cY, hn9, hmY, hcY, -, hlY, -⟩ := Cond.codeWith_spec h2
  cases Option.some.inj (hn9.symm.trans hn)
  obtain ⟨kY, hkY, -⟩ := className_of_methodNamed hn
  have hinitY : kY.init = .initialized := Cond.initialized_spec (findClass_of_methodNamed hn) hkY h3
  have h : At U g.method c below := by rw [hg]; exact X.here
  have hlocals9 : W9 + (maxL + 11) + (headSpec ws rm).room.locals ≤ R.locals := hlocals
  have happ : (headSpec ws rm).appliesLoose y e.platform (U.calling g mk a) = true :=
    Spec.appliesLoose_calling (g := g) h hdg hn hkY hinitY
      (X.room_calling (g := g) (R' := (headSpec ws rm).room) hsize hmY hcY hframes (by rw [hlY]; omega) h4 h5) h1
  obtain ⟨mid, hmid⟩ := h.above
  have hfr : (U.setTop g).frames = (.java g :: mid) ++ below := by rw [State.frames_setTop' g h.top, hmid]; rfl
  obtain ⟨o, s₂, hsteps, -, hend, hq⟩ := Steps.callFree hM p X.admits X.cas X.clock (acts := []) hfr happ hPc trivial
  have hq' : vx_Q Qc XC mc ms free a (U.calling g mk a) o s₂ := hq
  rw [State.frames_setTop' g h.top] at hend
  obtain ⟨g₀, hg0⟩ := Option.isSome_iff_exists.mp h.top
  obtain ⟨r, hr⟩ := State.topJava?_eq_some.mp hg0
  have hr' : (({ U with heap := s₂.heap, slotsUsed := s₂.slotsUsed } : State).setVm s₂.vm).frames = .java g₀ :: r := hr
  rcases hq' with ⟨hqc, L, hfe, hL⟩ | ⟨q, rfl, E, ce, L, hx, hce, hcv, hcl, hW₂, hsm, hL⟩
  · obtain ⟨⟨v, rfl⟩, hW₂, e2, q2, q3, q4, q5, q6⟩ := id hfe
    have e3 : s₂ = ({ (U.calling g mk a).setFrames s₂.frames with heap := s₂.heap, slotsUsed := s₂.slotsUsed } : State).setVm s₂.vm := by
      have : s₂ = ({ s₂ with vm := (U.calling g mk a).vm } : State).setVm s₂.vm := rfl
      rw [e2] at this
      exact this
    obtain ⟨c₂, i₂, len₂, hc₂, hd₂, hf₂⟩ := hend
    have hW' : U.WarmedH s₂.vm := hW₂
    have hcc : c₂ = c := by
      have h1 : s₂.code? g.method = U.code? g.method := by
        rw [State.code?_eq, State.code?_eq, hW'.alike.method?]
      exact Option.some.inj (hc₂.symm.trans (h1.trans h.code))
    subst hcc
    have hlen : len₂ = len := by rw [hdg] at hd₂; cases hd₂; rfl
    subst hlen
    have hs₂ : s₂ = (({ U with heap := s₂.heap, slotsUsed := s₂.slotsUsed } : State).setVm s₂.vm).setTop { g with pc := g.pc + len₂, stack := v.toList ++ g.stack } := by
      refine e3.trans ?_
      rw [hf₂, State.calling_eq h.top, State.setFrames_setFrames, State.setTop_of_frames _ hr', hr]
      rfl
    have hsame : U.sameButNew ({ U with heap := s₂.heap, slotsUsed := s₂.slotsUsed } : State) L mc ms := by
      refine ⟨?_, q2, q3, q4, q5, q6⟩
      obtain ⟨t, ht, -⟩ := State.frames_cons hr
      show ({ U with heap := s₂.heap, slotsUsed := s₂.slotsUsed } : State) = { U.setFrames U.frames with heap := s₂.heap, slotsUsed := s₂.slotsUsed }
      rw [State.setFrames_self ht]
    subst hg
    refine Or.inl ⟨v, ⟨(({ U with heap := s₂.heap, slotsUsed := s₂.slotsUsed } : State).setVm s₂.vm), Ls ++ L, c0 + mc, s0 + ms⟩,
      ⟨X.admits, X.cas, X.clock, X.frames, X.room, X.hears, X.method, X.code, (X.here.setHeapUsed s₂.heap s₂.slotsUsed).setVm hW'.alike, X.tail, State.WarmedH.trans X.warmed hW', X.limits, X.bytes, X.same.trans (hsame.setVm s.vm)⟩,
      ⟨g, mk, s₂, L, rfl, rfl, hqc, rfl, hL, rfl, rfl⟩, ?_⟩
    show Steps p.tables e below _ ((({ U with heap := s₂.heap, slotsUsed := s₂.slotsUsed } : State).setVm s₂.vm).setTop { g with pc := g.pc + len₂, stack := v.toList ++ g.stack })
    rw [← hs₂]
    exact hsteps
  · obtain ⟨e2, q2, q3, q4, q5, q6⟩ := id hsm
    have e3 : s₂ = ({ (U.calling g mk a).setFrames s₂.frames with heap := s₂.heap, slotsUsed := s₂.slotsUsed } : State).setVm s₂.vm := by
      have : s₂ = ({ s₂ with vm := (U.calling g mk a).vm } : State).setVm s₂.vm := rfl
      rw [e2] at this
      exact this
    have hf₂ : s₂.frames = .throwing q :: .java g :: U.frames.tail := hend
    have hW' : U.WarmedH s₂.vm := hW₂
    have hs₂ : s₂ = ((({ U with heap := s₂.heap, slotsUsed := s₂.slotsUsed } : State).setVm s₂.vm).setTop g).pushFrame (.throwing q) := by
      refine e3.trans ?_
      rw [hf₂, State.calling_eq h.top, State.setFrames_setFrames, State.pushFrame, State.frames_setTop _ hr', State.setTop_of_frames _ hr', State.setFrames_setFrames, hr]
      rfl
    have hsame : U.sameButNew ({ U with heap := s₂.heap, slotsUsed := s₂.slotsUsed } : State) L mc ms := by
      refine ⟨?_, q2, q3, q4, q5, q6⟩
      obtain ⟨t, ht, -⟩ := State.frames_cons hr
      show ({ U with heap := s₂.heap, slotsUsed := s₂.slotsUsed } : State) = { U.setFrames U.frames with heap := s₂.heap, slotsUsed := s₂.slotsUsed }
      rw [State.setFrames_self ht]
    subst hg
    refine Or.inr ⟨q, ⟨(({ U with heap := s₂.heap, slotsUsed := s₂.slotsUsed } : State).setVm s₂.vm), Ls ++ L, c0 + mc, s0 + ms⟩,
      ⟨X.admits, X.cas, X.clock, X.frames, X.room, X.hears, X.method, X.code, (X.here.setHeapUsed s₂.heap s₂.slotsUsed).setVm hW'.alike, X.tail, State.WarmedH.trans X.warmed hW', X.limits, X.bytes, X.same.trans (hsame.setVm s.vm)⟩,
      ⟨g, mk, s₂, L, E, ce, rfl, rfl, hx, hce, hcv, hcl, rfl, hL, rfl, rfl⟩, ?_⟩
    show Steps p.tables e below _ (((({ U with heap := s₂.heap, slotsUsed := s₂.slotsUsed } : State).setVm s₂.vm).setTop g).pushFrame (.throwing q))
    rw [← hs₂]
    exact hsteps
end
variable {p : Program} {l : Launch} {e : Env} {R : Room} {s : State} {m : MethodId} {args : Array Value} {below : List Frame} {meth : Method} {c : Code} {T : State} {H : Heap} {locs : List Loc} {cells slots : Nat}
theorem vx_callVX (X : Stand p l e R s m args below meth c T locs cells slots) (hexec : p.tables.exec = Jvm.exec) {own C : String} {index : Nat} {y : MethodName} {bytes : ByteArray} {maxL : Nat} {ret : Option FieldType} {hh : List (Nat × Nat × Nat × Nat)}
    (hown : s.vm.findClass own = some m.cls) (hlink : (Cond.methodLink own index y).before args s = true) (hinst : (Cond.instanceMethod y).before args s = true) (hsel : (Cond.selects C y y).before args s = true)
    (hcode : (Cond.codeWith y bytes maxL ret hh).before args s = true) (hy : y.cls ≠ "java/lang/invoke/MethodHandle" ∧ y.cls ≠ "java/lang/invoke/VarHandle")
    {W9 : Nat} {Pre : Pt → Array Value → Prop} {Post : Pt → Array Value → Option Value → Pt → Prop} {PostX : Pt → Array Value → Addr → Pt → Prop} (hK : vx_Back l R p e below s args y 3 W9 Pre Post PostX)
    {b : Addr} {cellB : Cell} (hcell : T.heap[b]? = some cellB) (hobj : cellB.vm.isStatics = false) (hcls : s.vm.findClass C = some cellB.cls)
    {g : JFrame} (hg : g.method = m) (hsize : g.locals.size = c.maxLocals) {argsL rest : List Value} (hlen : ∀ sig, parseMethodDescriptor y.desc = some sig → argsL.length = sig.parameters.length)
    (hstack : g.stack = argsL.reverse ++ .ref b :: rest) (hW : 2 * g.monitorRoom + (rest.map fun v => v.category).sum ≤ W9) (hdg : decode c.code g.pc = .ok (.invokevirtual index, 3))
    (hpre : ∀ vm₁, s.WarmedH vm₁ → Pre ⟨T.setVm vm₁, locs, cells, slots⟩ (Value.ref b :: argsL).toArray) :
    (∃ (v : Option Value) (vm₁ : Vm) (B : Pt), s.WarmedH vm₁ ∧ Stand p l e R s m args below meth c B.U B.locs B.cells B.slots ∧ Post ⟨T.setVm vm₁, locs, cells, slots⟩ (Value.ref b :: argsL).toArray v B ∧
      ∀ target, Steps p.tables e below (B.U.setTop { g with pc := g.pc + 3, stack := v.toList ++ rest }) target → Steps p.tables e below (T.setTop g) target) ∨
    (∃ (q : Addr) (vm₁ : Vm) (B : Pt), s.WarmedH vm₁ ∧ Stand p l e R s m args below meth c B.U B.locs B.cells B.slots ∧ PostX ⟨T.setVm vm₁, locs, cells, slots⟩ (Value.ref b :: argsL).toArray q B ∧
      Steps p.tables e below (T.setTop g) ((B.U.setTop { g with stack := rest }).pushFrame (.throwing q))) := by
  obtain ⟨mk, methM, hnamed, hmethM, hstM, habM⟩ := Cond.instanceMethod_spec hinst
  obtain ⟨m8, methM', cM, hn8, hmethM', -, -, -, -, -, -, hsigM⟩ := Cond.codeWith_spec hcode
  cases Option.some.inj (hn8.symm.trans hnamed)
  cases hmethM.symm.trans hmethM'
  obtain ⟨c2, r2, m2, q1, q2, q3, q4, kP, hkP, hkPi⟩ := Cond.selects_spec hsel
  cases hcls.symm.trans q1
  cases (State.methodFound?_of_named hnamed hy).symm.trans q2
  cases hnamed.symm.trans q3
  have hselP : selectMethod e.platform s.vm cellB.cls mk = .method mk := by rw [Launch.admits_selectMethod X.admits]; exact q4
  obtain ⟨vm₁, X₁, hstep₁⟩ := X.invokevirtual hexec hown hlink hnamed hmethM hstM hkP hkPi hy (a := b) (cell := cellB) hcell
    (fun z h => by rw [h] at hobj; cases hobj) hselP hmethM habM hkP hkPi (g := g) hg (argsL := argsL) (rest := rest) (hlen _ hsigM) hstack hdg
  rcases hK m meth c ⟨T.setVm vm₁, locs, cells, slots⟩ { g with stack := rest } (.invokevirtual index) mk (Value.ref b :: argsL).toArray X₁ hg hsize hdg hW (X₁.named hnamed) (hpre vm₁ X₁.warmed) with ⟨v, B, X', hpost, hsteps⟩ | ⟨q, B, X', hpost, hsteps⟩
  · exact Or.inl ⟨v, vm₁, B, X₁.warmed, X', hpost, fun target h => hstep₁ _ fun acts => by rw [doInvoke_state]; exact hsteps.trans h⟩
  · exact Or.inr ⟨q, vm₁, B, X₁.warmed, X', hpost, hstep₁ _ fun acts => by rw [doInvoke_state]; exact hsteps⟩
theorem vx_callSX (X : Stand p l e R s m args below meth c T locs cells slots) (hexec : p.tables.exec = Jvm.exec) {own : String} {index : Nat} {y : MethodName} {bytes : ByteArray} {maxL : Nat} {ret : Option FieldType} {hh : List (Nat × Nat × Nat × Nat)}
    (hown : s.vm.findClass own = some m.cls) (hlink : (Cond.methodLink own index y).before args s = true) (hstat : (Cond.static y).before args s = true) (hinit : (Cond.initialized y.cls).before args s = true)
    (hcode : (Cond.codeWith y bytes maxL ret hh).before args s = true) (hy : y.cls ≠ "java/lang/invoke/MethodHandle" ∧ y.cls ≠ "java/lang/invoke/VarHandle")
    {W9 : Nat} {Pre : Pt → Array Value → Prop} {Post : Pt → Array Value → Option Value → Pt → Prop} {PostX : Pt → Array Value → Addr → Pt → Prop} (hK : vx_Back l R p e below s args y 3 W9 Pre Post PostX)
    {g : JFrame} (hg : g.method = m) (hsize : g.locals.size = c.maxLocals) {argsL rest : List Value} (hlen : ∀ sig, parseMethodDescriptor y.desc = some sig → argsL.length = sig.parameters.length)
    (hstack : g.stack = argsL.reverse ++ rest) (hW : 2 * g.monitorRoom + (rest.map fun v => v.category).sum ≤ W9) (hdg : decode c.code g.pc = .ok (.invokestatic index, 3))
    (hpre : ∀ vm₁, s.WarmedH vm₁ → Pre ⟨T.setVm vm₁, locs, cells, slots⟩ argsL.toArray) :
    (∃ (v : Option Value) (vm₁ : Vm) (B : Pt), s.WarmedH vm₁ ∧ Stand p l e R s m args below meth c B.U B.locs B.cells B.slots ∧ Post ⟨T.setVm vm₁, locs, cells, slots⟩ argsL.toArray v B ∧
      ∀ target, Steps p.tables e below (B.U.setTop { g with pc := g.pc + 3, stack := v.toList ++ rest }) target → Steps p.tables e below (T.setTop g) target) ∨
    (∃ (q : Addr) (vm₁ : Vm) (B : Pt), s.WarmedH vm₁ ∧ Stand p l e R s m args below meth c B.U B.locs B.cells B.slots ∧ PostX ⟨T.setVm vm₁, locs, cells, slots⟩ argsL.toArray q B ∧
      Steps p.tables e below (T.setTop g) ((B.U.setTop { g with stack := rest }).pushFrame (.throwing q))) := by
  obtain ⟨mk, methM, cM, hnamed, hmethM, -, -, -, -, -, -, hsigM⟩ := Cond.codeWith_spec hcode
  have hstatic : methM.isStatic = true := Cond.static_spec hnamed hmethM hstat
  obtain ⟨kP, hkP, -⟩ := className_of_methodNamed hnamed
  have hinitP : kP.init = .initialized := Cond.initialized_spec (findClass_of_methodNamed hnamed) hkP hinit
  obtain ⟨vm₁, X₁, hstep₁⟩ := X.invokestatic hexec hown hlink hnamed hmethM hstatic hkP hinitP hy (g := g) hg (argsL := argsL) (rest := rest) (hlen _ hsigM) hstack hdg
  rcases hK m meth c ⟨T.setVm vm₁, locs, cells, slots⟩ { g with stack := rest } (.invokestatic index) mk argsL.toArray X₁ hg hsize hdg hW (X₁.named hnamed) (hpre vm₁ X₁.warmed) with ⟨v, B, X', hpost, hsteps⟩ | ⟨q, B, X', hpost, hsteps⟩
  · exact Or.inl ⟨v, vm₁, B, X₁.warmed, X', hpost, fun target h => hstep₁ _ fun acts => by rw [doInvoke_state]; exact hsteps.trans h⟩
  · exact Or.inr ⟨q, vm₁, B, X₁.warmed, X', hpost, hstep₁ _ fun acts => by rw [doInvoke_state]; exact hsteps⟩
theorem vx_callVW (X : Stand p l e R s m args below meth c T locs cells slots) (hexec : p.tables.exec = Jvm.exec) {own C : String} {index : Nat} {y : MethodName} {bytes : ByteArray} {maxL : Nat} {ret : Option FieldType} {hh : List (Nat × Nat × Nat × Nat)}
    (hown : s.vm.findClass own = some m.cls) (hlink : (Cond.methodLink own index y).before args s = true) (hinst : (Cond.instanceMethod y).before args s = true) (hsel : (Cond.selects C y y).before args s = true)
    (hcode : (Cond.codeWith y bytes maxL ret hh).before args s = true) (hy : y.cls ≠ "java/lang/invoke/MethodHandle" ∧ y.cls ≠ "java/lang/invoke/VarHandle")
    {W9 : Nat} {Pre : Pt → Array Value → Prop} {Post : Pt → Array Value → Option Value → Pt → Prop} (hK : Back l R p e below s args y 3 W9 Pre Post)
    {b : Addr} {cellB : Cell} (hcell : T.heap[b]? = some cellB) (hobj : cellB.vm.isStatics = false) (hcls : s.vm.findClass C = some cellB.cls)
    {g : JFrame} (hg : g.method = m) (hsize : g.locals.size = c.maxLocals) {argsL rest : List Value} (hlen : ∀ sig, parseMethodDescriptor y.desc = some sig → argsL.length = sig.parameters.length)
    (hstack : g.stack = argsL.reverse ++ .ref b :: rest) (hW : 2 * g.monitorRoom + (rest.map fun v => v.category).sum ≤ W9) (hdg : decode c.code g.pc = .ok (.invokevirtual index, 3))
    (hpre : ∀ vm₁, s.WarmedH vm₁ → Pre ⟨T.setVm vm₁, locs, cells, slots⟩ (Value.ref b :: argsL).toArray) :
    ∃ (v : Option Value) (vm₁ : Vm) (B : Pt), s.WarmedH vm₁ ∧ Stand p l e R s m args below meth c B.U B.locs B.cells B.slots ∧ Post ⟨T.setVm vm₁, locs, cells, slots⟩ (Value.ref b :: argsL).toArray v B ∧
      ∀ target, Steps p.tables e below (B.U.setTop { g with pc := g.pc + 3, stack := v.toList ++ rest }) target → Steps p.tables e below (T.setTop g) target := by
  obtain ⟨mk, methM, hnamed, hmethM, hstM, habM⟩ := Cond.instanceMethod_spec hinst
  obtain ⟨m8, methM', cM, hn8, hmethM', -, -, -, -, -, -, hsigM⟩ := Cond.codeWith_spec hcode
  cases Option.some.inj (hn8.symm.trans hnamed)
  cases hmethM.symm.trans hmethM'
  obtain ⟨c2, r2, m2, q1, q2, q3, q4, kP, hkP, hkPi⟩ := Cond.selects_spec hsel
  cases hcls.symm.trans q1
  cases (State.methodFound?_of_named hnamed hy).symm.trans q2
  cases hnamed.symm.trans q3
  have hselP : selectMethod e.platform s.vm cellB.cls mk = .method mk := by rw [Launch.admits_selectMethod X.admits]; exact q4
  obtain ⟨vm₁, X₁, hstep₁⟩ := X.invokevirtual hexec hown hlink hnamed hmethM hstM hkP hkPi hy (a := b) (cell := cellB) hcell
    (fun z h => by rw [h] at hobj; cases hobj) hselP hmethM habM hkP hkPi (g := g) hg (argsL := argsL) (rest := rest) (hlen _ hsigM) hstack hdg
  obtain ⟨v, B, X', hpost, hsteps⟩ := hK m meth c ⟨T.setVm vm₁, locs, cells, slots⟩ { g with stack := rest } (.invokevirtual index) mk (Value.ref b :: argsL).toArray X₁ hg hsize hdg hW (X₁.named hnamed) (hpre vm₁ X₁.warmed)
  exact ⟨v, vm₁, B, X₁.warmed, X', hpost, fun target h => hstep₁ _ fun acts => by rw [doInvoke_state]; exact hsteps.trans h⟩
abbrev vx_CVW (R : Room) (s : State) (args : Array Value) (own C : String) (index : Nat) (y : MethodName) (bytes : ByteArray) (maxL : Nat) (ret : Option FieldType) (hh : List (Nat × Nat × Nat × Nat)) (ws : List Cond) (rm : Room) (mc ms n : Nat) : Prop :=
  (rm.cells = mc ∧ rm.slots = ms ∧ rm.frames + 1 ≤ R.frames ∧ 8 + (maxL + 11) + rm.locals ≤ R.locals ∧ (∀ w ∈ ws, ∀ (a' : Array Value) (U : State), s.WarmedH U.vm → w.before a' U = true) ∧ Cond.codeWith y bytes maxL ret hh ∈ ws) ∧
  (Cond.codeWith y bytes maxL ret hh).before args s = true ∧ (Cond.initialized y.cls).before args s = true ∧ (y.cls ≠ "java/lang/invoke/MethodHandle" ∧ y.cls ≠ "java/lang/invoke/VarHandle") ∧
  (∀ sig, parseMethodDescriptor y.desc = some sig → n = sig.parameters.length) ∧ (Cond.methodLink own index y).before args s = true ∧ (Cond.instanceMethod y).before args s = true ∧ (Cond.selects C y y).before args s = true
theorem vx_cwVW {own C : String} {index maxL mc ms : Nat} {y : MethodName} {bytes : ByteArray} {ret : Option FieldType} {hh : List (Nat × Nat × Nat × Nat)} {Ts ws ws' : List Cond} {rm : Room} (n : Nat) (ht : ∀ w ∈ Ts, w.before args s = true) (hT : GoodIn Ts (wsV own index C y ws)) (hw : ws = Cond.codeWith y bytes maxL ret hh :: ws') (hrc : rm.cells = mc) (hrs : rm.slots = ms)
    (hd : y.cls = C ∧ y.cls ≠ "java/lang/invoke/MethodHandle" ∧ y.cls ≠ "java/lang/invoke/VarHandle" ∧ (parseMethodDescriptor y.desc).map (fun d => d.parameters.length) = some n) (hR : rm.frames + 1 ≤ R.frames ∧ 8 + (maxL + 11) + rm.locals ≤ R.locals) :
    vx_CVW R s args own C index y bytes maxL ret hh ws rm mc ms n := by
  obtain ⟨hC, hd⟩ := hd
  subst hC
  have ok : ∀ w ∈ wsV own index y.cls y ws, w.before args s = true := fun w h => ht w (hT w h).1
  have hG : GoodIn Ts ws := fun w h => hT w (by unfold wsV; exact List.mem_append_right _ h)
  have hc : Cond.codeWith y bytes maxL ret hh ∈ ws := by rw [hw]; exact List.mem_cons_self
  refine ⟨⟨hrc, hrs, hR.1, hR.2, pay_in ht hG, hc⟩, ht _ (hG _ hc).1, ok _ (by simp [wsV]), ⟨hd.1, hd.2.1⟩, fun sig h => ?_, ok _ (by simp [wsV]), ok _ (by simp [wsV]), ok _ (by simp [wsV])⟩
  have h2 := hd.2.2
  rw [h] at h2
  exact (Option.some.inj h2).symm
theorem vx_runVW {y : MethodName} {bytes cc : ByteArray} {maxL nL mc ms n index : Nat} {ret : Option FieldType} {hh : List (Nat × Nat × Nat × Nat)} {ws : List Cond} {rm : Room} {Pc : Array Value → State → Prop} {Qc : Array Value → State → Outcome → State → Prop} {free : Addr → Prop} {Ts : List Cond} {own C : String} {b : Addr} {As rest : List Value} {g : JFrame}
    (S : CallFix p m c cc nL s args Ts own) (hM : Met l y ws rm Pc Qc mc ms free) (cw : vx_CVW R s args own C index y bytes maxL ret hh ws rm mc ms n) (hp : PreV s H C b Pc As)
    (hg : g.method = m) (hn : As.length = n) (hsize : g.locals.size = nL) (hstack : g.stack = As.reverse ++ .ref b :: rest) (hW : 2 * g.monitorRoom + (rest.map fun v => v.category).sum ≤ 8) (hdg : decode cc g.pc = .ok (.invokevirtual index, 3)) (hf : cells + mc ≤ R.cells ∧ slots + ms ≤ R.slots) :
    va_Run p l e R s m args below meth c H locs cells slots mc ms g rest (Qc (Value.ref b :: As).toArray) free := by
  obtain ⟨⟨hrc, hrs, hfr, hlo, hws, hcw⟩, hcode, hini, hy, hlen, hl, hin, hse⟩ := cw
  have hK : Back l R p e below s args y 3 8 (PreOf R mc ms Pc) (PostOf Qc mc ms free) := va_backW (hh := hh) (bytes := bytes) (maxL := maxL) (ret := ret) hM hp.1 hrc hrs hfr hlo hws hcw (fun a' U hW => word_at hW (Or.inl (by first | rfl | simp [Cond.onTables, Cond.keeps, Cond.steady])) hini)
  obtain ⟨hx, hb, hml, ho, -⟩ := S
  obtain ⟨-, ⟨cellB, hcB, hoB, hclB⟩, hPc⟩ := hp
  intro T hT X
  obtain ⟨v, vm₁, ⟨U', l2, c2, s2⟩, hW₁, X', ⟨g', mk, t, L, e1, e2, hq, h1, hL, h2, h3⟩, st⟩ := vx_callVW X hx (C := C) (hh := hh) (bytes := bytes) (maxL := maxL) (ret := ret) ho hl hin hse hcode hy hK (by rw [hT]; exact hcB) hoB hclB hg (hsize.trans hml.symm) (argsL := As) (rest := rest) (fun sig h => hn.trans (hlen sig h)) hstack hW (by rw [hb]; exact hdg)
    (fun vm₁ hW₁ => ⟨hf.1, hf.2, hPc (T.setVm vm₁) hT hW₁⟩)
  dsimp only [Pt.U, Pt.locs, Pt.cells, Pt.slots] at X' e1 e2 h1 h2 h3 st
  subst h1; subst h2; subst h3
  exact ⟨v, (T.setVm vm₁).calling g' mk (Value.ref b :: As).toArray, t, U', L, hT, X', hL, e1, e2, hq, st⟩
section
variable {y : MethodName} {bytes cc : ByteArray} {maxL nL mc ms n index : Nat} {ret : Option FieldType} {ws : List Cond} {rm : Room} {Pc : Array Value → State → Prop} {Qc : Array Value → State → Outcome → State → Prop} {XC : String → State → State → Prop} {free : Addr → Prop} {Ts : List Cond} {own C : String} {b : Addr} {As rest : List Value} {g : JFrame}
theorem vx_runVX {hh : List (Nat × Nat × Nat × Nat)} (S : CallFix p m c cc nL s args Ts own) (hM : vx_Met l y ws rm Pc Qc XC mc ms free) (cw : vx_CVW R s args own C index y bytes maxL ret hh ws rm mc ms n) (hp : PreV s H C b Pc As)
    (hg : g.method = m) (hn : As.length = n) (hsize : g.locals.size = nL) (hstack : g.stack = As.reverse ++ .ref b :: rest) (hW : 2 * g.monitorRoom + (rest.map fun v => v.category).sum ≤ 8) (hdg : decode cc g.pc = .ok (.invokevirtual index, 3)) (hf : cells + mc ≤ R.cells ∧ slots + ms ≤ R.slots) :
    vx_Run p l e R s m args below meth c H locs cells slots mc ms g rest (Qc (Value.ref b :: As).toArray) XC free := by
  obtain ⟨⟨hrc, hrs, hfr, hlo, hws, hcw⟩, hcode, hini, hy, hlen, hl, hin, hse⟩ := cw
  have hK : vx_Back l R p e below s args y 3 8 (PreOf R mc ms Pc) (PostOf Qc mc ms free) (vx_Post XC mc ms free) := vx_backW (hh := hh) (bytes := bytes) (maxL := maxL) (ret := ret) hM hp.1 hrc hrs hfr hlo hws hcw (fun a' U hW => word_at hW (Or.inl (by first | rfl | simp [Cond.onTables, Cond.keeps, Cond.steady])) hini)
  obtain ⟨hx, hb, hml, ho, -⟩ := S
  obtain ⟨-, ⟨cellB, hcB, hoB, hclB⟩, hPc⟩ := hp
  intro T hT X
  rcases vx_callVX X hx (C := C) (hh := hh) (bytes := bytes) (maxL := maxL) (ret := ret) ho hl hin hse hcode hy hK (by rw [hT]; exact hcB) hoB hclB hg (hsize.trans hml.symm) (argsL := As) (rest := rest) (fun sig h => hn.trans (hlen sig h)) hstack hW (by rw [hb]; exact hdg)
    (fun vm₁ hW₁ => ⟨hf.1, hf.2, hPc (T.setVm vm₁) hT hW₁⟩) with ⟨v, vm₁, ⟨U', l2, c2, s2⟩, hW₁, X', ⟨g', mk, t, L, e1, e2, hq, h1, hL, h2, h3⟩, st⟩ | ⟨q, vm₁, ⟨U', l2, c2, s2⟩, hW₁, X', ⟨g', mk, t, L, E, ce, e1, e2, hq, hce, hcv, hcl, h1, hL, h2, h3⟩, st⟩
  · dsimp only [Pt.U, Pt.locs, Pt.cells, Pt.slots] at X' e1 e2 h1 h2 h3 st
    subst h1; subst h2; subst h3
    exact Or.inl ⟨v, (T.setVm vm₁).calling g' mk (Value.ref b :: As).toArray, t, U', L, hT, X', hL, e1, e2, hq, st⟩
  · dsimp only [Pt.U, Pt.locs, Pt.cells, Pt.slots] at X' e1 e2 h1 h2 h3 st hcl
    subst h1; subst h2; subst h3
    exact Or.inr ⟨q, (T.setVm vm₁).calling g' mk (Value.ref b :: As).toArray, t, U', L, E, ce, hT, X', hL, e1, e2, hq, hce, hcv, vx_cls hW₁ hcl, st⟩
theorem vx_runSX {hh : List (Nat × Nat × Nat × Nat)} (S : CallFix p m c cc nL s args Ts own) (hM : vx_Met l y ws rm Pc Qc XC mc ms free) (cw : vx_CSW R s args own index y bytes maxL ret hh ws rm mc ms n) (hp : PreS s H Pc As)
    (hg : g.method = m) (hn : As.length = n) (hsize : g.locals.size = nL) (hstack : g.stack = As.reverse ++ rest) (hW : 2 * g.monitorRoom + (rest.map fun v => v.category).sum ≤ 8) (hdg : decode cc g.pc = .ok (.invokestatic index, 3)) (hf : cells + mc ≤ R.cells ∧ slots + ms ≤ R.slots) :
    vx_Run p l e R s m args below meth c H locs cells slots mc ms g rest (Qc As.toArray) XC free := by
  obtain ⟨⟨hrc, hrs, hfr, hlo, hws, hcw⟩, hcode, hini, hy, hlen, hl, hstt⟩ := cw
  have hK : vx_Back l R p e below s args y 3 8 (PreOf R mc ms Pc) (PostOf Qc mc ms free) (vx_Post XC mc ms free) := vx_backW (hh := hh) (bytes := bytes) (maxL := maxL) (ret := ret) hM hp.1 hrc hrs hfr hlo hws hcw (fun a' U hW => word_at hW (Or.inl (by first | rfl | simp [Cond.onTables, Cond.keeps, Cond.steady])) hini)
  obtain ⟨hx, hb, hml, ho, -⟩ := S
  intro T hT X
  rcases vx_callSX X hx (hh := hh) (bytes := bytes) (maxL := maxL) (ret := ret) ho hl hstt hini hcode hy hK hg (hsize.trans hml.symm) (argsL := As) (rest := rest) (fun sig h => hn.trans (hlen sig h)) hstack hW (by rw [hb]; exact hdg)
    (fun vm₁ hW₁ => ⟨hf.1, hf.2, hp.2 (T.setVm vm₁) hT hW₁⟩) with ⟨v, vm₁, ⟨U', l2, c2, s2⟩, hW₁, X', ⟨g', mk, t, L, e1, e2, hq, h1, hL, h2, h3⟩, st⟩ | ⟨q, vm₁, ⟨U', l2, c2, s2⟩, hW₁, X', ⟨g', mk, t, L, E, ce, e1, e2, hq, hce, hcv, hcl, h1, hL, h2, h3⟩, st⟩
  · dsimp only [Pt.U, Pt.locs, Pt.cells, Pt.slots] at X' e1 e2 h1 h2 h3 st
    subst h1; subst h2; subst h3
    exact Or.inl ⟨v, (T.setVm vm₁).calling g' mk As.toArray, t, U', L, hT, X', hL, e1, e2, hq, st⟩
  · dsimp only [Pt.U, Pt.locs, Pt.cells, Pt.slots] at X' e1 e2 h1 h2 h3 st hcl
    subst h1; subst h2; subst h3
    exact Or.inr ⟨q, (T.setVm vm₁).calling g' mk As.toArray, t, U', L, E, ce, hT, X', hL, e1, e2, hq, hce, hcv, vx_cls hW₁ hcl, st⟩
end
end VXH
theorem vx_ofWH {l : Launch} {y : MethodName} {ws ws' : List Cond} {rm : Room} {Pc : Array Value → State → Prop} {Qc : Array Value → State → Outcome → State → Prop} {XC : String → State → State → Prop} {mc ms : Nat} {free : Addr → Prop} {cc : ByteArray} {maxL : Nat} {ret : Option FieldType} {hh : List (Nat × Nat × Nat × Nat)}
    (hy : plainName y.cls = true) (hw : ws = Cond.codeWith y cc maxL ret hh :: ws')
    (body : ∀ p e s m args below meth c s₁, BodyLoose p l y (headSpec ws rm) cc maxL ret e s m args below meth c s₁ → c.maxLocals = maxL → Pc args s →
      W p l e (headSpec ws rm).room s m args below meth c s.heap [] 0 0 (vx_MQ below Qc XC args s mc ms free) (entryFrame m args maxL)) : vx_Met l y ws rm Pc Qc XC mc ms free := by
  refine MetFree.of_bodyS (code := cc) (maxLocals := maxL) (ret := ret) hy ?_ ?_
  · intro args s m h hn
    obtain ⟨m9, meth, c, hn9, h1, h2, h3, h4, -, h5, h6, -⟩ := Cond.codeWith_spec (atoms_spec (ws := ws) h _ (by rw [hw]; exact List.mem_cons_self))
    cases hn.symm.trans hn9
    exact ⟨meth, c, h1, h2, h3, h4, h5, h6⟩
  · intro p e s m args below meth c s₁ B hml hP _
    have hh0 : s₁.heap = s.heap := by rw [B.state]; rfl
    obtain ⟨t, a1, o, b1, b2, b3⟩ := body p e s m args below meth c s₁ B hml hP s₁ hh0 (Stand.of_body B)
    exact ⟨t, o, a1, b1, b2, b3⟩
/-! ===== END ===== -/
end
section
/-! ===== BEGIN printed: names, fields, word lists, decode rows ===== -/
def RX0 : String := "FacetCounts"
def TX0 : u_T := fun k => match k with
  | 0 => ("FacetCounts", "given", "[I", true)
  | 1 => ("FacetCounts", "kinds", "[I", true)
  | 2 => ("FacetCounts", "uppers", "[I", true)
  | 3 => ("FacetCounts", "chosen", "[I", true)
  | 4 => ("FacetCounts", "before", "[I", true)
  | 5 => ("FacetCounts", "counts", "[I", true)
  | _ => ("FacetCounts", "rowCount", "I", false)
def tyX0 : Nat → FieldType := fun k => match k with
  | 0 => .array .int
  | 1 => .array .int
  | 2 => .array .int
  | 3 => .array .int
  | 4 => .array .int
  | 5 => .array .int
  | _ => .int
abbrev wsX00 : List Cond := u_ws RX0 TX0 7
theorem nmX0 : ∀ a, a < 7 → ∀ b, b < 7 → a ≠ b → (TX0 a).2.1 ≠ (TX0 b).2.1 := by decide +kernel
theorem tyX0_ok : ∀ k, k < 7 → parseFieldDescriptor (TX0 k).2.2.1 = some (tyX0 k) := by decide +kernel
abbrev cX0_init : ByteArray := prog_1_method_1_code
def yX0_init : MethodName := ⟨RX0, "<init>", "()V"⟩
abbrev cX0_row : ByteArray := prog_1_method_2_code
def yX0_row : MethodName := ⟨RX0, "row", "(III)I"⟩
abbrev cX0_drop : ByteArray := prog_1_method_3_code
def yX0_drop : MethodName := ⟨RX0, "drop", "(III)I"⟩
abbrev cX0_above : ByteArray := prog_1_method_4_code
def yX0_above : MethodName := ⟨RX0, "above", "(II)I"⟩
abbrev cX0_choose : ByteArray := prog_1_method_5_code
def yX0_choose : MethodName := ⟨RX0, "choose", "(IIZ)I"⟩
abbrev cX0_kept : ByteArray := prog_1_method_6_code
def yX0_kept : MethodName := ⟨RX0, "kept", "()I"⟩
abbrev cX0_isKept : ByteArray := prog_1_method_7_code
def yX0_isKept : MethodName := ⟨RX0, "isKept", "(I)I"⟩
abbrev cX0_facet : ByteArray := prog_1_method_8_code
def yX0_facet : MethodName := ⟨RX0, "facet", "(II)I"⟩
abbrev cX0_top : ByteArray := prog_1_method_9_code
def yX0_top : MethodName := ⟨RX0, "top", "(II)I"⟩
abbrev cX0_range : ByteArray := prog_1_method_10_code
def yX0_range : MethodName := ⟨RX0, "range", "(III)I"⟩
abbrev cX0_sum : ByteArray := prog_1_method_11_code
def yX0_sum : MethodName := ⟨RX0, "sum", "(III)I"⟩
abbrev cX0_share : ByteArray := prog_1_method_12_code
def yX0_share : MethodName := ⟨RX0, "share", "(IIZ)I"⟩
abbrev cX0_changed : ByteArray := prog_1_method_13_code
def yX0_changed : MethodName := ⟨RX0, "changed", "()I"⟩
abbrev cX0_rows : ByteArray := prog_1_method_14_code
def yX0_rows : MethodName := ⟨RX0, "rows", "()I"⟩
abbrev cX0_isThing : ByteArray := prog_1_method_15_code
def yX0_isThing : MethodName := ⟨RX0, "isThing", "(I)Z"⟩
abbrev cX0_isHead : ByteArray := prog_1_method_16_code
def yX0_isHead : MethodName := ⟨RX0, "isHead", "(I)Z"⟩
abbrev cX0_isValue : ByteArray := prog_1_method_17_code
def yX0_isValue : MethodName := ⟨RX0, "isValue", "(I)Z"⟩
abbrev cX0_holds : ByteArray := prog_1_method_18_code
def yX0_holds : MethodName := ⟨RX0, "holds", "(II)Z"⟩
abbrev cX0_valuesOf : ByteArray := prog_1_method_19_code
def yX0_valuesOf : MethodName := ⟨RX0, "valuesOf", "(II)I"⟩
abbrev cX0_renewKinds : ByteArray := prog_1_method_20_code
def yX0_renewKinds : MethodName := ⟨RX0, "renewKinds", "(I)V"⟩
abbrev cX0_withUppers : ByteArray := prog_1_method_21_code
def yX0_withUppers : MethodName := ⟨RX0, "withUppers", "(II)I"⟩
abbrev cX0_lackedHeads : ByteArray := prog_1_method_22_code
def yX0_lackedHeads : MethodName := ⟨RX0, "lackedHeads", "(I)I"⟩
abbrev cX0_isKeptBut : ByteArray := prog_1_method_23_code
def yX0_isKeptBut : MethodName := ⟨RX0, "isKeptBut", "(II)Z"⟩
abbrev cX0_countKept : ByteArray := prog_1_method_24_code
def yX0_countKept : MethodName := ⟨RX0, "countKept", "()I"⟩
abbrev cX0_countKeptBut : ByteArray := prog_1_method_25_code
def yX0_countKeptBut : MethodName := ⟨RX0, "countKeptBut", "(I)I"⟩
abbrev cX0_countWithAny : ByteArray := prog_1_method_26_code
def yX0_countWithAny : MethodName := ⟨RX0, "countWithAny", "(II)I"⟩
abbrev cX0_countAll : ByteArray := prog_1_method_27_code
def yX0_countAll : MethodName := ⟨RX0, "countAll", "()V"⟩
abbrev cX0_countValues : ByteArray := prog_1_method_28_code
def yX0_countValues : MethodName := ⟨RX0, "countValues", "(II)V"⟩
abbrev cX0_rankOf : ByteArray := prog_1_method_29_code
def yX0_rankOf : MethodName := ⟨RX0, "rankOf", "(II)I"⟩
abbrev cX0_span : ByteArray := prog_1_method_30_code
def yX0_span : MethodName := ⟨RX0, "span", "(II)I"⟩
abbrev cX0_sumOf : ByteArray := prog_1_method_31_code
def yX0_sumOf : MethodName := ⟨RX0, "sumOf", "(I)I"⟩
abbrev cX0_inLeastTerms : ByteArray := prog_1_method_32_code
def yX0_inLeastTerms : MethodName := ⟨RX0, "inLeastTerms", "(III)I"⟩
def RX1 : String := "FacetCountsModel"
def TX1 : u_T := fun k => match k with
  | _ => ("", "", "", false)
def tyX1 : Nat → FieldType := fun k => match k with
  | _ => .int
abbrev wsX10 : List Cond := u_ws RX1 TX1 0
theorem nmX1 : ∀ a, a < 0 → ∀ b, b < 0 → a ≠ b → (TX1 a).2.1 ≠ (TX1 b).2.1 := by decide +kernel
theorem tyX1_ok : ∀ k, k < 0 → parseFieldDescriptor (TX1 k).2.2.1 = some (tyX1 k) := by decide +kernel
def RJ9 : String := "java/lang/Math"
def TJ9 : u_T := fun k => match k with
  | _ => ("", "", "", false)
def tyJ9 : Nat → FieldType := fun k => match k with
  | _ => .int
abbrev wsJ90 : List Cond := u_ws RJ9 TJ9 0
theorem nmJ9 : ∀ a, a < 0 → ∀ b, b < 0 → a ≠ b → (TJ9 a).2.1 ≠ (TJ9 b).2.1 := by decide +kernel
theorem tyJ9_ok : ∀ k, k < 0 → parseFieldDescriptor (TJ9 k).2.2.1 = some (tyJ9 k) := by decide +kernel
abbrev cJ9_max_7cf53 : ByteArray := prog_6_method_65_code
def yJ9_max_7cf53 : MethodName := ⟨RJ9, "max", "(II)I"⟩
abbrev cJ9_min_7cf53 : ByteArray := prog_6_method_69_code
def yJ9_min_7cf53 : MethodName := ⟨RJ9, "min", "(II)I"⟩
def RJ0 : String := "java/lang/String"
def TJ0 : u_T := fun k => match k with
  | _ => ("", "", "", false)
def tyJ0 : Nat → FieldType := fun k => match k with
  | _ => .int
abbrev wsJ00 : List Cond := u_ws RJ0 TJ0 0
theorem nmJ0 : ∀ a, a < 0 → ∀ b, b < 0 → a ≠ b → (TJ0 a).2.1 ≠ (TJ0 b).2.1 := by decide +kernel
theorem tyJ0_ok : ∀ k, k < 0 → parseFieldDescriptor (TJ0 k).2.2.1 = some (tyJ0 k) := by decide +kernel
def RJ7 : String := "java/util/Arrays"
def TJ7 : u_T := fun k => match k with
  | _ => ("", "", "", false)
def tyJ7 : Nat → FieldType := fun k => match k with
  | _ => .int
abbrev wsJ70 : List Cond := u_ws RJ7 TJ7 0
theorem nmJ7 : ∀ a, a < 0 → ∀ b, b < 0 → a ≠ b → (TJ7 a).2.1 ≠ (TJ7 b).2.1 := by decide +kernel
theorem tyJ7_ok : ∀ k, k < 0 → parseFieldDescriptor (TJ7 k).2.2.1 = some (tyJ7 k) := by decide +kernel
abbrev cJ7_fill_53178 : ByteArray := prog_10_method_103_code
def yJ7_fill_53178 : MethodName := ⟨RJ7, "fill", "([II)V"⟩
def RL : String := "FacetCountsLaw"
abbrev cL_share : ByteArray := method_3_code
def yL_share : MethodName := ⟨RL, "share", "(LFacetCounts;IIZ[J)I"⟩
abbrev cL_law : ByteArray := code
def yL_law : MethodName := ⟨RL, "law", "([I)Z"⟩
def wsJ7_fill_53178 : List Cond := .code yJ7_fill_53178 cJ7_fill_53178 4 none :: ([])
def wsX0_init : List Cond := .code yX0_init cX0_init 1 none :: ([.methodLink RX0 1 objectInit, .instanceMethod objectInit, .code objectInit ⟨#[0xb1]⟩ 1 none, .arrayClass .int, .fieldLink RX0 9 "FacetCounts" "given" "[I", .fieldLink RX0 13 "FacetCounts" "kinds" "[I", .fieldLink RX0 16 "FacetCounts" "uppers" "[I", .fieldLink RX0 19 "FacetCounts" "chosen" "[I", .fieldLink RX0 22 "FacetCounts" "before" "[I", .fieldLink RX0 25 "FacetCounts" "counts" "[I", .fieldLink RX0 28 "FacetCounts" "rowCount" "I", .methodLink RX0 32 yJ7_fill_53178, .static yJ7_fill_53178, .initialized RJ7, .code yJ7_fill_53178 cJ7_fill_53178 4 none] ++ wsX00)
def wsX0_isThing : List Cond := .code yX0_isThing cX0_isThing 1 (some .boolean) :: ([])
def wsX0_isHead : List Cond := .code yX0_isHead cX0_isHead 1 (some .boolean) :: ([])
def wsX0_isValue : List Cond := .code yX0_isValue cX0_isValue 1 (some .boolean) :: ([])
def wsX0_holds : List Cond := .code yX0_holds cX0_holds 2 (some .boolean) :: ([])
def wsX0_withUppers : List Cond := .code yX0_withUppers cX0_withUppers 6 (some .int) :: ([.fieldLink RX0 16 "FacetCounts" "uppers" "[I", .methodLink RX0 45 yX0_isValue, .static yX0_isValue, .initialized RX0, .code yX0_isValue cX0_isValue 1 (some .boolean), .methodLink RX0 48 yX0_holds, .static yX0_holds, .code yX0_holds cX0_holds 2 (some .boolean)] ++ wsX00)
def wsX0_renewKinds : List Cond := .code yX0_renewKinds cX0_renewKinds 5 none :: ([.fieldLink RX0 9 "FacetCounts" "given" "[I", .fieldLink RX0 13 "FacetCounts" "kinds" "[I", .methodLink RX0 48 yX0_holds, .static yX0_holds, .initialized RX0, .code yX0_holds cX0_holds 2 (some .boolean), .methodLink RX0 56 yX0_withUppers, .instanceMethod yX0_withUppers, .selects RX0 yX0_withUppers yX0_withUppers, .code yX0_withUppers cX0_withUppers 6 (some .int), .fieldLink RX0 16 "FacetCounts" "uppers" "[I", .methodLink RX0 45 yX0_isValue, .static yX0_isValue, .code yX0_isValue cX0_isValue 1 (some .boolean)] ++ wsX00)
def wsX0_row_r1 : List Cond := [Cond.fieldLink RX0 9 "FacetCounts" "given" "[I", Cond.fieldLink RX0 28 "FacetCounts" "rowCount" "I", Cond.methodLink RX0 38 yX0_isThing, Cond.static yX0_isThing, Cond.initialized RX0, Cond.code yX0_isThing cX0_isThing 1 (some .boolean), Cond.methodLink RX0 42 yX0_isHead, Cond.static yX0_isHead, Cond.code yX0_isHead cX0_isHead 1 (some .boolean), Cond.methodLink RX0 45 yX0_isValue, Cond.static yX0_isValue, Cond.code yX0_isValue cX0_isValue 1 (some .boolean), Cond.methodLink RX0 48 yX0_holds, Cond.static yX0_holds, Cond.code yX0_holds cX0_holds 2 (some .boolean), Cond.methodLink RX0 52 yX0_renewKinds, Cond.instanceMethod yX0_renewKinds, Cond.selects RX0 yX0_renewKinds yX0_renewKinds, Cond.code yX0_renewKinds cX0_renewKinds 5 none, Cond.fieldLink RX0 13 "FacetCounts" "kinds" "[I", Cond.methodLink RX0 56 yX0_withUppers, Cond.instanceMethod yX0_withUppers, Cond.selects RX0 yX0_withUppers yX0_withUppers, Cond.code yX0_withUppers cX0_withUppers 6 (some .int)]
def wsX0_row_r2 : List Cond := [Cond.fieldLink RX0 16 "FacetCounts" "uppers" "[I"]
def wsX0_row : List Cond := .code yX0_row cX0_row 5 (some .int) :: ((wsX0_row_r1 ++ wsX0_row_r2) ++ wsX00)
def wsX0_drop_r1 : List Cond := [Cond.fieldLink RX0 9 "FacetCounts" "given" "[I", Cond.fieldLink RX0 28 "FacetCounts" "rowCount" "I", Cond.methodLink RX0 38 yX0_isThing, Cond.static yX0_isThing, Cond.initialized RX0, Cond.code yX0_isThing cX0_isThing 1 (some .boolean), Cond.methodLink RX0 42 yX0_isHead, Cond.static yX0_isHead, Cond.code yX0_isHead cX0_isHead 1 (some .boolean), Cond.methodLink RX0 45 yX0_isValue, Cond.static yX0_isValue, Cond.code yX0_isValue cX0_isValue 1 (some .boolean), Cond.methodLink RX0 48 yX0_holds, Cond.static yX0_holds, Cond.code yX0_holds cX0_holds 2 (some .boolean), Cond.methodLink RX0 52 yX0_renewKinds, Cond.instanceMethod yX0_renewKinds, Cond.selects RX0 yX0_renewKinds yX0_renewKinds, Cond.code yX0_renewKinds cX0_renewKinds 5 none, Cond.fieldLink RX0 13 "FacetCounts" "kinds" "[I", Cond.methodLink RX0 56 yX0_withUppers, Cond.instanceMethod yX0_withUppers, Cond.selects RX0 yX0_withUppers yX0_withUppers, Cond.code yX0_withUppers cX0_withUppers 6 (some .int)]
def wsX0_drop_r2 : List Cond := [Cond.fieldLink RX0 16 "FacetCounts" "uppers" "[I"]
def wsX0_drop : List Cond := .code yX0_drop cX0_drop 5 (some .int) :: ((wsX0_drop_r1 ++ wsX0_drop_r2) ++ wsX00)
def wsX0_above : List Cond := .code yX0_above cX0_above 4 (some .int) :: ([.fieldLink RX0 16 "FacetCounts" "uppers" "[I", .methodLink RX0 45 yX0_isValue, .static yX0_isValue, .initialized RX0, .code yX0_isValue cX0_isValue 1 (some .boolean), .methodLink RX0 56 yX0_withUppers, .instanceMethod yX0_withUppers, .selects RX0 yX0_withUppers yX0_withUppers, .code yX0_withUppers cX0_withUppers 6 (some .int), .methodLink RX0 48 yX0_holds, .static yX0_holds, .code yX0_holds cX0_holds 2 (some .boolean), .methodLink RX0 52 yX0_renewKinds, .instanceMethod yX0_renewKinds, .selects RX0 yX0_renewKinds yX0_renewKinds, .code yX0_renewKinds cX0_renewKinds 5 none, .fieldLink RX0 9 "FacetCounts" "given" "[I", .fieldLink RX0 13 "FacetCounts" "kinds" "[I"] ++ wsX00)
def wsX0_valuesOf : List Cond := .code yX0_valuesOf cX0_valuesOf 3 (some .int) :: ([.fieldLink RX0 13 "FacetCounts" "kinds" "[I", .fieldLink RX0 9 "FacetCounts" "given" "[I"] ++ wsX00)
def wsX0_lackedHeads : List Cond := .code yX0_lackedHeads cX0_lackedHeads 4 (some .int) :: ([.fieldLink RX0 19 "FacetCounts" "chosen" "[I", .methodLink RX0 80 yX0_valuesOf, .instanceMethod yX0_valuesOf, .selects RX0 yX0_valuesOf yX0_valuesOf, .initialized RX0, .code yX0_valuesOf cX0_valuesOf 3 (some .int), .fieldLink RX0 13 "FacetCounts" "kinds" "[I", .fieldLink RX0 9 "FacetCounts" "given" "[I"] ++ wsX00)
def wsX0_countKept : List Cond := .code yX0_countKept cX0_countKept 3 (some .int) :: ([.methodLink RX0 64 yX0_lackedHeads, .instanceMethod yX0_lackedHeads, .selects RX0 yX0_lackedHeads yX0_lackedHeads, .initialized RX0, .code yX0_lackedHeads cX0_lackedHeads 4 (some .int), .fieldLink RX0 19 "FacetCounts" "chosen" "[I", .methodLink RX0 80 yX0_valuesOf, .instanceMethod yX0_valuesOf, .selects RX0 yX0_valuesOf yX0_valuesOf, .code yX0_valuesOf cX0_valuesOf 3 (some .int), .fieldLink RX0 13 "FacetCounts" "kinds" "[I", .fieldLink RX0 9 "FacetCounts" "given" "[I"] ++ wsX00)
def wsX0_choose : List Cond := .code yX0_choose cX0_choose 4 (some .int) :: ([.fieldLink RX0 19 "FacetCounts" "chosen" "[I", .methodLink RX0 42 yX0_isHead, .static yX0_isHead, .initialized RX0, .code yX0_isHead cX0_isHead 1 (some .boolean), .methodLink RX0 45 yX0_isValue, .static yX0_isValue, .code yX0_isValue cX0_isValue 1 (some .boolean), .methodLink RX0 60 yX0_countKept, .instanceMethod yX0_countKept, .selects RX0 yX0_countKept yX0_countKept, .code yX0_countKept cX0_countKept 3 (some .int), .methodLink RX0 64 yX0_lackedHeads, .instanceMethod yX0_lackedHeads, .selects RX0 yX0_lackedHeads yX0_lackedHeads, .code yX0_lackedHeads cX0_lackedHeads 4 (some .int), .methodLink RX0 80 yX0_valuesOf, .instanceMethod yX0_valuesOf, .selects RX0 yX0_valuesOf yX0_valuesOf, .code yX0_valuesOf cX0_valuesOf 3 (some .int), .fieldLink RX0 13 "FacetCounts" "kinds" "[I", .fieldLink RX0 9 "FacetCounts" "given" "[I"] ++ wsX00)
def wsX0_kept : List Cond := .code yX0_kept cX0_kept 1 (some .int) :: ([.methodLink RX0 60 yX0_countKept, .instanceMethod yX0_countKept, .selects RX0 yX0_countKept yX0_countKept, .initialized RX0, .code yX0_countKept cX0_countKept 3 (some .int), .methodLink RX0 64 yX0_lackedHeads, .instanceMethod yX0_lackedHeads, .selects RX0 yX0_lackedHeads yX0_lackedHeads, .code yX0_lackedHeads cX0_lackedHeads 4 (some .int), .fieldLink RX0 19 "FacetCounts" "chosen" "[I", .methodLink RX0 80 yX0_valuesOf, .instanceMethod yX0_valuesOf, .selects RX0 yX0_valuesOf yX0_valuesOf, .code yX0_valuesOf cX0_valuesOf 3 (some .int), .fieldLink RX0 13 "FacetCounts" "kinds" "[I", .fieldLink RX0 9 "FacetCounts" "given" "[I"] ++ wsX00)
def wsX0_isKept : List Cond := .code yX0_isKept cX0_isKept 2 (some .int) :: ([.methodLink RX0 38 yX0_isThing, .static yX0_isThing, .initialized RX0, .code yX0_isThing cX0_isThing 1 (some .boolean), .methodLink RX0 64 yX0_lackedHeads, .instanceMethod yX0_lackedHeads, .selects RX0 yX0_lackedHeads yX0_lackedHeads, .code yX0_lackedHeads cX0_lackedHeads 4 (some .int), .fieldLink RX0 19 "FacetCounts" "chosen" "[I", .methodLink RX0 80 yX0_valuesOf, .instanceMethod yX0_valuesOf, .selects RX0 yX0_valuesOf yX0_valuesOf, .code yX0_valuesOf cX0_valuesOf 3 (some .int), .fieldLink RX0 13 "FacetCounts" "kinds" "[I", .fieldLink RX0 9 "FacetCounts" "given" "[I"] ++ wsX00)
def wsX0_isKeptBut : List Cond := .code yX0_isKeptBut cX0_isKeptBut 3 (some .boolean) :: ([.methodLink RX0 64 yX0_lackedHeads, .instanceMethod yX0_lackedHeads, .selects RX0 yX0_lackedHeads yX0_lackedHeads, .initialized RX0, .code yX0_lackedHeads cX0_lackedHeads 4 (some .int), .fieldLink RX0 19 "FacetCounts" "chosen" "[I", .methodLink RX0 80 yX0_valuesOf, .instanceMethod yX0_valuesOf, .selects RX0 yX0_valuesOf yX0_valuesOf, .code yX0_valuesOf cX0_valuesOf 3 (some .int), .fieldLink RX0 13 "FacetCounts" "kinds" "[I", .fieldLink RX0 9 "FacetCounts" "given" "[I"] ++ wsX00)
def wsX0_countWithAny : List Cond := .code yX0_countWithAny cX0_countWithAny 5 (some .int) :: ([.methodLink RX0 80 yX0_valuesOf, .instanceMethod yX0_valuesOf, .selects RX0 yX0_valuesOf yX0_valuesOf, .initialized RX0, .code yX0_valuesOf cX0_valuesOf 3 (some .int), .fieldLink RX0 13 "FacetCounts" "kinds" "[I", .fieldLink RX0 9 "FacetCounts" "given" "[I", .methodLink RX0 102 yX0_isKeptBut, .instanceMethod yX0_isKeptBut, .selects RX0 yX0_isKeptBut yX0_isKeptBut, .code yX0_isKeptBut cX0_isKeptBut 3 (some .boolean), .methodLink RX0 64 yX0_lackedHeads, .instanceMethod yX0_lackedHeads, .selects RX0 yX0_lackedHeads yX0_lackedHeads, .code yX0_lackedHeads cX0_lackedHeads 4 (some .int), .fieldLink RX0 19 "FacetCounts" "chosen" "[I"] ++ wsX00)
def wsX0_facet_r1 : List Cond := [Cond.methodLink RX0 42 yX0_isHead, Cond.static yX0_isHead, Cond.initialized RX0, Cond.code yX0_isHead cX0_isHead 1 (some .boolean), Cond.methodLink RX0 45 yX0_isValue, Cond.static yX0_isValue, Cond.code yX0_isValue cX0_isValue 1 (some .boolean), Cond.methodLink RX0 68 yX0_countWithAny, Cond.instanceMethod yX0_countWithAny, Cond.selects RX0 yX0_countWithAny yX0_countWithAny, Cond.code yX0_countWithAny cX0_countWithAny 5 (some .int), Cond.methodLink RX0 80 yX0_valuesOf, Cond.instanceMethod yX0_valuesOf, Cond.selects RX0 yX0_valuesOf yX0_valuesOf, Cond.code yX0_valuesOf cX0_valuesOf 3 (some .int), Cond.fieldLink RX0 13 "FacetCounts" "kinds" "[I", Cond.fieldLink RX0 9 "FacetCounts" "given" "[I", Cond.methodLink RX0 102 yX0_isKeptBut, Cond.instanceMethod yX0_isKeptBut, Cond.selects RX0 yX0_isKeptBut yX0_isKeptBut, Cond.code yX0_isKeptBut cX0_isKeptBut 3 (some .boolean), Cond.methodLink RX0 64 yX0_lackedHeads, Cond.instanceMethod yX0_lackedHeads, Cond.selects RX0 yX0_lackedHeads yX0_lackedHeads]
def wsX0_facet_r2 : List Cond := [Cond.code yX0_lackedHeads cX0_lackedHeads 4 (some .int), Cond.fieldLink RX0 19 "FacetCounts" "chosen" "[I"]
def wsX0_facet : List Cond := .code yX0_facet cX0_facet 3 (some .int) :: ((wsX0_facet_r1 ++ wsX0_facet_r2) ++ wsX00)
def wsX0_countValues : List Cond := .code yX0_countValues cX0_countValues 4 none :: ([.fieldLink RX0 25 "FacetCounts" "counts" "[I", .methodLink RX0 48 yX0_holds, .static yX0_holds, .initialized RX0, .code yX0_holds cX0_holds 2 (some .boolean)] ++ wsX00)
def wsX0_countAll : List Cond := .code yX0_countAll cX0_countAll 4 none :: ([.fieldLink RX0 25 "FacetCounts" "counts" "[I", .methodLink RX0 32 yJ7_fill_53178, .static yJ7_fill_53178, .initialized RJ7, .code yJ7_fill_53178 cJ7_fill_53178 4 none, .methodLink RX0 64 yX0_lackedHeads, .instanceMethod yX0_lackedHeads, .selects RX0 yX0_lackedHeads yX0_lackedHeads, .initialized RX0, .code yX0_lackedHeads cX0_lackedHeads 4 (some .int), .fieldLink RX0 19 "FacetCounts" "chosen" "[I", .methodLink RX0 80 yX0_valuesOf, .instanceMethod yX0_valuesOf, .selects RX0 yX0_valuesOf yX0_valuesOf, .code yX0_valuesOf cX0_valuesOf 3 (some .int), .fieldLink RX0 13 "FacetCounts" "kinds" "[I", .fieldLink RX0 9 "FacetCounts" "given" "[I", .methodLink RX0 105 yX0_countValues, .instanceMethod yX0_countValues, .selects RX0 yX0_countValues yX0_countValues, .code yX0_countValues cX0_countValues 4 none, .methodLink RX0 48 yX0_holds, .static yX0_holds, .code yX0_holds cX0_holds 2 (some .boolean)] ++ wsX00)
def wsX0_rankOf : List Cond := .code yX0_rankOf cX0_rankOf 7 (some .int) :: ([.fieldLink RX0 25 "FacetCounts" "counts" "[I"] ++ wsX00)
def wsX0_top_r1 : List Cond := [Cond.fieldLink RX0 25 "FacetCounts" "counts" "[I", Cond.methodLink RX0 42 yX0_isHead, Cond.static yX0_isHead, Cond.initialized RX0, Cond.code yX0_isHead cX0_isHead 1 (some .boolean), Cond.methodLink RX0 71 yX0_countAll, Cond.instanceMethod yX0_countAll, Cond.selects RX0 yX0_countAll yX0_countAll, Cond.code yX0_countAll cX0_countAll 4 none, Cond.methodLink RX0 32 yJ7_fill_53178, Cond.static yJ7_fill_53178, Cond.initialized RJ7, Cond.code yJ7_fill_53178 cJ7_fill_53178 4 none, Cond.methodLink RX0 64 yX0_lackedHeads, Cond.instanceMethod yX0_lackedHeads, Cond.selects RX0 yX0_lackedHeads yX0_lackedHeads, Cond.code yX0_lackedHeads cX0_lackedHeads 4 (some .int), Cond.fieldLink RX0 19 "FacetCounts" "chosen" "[I", Cond.methodLink RX0 80 yX0_valuesOf, Cond.instanceMethod yX0_valuesOf, Cond.selects RX0 yX0_valuesOf yX0_valuesOf, Cond.code yX0_valuesOf cX0_valuesOf 3 (some .int), Cond.fieldLink RX0 13 "FacetCounts" "kinds" "[I", Cond.fieldLink RX0 9 "FacetCounts" "given" "[I"]
def wsX0_top_r2 : List Cond := [Cond.methodLink RX0 105 yX0_countValues, Cond.instanceMethod yX0_countValues, Cond.selects RX0 yX0_countValues yX0_countValues, Cond.code yX0_countValues cX0_countValues 4 none, Cond.methodLink RX0 48 yX0_holds, Cond.static yX0_holds, Cond.code yX0_holds cX0_holds 2 (some .boolean), Cond.methodLink RX0 74 yX0_rankOf, Cond.instanceMethod yX0_rankOf, Cond.selects RX0 yX0_rankOf yX0_rankOf, Cond.code yX0_rankOf cX0_rankOf 7 (some .int)]
def wsX0_top : List Cond := .code yX0_top cX0_top 4 (some .int) :: ((wsX0_top_r1 ++ wsX0_top_r2) ++ wsX00)
def wsX0_span : List Cond := .code yX0_span cX0_span 6 (some .int) :: ([.methodLink RX0 109 Lib.Math.max.name, .static Lib.Math.max.name, .initialized "java/lang/Math", .code Lib.Math.max.name Lib.Math.max.code 2 (some .int), .methodLink RX0 114 Lib.Math.min.name, .static Lib.Math.min.name, .code Lib.Math.min.name Lib.Math.min.code 2 (some .int)])
def wsX0_range_r1 : List Cond := [Cond.methodLink RX0 42 yX0_isHead, Cond.static yX0_isHead, Cond.initialized RX0, Cond.code yX0_isHead cX0_isHead 1 (some .boolean), Cond.methodLink RX0 77 yX0_span, Cond.static yX0_span, Cond.code yX0_span cX0_span 6 (some .int), Cond.methodLink RX0 109 Lib.Math.max.name, Cond.static Lib.Math.max.name, Cond.initialized "java/lang/Math", Cond.code Lib.Math.max.name Lib.Math.max.code 2 (some .int), Cond.methodLink RX0 114 Lib.Math.min.name, Cond.static Lib.Math.min.name, Cond.code Lib.Math.min.name Lib.Math.min.code 2 (some .int), Cond.methodLink RX0 68 yX0_countWithAny, Cond.instanceMethod yX0_countWithAny, Cond.selects RX0 yX0_countWithAny yX0_countWithAny, Cond.code yX0_countWithAny cX0_countWithAny 5 (some .int), Cond.methodLink RX0 80 yX0_valuesOf, Cond.instanceMethod yX0_valuesOf, Cond.selects RX0 yX0_valuesOf yX0_valuesOf, Cond.code yX0_valuesOf cX0_valuesOf 3 (some .int), Cond.fieldLink RX0 13 "FacetCounts" "kinds" "[I", Cond.fieldLink RX0 9 "FacetCounts" "given" "[I"]
def wsX0_range_r2 : List Cond := [Cond.methodLink RX0 102 yX0_isKeptBut, Cond.instanceMethod yX0_isKeptBut, Cond.selects RX0 yX0_isKeptBut yX0_isKeptBut, Cond.code yX0_isKeptBut cX0_isKeptBut 3 (some .boolean), Cond.methodLink RX0 64 yX0_lackedHeads, Cond.instanceMethod yX0_lackedHeads, Cond.selects RX0 yX0_lackedHeads yX0_lackedHeads, Cond.code yX0_lackedHeads cX0_lackedHeads 4 (some .int), Cond.fieldLink RX0 19 "FacetCounts" "chosen" "[I"]
def wsX0_range : List Cond := .code yX0_range cX0_range 4 (some .int) :: ((wsX0_range_r1 ++ wsX0_range_r2) ++ wsX00)
def wsX0_sumOf : List Cond := .code yX0_sumOf cX0_sumOf 3 (some .int) :: ([.methodLink RX0 48 yX0_holds, .static yX0_holds, .initialized RX0, .code yX0_holds cX0_holds 2 (some .boolean)])
def wsX0_sum : List Cond := .code yX0_sum cX0_sum 6 (some .int) :: ([.methodLink RX0 42 yX0_isHead, .static yX0_isHead, .initialized RX0, .code yX0_isHead cX0_isHead 1 (some .boolean), .methodLink RX0 45 yX0_isValue, .static yX0_isValue, .code yX0_isValue cX0_isValue 1 (some .boolean), .methodLink RX0 80 yX0_valuesOf, .instanceMethod yX0_valuesOf, .selects RX0 yX0_valuesOf yX0_valuesOf, .code yX0_valuesOf cX0_valuesOf 3 (some .int), .fieldLink RX0 13 "FacetCounts" "kinds" "[I", .fieldLink RX0 9 "FacetCounts" "given" "[I", .methodLink RX0 48 yX0_holds, .static yX0_holds, .code yX0_holds cX0_holds 2 (some .boolean), .methodLink RX0 64 yX0_lackedHeads, .instanceMethod yX0_lackedHeads, .selects RX0 yX0_lackedHeads yX0_lackedHeads, .code yX0_lackedHeads cX0_lackedHeads 4 (some .int), .fieldLink RX0 19 "FacetCounts" "chosen" "[I", .methodLink RX0 83 yX0_sumOf, .static yX0_sumOf, .code yX0_sumOf cX0_sumOf 3 (some .int)] ++ wsX00)
def wsX0_countKeptBut : List Cond := .code yX0_countKeptBut cX0_countKeptBut 4 (some .int) :: ([.methodLink RX0 102 yX0_isKeptBut, .instanceMethod yX0_isKeptBut, .selects RX0 yX0_isKeptBut yX0_isKeptBut, .initialized RX0, .code yX0_isKeptBut cX0_isKeptBut 3 (some .boolean), .methodLink RX0 64 yX0_lackedHeads, .instanceMethod yX0_lackedHeads, .selects RX0 yX0_lackedHeads yX0_lackedHeads, .code yX0_lackedHeads cX0_lackedHeads 4 (some .int), .fieldLink RX0 19 "FacetCounts" "chosen" "[I", .methodLink RX0 80 yX0_valuesOf, .instanceMethod yX0_valuesOf, .selects RX0 yX0_valuesOf yX0_valuesOf, .code yX0_valuesOf cX0_valuesOf 3 (some .int), .fieldLink RX0 13 "FacetCounts" "kinds" "[I", .fieldLink RX0 9 "FacetCounts" "given" "[I"] ++ wsX00)
def wsX0_inLeastTerms : List Cond := .code yX0_inLeastTerms cX0_inLeastTerms 4 (some .int) :: ([])
def wsX0_share_r1 : List Cond := [Cond.classLink RX0 86 "java/lang/ArithmeticException", Cond.initialized "java/lang/ArithmeticException", Cond.methodLink RX0 42 yX0_isHead, Cond.static yX0_isHead, Cond.initialized RX0, Cond.code yX0_isHead cX0_isHead 1 (some .boolean), Cond.methodLink RX0 45 yX0_isValue, Cond.static yX0_isValue, Cond.code yX0_isValue cX0_isValue 1 (some .boolean), Cond.methodLink RX0 93 yX0_countKeptBut, Cond.instanceMethod yX0_countKeptBut, Cond.selects RX0 yX0_countKeptBut yX0_countKeptBut, Cond.code yX0_countKeptBut cX0_countKeptBut 4 (some .int), Cond.methodLink RX0 102 yX0_isKeptBut, Cond.instanceMethod yX0_isKeptBut, Cond.selects RX0 yX0_isKeptBut yX0_isKeptBut, Cond.code yX0_isKeptBut cX0_isKeptBut 3 (some .boolean), Cond.methodLink RX0 64 yX0_lackedHeads, Cond.instanceMethod yX0_lackedHeads, Cond.selects RX0 yX0_lackedHeads yX0_lackedHeads, Cond.code yX0_lackedHeads cX0_lackedHeads 4 (some .int), Cond.fieldLink RX0 19 "FacetCounts" "chosen" "[I", Cond.methodLink RX0 80 yX0_valuesOf, Cond.instanceMethod yX0_valuesOf]
def wsX0_share_r2 : List Cond := [Cond.selects RX0 yX0_valuesOf yX0_valuesOf, Cond.code yX0_valuesOf cX0_valuesOf 3 (some .int), Cond.fieldLink RX0 13 "FacetCounts" "kinds" "[I", Cond.fieldLink RX0 9 "FacetCounts" "given" "[I", Cond.methodLink RX0 68 yX0_countWithAny, Cond.instanceMethod yX0_countWithAny, Cond.selects RX0 yX0_countWithAny yX0_countWithAny, Cond.code yX0_countWithAny cX0_countWithAny 5 (some .int), Cond.methodLink RX0 98 yX0_inLeastTerms, Cond.static yX0_inLeastTerms, Cond.code yX0_inLeastTerms cX0_inLeastTerms 4 (some .int)]
def wsX0_share : List Cond := .code yX0_share cX0_share 6 (some .int) :: ((wsX0_share_r1 ++ wsX0_share_r2) ++ wsX00 ++ (vx_atS RX0 90 "java/lang/ArithmeticException" ["java/lang/RuntimeException", "java/lang/Exception"]).filter goodWord)
def wsX0_changed_r1 : List Cond := [Cond.fieldLink RX0 25 "FacetCounts" "counts" "[I", Cond.fieldLink RX0 22 "FacetCounts" "before" "[I", Cond.methodLink RX0 71 yX0_countAll, Cond.instanceMethod yX0_countAll, Cond.selects RX0 yX0_countAll yX0_countAll, Cond.initialized RX0, Cond.code yX0_countAll cX0_countAll 4 none, Cond.methodLink RX0 32 yJ7_fill_53178, Cond.static yJ7_fill_53178, Cond.initialized RJ7, Cond.code yJ7_fill_53178 cJ7_fill_53178 4 none, Cond.methodLink RX0 64 yX0_lackedHeads, Cond.instanceMethod yX0_lackedHeads, Cond.selects RX0 yX0_lackedHeads yX0_lackedHeads, Cond.code yX0_lackedHeads cX0_lackedHeads 4 (some .int), Cond.fieldLink RX0 19 "FacetCounts" "chosen" "[I", Cond.methodLink RX0 80 yX0_valuesOf, Cond.instanceMethod yX0_valuesOf, Cond.selects RX0 yX0_valuesOf yX0_valuesOf, Cond.code yX0_valuesOf cX0_valuesOf 3 (some .int), Cond.fieldLink RX0 13 "FacetCounts" "kinds" "[I", Cond.fieldLink RX0 9 "FacetCounts" "given" "[I", Cond.methodLink RX0 105 yX0_countValues, Cond.instanceMethod yX0_countValues]
def wsX0_changed_r2 : List Cond := [Cond.selects RX0 yX0_countValues yX0_countValues, Cond.code yX0_countValues cX0_countValues 4 none, Cond.methodLink RX0 48 yX0_holds, Cond.static yX0_holds, Cond.code yX0_holds cX0_holds 2 (some .boolean)]
def wsX0_changed : List Cond := .code yX0_changed cX0_changed 3 (some .int) :: ((wsX0_changed_r1 ++ wsX0_changed_r2) ++ wsX00)
def wsX0_rows : List Cond := .code yX0_rows cX0_rows 1 (some .int) :: ([.fieldLink RX0 28 "FacetCounts" "rowCount" "I"] ++ wsX00)
def wsJ9_max_7cf53 : List Cond := .code yJ9_max_7cf53 cJ9_max_7cf53 2 (some .int) :: ([])
def wsJ9_min_7cf53 : List Cond := .code yJ9_min_7cf53 cJ9_min_7cf53 2 (some .int) :: ([])
def wsL_share_r1 : List Cond := [Cond.classLink RL 13 "java/lang/ArithmeticException", Cond.methodLink RL 7 yX0_share, Cond.instanceMethod yX0_share, Cond.selects RX0 yX0_share yX0_share, Cond.initialized RX0, Cond.code yX0_share cX0_share 6 (some .int), Cond.classLink RX0 86 "java/lang/ArithmeticException", Cond.initialized "java/lang/ArithmeticException", Cond.methodLink RX0 42 yX0_isHead, Cond.static yX0_isHead, Cond.code yX0_isHead cX0_isHead 1 (some .boolean), Cond.methodLink RX0 45 yX0_isValue, Cond.static yX0_isValue, Cond.code yX0_isValue cX0_isValue 1 (some .boolean), Cond.methodLink RX0 93 yX0_countKeptBut, Cond.instanceMethod yX0_countKeptBut, Cond.selects RX0 yX0_countKeptBut yX0_countKeptBut, Cond.code yX0_countKeptBut cX0_countKeptBut 4 (some .int), Cond.methodLink RX0 102 yX0_isKeptBut, Cond.instanceMethod yX0_isKeptBut, Cond.selects RX0 yX0_isKeptBut yX0_isKeptBut, Cond.code yX0_isKeptBut cX0_isKeptBut 3 (some .boolean), Cond.methodLink RX0 64 yX0_lackedHeads, Cond.instanceMethod yX0_lackedHeads]
def wsL_share_r2 : List Cond := [Cond.selects RX0 yX0_lackedHeads yX0_lackedHeads, Cond.code yX0_lackedHeads cX0_lackedHeads 4 (some .int), Cond.fieldLink RX0 19 "FacetCounts" "chosen" "[I", Cond.methodLink RX0 80 yX0_valuesOf, Cond.instanceMethod yX0_valuesOf, Cond.selects RX0 yX0_valuesOf yX0_valuesOf, Cond.code yX0_valuesOf cX0_valuesOf 3 (some .int), Cond.fieldLink RX0 13 "FacetCounts" "kinds" "[I", Cond.fieldLink RX0 9 "FacetCounts" "given" "[I", Cond.methodLink RX0 68 yX0_countWithAny, Cond.instanceMethod yX0_countWithAny, Cond.selects RX0 yX0_countWithAny yX0_countWithAny, Cond.code yX0_countWithAny cX0_countWithAny 5 (some .int), Cond.methodLink RX0 98 yX0_inLeastTerms, Cond.static yX0_inLeastTerms, Cond.code yX0_inLeastTerms cX0_inLeastTerms 4 (some .int)]
def wsL_share : List Cond := .codeWith yL_share cL_share 6 (some .int) [(0, 12, 15, 13)] :: ((wsL_share_r1 ++ wsL_share_r2) ++ wsX00 ++ (vx_atS RX0 90 "java/lang/ArithmeticException" ["java/lang/RuntimeException", "java/lang/Exception"]).filter goodWord)
def wsL_law0_r1 : List Cond := [Cond.classLink RL 8 RX0, Cond.instantiable RX0 7, Cond.initialized RX0, Cond.classLink RL 16 RX1, Cond.instantiable RX1 7, Cond.initialized RX1, Cond.methodLink RL 15 yX0_init, Cond.instanceMethod yX0_init, Cond.code yX0_init cX0_init 1 none, Cond.methodLink RX0 1 objectInit, Cond.instanceMethod objectInit, Cond.code objectInit ⟨#[0xb1]⟩ 1 none, Cond.arrayClass .int, Cond.fieldLink RX0 9 "FacetCounts" "given" "[I", Cond.fieldLink RX0 13 "FacetCounts" "kinds" "[I", Cond.fieldLink RX0 16 "FacetCounts" "uppers" "[I", Cond.fieldLink RX0 19 "FacetCounts" "chosen" "[I", Cond.fieldLink RX0 22 "FacetCounts" "before" "[I", Cond.fieldLink RX0 25 "FacetCounts" "counts" "[I", Cond.fieldLink RX0 28 "FacetCounts" "rowCount" "I", Cond.methodLink RX0 32 yJ7_fill_53178, Cond.static yJ7_fill_53178, Cond.initialized RJ7, Cond.code yJ7_fill_53178 cJ7_fill_53178 4 none]
def wsL_law0_r2 : List Cond := [Cond.methodLink RL 19 yX0_row, Cond.instanceMethod yX0_row, Cond.selects RX0 yX0_row yX0_row, Cond.code yX0_row cX0_row 5 (some .int), Cond.methodLink RX0 38 yX0_isThing, Cond.static yX0_isThing, Cond.code yX0_isThing cX0_isThing 1 (some .boolean), Cond.methodLink RX0 42 yX0_isHead, Cond.static yX0_isHead, Cond.code yX0_isHead cX0_isHead 1 (some .boolean), Cond.methodLink RX0 45 yX0_isValue, Cond.static yX0_isValue, Cond.code yX0_isValue cX0_isValue 1 (some .boolean), Cond.methodLink RX0 48 yX0_holds, Cond.static yX0_holds, Cond.code yX0_holds cX0_holds 2 (some .boolean), Cond.methodLink RX0 52 yX0_renewKinds, Cond.instanceMethod yX0_renewKinds, Cond.selects RX0 yX0_renewKinds yX0_renewKinds, Cond.code yX0_renewKinds cX0_renewKinds 5 none, Cond.methodLink RX0 56 yX0_withUppers, Cond.instanceMethod yX0_withUppers, Cond.selects RX0 yX0_withUppers yX0_withUppers, Cond.code yX0_withUppers cX0_withUppers 6 (some .int)]
def wsL_law0_r3 : List Cond := [Cond.methodLink RL 24 yX0_drop, Cond.instanceMethod yX0_drop, Cond.selects RX0 yX0_drop yX0_drop, Cond.code yX0_drop cX0_drop 5 (some .int), Cond.methodLink RL 28 yX0_above, Cond.instanceMethod yX0_above, Cond.selects RX0 yX0_above yX0_above, Cond.code yX0_above cX0_above 4 (some .int), Cond.methodLink RL 33 yX0_choose, Cond.instanceMethod yX0_choose, Cond.selects RX0 yX0_choose yX0_choose, Cond.code yX0_choose cX0_choose 4 (some .int), Cond.methodLink RX0 60 yX0_countKept, Cond.instanceMethod yX0_countKept, Cond.selects RX0 yX0_countKept yX0_countKept, Cond.code yX0_countKept cX0_countKept 3 (some .int), Cond.methodLink RX0 64 yX0_lackedHeads, Cond.instanceMethod yX0_lackedHeads, Cond.selects RX0 yX0_lackedHeads yX0_lackedHeads, Cond.code yX0_lackedHeads cX0_lackedHeads 4 (some .int), Cond.methodLink RX0 80 yX0_valuesOf, Cond.instanceMethod yX0_valuesOf, Cond.selects RX0 yX0_valuesOf yX0_valuesOf, Cond.code yX0_valuesOf cX0_valuesOf 3 (some .int)]
def wsL_law0_r4 : List Cond := [Cond.methodLink RL 37 yX0_kept, Cond.instanceMethod yX0_kept, Cond.selects RX0 yX0_kept yX0_kept, Cond.code yX0_kept cX0_kept 1 (some .int), Cond.methodLink RL 42 yX0_isKept, Cond.instanceMethod yX0_isKept, Cond.selects RX0 yX0_isKept yX0_isKept, Cond.code yX0_isKept cX0_isKept 2 (some .int), Cond.methodLink RL 47 yX0_facet, Cond.instanceMethod yX0_facet, Cond.selects RX0 yX0_facet yX0_facet, Cond.code yX0_facet cX0_facet 3 (some .int), Cond.methodLink RX0 68 yX0_countWithAny, Cond.instanceMethod yX0_countWithAny, Cond.selects RX0 yX0_countWithAny yX0_countWithAny, Cond.code yX0_countWithAny cX0_countWithAny 5 (some .int), Cond.methodLink RX0 102 yX0_isKeptBut, Cond.instanceMethod yX0_isKeptBut, Cond.selects RX0 yX0_isKeptBut yX0_isKeptBut, Cond.code yX0_isKeptBut cX0_isKeptBut 3 (some .boolean), Cond.methodLink RL 51 yX0_top, Cond.instanceMethod yX0_top, Cond.selects RX0 yX0_top yX0_top, Cond.code yX0_top cX0_top 4 (some .int)]
def wsL_law0_r5 : List Cond := [Cond.methodLink RX0 71 yX0_countAll, Cond.instanceMethod yX0_countAll, Cond.selects RX0 yX0_countAll yX0_countAll, Cond.code yX0_countAll cX0_countAll 4 none, Cond.methodLink RX0 105 yX0_countValues, Cond.instanceMethod yX0_countValues, Cond.selects RX0 yX0_countValues yX0_countValues, Cond.code yX0_countValues cX0_countValues 4 none, Cond.methodLink RX0 74 yX0_rankOf, Cond.instanceMethod yX0_rankOf, Cond.selects RX0 yX0_rankOf yX0_rankOf, Cond.code yX0_rankOf cX0_rankOf 7 (some .int), Cond.methodLink RL 55 yX0_range, Cond.instanceMethod yX0_range, Cond.selects RX0 yX0_range yX0_range, Cond.code yX0_range cX0_range 4 (some .int), Cond.methodLink RX0 77 yX0_span, Cond.static yX0_span, Cond.code yX0_span cX0_span 6 (some .int), Cond.methodLink RX0 109 Lib.Math.max.name, Cond.static Lib.Math.max.name, Cond.initialized "java/lang/Math", Cond.code Lib.Math.max.name Lib.Math.max.code 2 (some .int), Cond.methodLink RX0 114 Lib.Math.min.name]
def wsL_law0_r6 : List Cond := [Cond.static Lib.Math.min.name, Cond.code Lib.Math.min.name Lib.Math.min.code 2 (some .int), Cond.methodLink RL 59 yX0_sum, Cond.instanceMethod yX0_sum, Cond.selects RX0 yX0_sum yX0_sum, Cond.code yX0_sum cX0_sum 6 (some .int), Cond.methodLink RX0 83 yX0_sumOf, Cond.static yX0_sumOf, Cond.code yX0_sumOf cX0_sumOf 3 (some .int), Cond.methodLink RL 63 yL_share, Cond.static yL_share, Cond.initialized RL, Cond.codeWith yL_share cL_share 6 (some .int) [(0, 12, 15, 13)], Cond.classLink RL 13 "java/lang/ArithmeticException", Cond.methodLink RL 7 yX0_share, Cond.instanceMethod yX0_share, Cond.selects RX0 yX0_share yX0_share, Cond.code yX0_share cX0_share 6 (some .int), Cond.classLink RX0 86 "java/lang/ArithmeticException", Cond.initialized "java/lang/ArithmeticException", Cond.methodLink RX0 93 yX0_countKeptBut, Cond.instanceMethod yX0_countKeptBut, Cond.selects RX0 yX0_countKeptBut yX0_countKeptBut, Cond.code yX0_countKeptBut cX0_countKeptBut 4 (some .int)]
def wsL_law0_r7 : List Cond := [Cond.methodLink RX0 98 yX0_inLeastTerms, Cond.static yX0_inLeastTerms, Cond.code yX0_inLeastTerms cX0_inLeastTerms 4 (some .int), Cond.methodLink RL 72 yX0_changed, Cond.instanceMethod yX0_changed, Cond.selects RX0 yX0_changed yX0_changed, Cond.code yX0_changed cX0_changed 3 (some .int), Cond.methodLink RL 76 yX0_rows, Cond.instanceMethod yX0_rows, Cond.selects RX0 yX0_rows yX0_rows, Cond.code yX0_rows cX0_rows 1 (some .int)]
def wsL_law0 : List Cond := (wsL_law0_r1 ++ (wsL_law0_r2 ++ (wsL_law0_r3 ++ (wsL_law0_r4 ++ (wsL_law0_r5 ++ (wsL_law0_r6 ++ wsL_law0_r7)))))) ++ wsX00 ++ wsX10 ++ ([] : List Cond)
def wsL_law : List Cond := wsL_law0 ++ (vx_atS RX0 90 "java/lang/ArithmeticException" ["java/lang/RuntimeException", "java/lang/Exception"]).filter goodWord
set_option maxRecDepth 20000 in
theorem wsL_law_in0 : ∀ w ∈ wsL_law0, w ∈ lw_tbl := fun w h => (goodIn_p wsL_law0 [31, 34, 37, 64, 67, 70, 73, 76, 80, 84, 88, 92, 96, 100, 104, 108, 112, 116, 120, 124, 128, 132, 136, 140, 144, 148, 151, 154, 157, 161, 164, 180, 250, 254, 168, 172] (by decide +kernel) (by decide +kernel) w h).1
theorem wsL_law_x0 : ∀ w ∈ (vx_atS RX0 90 "java/lang/ArithmeticException" ["java/lang/RuntimeException", "java/lang/Exception"]).filter goodWord, w ∈ lw_tbl := by decide +kernel
theorem wsL_law_in : ∀ w ∈ wsL_law, w ∈ lw_tbl := fun w h => (List.mem_append.mp h).elim (fun h => wsL_law_in0 w h) (fun h => wsL_law_x0 w h)
theorem inlX0 : ∀ w ∈ wsX00, w ∈ wsL_law := fun _ h => List.mem_append_left _ (List.mem_append_left _ (List.mem_append_left _ (List.mem_append_right _ h)))
theorem inX0 : ∀ w ∈ wsX00, w ∈ lw_tbl := fun w h => wsL_law_in w (inlX0 w h)
theorem inlX1 : ∀ w ∈ wsX10, w ∈ wsL_law := fun _ h => List.mem_append_left _ (List.mem_append_left _ (List.mem_append_right _ h))
theorem inX1 : ∀ w ∈ wsX10, w ∈ lw_tbl := fun w h => wsL_law_in w (inlX1 w h)
theorem inJ9 : ∀ w ∈ wsJ90, w ∈ lw_tbl := by decide +kernel
theorem inJ0 : ∀ w ∈ wsJ00, w ∈ lw_tbl := by decide +kernel
theorem inJ7 : ∀ w ∈ wsJ70, w ∈ lw_tbl := by decide +kernel
set_option maxRecDepth 20000 in
theorem ggX0_init_J7_fill_53178 : GoodIn wsX0_init wsJ7_fill_53178 := goodIn_r _ [15] (by decide +kernel) (by decide +kernel)
set_option maxRecDepth 20000 in
theorem gX0_init_J7_fill_53178 : GoodIn wsX0_init (va_wsS RX0 32 yJ7_fill_53178 wsJ7_fill_53178) := goodIn_app (goodIn_of _ (by decide +kernel)) ggX0_init_J7_fill_53178
theorem dX0_init_0 : decode cX0_init 0 = .ok (.aload_n 0, 1) := by decide +kernel
theorem dX0_init_1 : decode cX0_init 1 = .ok (.invokespecial 1, 3) := by decide +kernel
theorem dX0_init_4 : decode cX0_init 4 = .ok (.aload_n 0, 1) := by decide +kernel
theorem dX0_init_5 : decode cX0_init 5 = .ok (.sipush 320, 3) := by decide +kernel
theorem dX0_init_8 : decode cX0_init 8 = .ok (.newarray .int, 2) := by decide +kernel
theorem dX0_init_10 : decode cX0_init 10 = .ok (.putfield 9, 3) := by decide +kernel
theorem dX0_init_13 : decode cX0_init 13 = .ok (.aload_n 0, 1) := by decide +kernel
theorem dX0_init_14 : decode cX0_init 14 = .ok (.bipush 40, 2) := by decide +kernel
theorem dX0_init_16 : decode cX0_init 16 = .ok (.newarray .int, 2) := by decide +kernel
theorem dX0_init_18 : decode cX0_init 18 = .ok (.putfield 13, 3) := by decide +kernel
theorem dX0_init_21 : decode cX0_init 21 = .ok (.aload_n 0, 1) := by decide +kernel
theorem dX0_init_22 : decode cX0_init 22 = .ok (.bipush 32, 2) := by decide +kernel
theorem dX0_init_24 : decode cX0_init 24 = .ok (.newarray .int, 2) := by decide +kernel
theorem dX0_init_26 : decode cX0_init 26 = .ok (.putfield 16, 3) := by decide +kernel
theorem dX0_init_29 : decode cX0_init 29 = .ok (.aload_n 0, 1) := by decide +kernel
theorem dX0_init_30 : decode cX0_init 30 = .ok (.bipush 8, 2) := by decide +kernel
theorem dX0_init_32 : decode cX0_init 32 = .ok (.newarray .int, 2) := by decide +kernel
theorem dX0_init_34 : decode cX0_init 34 = .ok (.putfield 19, 3) := by decide +kernel
theorem dX0_init_37 : decode cX0_init 37 = .ok (.aload_n 0, 1) := by decide +kernel
theorem dX0_init_38 : decode cX0_init 38 = .ok (.sipush 256, 3) := by decide +kernel
theorem dX0_init_41 : decode cX0_init 41 = .ok (.newarray .int, 2) := by decide +kernel
theorem dX0_init_43 : decode cX0_init 43 = .ok (.putfield 22, 3) := by decide +kernel
theorem dX0_init_46 : decode cX0_init 46 = .ok (.aload_n 0, 1) := by decide +kernel
theorem dX0_init_47 : decode cX0_init 47 = .ok (.sipush 256, 3) := by decide +kernel
theorem dX0_init_50 : decode cX0_init 50 = .ok (.newarray .int, 2) := by decide +kernel
theorem dX0_init_52 : decode cX0_init 52 = .ok (.putfield 25, 3) := by decide +kernel
theorem dX0_init_55 : decode cX0_init 55 = .ok (.aload_n 0, 1) := by decide +kernel
theorem dX0_init_56 : decode cX0_init 56 = .ok (.iconst 0, 1) := by decide +kernel
theorem dX0_init_57 : decode cX0_init 57 = .ok (.putfield 28, 3) := by decide +kernel
theorem dX0_init_60 : decode cX0_init 60 = .ok (.aload_n 0, 1) := by decide +kernel
theorem dX0_init_61 : decode cX0_init 61 = .ok (.getfield 16, 3) := by decide +kernel
theorem dX0_init_64 : decode cX0_init 64 = .ok (.iconst (-1), 1) := by decide +kernel
theorem dX0_init_65 : decode cX0_init 65 = .ok (.invokestatic 32, 3) := by decide +kernel
theorem dX0_init_68 : decode cX0_init 68 = .ok (.return_, 1) := by decide +kernel
set_option maxRecDepth 20000 in
theorem ggX0_row_X0_isThing : GoodIn wsX0_row wsX0_isThing := goodIn_r _ [6] (by decide +kernel) (by decide +kernel)
set_option maxRecDepth 20000 in
theorem gX0_row_X0_isThing : GoodIn wsX0_row (va_wsS RX0 38 yX0_isThing wsX0_isThing) := goodIn_app (goodIn_of _ (by decide +kernel)) ggX0_row_X0_isThing
set_option maxRecDepth 20000 in
theorem ggX0_row_X0_isHead : GoodIn wsX0_row wsX0_isHead := goodIn_r _ [9] (by decide +kernel) (by decide +kernel)
set_option maxRecDepth 20000 in
theorem gX0_row_X0_isHead : GoodIn wsX0_row (va_wsS RX0 42 yX0_isHead wsX0_isHead) := goodIn_app (goodIn_of _ (by decide +kernel)) ggX0_row_X0_isHead
set_option maxRecDepth 20000 in
theorem ggX0_row_X0_isValue : GoodIn wsX0_row wsX0_isValue := goodIn_r _ [12] (by decide +kernel) (by decide +kernel)
set_option maxRecDepth 20000 in
theorem gX0_row_X0_isValue : GoodIn wsX0_row (va_wsS RX0 45 yX0_isValue wsX0_isValue) := goodIn_app (goodIn_of _ (by decide +kernel)) ggX0_row_X0_isValue
set_option maxRecDepth 20000 in
theorem ggX0_row_X0_holds : GoodIn wsX0_row wsX0_holds := goodIn_r _ [15] (by decide +kernel) (by decide +kernel)
set_option maxRecDepth 20000 in
theorem gX0_row_X0_holds : GoodIn wsX0_row (va_wsS RX0 48 yX0_holds wsX0_holds) := goodIn_app (goodIn_of _ (by decide +kernel)) ggX0_row_X0_holds
set_option maxRecDepth 20000 in
theorem ggX0_row_X0_renewKinds : GoodIn wsX0_row wsX0_renewKinds := goodIn_r _ [19, 1, 20, 13, 14, 5, 15, 21, 22, 23, 24, 25, 10, 11, 12, 26, 27, 28, 29, 30, 31, 32] (by decide +kernel) (by decide +kernel)
set_option maxRecDepth 20000 in
theorem gX0_row_X0_renewKinds : GoodIn wsX0_row (wsV RX0 52 RX0 yX0_renewKinds wsX0_renewKinds) := goodIn_app (goodIn_of _ (by decide +kernel)) ggX0_row_X0_renewKinds
theorem dX0_row_0 : decode cX0_row 0 = .ok (.iload_n 1, 1) := by decide +kernel
theorem dX0_row_1 : decode cX0_row 1 = .ok (.invokestatic 38, 3) := by decide +kernel
theorem dX0_row_4 : decode cX0_row 4 = .ok (.ifCond .eq 17, 3) := by decide +kernel
theorem dX0_row_7 : decode cX0_row 7 = .ok (.iload_n 2, 1) := by decide +kernel
theorem dX0_row_8 : decode cX0_row 8 = .ok (.invokestatic 42, 3) := by decide +kernel
theorem dX0_row_11 : decode cX0_row 11 = .ok (.ifCond .eq 10, 3) := by decide +kernel
theorem dX0_row_14 : decode cX0_row 14 = .ok (.iload_n 3, 1) := by decide +kernel
theorem dX0_row_15 : decode cX0_row 15 = .ok (.invokestatic 45, 3) := by decide +kernel
theorem dX0_row_18 : decode cX0_row 18 = .ok (.ifCond .ne 5, 3) := by decide +kernel
theorem dX0_row_21 : decode cX0_row 21 = .ok (.iconst (-1), 1) := by decide +kernel
theorem dX0_row_22 : decode cX0_row 22 = .ok (.ireturn, 1) := by decide +kernel
theorem dX0_row_23 : decode cX0_row 23 = .ok (.iload_n 1, 1) := by decide +kernel
theorem dX0_row_24 : decode cX0_row 24 = .ok (.bipush 8, 2) := by decide +kernel
theorem dX0_row_26 : decode cX0_row 26 = .ok (.imul, 1) := by decide +kernel
theorem dX0_row_27 : decode cX0_row 27 = .ok (.iload_n 2, 1) := by decide +kernel
theorem dX0_row_28 : decode cX0_row 28 = .ok (.iadd, 1) := by decide +kernel
theorem dX0_row_29 : decode cX0_row 29 = .ok (.istore 4, 2) := by decide +kernel
theorem dX0_row_31 : decode cX0_row 31 = .ok (.aload_n 0, 1) := by decide +kernel
theorem dX0_row_32 : decode cX0_row 32 = .ok (.getfield 9, 3) := by decide +kernel
theorem dX0_row_35 : decode cX0_row 35 = .ok (.iload 4, 2) := by decide +kernel
theorem dX0_row_37 : decode cX0_row 37 = .ok (.iaload, 1) := by decide +kernel
theorem dX0_row_38 : decode cX0_row 38 = .ok (.iload_n 3, 1) := by decide +kernel
theorem dX0_row_39 : decode cX0_row 39 = .ok (.invokestatic 48, 3) := by decide +kernel
theorem dX0_row_42 : decode cX0_row 42 = .ok (.ifCond .eq 5, 3) := by decide +kernel
theorem dX0_row_45 : decode cX0_row 45 = .ok (.iconst 0, 1) := by decide +kernel
theorem dX0_row_46 : decode cX0_row 46 = .ok (.ireturn, 1) := by decide +kernel
theorem dX0_row_47 : decode cX0_row 47 = .ok (.aload_n 0, 1) := by decide +kernel
theorem dX0_row_48 : decode cX0_row 48 = .ok (.getfield 28, 3) := by decide +kernel
theorem dX0_row_51 : decode cX0_row 51 = .ok (.sipush 300, 3) := by decide +kernel
theorem dX0_row_54 : decode cX0_row 54 = .ok (.if_icmp .lt 6, 3) := by decide +kernel
theorem dX0_row_57 : decode cX0_row 57 = .ok (.bipush (-2), 2) := by decide +kernel
theorem dX0_row_59 : decode cX0_row 59 = .ok (.ireturn, 1) := by decide +kernel
theorem dX0_row_60 : decode cX0_row 60 = .ok (.aload_n 0, 1) := by decide +kernel
theorem dX0_row_61 : decode cX0_row 61 = .ok (.getfield 9, 3) := by decide +kernel
theorem dX0_row_64 : decode cX0_row 64 = .ok (.iload 4, 2) := by decide +kernel
theorem dX0_row_66 : decode cX0_row 66 = .ok (.dup2, 1) := by decide +kernel
theorem dX0_row_67 : decode cX0_row 67 = .ok (.iaload, 1) := by decide +kernel
theorem dX0_row_68 : decode cX0_row 68 = .ok (.iconst 1, 1) := by decide +kernel
theorem dX0_row_69 : decode cX0_row 69 = .ok (.iload_n 3, 1) := by decide +kernel
theorem dX0_row_70 : decode cX0_row 70 = .ok (.ishl, 1) := by decide +kernel
theorem dX0_row_71 : decode cX0_row 71 = .ok (.ior, 1) := by decide +kernel
theorem dX0_row_72 : decode cX0_row 72 = .ok (.iastore, 1) := by decide +kernel
theorem dX0_row_73 : decode cX0_row 73 = .ok (.aload_n 0, 1) := by decide +kernel
theorem dX0_row_74 : decode cX0_row 74 = .ok (.dup, 1) := by decide +kernel
theorem dX0_row_75 : decode cX0_row 75 = .ok (.getfield 28, 3) := by decide +kernel
theorem dX0_row_78 : decode cX0_row 78 = .ok (.iconst 1, 1) := by decide +kernel
theorem dX0_row_79 : decode cX0_row 79 = .ok (.iadd, 1) := by decide +kernel
theorem dX0_row_80 : decode cX0_row 80 = .ok (.putfield 28, 3) := by decide +kernel
theorem dX0_row_83 : decode cX0_row 83 = .ok (.aload_n 0, 1) := by decide +kernel
theorem dX0_row_84 : decode cX0_row 84 = .ok (.iload_n 1, 1) := by decide +kernel
theorem dX0_row_85 : decode cX0_row 85 = .ok (.invokevirtual 52, 3) := by decide +kernel
theorem dX0_row_88 : decode cX0_row 88 = .ok (.iconst 1, 1) := by decide +kernel
theorem dX0_row_89 : decode cX0_row 89 = .ok (.ireturn, 1) := by decide +kernel
set_option maxRecDepth 20000 in
theorem ggX0_drop_X0_isThing : GoodIn wsX0_drop wsX0_isThing := goodIn_r _ [6] (by decide +kernel) (by decide +kernel)
set_option maxRecDepth 20000 in
theorem gX0_drop_X0_isThing : GoodIn wsX0_drop (va_wsS RX0 38 yX0_isThing wsX0_isThing) := goodIn_app (goodIn_of _ (by decide +kernel)) ggX0_drop_X0_isThing
set_option maxRecDepth 20000 in
theorem ggX0_drop_X0_isHead : GoodIn wsX0_drop wsX0_isHead := goodIn_r _ [9] (by decide +kernel) (by decide +kernel)
set_option maxRecDepth 20000 in
theorem gX0_drop_X0_isHead : GoodIn wsX0_drop (va_wsS RX0 42 yX0_isHead wsX0_isHead) := goodIn_app (goodIn_of _ (by decide +kernel)) ggX0_drop_X0_isHead
set_option maxRecDepth 20000 in
theorem ggX0_drop_X0_isValue : GoodIn wsX0_drop wsX0_isValue := goodIn_r _ [12] (by decide +kernel) (by decide +kernel)
set_option maxRecDepth 20000 in
theorem gX0_drop_X0_isValue : GoodIn wsX0_drop (va_wsS RX0 45 yX0_isValue wsX0_isValue) := goodIn_app (goodIn_of _ (by decide +kernel)) ggX0_drop_X0_isValue
set_option maxRecDepth 20000 in
theorem ggX0_drop_X0_holds : GoodIn wsX0_drop wsX0_holds := goodIn_r _ [15] (by decide +kernel) (by decide +kernel)
set_option maxRecDepth 20000 in
theorem gX0_drop_X0_holds : GoodIn wsX0_drop (va_wsS RX0 48 yX0_holds wsX0_holds) := goodIn_app (goodIn_of _ (by decide +kernel)) ggX0_drop_X0_holds
set_option maxRecDepth 20000 in
theorem ggX0_drop_X0_renewKinds : GoodIn wsX0_drop wsX0_renewKinds := goodIn_r _ [19, 1, 20, 13, 14, 5, 15, 21, 22, 23, 24, 25, 10, 11, 12, 26, 27, 28, 29, 30, 31, 32] (by decide +kernel) (by decide +kernel)
set_option maxRecDepth 20000 in
theorem gX0_drop_X0_renewKinds : GoodIn wsX0_drop (wsV RX0 52 RX0 yX0_renewKinds wsX0_renewKinds) := goodIn_app (goodIn_of _ (by decide +kernel)) ggX0_drop_X0_renewKinds
theorem dX0_drop_0 : decode cX0_drop 0 = .ok (.iload_n 1, 1) := by decide +kernel
theorem dX0_drop_1 : decode cX0_drop 1 = .ok (.invokestatic 38, 3) := by decide +kernel
theorem dX0_drop_4 : decode cX0_drop 4 = .ok (.ifCond .eq 17, 3) := by decide +kernel
theorem dX0_drop_7 : decode cX0_drop 7 = .ok (.iload_n 2, 1) := by decide +kernel
theorem dX0_drop_8 : decode cX0_drop 8 = .ok (.invokestatic 42, 3) := by decide +kernel
theorem dX0_drop_11 : decode cX0_drop 11 = .ok (.ifCond .eq 10, 3) := by decide +kernel
theorem dX0_drop_14 : decode cX0_drop 14 = .ok (.iload_n 3, 1) := by decide +kernel
theorem dX0_drop_15 : decode cX0_drop 15 = .ok (.invokestatic 45, 3) := by decide +kernel
theorem dX0_drop_18 : decode cX0_drop 18 = .ok (.ifCond .ne 5, 3) := by decide +kernel
theorem dX0_drop_21 : decode cX0_drop 21 = .ok (.iconst (-1), 1) := by decide +kernel
theorem dX0_drop_22 : decode cX0_drop 22 = .ok (.ireturn, 1) := by decide +kernel
theorem dX0_drop_23 : decode cX0_drop 23 = .ok (.iload_n 1, 1) := by decide +kernel
theorem dX0_drop_24 : decode cX0_drop 24 = .ok (.bipush 8, 2) := by decide +kernel
theorem dX0_drop_26 : decode cX0_drop 26 = .ok (.imul, 1) := by decide +kernel
theorem dX0_drop_27 : decode cX0_drop 27 = .ok (.iload_n 2, 1) := by decide +kernel
theorem dX0_drop_28 : decode cX0_drop 28 = .ok (.iadd, 1) := by decide +kernel
theorem dX0_drop_29 : decode cX0_drop 29 = .ok (.istore 4, 2) := by decide +kernel
theorem dX0_drop_31 : decode cX0_drop 31 = .ok (.aload_n 0, 1) := by decide +kernel
theorem dX0_drop_32 : decode cX0_drop 32 = .ok (.getfield 9, 3) := by decide +kernel
theorem dX0_drop_35 : decode cX0_drop 35 = .ok (.iload 4, 2) := by decide +kernel
theorem dX0_drop_37 : decode cX0_drop 37 = .ok (.iaload, 1) := by decide +kernel
theorem dX0_drop_38 : decode cX0_drop 38 = .ok (.iload_n 3, 1) := by decide +kernel
theorem dX0_drop_39 : decode cX0_drop 39 = .ok (.invokestatic 48, 3) := by decide +kernel
theorem dX0_drop_42 : decode cX0_drop 42 = .ok (.ifCond .ne 5, 3) := by decide +kernel
theorem dX0_drop_45 : decode cX0_drop 45 = .ok (.iconst 0, 1) := by decide +kernel
theorem dX0_drop_46 : decode cX0_drop 46 = .ok (.ireturn, 1) := by decide +kernel
theorem dX0_drop_47 : decode cX0_drop 47 = .ok (.aload_n 0, 1) := by decide +kernel
theorem dX0_drop_48 : decode cX0_drop 48 = .ok (.getfield 9, 3) := by decide +kernel
theorem dX0_drop_51 : decode cX0_drop 51 = .ok (.iload 4, 2) := by decide +kernel
theorem dX0_drop_53 : decode cX0_drop 53 = .ok (.dup2, 1) := by decide +kernel
theorem dX0_drop_54 : decode cX0_drop 54 = .ok (.iaload, 1) := by decide +kernel
theorem dX0_drop_55 : decode cX0_drop 55 = .ok (.iconst 1, 1) := by decide +kernel
theorem dX0_drop_56 : decode cX0_drop 56 = .ok (.iload_n 3, 1) := by decide +kernel
theorem dX0_drop_57 : decode cX0_drop 57 = .ok (.ishl, 1) := by decide +kernel
theorem dX0_drop_58 : decode cX0_drop 58 = .ok (.iconst (-1), 1) := by decide +kernel
theorem dX0_drop_59 : decode cX0_drop 59 = .ok (.ixor, 1) := by decide +kernel
theorem dX0_drop_60 : decode cX0_drop 60 = .ok (.iand, 1) := by decide +kernel
theorem dX0_drop_61 : decode cX0_drop 61 = .ok (.iastore, 1) := by decide +kernel
theorem dX0_drop_62 : decode cX0_drop 62 = .ok (.aload_n 0, 1) := by decide +kernel
theorem dX0_drop_63 : decode cX0_drop 63 = .ok (.dup, 1) := by decide +kernel
theorem dX0_drop_64 : decode cX0_drop 64 = .ok (.getfield 28, 3) := by decide +kernel
theorem dX0_drop_67 : decode cX0_drop 67 = .ok (.iconst 1, 1) := by decide +kernel
theorem dX0_drop_68 : decode cX0_drop 68 = .ok (.isub, 1) := by decide +kernel
theorem dX0_drop_69 : decode cX0_drop 69 = .ok (.putfield 28, 3) := by decide +kernel
theorem dX0_drop_72 : decode cX0_drop 72 = .ok (.aload_n 0, 1) := by decide +kernel
theorem dX0_drop_73 : decode cX0_drop 73 = .ok (.iload_n 1, 1) := by decide +kernel
theorem dX0_drop_74 : decode cX0_drop 74 = .ok (.invokevirtual 52, 3) := by decide +kernel
theorem dX0_drop_77 : decode cX0_drop 77 = .ok (.iconst 1, 1) := by decide +kernel
theorem dX0_drop_78 : decode cX0_drop 78 = .ok (.ireturn, 1) := by decide +kernel
set_option maxRecDepth 20000 in
theorem ggX0_above_X0_isValue : GoodIn wsX0_above wsX0_isValue := goodIn_r _ [5] (by decide +kernel) (by decide +kernel)
set_option maxRecDepth 20000 in
theorem gX0_above_X0_isValue : GoodIn wsX0_above (va_wsS RX0 45 yX0_isValue wsX0_isValue) := goodIn_app (goodIn_of _ (by decide +kernel)) ggX0_above_X0_isValue
set_option maxRecDepth 20000 in
theorem ggX0_above_X0_withUppers : GoodIn wsX0_above wsX0_withUppers := goodIn_r _ [9, 1, 2, 3, 4, 5, 10, 11, 12, 19, 20, 21, 22, 23, 24, 25] (by decide +kernel) (by decide +kernel)
set_option maxRecDepth 20000 in
theorem gX0_above_X0_withUppers : GoodIn wsX0_above (wsV RX0 56 RX0 yX0_withUppers wsX0_withUppers) := goodIn_app (goodIn_of _ (by decide +kernel)) ggX0_above_X0_withUppers
set_option maxRecDepth 20000 in
theorem ggX0_above_X0_holds : GoodIn wsX0_above wsX0_holds := goodIn_r _ [12] (by decide +kernel) (by decide +kernel)
set_option maxRecDepth 20000 in
theorem gX0_above_X0_holds : GoodIn wsX0_above (va_wsS RX0 48 yX0_holds wsX0_holds) := goodIn_app (goodIn_of _ (by decide +kernel)) ggX0_above_X0_holds
set_option maxRecDepth 20000 in
theorem ggX0_above_X0_renewKinds : GoodIn wsX0_above wsX0_renewKinds := goodIn_r _ [16, 17, 18, 10, 11, 4, 12, 6, 7, 8, 9, 1, 2, 3, 5, 19, 20, 21, 22, 23, 24, 25] (by decide +kernel) (by decide +kernel)
set_option maxRecDepth 20000 in
theorem gX0_above_X0_renewKinds : GoodIn wsX0_above (wsV RX0 52 RX0 yX0_renewKinds wsX0_renewKinds) := goodIn_app (goodIn_of _ (by decide +kernel)) ggX0_above_X0_renewKinds
theorem dX0_above_0 : decode cX0_above 0 = .ok (.iload_n 1, 1) := by decide +kernel
theorem dX0_above_1 : decode cX0_above 1 = .ok (.invokestatic 45, 3) := by decide +kernel
theorem dX0_above_4 : decode cX0_above 4 = .ok (.ifCond .eq 15, 3) := by decide +kernel
theorem dX0_above_7 : decode cX0_above 7 = .ok (.iload_n 2, 1) := by decide +kernel
theorem dX0_above_8 : decode cX0_above 8 = .ok (.iconst (-1), 1) := by decide +kernel
theorem dX0_above_9 : decode cX0_above 9 = .ok (.if_icmp .eq 12, 3) := by decide +kernel
theorem dX0_above_12 : decode cX0_above 12 = .ok (.iload_n 2, 1) := by decide +kernel
theorem dX0_above_13 : decode cX0_above 13 = .ok (.invokestatic 45, 3) := by decide +kernel
theorem dX0_above_16 : decode cX0_above 16 = .ok (.ifCond .ne 5, 3) := by decide +kernel
theorem dX0_above_19 : decode cX0_above 19 = .ok (.iconst (-1), 1) := by decide +kernel
theorem dX0_above_20 : decode cX0_above 20 = .ok (.ireturn, 1) := by decide +kernel
theorem dX0_above_21 : decode cX0_above 21 = .ok (.aload_n 0, 1) := by decide +kernel
theorem dX0_above_22 : decode cX0_above 22 = .ok (.getfield 16, 3) := by decide +kernel
theorem dX0_above_25 : decode cX0_above 25 = .ok (.iload_n 1, 1) := by decide +kernel
theorem dX0_above_26 : decode cX0_above 26 = .ok (.iaload, 1) := by decide +kernel
theorem dX0_above_27 : decode cX0_above 27 = .ok (.iload_n 2, 1) := by decide +kernel
theorem dX0_above_28 : decode cX0_above 28 = .ok (.if_icmp .ne 5, 3) := by decide +kernel
theorem dX0_above_31 : decode cX0_above 31 = .ok (.iconst 0, 1) := by decide +kernel
theorem dX0_above_32 : decode cX0_above 32 = .ok (.ireturn, 1) := by decide +kernel
theorem dX0_above_33 : decode cX0_above 33 = .ok (.iload_n 2, 1) := by decide +kernel
theorem dX0_above_34 : decode cX0_above 34 = .ok (.iconst (-1), 1) := by decide +kernel
theorem dX0_above_35 : decode cX0_above 35 = .ok (.if_icmp .eq 19, 3) := by decide +kernel
theorem dX0_above_38 : decode cX0_above 38 = .ok (.aload_n 0, 1) := by decide +kernel
theorem dX0_above_39 : decode cX0_above 39 = .ok (.iload_n 2, 1) := by decide +kernel
theorem dX0_above_40 : decode cX0_above 40 = .ok (.iconst 0, 1) := by decide +kernel
theorem dX0_above_41 : decode cX0_above 41 = .ok (.invokevirtual 56, 3) := by decide +kernel
theorem dX0_above_44 : decode cX0_above 44 = .ok (.iload_n 1, 1) := by decide +kernel
theorem dX0_above_45 : decode cX0_above 45 = .ok (.invokestatic 48, 3) := by decide +kernel
theorem dX0_above_48 : decode cX0_above 48 = .ok (.ifCond .eq 6, 3) := by decide +kernel
theorem dX0_above_51 : decode cX0_above 51 = .ok (.bipush (-3), 2) := by decide +kernel
theorem dX0_above_53 : decode cX0_above 53 = .ok (.ireturn, 1) := by decide +kernel
theorem dX0_above_54 : decode cX0_above 54 = .ok (.aload_n 0, 1) := by decide +kernel
theorem dX0_above_55 : decode cX0_above 55 = .ok (.getfield 16, 3) := by decide +kernel
theorem dX0_above_58 : decode cX0_above 58 = .ok (.iload_n 1, 1) := by decide +kernel
theorem dX0_above_59 : decode cX0_above 59 = .ok (.iload_n 2, 1) := by decide +kernel
theorem dX0_above_60 : decode cX0_above 60 = .ok (.iastore, 1) := by decide +kernel
theorem dX0_above_61 : decode cX0_above 61 = .ok (.iconst 0, 1) := by decide +kernel
theorem dX0_above_62 : decode cX0_above 62 = .ok (.istore_n 3, 1) := by decide +kernel
theorem dX0_above_63 : decode cX0_above 63 = .ok (.iload_n 3, 1) := by decide +kernel
theorem dX0_above_64 : decode cX0_above 64 = .ok (.bipush 40, 2) := by decide +kernel
theorem dX0_above_66 : decode cX0_above 66 = .ok (.if_icmp .ge 14, 3) := by decide +kernel
theorem dX0_above_69 : decode cX0_above 69 = .ok (.aload_n 0, 1) := by decide +kernel
theorem dX0_above_70 : decode cX0_above 70 = .ok (.iload_n 3, 1) := by decide +kernel
theorem dX0_above_71 : decode cX0_above 71 = .ok (.invokevirtual 52, 3) := by decide +kernel
theorem dX0_above_74 : decode cX0_above 74 = .ok (.iinc 3 1, 3) := by decide +kernel
theorem dX0_above_77 : decode cX0_above 77 = .ok (.goto (-14), 3) := by decide +kernel
theorem dX0_above_80 : decode cX0_above 80 = .ok (.iconst 1, 1) := by decide +kernel
theorem dX0_above_81 : decode cX0_above 81 = .ok (.ireturn, 1) := by decide +kernel
set_option maxRecDepth 20000 in
theorem ggX0_choose_X0_isHead : GoodIn wsX0_choose wsX0_isHead := goodIn_r _ [5] (by decide +kernel) (by decide +kernel)
set_option maxRecDepth 20000 in
theorem gX0_choose_X0_isHead : GoodIn wsX0_choose (va_wsS RX0 42 yX0_isHead wsX0_isHead) := goodIn_app (goodIn_of _ (by decide +kernel)) ggX0_choose_X0_isHead
set_option maxRecDepth 20000 in
theorem ggX0_choose_X0_isValue : GoodIn wsX0_choose wsX0_isValue := goodIn_r _ [8] (by decide +kernel) (by decide +kernel)
set_option maxRecDepth 20000 in
theorem gX0_choose_X0_isValue : GoodIn wsX0_choose (va_wsS RX0 45 yX0_isValue wsX0_isValue) := goodIn_app (goodIn_of _ (by decide +kernel)) ggX0_choose_X0_isValue
set_option maxRecDepth 20000 in
theorem ggX0_choose_X0_countKept : GoodIn wsX0_choose wsX0_countKept := goodIn_r _ [12, 13, 14, 15, 4, 16, 1, 17, 18, 19, 20, 21, 22, 23, 24, 25, 26, 27, 28, 29] (by decide +kernel) (by decide +kernel)
set_option maxRecDepth 20000 in
theorem gX0_choose_X0_countKept : GoodIn wsX0_choose (wsV RX0 60 RX0 yX0_countKept wsX0_countKept) := goodIn_app (goodIn_of _ (by decide +kernel)) ggX0_choose_X0_countKept
theorem dX0_choose_0 : decode cX0_choose 0 = .ok (.iload_n 1, 1) := by decide +kernel
theorem dX0_choose_1 : decode cX0_choose 1 = .ok (.invokestatic 42, 3) := by decide +kernel
theorem dX0_choose_4 : decode cX0_choose 4 = .ok (.ifCond .eq 10, 3) := by decide +kernel
theorem dX0_choose_7 : decode cX0_choose 7 = .ok (.iload_n 2, 1) := by decide +kernel
theorem dX0_choose_8 : decode cX0_choose 8 = .ok (.invokestatic 45, 3) := by decide +kernel
theorem dX0_choose_11 : decode cX0_choose 11 = .ok (.ifCond .ne 5, 3) := by decide +kernel
theorem dX0_choose_14 : decode cX0_choose 14 = .ok (.iconst (-1), 1) := by decide +kernel
theorem dX0_choose_15 : decode cX0_choose 15 = .ok (.ireturn, 1) := by decide +kernel
theorem dX0_choose_16 : decode cX0_choose 16 = .ok (.iload_n 3, 1) := by decide +kernel
theorem dX0_choose_17 : decode cX0_choose 17 = .ok (.ifCond .eq 18, 3) := by decide +kernel
theorem dX0_choose_20 : decode cX0_choose 20 = .ok (.aload_n 0, 1) := by decide +kernel
theorem dX0_choose_21 : decode cX0_choose 21 = .ok (.getfield 19, 3) := by decide +kernel
theorem dX0_choose_24 : decode cX0_choose 24 = .ok (.iload_n 1, 1) := by decide +kernel
theorem dX0_choose_25 : decode cX0_choose 25 = .ok (.dup2, 1) := by decide +kernel
theorem dX0_choose_26 : decode cX0_choose 26 = .ok (.iaload, 1) := by decide +kernel
theorem dX0_choose_27 : decode cX0_choose 27 = .ok (.iconst 1, 1) := by decide +kernel
theorem dX0_choose_28 : decode cX0_choose 28 = .ok (.iload_n 2, 1) := by decide +kernel
theorem dX0_choose_29 : decode cX0_choose 29 = .ok (.ishl, 1) := by decide +kernel
theorem dX0_choose_30 : decode cX0_choose 30 = .ok (.ior, 1) := by decide +kernel
theorem dX0_choose_31 : decode cX0_choose 31 = .ok (.iastore, 1) := by decide +kernel
theorem dX0_choose_32 : decode cX0_choose 32 = .ok (.goto 17, 3) := by decide +kernel
theorem dX0_choose_35 : decode cX0_choose 35 = .ok (.aload_n 0, 1) := by decide +kernel
theorem dX0_choose_36 : decode cX0_choose 36 = .ok (.getfield 19, 3) := by decide +kernel
theorem dX0_choose_39 : decode cX0_choose 39 = .ok (.iload_n 1, 1) := by decide +kernel
theorem dX0_choose_40 : decode cX0_choose 40 = .ok (.dup2, 1) := by decide +kernel
theorem dX0_choose_41 : decode cX0_choose 41 = .ok (.iaload, 1) := by decide +kernel
theorem dX0_choose_42 : decode cX0_choose 42 = .ok (.iconst 1, 1) := by decide +kernel
theorem dX0_choose_43 : decode cX0_choose 43 = .ok (.iload_n 2, 1) := by decide +kernel
theorem dX0_choose_44 : decode cX0_choose 44 = .ok (.ishl, 1) := by decide +kernel
theorem dX0_choose_45 : decode cX0_choose 45 = .ok (.iconst (-1), 1) := by decide +kernel
theorem dX0_choose_46 : decode cX0_choose 46 = .ok (.ixor, 1) := by decide +kernel
theorem dX0_choose_47 : decode cX0_choose 47 = .ok (.iand, 1) := by decide +kernel
theorem dX0_choose_48 : decode cX0_choose 48 = .ok (.iastore, 1) := by decide +kernel
theorem dX0_choose_49 : decode cX0_choose 49 = .ok (.aload_n 0, 1) := by decide +kernel
theorem dX0_choose_50 : decode cX0_choose 50 = .ok (.invokevirtual 60, 3) := by decide +kernel
theorem dX0_choose_53 : decode cX0_choose 53 = .ok (.ireturn, 1) := by decide +kernel
set_option maxRecDepth 20000 in
theorem ggX0_kept_X0_countKept : GoodIn wsX0_kept wsX0_countKept := goodIn_r _ [5, 6, 7, 8, 4, 9, 10, 11, 12, 13, 14, 15, 16, 17, 18, 19, 20, 21, 22, 23] (by decide +kernel) (by decide +kernel)
set_option maxRecDepth 20000 in
theorem gX0_kept_X0_countKept : GoodIn wsX0_kept (wsV RX0 60 RX0 yX0_countKept wsX0_countKept) := goodIn_app (goodIn_of _ (by decide +kernel)) ggX0_kept_X0_countKept
theorem dX0_kept_0 : decode cX0_kept 0 = .ok (.aload_n 0, 1) := by decide +kernel
theorem dX0_kept_1 : decode cX0_kept 1 = .ok (.invokevirtual 60, 3) := by decide +kernel
theorem dX0_kept_4 : decode cX0_kept 4 = .ok (.ireturn, 1) := by decide +kernel
set_option maxRecDepth 20000 in
theorem ggX0_isKept_X0_isThing : GoodIn wsX0_isKept wsX0_isThing := goodIn_r _ [4] (by decide +kernel) (by decide +kernel)
set_option maxRecDepth 20000 in
theorem gX0_isKept_X0_isThing : GoodIn wsX0_isKept (va_wsS RX0 38 yX0_isThing wsX0_isThing) := goodIn_app (goodIn_of _ (by decide +kernel)) ggX0_isKept_X0_isThing
set_option maxRecDepth 20000 in
theorem ggX0_isKept_X0_lackedHeads : GoodIn wsX0_isKept wsX0_lackedHeads := goodIn_r _ [8, 9, 10, 11, 12, 3, 13, 14, 15, 16, 17, 18, 19, 20, 21, 22] (by decide +kernel) (by decide +kernel)
set_option maxRecDepth 20000 in
theorem gX0_isKept_X0_lackedHeads : GoodIn wsX0_isKept (wsV RX0 64 RX0 yX0_lackedHeads wsX0_lackedHeads) := goodIn_app (goodIn_of _ (by decide +kernel)) ggX0_isKept_X0_lackedHeads
theorem dX0_isKept_0 : decode cX0_isKept 0 = .ok (.iload_n 1, 1) := by decide +kernel
theorem dX0_isKept_1 : decode cX0_isKept 1 = .ok (.invokestatic 38, 3) := by decide +kernel
theorem dX0_isKept_4 : decode cX0_isKept 4 = .ok (.ifCond .ne 5, 3) := by decide +kernel
theorem dX0_isKept_7 : decode cX0_isKept 7 = .ok (.iconst (-1), 1) := by decide +kernel
theorem dX0_isKept_8 : decode cX0_isKept 8 = .ok (.ireturn, 1) := by decide +kernel
theorem dX0_isKept_9 : decode cX0_isKept 9 = .ok (.aload_n 0, 1) := by decide +kernel
theorem dX0_isKept_10 : decode cX0_isKept 10 = .ok (.iload_n 1, 1) := by decide +kernel
theorem dX0_isKept_11 : decode cX0_isKept 11 = .ok (.invokevirtual 64, 3) := by decide +kernel
theorem dX0_isKept_14 : decode cX0_isKept 14 = .ok (.ifCond .ne 7, 3) := by decide +kernel
theorem dX0_isKept_17 : decode cX0_isKept 17 = .ok (.iconst 1, 1) := by decide +kernel
theorem dX0_isKept_18 : decode cX0_isKept 18 = .ok (.goto 4, 3) := by decide +kernel
theorem dX0_isKept_21 : decode cX0_isKept 21 = .ok (.iconst 0, 1) := by decide +kernel
theorem dX0_isKept_22 : decode cX0_isKept 22 = .ok (.ireturn, 1) := by decide +kernel
set_option maxRecDepth 20000 in
theorem ggX0_facet_X0_isHead : GoodIn wsX0_facet wsX0_isHead := goodIn_r _ [4] (by decide +kernel) (by decide +kernel)
set_option maxRecDepth 20000 in
theorem gX0_facet_X0_isHead : GoodIn wsX0_facet (va_wsS RX0 42 yX0_isHead wsX0_isHead) := goodIn_app (goodIn_of _ (by decide +kernel)) ggX0_facet_X0_isHead
set_option maxRecDepth 20000 in
theorem ggX0_facet_X0_isValue : GoodIn wsX0_facet wsX0_isValue := goodIn_r _ [7] (by decide +kernel) (by decide +kernel)
set_option maxRecDepth 20000 in
theorem gX0_facet_X0_isValue : GoodIn wsX0_facet (va_wsS RX0 45 yX0_isValue wsX0_isValue) := goodIn_app (goodIn_of _ (by decide +kernel)) ggX0_facet_X0_isValue
set_option maxRecDepth 20000 in
theorem ggX0_facet_X0_countWithAny : GoodIn wsX0_facet wsX0_countWithAny := goodIn_r _ [11, 12, 13, 14, 3, 15, 16, 17, 18, 19, 20, 21, 22, 23, 24, 25, 26, 27, 28, 29, 30, 31, 32, 33] (by decide +kernel) (by decide +kernel)
set_option maxRecDepth 20000 in
theorem gX0_facet_X0_countWithAny : GoodIn wsX0_facet (wsV RX0 68 RX0 yX0_countWithAny wsX0_countWithAny) := goodIn_app (goodIn_of _ (by decide +kernel)) ggX0_facet_X0_countWithAny
theorem dX0_facet_0 : decode cX0_facet 0 = .ok (.iload_n 1, 1) := by decide +kernel
theorem dX0_facet_1 : decode cX0_facet 1 = .ok (.invokestatic 42, 3) := by decide +kernel
theorem dX0_facet_4 : decode cX0_facet 4 = .ok (.ifCond .eq 10, 3) := by decide +kernel
theorem dX0_facet_7 : decode cX0_facet 7 = .ok (.iload_n 2, 1) := by decide +kernel
theorem dX0_facet_8 : decode cX0_facet 8 = .ok (.invokestatic 45, 3) := by decide +kernel
theorem dX0_facet_11 : decode cX0_facet 11 = .ok (.ifCond .ne 5, 3) := by decide +kernel
theorem dX0_facet_14 : decode cX0_facet 14 = .ok (.iconst (-1), 1) := by decide +kernel
theorem dX0_facet_15 : decode cX0_facet 15 = .ok (.ireturn, 1) := by decide +kernel
theorem dX0_facet_16 : decode cX0_facet 16 = .ok (.aload_n 0, 1) := by decide +kernel
theorem dX0_facet_17 : decode cX0_facet 17 = .ok (.iload_n 1, 1) := by decide +kernel
theorem dX0_facet_18 : decode cX0_facet 18 = .ok (.iconst 1, 1) := by decide +kernel
theorem dX0_facet_19 : decode cX0_facet 19 = .ok (.iload_n 2, 1) := by decide +kernel
theorem dX0_facet_20 : decode cX0_facet 20 = .ok (.ishl, 1) := by decide +kernel
theorem dX0_facet_21 : decode cX0_facet 21 = .ok (.invokevirtual 68, 3) := by decide +kernel
theorem dX0_facet_24 : decode cX0_facet 24 = .ok (.ireturn, 1) := by decide +kernel
set_option maxRecDepth 20000 in
theorem ggX0_top_X0_isHead : GoodIn wsX0_top wsX0_isHead := goodIn_r _ [5] (by decide +kernel) (by decide +kernel)
set_option maxRecDepth 20000 in
theorem gX0_top_X0_isHead : GoodIn wsX0_top (va_wsS RX0 42 yX0_isHead wsX0_isHead) := goodIn_app (goodIn_of _ (by decide +kernel)) ggX0_top_X0_isHead
set_option maxRecDepth 20000 in
theorem ggX0_top_X0_countAll : GoodIn wsX0_top wsX0_countAll := goodIn_r _ [9, 1, 10, 11, 12, 13, 14, 15, 16, 4, 17, 18, 19, 20, 21, 22, 23, 24, 25, 26, 27, 28, 29, 30, 31, 36, 37, 38, 39, 40, 41, 42] (by decide +kernel) (by decide +kernel)
set_option maxRecDepth 20000 in
theorem gX0_top_X0_countAll : GoodIn wsX0_top (wsV RX0 71 RX0 yX0_countAll wsX0_countAll) := goodIn_app (goodIn_of _ (by decide +kernel)) ggX0_top_X0_countAll
set_option maxRecDepth 20000 in
theorem ggX0_top_X0_rankOf : GoodIn wsX0_top wsX0_rankOf := goodIn_r _ [35, 1, 36, 37, 38, 39, 40, 41, 42] (by decide +kernel) (by decide +kernel)
set_option maxRecDepth 20000 in
theorem gX0_top_X0_rankOf : GoodIn wsX0_top (wsV RX0 74 RX0 yX0_rankOf wsX0_rankOf) := goodIn_app (goodIn_of _ (by decide +kernel)) ggX0_top_X0_rankOf
theorem dX0_top_0 : decode cX0_top 0 = .ok (.iload_n 1, 1) := by decide +kernel
theorem dX0_top_1 : decode cX0_top 1 = .ok (.invokestatic 42, 3) := by decide +kernel
theorem dX0_top_4 : decode cX0_top 4 = .ok (.ifCond .eq 13, 3) := by decide +kernel
theorem dX0_top_7 : decode cX0_top 7 = .ok (.iload_n 2, 1) := by decide +kernel
theorem dX0_top_8 : decode cX0_top 8 = .ok (.ifCond .lt 9, 3) := by decide +kernel
theorem dX0_top_11 : decode cX0_top 11 = .ok (.iload_n 2, 1) := by decide +kernel
theorem dX0_top_12 : decode cX0_top 12 = .ok (.bipush 32, 2) := by decide +kernel
theorem dX0_top_14 : decode cX0_top 14 = .ok (.if_icmp .lt 5, 3) := by decide +kernel
theorem dX0_top_17 : decode cX0_top 17 = .ok (.iconst (-1), 1) := by decide +kernel
theorem dX0_top_18 : decode cX0_top 18 = .ok (.ireturn, 1) := by decide +kernel
theorem dX0_top_19 : decode cX0_top 19 = .ok (.aload_n 0, 1) := by decide +kernel
theorem dX0_top_20 : decode cX0_top 20 = .ok (.invokevirtual 71, 3) := by decide +kernel
theorem dX0_top_23 : decode cX0_top 23 = .ok (.iconst 0, 1) := by decide +kernel
theorem dX0_top_24 : decode cX0_top 24 = .ok (.istore_n 3, 1) := by decide +kernel
theorem dX0_top_25 : decode cX0_top 25 = .ok (.iload_n 3, 1) := by decide +kernel
theorem dX0_top_26 : decode cX0_top 26 = .ok (.bipush 32, 2) := by decide +kernel
theorem dX0_top_28 : decode cX0_top 28 = .ok (.if_icmp .ge 35, 3) := by decide +kernel
theorem dX0_top_31 : decode cX0_top 31 = .ok (.aload_n 0, 1) := by decide +kernel
theorem dX0_top_32 : decode cX0_top 32 = .ok (.getfield 25, 3) := by decide +kernel
theorem dX0_top_35 : decode cX0_top 35 = .ok (.iload_n 1, 1) := by decide +kernel
theorem dX0_top_36 : decode cX0_top 36 = .ok (.bipush 32, 2) := by decide +kernel
theorem dX0_top_38 : decode cX0_top 38 = .ok (.imul, 1) := by decide +kernel
theorem dX0_top_39 : decode cX0_top 39 = .ok (.iload_n 3, 1) := by decide +kernel
theorem dX0_top_40 : decode cX0_top 40 = .ok (.iadd, 1) := by decide +kernel
theorem dX0_top_41 : decode cX0_top 41 = .ok (.iaload, 1) := by decide +kernel
theorem dX0_top_42 : decode cX0_top 42 = .ok (.ifCond .eq 15, 3) := by decide +kernel
theorem dX0_top_45 : decode cX0_top 45 = .ok (.aload_n 0, 1) := by decide +kernel
theorem dX0_top_46 : decode cX0_top 46 = .ok (.iload_n 1, 1) := by decide +kernel
theorem dX0_top_47 : decode cX0_top 47 = .ok (.iload_n 3, 1) := by decide +kernel
theorem dX0_top_48 : decode cX0_top 48 = .ok (.invokevirtual 74, 3) := by decide +kernel
theorem dX0_top_51 : decode cX0_top 51 = .ok (.iload_n 2, 1) := by decide +kernel
theorem dX0_top_52 : decode cX0_top 52 = .ok (.if_icmp .ne 5, 3) := by decide +kernel
theorem dX0_top_55 : decode cX0_top 55 = .ok (.iload_n 3, 1) := by decide +kernel
theorem dX0_top_56 : decode cX0_top 56 = .ok (.ireturn, 1) := by decide +kernel
theorem dX0_top_57 : decode cX0_top 57 = .ok (.iinc 3 1, 3) := by decide +kernel
theorem dX0_top_60 : decode cX0_top 60 = .ok (.goto (-35), 3) := by decide +kernel
theorem dX0_top_63 : decode cX0_top 63 = .ok (.iconst (-1), 1) := by decide +kernel
theorem dX0_top_64 : decode cX0_top 64 = .ok (.ireturn, 1) := by decide +kernel
set_option maxRecDepth 20000 in
theorem ggX0_range_X0_isHead : GoodIn wsX0_range wsX0_isHead := goodIn_r _ [4] (by decide +kernel) (by decide +kernel)
set_option maxRecDepth 20000 in
theorem gX0_range_X0_isHead : GoodIn wsX0_range (va_wsS RX0 42 yX0_isHead wsX0_isHead) := goodIn_app (goodIn_of _ (by decide +kernel)) ggX0_range_X0_isHead
set_option maxRecDepth 20000 in
theorem ggX0_range_X0_span : GoodIn wsX0_range wsX0_span := goodIn_r _ [7, 8, 9, 10, 11, 12, 13, 14] (by decide +kernel) (by decide +kernel)
set_option maxRecDepth 20000 in
theorem gX0_range_X0_span : GoodIn wsX0_range (va_wsS RX0 77 yX0_span wsX0_span) := goodIn_app (goodIn_of _ (by decide +kernel)) ggX0_range_X0_span
set_option maxRecDepth 20000 in
theorem ggX0_range_X0_countWithAny : GoodIn wsX0_range wsX0_countWithAny := goodIn_r _ [18, 19, 20, 21, 3, 22, 23, 24, 25, 26, 27, 28, 29, 30, 31, 32, 33, 34, 35, 36, 37, 38, 39, 40] (by decide +kernel) (by decide +kernel)
set_option maxRecDepth 20000 in
theorem gX0_range_X0_countWithAny : GoodIn wsX0_range (wsV RX0 68 RX0 yX0_countWithAny wsX0_countWithAny) := goodIn_app (goodIn_of _ (by decide +kernel)) ggX0_range_X0_countWithAny
theorem dX0_range_0 : decode cX0_range 0 = .ok (.iload_n 1, 1) := by decide +kernel
theorem dX0_range_1 : decode cX0_range 1 = .ok (.invokestatic 42, 3) := by decide +kernel
theorem dX0_range_4 : decode cX0_range 4 = .ok (.ifCond .ne 5, 3) := by decide +kernel
theorem dX0_range_7 : decode cX0_range 7 = .ok (.iconst (-1), 1) := by decide +kernel
theorem dX0_range_8 : decode cX0_range 8 = .ok (.ireturn, 1) := by decide +kernel
theorem dX0_range_9 : decode cX0_range 9 = .ok (.aload_n 0, 1) := by decide +kernel
theorem dX0_range_10 : decode cX0_range 10 = .ok (.iload_n 1, 1) := by decide +kernel
theorem dX0_range_11 : decode cX0_range 11 = .ok (.iload_n 2, 1) := by decide +kernel
theorem dX0_range_12 : decode cX0_range 12 = .ok (.iload_n 3, 1) := by decide +kernel
theorem dX0_range_13 : decode cX0_range 13 = .ok (.invokestatic 77, 3) := by decide +kernel
theorem dX0_range_16 : decode cX0_range 16 = .ok (.invokevirtual 68, 3) := by decide +kernel
theorem dX0_range_19 : decode cX0_range 19 = .ok (.ireturn, 1) := by decide +kernel
set_option maxRecDepth 20000 in
theorem ggX0_sum_X0_isHead : GoodIn wsX0_sum wsX0_isHead := goodIn_r _ [4] (by decide +kernel) (by decide +kernel)
set_option maxRecDepth 20000 in
theorem gX0_sum_X0_isHead : GoodIn wsX0_sum (va_wsS RX0 42 yX0_isHead wsX0_isHead) := goodIn_app (goodIn_of _ (by decide +kernel)) ggX0_sum_X0_isHead
set_option maxRecDepth 20000 in
theorem ggX0_sum_X0_isValue : GoodIn wsX0_sum wsX0_isValue := goodIn_r _ [7] (by decide +kernel) (by decide +kernel)
set_option maxRecDepth 20000 in
theorem gX0_sum_X0_isValue : GoodIn wsX0_sum (va_wsS RX0 45 yX0_isValue wsX0_isValue) := goodIn_app (goodIn_of _ (by decide +kernel)) ggX0_sum_X0_isValue
set_option maxRecDepth 20000 in
theorem ggX0_sum_X0_valuesOf : GoodIn wsX0_sum wsX0_valuesOf := goodIn_r _ [11, 12, 13, 25, 26, 27, 28, 29, 30, 31] (by decide +kernel) (by decide +kernel)
set_option maxRecDepth 20000 in
theorem gX0_sum_X0_valuesOf : GoodIn wsX0_sum (wsV RX0 80 RX0 yX0_valuesOf wsX0_valuesOf) := goodIn_app (goodIn_of _ (by decide +kernel)) ggX0_sum_X0_valuesOf
set_option maxRecDepth 20000 in
theorem ggX0_sum_X0_holds : GoodIn wsX0_sum wsX0_holds := goodIn_r _ [16] (by decide +kernel) (by decide +kernel)
set_option maxRecDepth 20000 in
theorem gX0_sum_X0_holds : GoodIn wsX0_sum (va_wsS RX0 48 yX0_holds wsX0_holds) := goodIn_app (goodIn_of _ (by decide +kernel)) ggX0_sum_X0_holds
set_option maxRecDepth 20000 in
theorem ggX0_sum_X0_lackedHeads : GoodIn wsX0_sum wsX0_lackedHeads := goodIn_r _ [20, 21, 8, 9, 10, 3, 11, 12, 13, 25, 26, 27, 28, 29, 30, 31] (by decide +kernel) (by decide +kernel)
set_option maxRecDepth 20000 in
theorem gX0_sum_X0_lackedHeads : GoodIn wsX0_sum (wsV RX0 64 RX0 yX0_lackedHeads wsX0_lackedHeads) := goodIn_app (goodIn_of _ (by decide +kernel)) ggX0_sum_X0_lackedHeads
set_option maxRecDepth 20000 in
theorem ggX0_sum_X0_sumOf : GoodIn wsX0_sum wsX0_sumOf := goodIn_r _ [24, 14, 15, 3, 16] (by decide +kernel) (by decide +kernel)
set_option maxRecDepth 20000 in
theorem gX0_sum_X0_sumOf : GoodIn wsX0_sum (va_wsS RX0 83 yX0_sumOf wsX0_sumOf) := goodIn_app (goodIn_of _ (by decide +kernel)) ggX0_sum_X0_sumOf
theorem dX0_sum_0 : decode cX0_sum 0 = .ok (.iload_n 1, 1) := by decide +kernel
theorem dX0_sum_1 : decode cX0_sum 1 = .ok (.invokestatic 42, 3) := by decide +kernel
theorem dX0_sum_4 : decode cX0_sum 4 = .ok (.ifCond .eq 17, 3) := by decide +kernel
theorem dX0_sum_7 : decode cX0_sum 7 = .ok (.iload_n 2, 1) := by decide +kernel
theorem dX0_sum_8 : decode cX0_sum 8 = .ok (.invokestatic 45, 3) := by decide +kernel
theorem dX0_sum_11 : decode cX0_sum 11 = .ok (.ifCond .eq 10, 3) := by decide +kernel
theorem dX0_sum_14 : decode cX0_sum 14 = .ok (.iload_n 3, 1) := by decide +kernel
theorem dX0_sum_15 : decode cX0_sum 15 = .ok (.invokestatic 42, 3) := by decide +kernel
theorem dX0_sum_18 : decode cX0_sum 18 = .ok (.ifCond .ne 5, 3) := by decide +kernel
theorem dX0_sum_21 : decode cX0_sum 21 = .ok (.iconst (-1), 1) := by decide +kernel
theorem dX0_sum_22 : decode cX0_sum 22 = .ok (.ireturn, 1) := by decide +kernel
theorem dX0_sum_23 : decode cX0_sum 23 = .ok (.iconst 0, 1) := by decide +kernel
theorem dX0_sum_24 : decode cX0_sum 24 = .ok (.istore 4, 2) := by decide +kernel
theorem dX0_sum_26 : decode cX0_sum 26 = .ok (.iconst 0, 1) := by decide +kernel
theorem dX0_sum_27 : decode cX0_sum 27 = .ok (.istore 5, 2) := by decide +kernel
theorem dX0_sum_29 : decode cX0_sum 29 = .ok (.iload 5, 2) := by decide +kernel
theorem dX0_sum_31 : decode cX0_sum 31 = .ok (.bipush 40, 2) := by decide +kernel
theorem dX0_sum_33 : decode cX0_sum 33 = .ok (.if_icmp .ge 47, 3) := by decide +kernel
theorem dX0_sum_36 : decode cX0_sum 36 = .ok (.aload_n 0, 1) := by decide +kernel
theorem dX0_sum_37 : decode cX0_sum 37 = .ok (.iload 5, 2) := by decide +kernel
theorem dX0_sum_39 : decode cX0_sum 39 = .ok (.iload_n 1, 1) := by decide +kernel
theorem dX0_sum_40 : decode cX0_sum 40 = .ok (.invokevirtual 80, 3) := by decide +kernel
theorem dX0_sum_43 : decode cX0_sum 43 = .ok (.iload_n 2, 1) := by decide +kernel
theorem dX0_sum_44 : decode cX0_sum 44 = .ok (.invokestatic 48, 3) := by decide +kernel
theorem dX0_sum_47 : decode cX0_sum 47 = .ok (.ifCond .eq 27, 3) := by decide +kernel
theorem dX0_sum_50 : decode cX0_sum 50 = .ok (.aload_n 0, 1) := by decide +kernel
theorem dX0_sum_51 : decode cX0_sum 51 = .ok (.iload 5, 2) := by decide +kernel
theorem dX0_sum_53 : decode cX0_sum 53 = .ok (.invokevirtual 64, 3) := by decide +kernel
theorem dX0_sum_56 : decode cX0_sum 56 = .ok (.ifCond .ne 18, 3) := by decide +kernel
theorem dX0_sum_59 : decode cX0_sum 59 = .ok (.iload 4, 2) := by decide +kernel
theorem dX0_sum_61 : decode cX0_sum 61 = .ok (.aload_n 0, 1) := by decide +kernel
theorem dX0_sum_62 : decode cX0_sum 62 = .ok (.iload 5, 2) := by decide +kernel
theorem dX0_sum_64 : decode cX0_sum 64 = .ok (.iload_n 3, 1) := by decide +kernel
theorem dX0_sum_65 : decode cX0_sum 65 = .ok (.invokevirtual 80, 3) := by decide +kernel
theorem dX0_sum_68 : decode cX0_sum 68 = .ok (.invokestatic 83, 3) := by decide +kernel
theorem dX0_sum_71 : decode cX0_sum 71 = .ok (.iadd, 1) := by decide +kernel
theorem dX0_sum_72 : decode cX0_sum 72 = .ok (.istore 4, 2) := by decide +kernel
theorem dX0_sum_74 : decode cX0_sum 74 = .ok (.iinc 5 1, 3) := by decide +kernel
theorem dX0_sum_77 : decode cX0_sum 77 = .ok (.goto (-48), 3) := by decide +kernel
theorem dX0_sum_80 : decode cX0_sum 80 = .ok (.iload 4, 2) := by decide +kernel
theorem dX0_sum_82 : decode cX0_sum 82 = .ok (.ireturn, 1) := by decide +kernel
set_option maxRecDepth 20000 in
theorem ggX0_share_X0_isHead : GoodIn wsX0_share wsX0_isHead := goodIn_r _ [6] (by decide +kernel) (by decide +kernel)
set_option maxRecDepth 20000 in
theorem gX0_share_X0_isHead : GoodIn wsX0_share (va_wsS RX0 42 yX0_isHead wsX0_isHead) := goodIn_app (goodIn_of _ (by decide +kernel)) ggX0_share_X0_isHead
set_option maxRecDepth 20000 in
theorem ggX0_share_X0_isValue : GoodIn wsX0_share wsX0_isValue := goodIn_r _ [9] (by decide +kernel) (by decide +kernel)
set_option maxRecDepth 20000 in
theorem gX0_share_X0_isValue : GoodIn wsX0_share (va_wsS RX0 45 yX0_isValue wsX0_isValue) := goodIn_app (goodIn_of _ (by decide +kernel)) ggX0_share_X0_isValue
set_option maxRecDepth 20000 in
theorem ggX0_share_X0_countKeptBut : GoodIn wsX0_share wsX0_countKeptBut := goodIn_r _ [13, 14, 15, 16, 5, 17, 18, 19, 20, 21, 22, 23, 24, 25, 26, 27, 28, 36, 37, 38, 39, 40, 41, 42] (by decide +kernel) (by decide +kernel)
set_option maxRecDepth 20000 in
theorem gX0_share_X0_countKeptBut : GoodIn wsX0_share (wsV RX0 93 RX0 yX0_countKeptBut wsX0_countKeptBut) := goodIn_app (goodIn_of _ (by decide +kernel)) ggX0_share_X0_countKeptBut
set_option maxRecDepth 20000 in
theorem ggX0_share_X0_countWithAny : GoodIn wsX0_share wsX0_countWithAny := goodIn_r _ [32, 23, 24, 25, 5, 26, 27, 28, 14, 15, 16, 17, 18, 19, 20, 21, 22, 36, 37, 38, 39, 40, 41, 42] (by decide +kernel) (by decide +kernel)
set_option maxRecDepth 20000 in
theorem gX0_share_X0_countWithAny : GoodIn wsX0_share (wsV RX0 68 RX0 yX0_countWithAny wsX0_countWithAny) := goodIn_app (goodIn_of _ (by decide +kernel)) ggX0_share_X0_countWithAny
set_option maxRecDepth 20000 in
theorem ggX0_share_X0_inLeastTerms : GoodIn wsX0_share wsX0_inLeastTerms := goodIn_r _ [35] (by decide +kernel) (by decide +kernel)
set_option maxRecDepth 20000 in
theorem gX0_share_X0_inLeastTerms : GoodIn wsX0_share (va_wsS RX0 98 yX0_inLeastTerms wsX0_inLeastTerms) := goodIn_app (goodIn_of _ (by decide +kernel)) ggX0_share_X0_inLeastTerms
theorem dX0_share_0 : decode cX0_share 0 = .ok (.iload_n 1, 1) := by decide +kernel
theorem dX0_share_1 : decode cX0_share 1 = .ok (.invokestatic 42, 3) := by decide +kernel
theorem dX0_share_4 : decode cX0_share 4 = .ok (.ifCond .eq 10, 3) := by decide +kernel
theorem dX0_share_7 : decode cX0_share 7 = .ok (.iload_n 2, 1) := by decide +kernel
theorem dX0_share_8 : decode cX0_share 8 = .ok (.invokestatic 45, 3) := by decide +kernel
theorem dX0_share_11 : decode cX0_share 11 = .ok (.ifCond .ne 13, 3) := by decide +kernel
theorem dX0_share_14 : decode cX0_share 14 = .ok (.new 86, 3) := by decide +kernel
theorem dX0_share_17 : decode cX0_share 17 = .ok (.dup, 1) := by decide +kernel
theorem dX0_share_18 : decode cX0_share 18 = .ok (.ldc 88, 2) := by decide +kernel
theorem dX0_share_20 : decode cX0_share 20 = .ok (.invokespecial 90, 3) := by decide +kernel
theorem dX0_share_23 : decode cX0_share 23 = .ok (.athrow, 1) := by decide +kernel
theorem dX0_share_24 : decode cX0_share 24 = .ok (.aload_n 0, 1) := by decide +kernel
theorem dX0_share_25 : decode cX0_share 25 = .ok (.iload_n 1, 1) := by decide +kernel
theorem dX0_share_26 : decode cX0_share 26 = .ok (.invokevirtual 93, 3) := by decide +kernel
theorem dX0_share_29 : decode cX0_share 29 = .ok (.istore 4, 2) := by decide +kernel
theorem dX0_share_31 : decode cX0_share 31 = .ok (.iload 4, 2) := by decide +kernel
theorem dX0_share_33 : decode cX0_share 33 = .ok (.ifCond .ne 13, 3) := by decide +kernel
theorem dX0_share_36 : decode cX0_share 36 = .ok (.new 86, 3) := by decide +kernel
theorem dX0_share_39 : decode cX0_share 39 = .ok (.dup, 1) := by decide +kernel
theorem dX0_share_40 : decode cX0_share 40 = .ok (.ldc 96, 2) := by decide +kernel
theorem dX0_share_42 : decode cX0_share 42 = .ok (.invokespecial 90, 3) := by decide +kernel
theorem dX0_share_45 : decode cX0_share 45 = .ok (.athrow, 1) := by decide +kernel
theorem dX0_share_46 : decode cX0_share 46 = .ok (.aload_n 0, 1) := by decide +kernel
theorem dX0_share_47 : decode cX0_share 47 = .ok (.iload_n 1, 1) := by decide +kernel
theorem dX0_share_48 : decode cX0_share 48 = .ok (.iconst 1, 1) := by decide +kernel
theorem dX0_share_49 : decode cX0_share 49 = .ok (.iload_n 2, 1) := by decide +kernel
theorem dX0_share_50 : decode cX0_share 50 = .ok (.ishl, 1) := by decide +kernel
theorem dX0_share_51 : decode cX0_share 51 = .ok (.invokevirtual 68, 3) := by decide +kernel
theorem dX0_share_54 : decode cX0_share 54 = .ok (.istore 5, 2) := by decide +kernel
theorem dX0_share_56 : decode cX0_share 56 = .ok (.iload_n 3, 1) := by decide +kernel
theorem dX0_share_57 : decode cX0_share 57 = .ok (.ifCond .eq 8, 3) := by decide +kernel
theorem dX0_share_60 : decode cX0_share 60 = .ok (.iload 4, 2) := by decide +kernel
theorem dX0_share_62 : decode cX0_share 62 = .ok (.goto 5, 3) := by decide +kernel
theorem dX0_share_65 : decode cX0_share 65 = .ok (.iload 5, 2) := by decide +kernel
theorem dX0_share_67 : decode cX0_share 67 = .ok (.iload 5, 2) := by decide +kernel
theorem dX0_share_69 : decode cX0_share 69 = .ok (.iload 4, 2) := by decide +kernel
theorem dX0_share_71 : decode cX0_share 71 = .ok (.invokestatic 98, 3) := by decide +kernel
theorem dX0_share_74 : decode cX0_share 74 = .ok (.ireturn, 1) := by decide +kernel
set_option maxRecDepth 20000 in
theorem ggX0_changed_X0_countAll : GoodIn wsX0_changed wsX0_countAll := goodIn_r _ [7, 1, 8, 9, 10, 11, 12, 13, 14, 6, 15, 16, 17, 18, 19, 20, 21, 22, 23, 24, 25, 26, 27, 28, 29, 30, 31, 32, 33, 34, 35, 36] (by decide +kernel) (by decide +kernel)
set_option maxRecDepth 20000 in
theorem gX0_changed_X0_countAll : GoodIn wsX0_changed (wsV RX0 71 RX0 yX0_countAll wsX0_countAll) := goodIn_app (goodIn_of _ (by decide +kernel)) ggX0_changed_X0_countAll
theorem dX0_changed_0 : decode cX0_changed 0 = .ok (.aload_n 0, 1) := by decide +kernel
theorem dX0_changed_1 : decode cX0_changed 1 = .ok (.invokevirtual 71, 3) := by decide +kernel
theorem dX0_changed_4 : decode cX0_changed 4 = .ok (.iconst 0, 1) := by decide +kernel
theorem dX0_changed_5 : decode cX0_changed 5 = .ok (.istore_n 1, 1) := by decide +kernel
theorem dX0_changed_6 : decode cX0_changed 6 = .ok (.iconst 0, 1) := by decide +kernel
theorem dX0_changed_7 : decode cX0_changed 7 = .ok (.istore_n 2, 1) := by decide +kernel
theorem dX0_changed_8 : decode cX0_changed 8 = .ok (.iload_n 2, 1) := by decide +kernel
theorem dX0_changed_9 : decode cX0_changed 9 = .ok (.sipush 256, 3) := by decide +kernel
theorem dX0_changed_12 : decode cX0_changed 12 = .ok (.if_icmp .ge 39, 3) := by decide +kernel
theorem dX0_changed_15 : decode cX0_changed 15 = .ok (.aload_n 0, 1) := by decide +kernel
theorem dX0_changed_16 : decode cX0_changed 16 = .ok (.getfield 25, 3) := by decide +kernel
theorem dX0_changed_19 : decode cX0_changed 19 = .ok (.iload_n 2, 1) := by decide +kernel
theorem dX0_changed_20 : decode cX0_changed 20 = .ok (.iaload, 1) := by decide +kernel
theorem dX0_changed_21 : decode cX0_changed 21 = .ok (.aload_n 0, 1) := by decide +kernel
theorem dX0_changed_22 : decode cX0_changed 22 = .ok (.getfield 22, 3) := by decide +kernel
theorem dX0_changed_25 : decode cX0_changed 25 = .ok (.iload_n 2, 1) := by decide +kernel
theorem dX0_changed_26 : decode cX0_changed 26 = .ok (.iaload, 1) := by decide +kernel
theorem dX0_changed_27 : decode cX0_changed 27 = .ok (.if_icmp .eq 6, 3) := by decide +kernel
theorem dX0_changed_30 : decode cX0_changed 30 = .ok (.iinc 1 1, 3) := by decide +kernel
theorem dX0_changed_33 : decode cX0_changed 33 = .ok (.aload_n 0, 1) := by decide +kernel
theorem dX0_changed_34 : decode cX0_changed 34 = .ok (.getfield 22, 3) := by decide +kernel
theorem dX0_changed_37 : decode cX0_changed 37 = .ok (.iload_n 2, 1) := by decide +kernel
theorem dX0_changed_38 : decode cX0_changed 38 = .ok (.aload_n 0, 1) := by decide +kernel
theorem dX0_changed_39 : decode cX0_changed 39 = .ok (.getfield 25, 3) := by decide +kernel
theorem dX0_changed_42 : decode cX0_changed 42 = .ok (.iload_n 2, 1) := by decide +kernel
theorem dX0_changed_43 : decode cX0_changed 43 = .ok (.iaload, 1) := by decide +kernel
theorem dX0_changed_44 : decode cX0_changed 44 = .ok (.iastore, 1) := by decide +kernel
theorem dX0_changed_45 : decode cX0_changed 45 = .ok (.iinc 2 1, 3) := by decide +kernel
theorem dX0_changed_48 : decode cX0_changed 48 = .ok (.goto (-40), 3) := by decide +kernel
theorem dX0_changed_51 : decode cX0_changed 51 = .ok (.iload_n 1, 1) := by decide +kernel
theorem dX0_changed_52 : decode cX0_changed 52 = .ok (.ireturn, 1) := by decide +kernel
theorem dX0_rows_0 : decode cX0_rows 0 = .ok (.aload_n 0, 1) := by decide +kernel
theorem dX0_rows_1 : decode cX0_rows 1 = .ok (.getfield 28, 3) := by decide +kernel
theorem dX0_rows_4 : decode cX0_rows 4 = .ok (.ireturn, 1) := by decide +kernel
theorem dX0_isThing_0 : decode cX0_isThing 0 = .ok (.iload_n 0, 1) := by decide +kernel
theorem dX0_isThing_1 : decode cX0_isThing 1 = .ok (.ifCond .lt 13, 3) := by decide +kernel
theorem dX0_isThing_4 : decode cX0_isThing 4 = .ok (.iload_n 0, 1) := by decide +kernel
theorem dX0_isThing_5 : decode cX0_isThing 5 = .ok (.bipush 40, 2) := by decide +kernel
theorem dX0_isThing_7 : decode cX0_isThing 7 = .ok (.if_icmp .ge 7, 3) := by decide +kernel
theorem dX0_isThing_10 : decode cX0_isThing 10 = .ok (.iconst 1, 1) := by decide +kernel
theorem dX0_isThing_11 : decode cX0_isThing 11 = .ok (.goto 4, 3) := by decide +kernel
theorem dX0_isThing_14 : decode cX0_isThing 14 = .ok (.iconst 0, 1) := by decide +kernel
theorem dX0_isThing_15 : decode cX0_isThing 15 = .ok (.ireturn, 1) := by decide +kernel
theorem dX0_isHead_0 : decode cX0_isHead 0 = .ok (.iload_n 0, 1) := by decide +kernel
theorem dX0_isHead_1 : decode cX0_isHead 1 = .ok (.ifCond .lt 13, 3) := by decide +kernel
theorem dX0_isHead_4 : decode cX0_isHead 4 = .ok (.iload_n 0, 1) := by decide +kernel
theorem dX0_isHead_5 : decode cX0_isHead 5 = .ok (.bipush 8, 2) := by decide +kernel
theorem dX0_isHead_7 : decode cX0_isHead 7 = .ok (.if_icmp .ge 7, 3) := by decide +kernel
theorem dX0_isHead_10 : decode cX0_isHead 10 = .ok (.iconst 1, 1) := by decide +kernel
theorem dX0_isHead_11 : decode cX0_isHead 11 = .ok (.goto 4, 3) := by decide +kernel
theorem dX0_isHead_14 : decode cX0_isHead 14 = .ok (.iconst 0, 1) := by decide +kernel
theorem dX0_isHead_15 : decode cX0_isHead 15 = .ok (.ireturn, 1) := by decide +kernel
theorem dX0_isValue_0 : decode cX0_isValue 0 = .ok (.iload_n 0, 1) := by decide +kernel
theorem dX0_isValue_1 : decode cX0_isValue 1 = .ok (.ifCond .lt 13, 3) := by decide +kernel
theorem dX0_isValue_4 : decode cX0_isValue 4 = .ok (.iload_n 0, 1) := by decide +kernel
theorem dX0_isValue_5 : decode cX0_isValue 5 = .ok (.bipush 32, 2) := by decide +kernel
theorem dX0_isValue_7 : decode cX0_isValue 7 = .ok (.if_icmp .ge 7, 3) := by decide +kernel
theorem dX0_isValue_10 : decode cX0_isValue 10 = .ok (.iconst 1, 1) := by decide +kernel
theorem dX0_isValue_11 : decode cX0_isValue 11 = .ok (.goto 4, 3) := by decide +kernel
theorem dX0_isValue_14 : decode cX0_isValue 14 = .ok (.iconst 0, 1) := by decide +kernel
theorem dX0_isValue_15 : decode cX0_isValue 15 = .ok (.ireturn, 1) := by decide +kernel
theorem dX0_holds_0 : decode cX0_holds 0 = .ok (.iload_n 0, 1) := by decide +kernel
theorem dX0_holds_1 : decode cX0_holds 1 = .ok (.iconst 1, 1) := by decide +kernel
theorem dX0_holds_2 : decode cX0_holds 2 = .ok (.iload_n 1, 1) := by decide +kernel
theorem dX0_holds_3 : decode cX0_holds 3 = .ok (.ishl, 1) := by decide +kernel
theorem dX0_holds_4 : decode cX0_holds 4 = .ok (.iand, 1) := by decide +kernel
theorem dX0_holds_5 : decode cX0_holds 5 = .ok (.ifCond .eq 7, 3) := by decide +kernel
theorem dX0_holds_8 : decode cX0_holds 8 = .ok (.iconst 1, 1) := by decide +kernel
theorem dX0_holds_9 : decode cX0_holds 9 = .ok (.goto 4, 3) := by decide +kernel
theorem dX0_holds_12 : decode cX0_holds 12 = .ok (.iconst 0, 1) := by decide +kernel
theorem dX0_holds_13 : decode cX0_holds 13 = .ok (.ireturn, 1) := by decide +kernel
theorem dX0_valuesOf_0 : decode cX0_valuesOf 0 = .ok (.iload_n 2, 1) := by decide +kernel
theorem dX0_valuesOf_1 : decode cX0_valuesOf 1 = .ok (.ifCond .ne 12, 3) := by decide +kernel
theorem dX0_valuesOf_4 : decode cX0_valuesOf 4 = .ok (.aload_n 0, 1) := by decide +kernel
theorem dX0_valuesOf_5 : decode cX0_valuesOf 5 = .ok (.getfield 13, 3) := by decide +kernel
theorem dX0_valuesOf_8 : decode cX0_valuesOf 8 = .ok (.iload_n 1, 1) := by decide +kernel
theorem dX0_valuesOf_9 : decode cX0_valuesOf 9 = .ok (.iaload, 1) := by decide +kernel
theorem dX0_valuesOf_10 : decode cX0_valuesOf 10 = .ok (.goto 14, 3) := by decide +kernel
theorem dX0_valuesOf_13 : decode cX0_valuesOf 13 = .ok (.aload_n 0, 1) := by decide +kernel
theorem dX0_valuesOf_14 : decode cX0_valuesOf 14 = .ok (.getfield 9, 3) := by decide +kernel
theorem dX0_valuesOf_17 : decode cX0_valuesOf 17 = .ok (.iload_n 1, 1) := by decide +kernel
theorem dX0_valuesOf_18 : decode cX0_valuesOf 18 = .ok (.bipush 8, 2) := by decide +kernel
theorem dX0_valuesOf_20 : decode cX0_valuesOf 20 = .ok (.imul, 1) := by decide +kernel
theorem dX0_valuesOf_21 : decode cX0_valuesOf 21 = .ok (.iload_n 2, 1) := by decide +kernel
theorem dX0_valuesOf_22 : decode cX0_valuesOf 22 = .ok (.iadd, 1) := by decide +kernel
theorem dX0_valuesOf_23 : decode cX0_valuesOf 23 = .ok (.iaload, 1) := by decide +kernel
theorem dX0_valuesOf_24 : decode cX0_valuesOf 24 = .ok (.ireturn, 1) := by decide +kernel
set_option maxRecDepth 20000 in
theorem ggX0_renewKinds_X0_holds : GoodIn wsX0_renewKinds wsX0_holds := goodIn_r _ [6] (by decide +kernel) (by decide +kernel)
set_option maxRecDepth 20000 in
theorem gX0_renewKinds_X0_holds : GoodIn wsX0_renewKinds (va_wsS RX0 48 yX0_holds wsX0_holds) := goodIn_app (goodIn_of _ (by decide +kernel)) ggX0_renewKinds_X0_holds
set_option maxRecDepth 20000 in
theorem ggX0_renewKinds_X0_withUppers : GoodIn wsX0_renewKinds wsX0_withUppers := goodIn_r _ [10, 11, 12, 13, 5, 14, 3, 4, 6, 15, 16, 17, 18, 19, 20, 21] (by decide +kernel) (by decide +kernel)
set_option maxRecDepth 20000 in
theorem gX0_renewKinds_X0_withUppers : GoodIn wsX0_renewKinds (wsV RX0 56 RX0 yX0_withUppers wsX0_withUppers) := goodIn_app (goodIn_of _ (by decide +kernel)) ggX0_renewKinds_X0_withUppers
theorem dX0_renewKinds_0 : decode cX0_renewKinds 0 = .ok (.aload_n 0, 1) := by decide +kernel
theorem dX0_renewKinds_1 : decode cX0_renewKinds 1 = .ok (.getfield 9, 3) := by decide +kernel
theorem dX0_renewKinds_4 : decode cX0_renewKinds 4 = .ok (.iload_n 1, 1) := by decide +kernel
theorem dX0_renewKinds_5 : decode cX0_renewKinds 5 = .ok (.bipush 8, 2) := by decide +kernel
theorem dX0_renewKinds_7 : decode cX0_renewKinds 7 = .ok (.imul, 1) := by decide +kernel
theorem dX0_renewKinds_8 : decode cX0_renewKinds 8 = .ok (.iconst 0, 1) := by decide +kernel
theorem dX0_renewKinds_9 : decode cX0_renewKinds 9 = .ok (.iadd, 1) := by decide +kernel
theorem dX0_renewKinds_10 : decode cX0_renewKinds 10 = .ok (.iaload, 1) := by decide +kernel
theorem dX0_renewKinds_11 : decode cX0_renewKinds 11 = .ok (.istore_n 2, 1) := by decide +kernel
theorem dX0_renewKinds_12 : decode cX0_renewKinds 12 = .ok (.iconst 0, 1) := by decide +kernel
theorem dX0_renewKinds_13 : decode cX0_renewKinds 13 = .ok (.istore_n 3, 1) := by decide +kernel
theorem dX0_renewKinds_14 : decode cX0_renewKinds 14 = .ok (.iconst 0, 1) := by decide +kernel
theorem dX0_renewKinds_15 : decode cX0_renewKinds 15 = .ok (.istore 4, 2) := by decide +kernel
theorem dX0_renewKinds_17 : decode cX0_renewKinds 17 = .ok (.iload 4, 2) := by decide +kernel
theorem dX0_renewKinds_19 : decode cX0_renewKinds 19 = .ok (.bipush 32, 2) := by decide +kernel
theorem dX0_renewKinds_21 : decode cX0_renewKinds 21 = .ok (.if_icmp .ge 26, 3) := by decide +kernel
theorem dX0_renewKinds_24 : decode cX0_renewKinds 24 = .ok (.iload_n 2, 1) := by decide +kernel
theorem dX0_renewKinds_25 : decode cX0_renewKinds 25 = .ok (.iload 4, 2) := by decide +kernel
theorem dX0_renewKinds_27 : decode cX0_renewKinds 27 = .ok (.invokestatic 48, 3) := by decide +kernel
theorem dX0_renewKinds_30 : decode cX0_renewKinds 30 = .ok (.ifCond .eq 11, 3) := by decide +kernel
theorem dX0_renewKinds_33 : decode cX0_renewKinds 33 = .ok (.aload_n 0, 1) := by decide +kernel
theorem dX0_renewKinds_34 : decode cX0_renewKinds 34 = .ok (.iload 4, 2) := by decide +kernel
theorem dX0_renewKinds_36 : decode cX0_renewKinds 36 = .ok (.iload_n 3, 1) := by decide +kernel
theorem dX0_renewKinds_37 : decode cX0_renewKinds 37 = .ok (.invokevirtual 56, 3) := by decide +kernel
theorem dX0_renewKinds_40 : decode cX0_renewKinds 40 = .ok (.istore_n 3, 1) := by decide +kernel
theorem dX0_renewKinds_41 : decode cX0_renewKinds 41 = .ok (.iinc 4 1, 3) := by decide +kernel
theorem dX0_renewKinds_44 : decode cX0_renewKinds 44 = .ok (.goto (-27), 3) := by decide +kernel
theorem dX0_renewKinds_47 : decode cX0_renewKinds 47 = .ok (.aload_n 0, 1) := by decide +kernel
theorem dX0_renewKinds_48 : decode cX0_renewKinds 48 = .ok (.getfield 13, 3) := by decide +kernel
theorem dX0_renewKinds_51 : decode cX0_renewKinds 51 = .ok (.iload_n 1, 1) := by decide +kernel
theorem dX0_renewKinds_52 : decode cX0_renewKinds 52 = .ok (.iload_n 3, 1) := by decide +kernel
theorem dX0_renewKinds_53 : decode cX0_renewKinds 53 = .ok (.iastore, 1) := by decide +kernel
theorem dX0_renewKinds_54 : decode cX0_renewKinds 54 = .ok (.return_, 1) := by decide +kernel
set_option maxRecDepth 20000 in
theorem ggX0_withUppers_X0_isValue : GoodIn wsX0_withUppers wsX0_isValue := goodIn_r _ [5] (by decide +kernel) (by decide +kernel)
set_option maxRecDepth 20000 in
theorem gX0_withUppers_X0_isValue : GoodIn wsX0_withUppers (va_wsS RX0 45 yX0_isValue wsX0_isValue) := goodIn_app (goodIn_of _ (by decide +kernel)) ggX0_withUppers_X0_isValue
set_option maxRecDepth 20000 in
theorem ggX0_withUppers_X0_holds : GoodIn wsX0_withUppers wsX0_holds := goodIn_r _ [8] (by decide +kernel) (by decide +kernel)
set_option maxRecDepth 20000 in
theorem gX0_withUppers_X0_holds : GoodIn wsX0_withUppers (va_wsS RX0 48 yX0_holds wsX0_holds) := goodIn_app (goodIn_of _ (by decide +kernel)) ggX0_withUppers_X0_holds
theorem dX0_withUppers_0 : decode cX0_withUppers 0 = .ok (.iload_n 2, 1) := by decide +kernel
theorem dX0_withUppers_1 : decode cX0_withUppers 1 = .ok (.istore_n 3, 1) := by decide +kernel
theorem dX0_withUppers_2 : decode cX0_withUppers 2 = .ok (.iload_n 1, 1) := by decide +kernel
theorem dX0_withUppers_3 : decode cX0_withUppers 3 = .ok (.istore 4, 2) := by decide +kernel
theorem dX0_withUppers_5 : decode cX0_withUppers 5 = .ok (.iconst 0, 1) := by decide +kernel
theorem dX0_withUppers_6 : decode cX0_withUppers 6 = .ok (.istore 5, 2) := by decide +kernel
theorem dX0_withUppers_8 : decode cX0_withUppers 8 = .ok (.iload 5, 2) := by decide +kernel
theorem dX0_withUppers_10 : decode cX0_withUppers 10 = .ok (.bipush 32, 2) := by decide +kernel
theorem dX0_withUppers_12 : decode cX0_withUppers 12 = .ok (.if_icmp .ge 42, 3) := by decide +kernel
theorem dX0_withUppers_15 : decode cX0_withUppers 15 = .ok (.iload 4, 2) := by decide +kernel
theorem dX0_withUppers_17 : decode cX0_withUppers 17 = .ok (.invokestatic 45, 3) := by decide +kernel
theorem dX0_withUppers_20 : decode cX0_withUppers 20 = .ok (.ifCond .eq 34, 3) := by decide +kernel
theorem dX0_withUppers_23 : decode cX0_withUppers 23 = .ok (.iload_n 3, 1) := by decide +kernel
theorem dX0_withUppers_24 : decode cX0_withUppers 24 = .ok (.iload 4, 2) := by decide +kernel
theorem dX0_withUppers_26 : decode cX0_withUppers 26 = .ok (.invokestatic 48, 3) := by decide +kernel
theorem dX0_withUppers_29 : decode cX0_withUppers 29 = .ok (.ifCond .ne 25, 3) := by decide +kernel
theorem dX0_withUppers_32 : decode cX0_withUppers 32 = .ok (.iload_n 3, 1) := by decide +kernel
theorem dX0_withUppers_33 : decode cX0_withUppers 33 = .ok (.iconst 1, 1) := by decide +kernel
theorem dX0_withUppers_34 : decode cX0_withUppers 34 = .ok (.iload 4, 2) := by decide +kernel
theorem dX0_withUppers_36 : decode cX0_withUppers 36 = .ok (.ishl, 1) := by decide +kernel
theorem dX0_withUppers_37 : decode cX0_withUppers 37 = .ok (.ior, 1) := by decide +kernel
theorem dX0_withUppers_38 : decode cX0_withUppers 38 = .ok (.istore_n 3, 1) := by decide +kernel
theorem dX0_withUppers_39 : decode cX0_withUppers 39 = .ok (.aload_n 0, 1) := by decide +kernel
theorem dX0_withUppers_40 : decode cX0_withUppers 40 = .ok (.getfield 16, 3) := by decide +kernel
theorem dX0_withUppers_43 : decode cX0_withUppers 43 = .ok (.iload 4, 2) := by decide +kernel
theorem dX0_withUppers_45 : decode cX0_withUppers 45 = .ok (.iaload, 1) := by decide +kernel
theorem dX0_withUppers_46 : decode cX0_withUppers 46 = .ok (.istore 4, 2) := by decide +kernel
theorem dX0_withUppers_48 : decode cX0_withUppers 48 = .ok (.iinc 5 1, 3) := by decide +kernel
theorem dX0_withUppers_51 : decode cX0_withUppers 51 = .ok (.goto (-43), 3) := by decide +kernel
theorem dX0_withUppers_54 : decode cX0_withUppers 54 = .ok (.iload_n 3, 1) := by decide +kernel
theorem dX0_withUppers_55 : decode cX0_withUppers 55 = .ok (.ireturn, 1) := by decide +kernel
set_option maxRecDepth 20000 in
theorem ggX0_lackedHeads_X0_valuesOf : GoodIn wsX0_lackedHeads wsX0_valuesOf := goodIn_r _ [6, 7, 8, 9, 10, 11, 12, 13, 14, 15] (by decide +kernel) (by decide +kernel)
set_option maxRecDepth 20000 in
theorem gX0_lackedHeads_X0_valuesOf : GoodIn wsX0_lackedHeads (wsV RX0 80 RX0 yX0_valuesOf wsX0_valuesOf) := goodIn_app (goodIn_of _ (by decide +kernel)) ggX0_lackedHeads_X0_valuesOf
theorem dX0_lackedHeads_0 : decode cX0_lackedHeads 0 = .ok (.iconst 0, 1) := by decide +kernel
theorem dX0_lackedHeads_1 : decode cX0_lackedHeads 1 = .ok (.istore_n 2, 1) := by decide +kernel
theorem dX0_lackedHeads_2 : decode cX0_lackedHeads 2 = .ok (.iconst 0, 1) := by decide +kernel
theorem dX0_lackedHeads_3 : decode cX0_lackedHeads 3 = .ok (.istore_n 3, 1) := by decide +kernel
theorem dX0_lackedHeads_4 : decode cX0_lackedHeads 4 = .ok (.iload_n 3, 1) := by decide +kernel
theorem dX0_lackedHeads_5 : decode cX0_lackedHeads 5 = .ok (.bipush 8, 2) := by decide +kernel
theorem dX0_lackedHeads_7 : decode cX0_lackedHeads 7 = .ok (.if_icmp .ge 40, 3) := by decide +kernel
theorem dX0_lackedHeads_10 : decode cX0_lackedHeads 10 = .ok (.aload_n 0, 1) := by decide +kernel
theorem dX0_lackedHeads_11 : decode cX0_lackedHeads 11 = .ok (.getfield 19, 3) := by decide +kernel
theorem dX0_lackedHeads_14 : decode cX0_lackedHeads 14 = .ok (.iload_n 3, 1) := by decide +kernel
theorem dX0_lackedHeads_15 : decode cX0_lackedHeads 15 = .ok (.iaload, 1) := by decide +kernel
theorem dX0_lackedHeads_16 : decode cX0_lackedHeads 16 = .ok (.ifCond .eq 25, 3) := by decide +kernel
theorem dX0_lackedHeads_19 : decode cX0_lackedHeads 19 = .ok (.aload_n 0, 1) := by decide +kernel
theorem dX0_lackedHeads_20 : decode cX0_lackedHeads 20 = .ok (.getfield 19, 3) := by decide +kernel
theorem dX0_lackedHeads_23 : decode cX0_lackedHeads 23 = .ok (.iload_n 3, 1) := by decide +kernel
theorem dX0_lackedHeads_24 : decode cX0_lackedHeads 24 = .ok (.iaload, 1) := by decide +kernel
theorem dX0_lackedHeads_25 : decode cX0_lackedHeads 25 = .ok (.aload_n 0, 1) := by decide +kernel
theorem dX0_lackedHeads_26 : decode cX0_lackedHeads 26 = .ok (.iload_n 1, 1) := by decide +kernel
theorem dX0_lackedHeads_27 : decode cX0_lackedHeads 27 = .ok (.iload_n 3, 1) := by decide +kernel
theorem dX0_lackedHeads_28 : decode cX0_lackedHeads 28 = .ok (.invokevirtual 80, 3) := by decide +kernel
theorem dX0_lackedHeads_31 : decode cX0_lackedHeads 31 = .ok (.iand, 1) := by decide +kernel
theorem dX0_lackedHeads_32 : decode cX0_lackedHeads 32 = .ok (.ifCond .ne 9, 3) := by decide +kernel
theorem dX0_lackedHeads_35 : decode cX0_lackedHeads 35 = .ok (.iload_n 2, 1) := by decide +kernel
theorem dX0_lackedHeads_36 : decode cX0_lackedHeads 36 = .ok (.iconst 1, 1) := by decide +kernel
theorem dX0_lackedHeads_37 : decode cX0_lackedHeads 37 = .ok (.iload_n 3, 1) := by decide +kernel
theorem dX0_lackedHeads_38 : decode cX0_lackedHeads 38 = .ok (.ishl, 1) := by decide +kernel
theorem dX0_lackedHeads_39 : decode cX0_lackedHeads 39 = .ok (.ior, 1) := by decide +kernel
theorem dX0_lackedHeads_40 : decode cX0_lackedHeads 40 = .ok (.istore_n 2, 1) := by decide +kernel
theorem dX0_lackedHeads_41 : decode cX0_lackedHeads 41 = .ok (.iinc 3 1, 3) := by decide +kernel
theorem dX0_lackedHeads_44 : decode cX0_lackedHeads 44 = .ok (.goto (-40), 3) := by decide +kernel
theorem dX0_lackedHeads_47 : decode cX0_lackedHeads 47 = .ok (.iload_n 2, 1) := by decide +kernel
theorem dX0_lackedHeads_48 : decode cX0_lackedHeads 48 = .ok (.ireturn, 1) := by decide +kernel
set_option maxRecDepth 20000 in
theorem ggX0_isKeptBut_X0_lackedHeads : GoodIn wsX0_isKeptBut wsX0_lackedHeads := goodIn_r _ [5, 6, 7, 8, 9, 4, 10, 11, 12, 13, 14, 15, 16, 17, 18, 19] (by decide +kernel) (by decide +kernel)
set_option maxRecDepth 20000 in
theorem gX0_isKeptBut_X0_lackedHeads : GoodIn wsX0_isKeptBut (wsV RX0 64 RX0 yX0_lackedHeads wsX0_lackedHeads) := goodIn_app (goodIn_of _ (by decide +kernel)) ggX0_isKeptBut_X0_lackedHeads
theorem dX0_isKeptBut_0 : decode cX0_isKeptBut 0 = .ok (.aload_n 0, 1) := by decide +kernel
theorem dX0_isKeptBut_1 : decode cX0_isKeptBut 1 = .ok (.iload_n 1, 1) := by decide +kernel
theorem dX0_isKeptBut_2 : decode cX0_isKeptBut 2 = .ok (.invokevirtual 64, 3) := by decide +kernel
theorem dX0_isKeptBut_5 : decode cX0_isKeptBut 5 = .ok (.iconst 1, 1) := by decide +kernel
theorem dX0_isKeptBut_6 : decode cX0_isKeptBut 6 = .ok (.iload_n 2, 1) := by decide +kernel
theorem dX0_isKeptBut_7 : decode cX0_isKeptBut 7 = .ok (.ishl, 1) := by decide +kernel
theorem dX0_isKeptBut_8 : decode cX0_isKeptBut 8 = .ok (.iconst (-1), 1) := by decide +kernel
theorem dX0_isKeptBut_9 : decode cX0_isKeptBut 9 = .ok (.ixor, 1) := by decide +kernel
theorem dX0_isKeptBut_10 : decode cX0_isKeptBut 10 = .ok (.iand, 1) := by decide +kernel
theorem dX0_isKeptBut_11 : decode cX0_isKeptBut 11 = .ok (.ifCond .ne 7, 3) := by decide +kernel
theorem dX0_isKeptBut_14 : decode cX0_isKeptBut 14 = .ok (.iconst 1, 1) := by decide +kernel
theorem dX0_isKeptBut_15 : decode cX0_isKeptBut 15 = .ok (.goto 4, 3) := by decide +kernel
theorem dX0_isKeptBut_18 : decode cX0_isKeptBut 18 = .ok (.iconst 0, 1) := by decide +kernel
theorem dX0_isKeptBut_19 : decode cX0_isKeptBut 19 = .ok (.ireturn, 1) := by decide +kernel
set_option maxRecDepth 20000 in
theorem ggX0_countKept_X0_lackedHeads : GoodIn wsX0_countKept wsX0_lackedHeads := goodIn_r _ [5, 6, 7, 8, 9, 4, 10, 11, 12, 13, 14, 15, 16, 17, 18, 19] (by decide +kernel) (by decide +kernel)
set_option maxRecDepth 20000 in
theorem gX0_countKept_X0_lackedHeads : GoodIn wsX0_countKept (wsV RX0 64 RX0 yX0_lackedHeads wsX0_lackedHeads) := goodIn_app (goodIn_of _ (by decide +kernel)) ggX0_countKept_X0_lackedHeads
theorem dX0_countKept_0 : decode cX0_countKept 0 = .ok (.iconst 0, 1) := by decide +kernel
theorem dX0_countKept_1 : decode cX0_countKept 1 = .ok (.istore_n 1, 1) := by decide +kernel
theorem dX0_countKept_2 : decode cX0_countKept 2 = .ok (.iconst 0, 1) := by decide +kernel
theorem dX0_countKept_3 : decode cX0_countKept 3 = .ok (.istore_n 2, 1) := by decide +kernel
theorem dX0_countKept_4 : decode cX0_countKept 4 = .ok (.iload_n 2, 1) := by decide +kernel
theorem dX0_countKept_5 : decode cX0_countKept 5 = .ok (.bipush 40, 2) := by decide +kernel
theorem dX0_countKept_7 : decode cX0_countKept 7 = .ok (.if_icmp .ge 20, 3) := by decide +kernel
theorem dX0_countKept_10 : decode cX0_countKept 10 = .ok (.aload_n 0, 1) := by decide +kernel
theorem dX0_countKept_11 : decode cX0_countKept 11 = .ok (.iload_n 2, 1) := by decide +kernel
theorem dX0_countKept_12 : decode cX0_countKept 12 = .ok (.invokevirtual 64, 3) := by decide +kernel
theorem dX0_countKept_15 : decode cX0_countKept 15 = .ok (.ifCond .ne 6, 3) := by decide +kernel
theorem dX0_countKept_18 : decode cX0_countKept 18 = .ok (.iinc 1 1, 3) := by decide +kernel
theorem dX0_countKept_21 : decode cX0_countKept 21 = .ok (.iinc 2 1, 3) := by decide +kernel
theorem dX0_countKept_24 : decode cX0_countKept 24 = .ok (.goto (-20), 3) := by decide +kernel
theorem dX0_countKept_27 : decode cX0_countKept 27 = .ok (.iload_n 1, 1) := by decide +kernel
theorem dX0_countKept_28 : decode cX0_countKept 28 = .ok (.ireturn, 1) := by decide +kernel
set_option maxRecDepth 20000 in
theorem ggX0_countKeptBut_X0_isKeptBut : GoodIn wsX0_countKeptBut wsX0_isKeptBut := goodIn_r _ [5, 6, 7, 8, 4, 9, 10, 11, 12, 13, 14, 15, 16, 17, 18, 19, 20, 21, 22, 23] (by decide +kernel) (by decide +kernel)
set_option maxRecDepth 20000 in
theorem gX0_countKeptBut_X0_isKeptBut : GoodIn wsX0_countKeptBut (wsV RX0 102 RX0 yX0_isKeptBut wsX0_isKeptBut) := goodIn_app (goodIn_of _ (by decide +kernel)) ggX0_countKeptBut_X0_isKeptBut
theorem dX0_countKeptBut_0 : decode cX0_countKeptBut 0 = .ok (.iconst 0, 1) := by decide +kernel
theorem dX0_countKeptBut_1 : decode cX0_countKeptBut 1 = .ok (.istore_n 2, 1) := by decide +kernel
theorem dX0_countKeptBut_2 : decode cX0_countKeptBut 2 = .ok (.iconst 0, 1) := by decide +kernel
theorem dX0_countKeptBut_3 : decode cX0_countKeptBut 3 = .ok (.istore_n 3, 1) := by decide +kernel
theorem dX0_countKeptBut_4 : decode cX0_countKeptBut 4 = .ok (.iload_n 3, 1) := by decide +kernel
theorem dX0_countKeptBut_5 : decode cX0_countKeptBut 5 = .ok (.bipush 40, 2) := by decide +kernel
theorem dX0_countKeptBut_7 : decode cX0_countKeptBut 7 = .ok (.if_icmp .ge 21, 3) := by decide +kernel
theorem dX0_countKeptBut_10 : decode cX0_countKeptBut 10 = .ok (.aload_n 0, 1) := by decide +kernel
theorem dX0_countKeptBut_11 : decode cX0_countKeptBut 11 = .ok (.iload_n 3, 1) := by decide +kernel
theorem dX0_countKeptBut_12 : decode cX0_countKeptBut 12 = .ok (.iload_n 1, 1) := by decide +kernel
theorem dX0_countKeptBut_13 : decode cX0_countKeptBut 13 = .ok (.invokevirtual 102, 3) := by decide +kernel
theorem dX0_countKeptBut_16 : decode cX0_countKeptBut 16 = .ok (.ifCond .eq 6, 3) := by decide +kernel
theorem dX0_countKeptBut_19 : decode cX0_countKeptBut 19 = .ok (.iinc 2 1, 3) := by decide +kernel
theorem dX0_countKeptBut_22 : decode cX0_countKeptBut 22 = .ok (.iinc 3 1, 3) := by decide +kernel
theorem dX0_countKeptBut_25 : decode cX0_countKeptBut 25 = .ok (.goto (-21), 3) := by decide +kernel
theorem dX0_countKeptBut_28 : decode cX0_countKeptBut 28 = .ok (.iload_n 2, 1) := by decide +kernel
theorem dX0_countKeptBut_29 : decode cX0_countKeptBut 29 = .ok (.ireturn, 1) := by decide +kernel
set_option maxRecDepth 20000 in
theorem ggX0_countWithAny_X0_valuesOf : GoodIn wsX0_countWithAny wsX0_valuesOf := goodIn_r _ [5, 6, 7, 17, 18, 19, 20, 21, 22, 23] (by decide +kernel) (by decide +kernel)
set_option maxRecDepth 20000 in
theorem gX0_countWithAny_X0_valuesOf : GoodIn wsX0_countWithAny (wsV RX0 80 RX0 yX0_valuesOf wsX0_valuesOf) := goodIn_app (goodIn_of _ (by decide +kernel)) ggX0_countWithAny_X0_valuesOf
set_option maxRecDepth 20000 in
theorem ggX0_countWithAny_X0_isKeptBut : GoodIn wsX0_countWithAny wsX0_isKeptBut := goodIn_r _ [11, 12, 13, 14, 4, 15, 16, 1, 2, 3, 5, 6, 7, 17, 18, 19, 20, 21, 22, 23] (by decide +kernel) (by decide +kernel)
set_option maxRecDepth 20000 in
theorem gX0_countWithAny_X0_isKeptBut : GoodIn wsX0_countWithAny (wsV RX0 102 RX0 yX0_isKeptBut wsX0_isKeptBut) := goodIn_app (goodIn_of _ (by decide +kernel)) ggX0_countWithAny_X0_isKeptBut
theorem dX0_countWithAny_0 : decode cX0_countWithAny 0 = .ok (.iconst 0, 1) := by decide +kernel
theorem dX0_countWithAny_1 : decode cX0_countWithAny 1 = .ok (.istore_n 3, 1) := by decide +kernel
theorem dX0_countWithAny_2 : decode cX0_countWithAny 2 = .ok (.iconst 0, 1) := by decide +kernel
theorem dX0_countWithAny_3 : decode cX0_countWithAny 3 = .ok (.istore 4, 2) := by decide +kernel
theorem dX0_countWithAny_5 : decode cX0_countWithAny 5 = .ok (.iload 4, 2) := by decide +kernel
theorem dX0_countWithAny_7 : decode cX0_countWithAny 7 = .ok (.bipush 40, 2) := by decide +kernel
theorem dX0_countWithAny_9 : decode cX0_countWithAny 9 = .ok (.if_icmp .ge 34, 3) := by decide +kernel
theorem dX0_countWithAny_12 : decode cX0_countWithAny 12 = .ok (.aload_n 0, 1) := by decide +kernel
theorem dX0_countWithAny_13 : decode cX0_countWithAny 13 = .ok (.iload 4, 2) := by decide +kernel
theorem dX0_countWithAny_15 : decode cX0_countWithAny 15 = .ok (.iload_n 1, 1) := by decide +kernel
theorem dX0_countWithAny_16 : decode cX0_countWithAny 16 = .ok (.invokevirtual 80, 3) := by decide +kernel
theorem dX0_countWithAny_19 : decode cX0_countWithAny 19 = .ok (.iload_n 2, 1) := by decide +kernel
theorem dX0_countWithAny_20 : decode cX0_countWithAny 20 = .ok (.iand, 1) := by decide +kernel
theorem dX0_countWithAny_21 : decode cX0_countWithAny 21 = .ok (.ifCond .eq 16, 3) := by decide +kernel
theorem dX0_countWithAny_24 : decode cX0_countWithAny 24 = .ok (.aload_n 0, 1) := by decide +kernel
theorem dX0_countWithAny_25 : decode cX0_countWithAny 25 = .ok (.iload 4, 2) := by decide +kernel
theorem dX0_countWithAny_27 : decode cX0_countWithAny 27 = .ok (.iload_n 1, 1) := by decide +kernel
theorem dX0_countWithAny_28 : decode cX0_countWithAny 28 = .ok (.invokevirtual 102, 3) := by decide +kernel
theorem dX0_countWithAny_31 : decode cX0_countWithAny 31 = .ok (.ifCond .eq 6, 3) := by decide +kernel
theorem dX0_countWithAny_34 : decode cX0_countWithAny 34 = .ok (.iinc 3 1, 3) := by decide +kernel
theorem dX0_countWithAny_37 : decode cX0_countWithAny 37 = .ok (.iinc 4 1, 3) := by decide +kernel
theorem dX0_countWithAny_40 : decode cX0_countWithAny 40 = .ok (.goto (-35), 3) := by decide +kernel
theorem dX0_countWithAny_43 : decode cX0_countWithAny 43 = .ok (.iload_n 3, 1) := by decide +kernel
theorem dX0_countWithAny_44 : decode cX0_countWithAny 44 = .ok (.ireturn, 1) := by decide +kernel
set_option maxRecDepth 20000 in
theorem ggX0_countAll_J7_fill_53178 : GoodIn wsX0_countAll wsJ7_fill_53178 := goodIn_r _ [5] (by decide +kernel) (by decide +kernel)
set_option maxRecDepth 20000 in
theorem gX0_countAll_J7_fill_53178 : GoodIn wsX0_countAll (va_wsS RX0 32 yJ7_fill_53178 wsJ7_fill_53178) := goodIn_app (goodIn_of _ (by decide +kernel)) ggX0_countAll_J7_fill_53178
set_option maxRecDepth 20000 in
theorem ggX0_countAll_X0_lackedHeads : GoodIn wsX0_countAll wsX0_lackedHeads := goodIn_r _ [10, 11, 12, 13, 14, 9, 15, 16, 17, 25, 26, 27, 28, 29, 30, 31] (by decide +kernel) (by decide +kernel)
set_option maxRecDepth 20000 in
theorem gX0_countAll_X0_lackedHeads : GoodIn wsX0_countAll (wsV RX0 64 RX0 yX0_lackedHeads wsX0_lackedHeads) := goodIn_app (goodIn_of _ (by decide +kernel)) ggX0_countAll_X0_lackedHeads
set_option maxRecDepth 20000 in
theorem ggX0_countAll_X0_valuesOf : GoodIn wsX0_countAll wsX0_valuesOf := goodIn_r _ [15, 16, 17, 25, 26, 27, 28, 29, 30, 31] (by decide +kernel) (by decide +kernel)
set_option maxRecDepth 20000 in
theorem gX0_countAll_X0_valuesOf : GoodIn wsX0_countAll (wsV RX0 80 RX0 yX0_valuesOf wsX0_valuesOf) := goodIn_app (goodIn_of _ (by decide +kernel)) ggX0_countAll_X0_valuesOf
set_option maxRecDepth 20000 in
theorem ggX0_countAll_X0_countValues : GoodIn wsX0_countAll wsX0_countValues := goodIn_r _ [21, 1, 22, 23, 9, 24, 25, 26, 27, 28, 29, 30, 31] (by decide +kernel) (by decide +kernel)
set_option maxRecDepth 20000 in
theorem gX0_countAll_X0_countValues : GoodIn wsX0_countAll (wsV RX0 105 RX0 yX0_countValues wsX0_countValues) := goodIn_app (goodIn_of _ (by decide +kernel)) ggX0_countAll_X0_countValues
theorem dX0_countAll_0 : decode cX0_countAll 0 = .ok (.aload_n 0, 1) := by decide +kernel
theorem dX0_countAll_1 : decode cX0_countAll 1 = .ok (.getfield 25, 3) := by decide +kernel
theorem dX0_countAll_4 : decode cX0_countAll 4 = .ok (.iconst 0, 1) := by decide +kernel
theorem dX0_countAll_5 : decode cX0_countAll 5 = .ok (.invokestatic 32, 3) := by decide +kernel
theorem dX0_countAll_8 : decode cX0_countAll 8 = .ok (.iconst 0, 1) := by decide +kernel
theorem dX0_countAll_9 : decode cX0_countAll 9 = .ok (.istore_n 1, 1) := by decide +kernel
theorem dX0_countAll_10 : decode cX0_countAll 10 = .ok (.iload_n 1, 1) := by decide +kernel
theorem dX0_countAll_11 : decode cX0_countAll 11 = .ok (.bipush 40, 2) := by decide +kernel
theorem dX0_countAll_13 : decode cX0_countAll 13 = .ok (.if_icmp .ge 50, 3) := by decide +kernel
theorem dX0_countAll_16 : decode cX0_countAll 16 = .ok (.aload_n 0, 1) := by decide +kernel
theorem dX0_countAll_17 : decode cX0_countAll 17 = .ok (.iload_n 1, 1) := by decide +kernel
theorem dX0_countAll_18 : decode cX0_countAll 18 = .ok (.invokevirtual 64, 3) := by decide +kernel
theorem dX0_countAll_21 : decode cX0_countAll 21 = .ok (.istore_n 2, 1) := by decide +kernel
theorem dX0_countAll_22 : decode cX0_countAll 22 = .ok (.iconst 0, 1) := by decide +kernel
theorem dX0_countAll_23 : decode cX0_countAll 23 = .ok (.istore_n 3, 1) := by decide +kernel
theorem dX0_countAll_24 : decode cX0_countAll 24 = .ok (.iload_n 3, 1) := by decide +kernel
theorem dX0_countAll_25 : decode cX0_countAll 25 = .ok (.bipush 8, 2) := by decide +kernel
theorem dX0_countAll_27 : decode cX0_countAll 27 = .ok (.if_icmp .ge 30, 3) := by decide +kernel
theorem dX0_countAll_30 : decode cX0_countAll 30 = .ok (.iload_n 2, 1) := by decide +kernel
theorem dX0_countAll_31 : decode cX0_countAll 31 = .ok (.iconst 1, 1) := by decide +kernel
theorem dX0_countAll_32 : decode cX0_countAll 32 = .ok (.iload_n 3, 1) := by decide +kernel
theorem dX0_countAll_33 : decode cX0_countAll 33 = .ok (.ishl, 1) := by decide +kernel
theorem dX0_countAll_34 : decode cX0_countAll 34 = .ok (.iconst (-1), 1) := by decide +kernel
theorem dX0_countAll_35 : decode cX0_countAll 35 = .ok (.ixor, 1) := by decide +kernel
theorem dX0_countAll_36 : decode cX0_countAll 36 = .ok (.iand, 1) := by decide +kernel
theorem dX0_countAll_37 : decode cX0_countAll 37 = .ok (.ifCond .ne 14, 3) := by decide +kernel
theorem dX0_countAll_40 : decode cX0_countAll 40 = .ok (.aload_n 0, 1) := by decide +kernel
theorem dX0_countAll_41 : decode cX0_countAll 41 = .ok (.iload_n 3, 1) := by decide +kernel
theorem dX0_countAll_42 : decode cX0_countAll 42 = .ok (.aload_n 0, 1) := by decide +kernel
theorem dX0_countAll_43 : decode cX0_countAll 43 = .ok (.iload_n 1, 1) := by decide +kernel
theorem dX0_countAll_44 : decode cX0_countAll 44 = .ok (.iload_n 3, 1) := by decide +kernel
theorem dX0_countAll_45 : decode cX0_countAll 45 = .ok (.invokevirtual 80, 3) := by decide +kernel
theorem dX0_countAll_48 : decode cX0_countAll 48 = .ok (.invokevirtual 105, 3) := by decide +kernel
theorem dX0_countAll_51 : decode cX0_countAll 51 = .ok (.iinc 3 1, 3) := by decide +kernel
theorem dX0_countAll_54 : decode cX0_countAll 54 = .ok (.goto (-30), 3) := by decide +kernel
theorem dX0_countAll_57 : decode cX0_countAll 57 = .ok (.iinc 1 1, 3) := by decide +kernel
theorem dX0_countAll_60 : decode cX0_countAll 60 = .ok (.goto (-50), 3) := by decide +kernel
theorem dX0_countAll_63 : decode cX0_countAll 63 = .ok (.return_, 1) := by decide +kernel
set_option maxRecDepth 20000 in
theorem ggX0_countValues_X0_holds : GoodIn wsX0_countValues wsX0_holds := goodIn_r _ [5] (by decide +kernel) (by decide +kernel)
set_option maxRecDepth 20000 in
theorem gX0_countValues_X0_holds : GoodIn wsX0_countValues (va_wsS RX0 48 yX0_holds wsX0_holds) := goodIn_app (goodIn_of _ (by decide +kernel)) ggX0_countValues_X0_holds
theorem dX0_countValues_0 : decode cX0_countValues 0 = .ok (.iload_n 2, 1) := by decide +kernel
theorem dX0_countValues_1 : decode cX0_countValues 1 = .ok (.ifCond .ne 4, 3) := by decide +kernel
theorem dX0_countValues_4 : decode cX0_countValues 4 = .ok (.return_, 1) := by decide +kernel
theorem dX0_countValues_5 : decode cX0_countValues 5 = .ok (.iconst 0, 1) := by decide +kernel
theorem dX0_countValues_6 : decode cX0_countValues 6 = .ok (.istore_n 3, 1) := by decide +kernel
theorem dX0_countValues_7 : decode cX0_countValues 7 = .ok (.iload_n 3, 1) := by decide +kernel
theorem dX0_countValues_8 : decode cX0_countValues 8 = .ok (.bipush 32, 2) := by decide +kernel
theorem dX0_countValues_10 : decode cX0_countValues 10 = .ok (.if_icmp .ge 32, 3) := by decide +kernel
theorem dX0_countValues_13 : decode cX0_countValues 13 = .ok (.iload_n 2, 1) := by decide +kernel
theorem dX0_countValues_14 : decode cX0_countValues 14 = .ok (.iload_n 3, 1) := by decide +kernel
theorem dX0_countValues_15 : decode cX0_countValues 15 = .ok (.invokestatic 48, 3) := by decide +kernel
theorem dX0_countValues_18 : decode cX0_countValues 18 = .ok (.ifCond .eq 18, 3) := by decide +kernel
theorem dX0_countValues_21 : decode cX0_countValues 21 = .ok (.aload_n 0, 1) := by decide +kernel
theorem dX0_countValues_22 : decode cX0_countValues 22 = .ok (.getfield 25, 3) := by decide +kernel
theorem dX0_countValues_25 : decode cX0_countValues 25 = .ok (.iload_n 1, 1) := by decide +kernel
theorem dX0_countValues_26 : decode cX0_countValues 26 = .ok (.bipush 32, 2) := by decide +kernel
theorem dX0_countValues_28 : decode cX0_countValues 28 = .ok (.imul, 1) := by decide +kernel
theorem dX0_countValues_29 : decode cX0_countValues 29 = .ok (.iload_n 3, 1) := by decide +kernel
theorem dX0_countValues_30 : decode cX0_countValues 30 = .ok (.iadd, 1) := by decide +kernel
theorem dX0_countValues_31 : decode cX0_countValues 31 = .ok (.dup2, 1) := by decide +kernel
theorem dX0_countValues_32 : decode cX0_countValues 32 = .ok (.iaload, 1) := by decide +kernel
theorem dX0_countValues_33 : decode cX0_countValues 33 = .ok (.iconst 1, 1) := by decide +kernel
theorem dX0_countValues_34 : decode cX0_countValues 34 = .ok (.iadd, 1) := by decide +kernel
theorem dX0_countValues_35 : decode cX0_countValues 35 = .ok (.iastore, 1) := by decide +kernel
theorem dX0_countValues_36 : decode cX0_countValues 36 = .ok (.iinc 3 1, 3) := by decide +kernel
theorem dX0_countValues_39 : decode cX0_countValues 39 = .ok (.goto (-32), 3) := by decide +kernel
theorem dX0_countValues_42 : decode cX0_countValues 42 = .ok (.return_, 1) := by decide +kernel
theorem dX0_rankOf_0 : decode cX0_rankOf 0 = .ok (.aload_n 0, 1) := by decide +kernel
theorem dX0_rankOf_1 : decode cX0_rankOf 1 = .ok (.getfield 25, 3) := by decide +kernel
theorem dX0_rankOf_4 : decode cX0_rankOf 4 = .ok (.iload_n 1, 1) := by decide +kernel
theorem dX0_rankOf_5 : decode cX0_rankOf 5 = .ok (.bipush 32, 2) := by decide +kernel
theorem dX0_rankOf_7 : decode cX0_rankOf 7 = .ok (.imul, 1) := by decide +kernel
theorem dX0_rankOf_8 : decode cX0_rankOf 8 = .ok (.iload_n 2, 1) := by decide +kernel
theorem dX0_rankOf_9 : decode cX0_rankOf 9 = .ok (.iadd, 1) := by decide +kernel
theorem dX0_rankOf_10 : decode cX0_rankOf 10 = .ok (.iaload, 1) := by decide +kernel
theorem dX0_rankOf_11 : decode cX0_rankOf 11 = .ok (.istore_n 3, 1) := by decide +kernel
theorem dX0_rankOf_12 : decode cX0_rankOf 12 = .ok (.iconst 0, 1) := by decide +kernel
theorem dX0_rankOf_13 : decode cX0_rankOf 13 = .ok (.istore 4, 2) := by decide +kernel
theorem dX0_rankOf_15 : decode cX0_rankOf 15 = .ok (.iconst 0, 1) := by decide +kernel
theorem dX0_rankOf_16 : decode cX0_rankOf 16 = .ok (.istore 5, 2) := by decide +kernel
theorem dX0_rankOf_18 : decode cX0_rankOf 18 = .ok (.iload 5, 2) := by decide +kernel
theorem dX0_rankOf_20 : decode cX0_rankOf 20 = .ok (.bipush 32, 2) := by decide +kernel
theorem dX0_rankOf_22 : decode cX0_rankOf 22 = .ok (.if_icmp .ge 44, 3) := by decide +kernel
theorem dX0_rankOf_25 : decode cX0_rankOf 25 = .ok (.aload_n 0, 1) := by decide +kernel
theorem dX0_rankOf_26 : decode cX0_rankOf 26 = .ok (.getfield 25, 3) := by decide +kernel
theorem dX0_rankOf_29 : decode cX0_rankOf 29 = .ok (.iload_n 1, 1) := by decide +kernel
theorem dX0_rankOf_30 : decode cX0_rankOf 30 = .ok (.bipush 32, 2) := by decide +kernel
theorem dX0_rankOf_32 : decode cX0_rankOf 32 = .ok (.imul, 1) := by decide +kernel
theorem dX0_rankOf_33 : decode cX0_rankOf 33 = .ok (.iload 5, 2) := by decide +kernel
theorem dX0_rankOf_35 : decode cX0_rankOf 35 = .ok (.iadd, 1) := by decide +kernel
theorem dX0_rankOf_36 : decode cX0_rankOf 36 = .ok (.iaload, 1) := by decide +kernel
theorem dX0_rankOf_37 : decode cX0_rankOf 37 = .ok (.istore 6, 2) := by decide +kernel
theorem dX0_rankOf_39 : decode cX0_rankOf 39 = .ok (.iload 6, 2) := by decide +kernel
theorem dX0_rankOf_41 : decode cX0_rankOf 41 = .ok (.iload_n 3, 1) := by decide +kernel
theorem dX0_rankOf_42 : decode cX0_rankOf 42 = .ok (.if_icmp .gt 15, 3) := by decide +kernel
theorem dX0_rankOf_45 : decode cX0_rankOf 45 = .ok (.iload 6, 2) := by decide +kernel
theorem dX0_rankOf_47 : decode cX0_rankOf 47 = .ok (.iload_n 3, 1) := by decide +kernel
theorem dX0_rankOf_48 : decode cX0_rankOf 48 = .ok (.if_icmp .ne 12, 3) := by decide +kernel
theorem dX0_rankOf_51 : decode cX0_rankOf 51 = .ok (.iload 5, 2) := by decide +kernel
theorem dX0_rankOf_53 : decode cX0_rankOf 53 = .ok (.iload_n 2, 1) := by decide +kernel
theorem dX0_rankOf_54 : decode cX0_rankOf 54 = .ok (.if_icmp .ge 6, 3) := by decide +kernel
theorem dX0_rankOf_57 : decode cX0_rankOf 57 = .ok (.iinc 4 1, 3) := by decide +kernel
theorem dX0_rankOf_60 : decode cX0_rankOf 60 = .ok (.iinc 5 1, 3) := by decide +kernel
theorem dX0_rankOf_63 : decode cX0_rankOf 63 = .ok (.goto (-45), 3) := by decide +kernel
theorem dX0_rankOf_66 : decode cX0_rankOf 66 = .ok (.iload 4, 2) := by decide +kernel
theorem dX0_rankOf_68 : decode cX0_rankOf 68 = .ok (.ireturn, 1) := by decide +kernel
theorem dX0_span_0 : decode cX0_span 0 = .ok (.iload_n 0, 1) := by decide +kernel
theorem dX0_span_1 : decode cX0_span 1 = .ok (.iconst 0, 1) := by decide +kernel
theorem dX0_span_2 : decode cX0_span 2 = .ok (.invokestatic 109, 3) := by decide +kernel
theorem dX0_span_5 : decode cX0_span 5 = .ok (.istore_n 2, 1) := by decide +kernel
theorem dX0_span_6 : decode cX0_span 6 = .ok (.iload_n 1, 1) := by decide +kernel
theorem dX0_span_7 : decode cX0_span 7 = .ok (.bipush 31, 2) := by decide +kernel
theorem dX0_span_9 : decode cX0_span 9 = .ok (.invokestatic 114, 3) := by decide +kernel
theorem dX0_span_12 : decode cX0_span 12 = .ok (.istore_n 3, 1) := by decide +kernel
theorem dX0_span_13 : decode cX0_span 13 = .ok (.iconst 0, 1) := by decide +kernel
theorem dX0_span_14 : decode cX0_span 14 = .ok (.istore 4, 2) := by decide +kernel
theorem dX0_span_16 : decode cX0_span 16 = .ok (.iload_n 2, 1) := by decide +kernel
theorem dX0_span_17 : decode cX0_span 17 = .ok (.istore 5, 2) := by decide +kernel
theorem dX0_span_19 : decode cX0_span 19 = .ok (.iload 5, 2) := by decide +kernel
theorem dX0_span_21 : decode cX0_span 21 = .ok (.iload_n 3, 1) := by decide +kernel
theorem dX0_span_22 : decode cX0_span 22 = .ok (.if_icmp .gt 18, 3) := by decide +kernel
theorem dX0_span_25 : decode cX0_span 25 = .ok (.iload 4, 2) := by decide +kernel
theorem dX0_span_27 : decode cX0_span 27 = .ok (.iconst 1, 1) := by decide +kernel
theorem dX0_span_28 : decode cX0_span 28 = .ok (.iload 5, 2) := by decide +kernel
theorem dX0_span_30 : decode cX0_span 30 = .ok (.ishl, 1) := by decide +kernel
theorem dX0_span_31 : decode cX0_span 31 = .ok (.ior, 1) := by decide +kernel
theorem dX0_span_32 : decode cX0_span 32 = .ok (.istore 4, 2) := by decide +kernel
theorem dX0_span_34 : decode cX0_span 34 = .ok (.iinc 5 1, 3) := by decide +kernel
theorem dX0_span_37 : decode cX0_span 37 = .ok (.goto (-18), 3) := by decide +kernel
theorem dX0_span_40 : decode cX0_span 40 = .ok (.iload 4, 2) := by decide +kernel
theorem dX0_span_42 : decode cX0_span 42 = .ok (.ireturn, 1) := by decide +kernel
set_option maxRecDepth 20000 in
theorem ggX0_sumOf_X0_holds : GoodIn wsX0_sumOf wsX0_holds := goodIn_r _ [4] (by decide +kernel) (by decide +kernel)
set_option maxRecDepth 20000 in
theorem gX0_sumOf_X0_holds : GoodIn wsX0_sumOf (va_wsS RX0 48 yX0_holds wsX0_holds) := goodIn_app (goodIn_of _ (by decide +kernel)) ggX0_sumOf_X0_holds
theorem dX0_sumOf_0 : decode cX0_sumOf 0 = .ok (.iconst 0, 1) := by decide +kernel
theorem dX0_sumOf_1 : decode cX0_sumOf 1 = .ok (.istore_n 1, 1) := by decide +kernel
theorem dX0_sumOf_2 : decode cX0_sumOf 2 = .ok (.iconst 0, 1) := by decide +kernel
theorem dX0_sumOf_3 : decode cX0_sumOf 3 = .ok (.istore_n 2, 1) := by decide +kernel
theorem dX0_sumOf_4 : decode cX0_sumOf 4 = .ok (.iload_n 2, 1) := by decide +kernel
theorem dX0_sumOf_5 : decode cX0_sumOf 5 = .ok (.bipush 32, 2) := by decide +kernel
theorem dX0_sumOf_7 : decode cX0_sumOf 7 = .ok (.if_icmp .ge 21, 3) := by decide +kernel
theorem dX0_sumOf_10 : decode cX0_sumOf 10 = .ok (.iload_n 0, 1) := by decide +kernel
theorem dX0_sumOf_11 : decode cX0_sumOf 11 = .ok (.iload_n 2, 1) := by decide +kernel
theorem dX0_sumOf_12 : decode cX0_sumOf 12 = .ok (.invokestatic 48, 3) := by decide +kernel
theorem dX0_sumOf_15 : decode cX0_sumOf 15 = .ok (.ifCond .eq 7, 3) := by decide +kernel
theorem dX0_sumOf_18 : decode cX0_sumOf 18 = .ok (.iload_n 1, 1) := by decide +kernel
theorem dX0_sumOf_19 : decode cX0_sumOf 19 = .ok (.iload_n 2, 1) := by decide +kernel
theorem dX0_sumOf_20 : decode cX0_sumOf 20 = .ok (.iadd, 1) := by decide +kernel
theorem dX0_sumOf_21 : decode cX0_sumOf 21 = .ok (.istore_n 1, 1) := by decide +kernel
theorem dX0_sumOf_22 : decode cX0_sumOf 22 = .ok (.iinc 2 1, 3) := by decide +kernel
theorem dX0_sumOf_25 : decode cX0_sumOf 25 = .ok (.goto (-21), 3) := by decide +kernel
theorem dX0_sumOf_28 : decode cX0_sumOf 28 = .ok (.iload_n 1, 1) := by decide +kernel
theorem dX0_sumOf_29 : decode cX0_sumOf 29 = .ok (.ireturn, 1) := by decide +kernel
theorem dX0_inLeastTerms_0 : decode cX0_inLeastTerms 0 = .ok (.iload_n 2, 1) := by decide +kernel
theorem dX0_inLeastTerms_1 : decode cX0_inLeastTerms 1 = .ok (.istore_n 3, 1) := by decide +kernel
theorem dX0_inLeastTerms_2 : decode cX0_inLeastTerms 2 = .ok (.iload_n 3, 1) := by decide +kernel
theorem dX0_inLeastTerms_3 : decode cX0_inLeastTerms 3 = .ok (.iconst 1, 1) := by decide +kernel
theorem dX0_inLeastTerms_4 : decode cX0_inLeastTerms 4 = .ok (.if_icmp .le 25, 3) := by decide +kernel
theorem dX0_inLeastTerms_7 : decode cX0_inLeastTerms 7 = .ok (.iload_n 1, 1) := by decide +kernel
theorem dX0_inLeastTerms_8 : decode cX0_inLeastTerms 8 = .ok (.iload_n 3, 1) := by decide +kernel
theorem dX0_inLeastTerms_9 : decode cX0_inLeastTerms 9 = .ok (.irem, 1) := by decide +kernel
theorem dX0_inLeastTerms_10 : decode cX0_inLeastTerms 10 = .ok (.ifCond .ne 13, 3) := by decide +kernel
theorem dX0_inLeastTerms_13 : decode cX0_inLeastTerms 13 = .ok (.iload_n 2, 1) := by decide +kernel
theorem dX0_inLeastTerms_14 : decode cX0_inLeastTerms 14 = .ok (.iload_n 3, 1) := by decide +kernel
theorem dX0_inLeastTerms_15 : decode cX0_inLeastTerms 15 = .ok (.irem, 1) := by decide +kernel
theorem dX0_inLeastTerms_16 : decode cX0_inLeastTerms 16 = .ok (.ifCond .ne 7, 3) := by decide +kernel
theorem dX0_inLeastTerms_19 : decode cX0_inLeastTerms 19 = .ok (.iload_n 0, 1) := by decide +kernel
theorem dX0_inLeastTerms_20 : decode cX0_inLeastTerms 20 = .ok (.iload_n 3, 1) := by decide +kernel
theorem dX0_inLeastTerms_21 : decode cX0_inLeastTerms 21 = .ok (.idiv, 1) := by decide +kernel
theorem dX0_inLeastTerms_22 : decode cX0_inLeastTerms 22 = .ok (.ireturn, 1) := by decide +kernel
theorem dX0_inLeastTerms_23 : decode cX0_inLeastTerms 23 = .ok (.iinc 3 (-1), 3) := by decide +kernel
theorem dX0_inLeastTerms_26 : decode cX0_inLeastTerms 26 = .ok (.goto (-24), 3) := by decide +kernel
theorem dX0_inLeastTerms_29 : decode cX0_inLeastTerms 29 = .ok (.iload_n 0, 1) := by decide +kernel
theorem dX0_inLeastTerms_30 : decode cX0_inLeastTerms 30 = .ok (.ireturn, 1) := by decide +kernel
theorem dJ9_max_7cf53_0 : decode cJ9_max_7cf53 0 = .ok (.iload_n 0, 1) := by decide +kernel
theorem dJ9_max_7cf53_1 : decode cJ9_max_7cf53 1 = .ok (.iload_n 1, 1) := by decide +kernel
theorem dJ9_max_7cf53_2 : decode cJ9_max_7cf53 2 = .ok (.if_icmp .lt 7, 3) := by decide +kernel
theorem dJ9_max_7cf53_5 : decode cJ9_max_7cf53 5 = .ok (.iload_n 0, 1) := by decide +kernel
theorem dJ9_max_7cf53_6 : decode cJ9_max_7cf53 6 = .ok (.goto 4, 3) := by decide +kernel
theorem dJ9_max_7cf53_9 : decode cJ9_max_7cf53 9 = .ok (.iload_n 1, 1) := by decide +kernel
theorem dJ9_max_7cf53_10 : decode cJ9_max_7cf53 10 = .ok (.ireturn, 1) := by decide +kernel
theorem dJ9_min_7cf53_0 : decode cJ9_min_7cf53 0 = .ok (.iload_n 0, 1) := by decide +kernel
theorem dJ9_min_7cf53_1 : decode cJ9_min_7cf53 1 = .ok (.iload_n 1, 1) := by decide +kernel
theorem dJ9_min_7cf53_2 : decode cJ9_min_7cf53 2 = .ok (.if_icmp .gt 7, 3) := by decide +kernel
theorem dJ9_min_7cf53_5 : decode cJ9_min_7cf53 5 = .ok (.iload_n 0, 1) := by decide +kernel
theorem dJ9_min_7cf53_6 : decode cJ9_min_7cf53 6 = .ok (.goto 4, 3) := by decide +kernel
theorem dJ9_min_7cf53_9 : decode cJ9_min_7cf53 9 = .ok (.iload_n 1, 1) := by decide +kernel
theorem dJ9_min_7cf53_10 : decode cJ9_min_7cf53 10 = .ok (.ireturn, 1) := by decide +kernel
theorem dJ7_fill_53178_0 : decode cJ7_fill_53178 0 = .ok (.iconst 0, 1) := by decide +kernel
theorem dJ7_fill_53178_1 : decode cJ7_fill_53178 1 = .ok (.istore_n 2, 1) := by decide +kernel
theorem dJ7_fill_53178_2 : decode cJ7_fill_53178 2 = .ok (.aload_n 0, 1) := by decide +kernel
theorem dJ7_fill_53178_3 : decode cJ7_fill_53178 3 = .ok (.arraylength, 1) := by decide +kernel
theorem dJ7_fill_53178_4 : decode cJ7_fill_53178 4 = .ok (.istore_n 3, 1) := by decide +kernel
theorem dJ7_fill_53178_5 : decode cJ7_fill_53178 5 = .ok (.iload_n 2, 1) := by decide +kernel
theorem dJ7_fill_53178_6 : decode cJ7_fill_53178 6 = .ok (.iload_n 3, 1) := by decide +kernel
theorem dJ7_fill_53178_7 : decode cJ7_fill_53178 7 = .ok (.if_icmp .ge 13, 3) := by decide +kernel
theorem dJ7_fill_53178_10 : decode cJ7_fill_53178 10 = .ok (.aload_n 0, 1) := by decide +kernel
theorem dJ7_fill_53178_11 : decode cJ7_fill_53178 11 = .ok (.iload_n 2, 1) := by decide +kernel
theorem dJ7_fill_53178_12 : decode cJ7_fill_53178 12 = .ok (.iload_n 1, 1) := by decide +kernel
theorem dJ7_fill_53178_13 : decode cJ7_fill_53178 13 = .ok (.iastore, 1) := by decide +kernel
theorem dJ7_fill_53178_14 : decode cJ7_fill_53178 14 = .ok (.iinc 2 1, 3) := by decide +kernel
theorem dJ7_fill_53178_17 : decode cJ7_fill_53178 17 = .ok (.goto (-12), 3) := by decide +kernel
theorem dJ7_fill_53178_20 : decode cJ7_fill_53178 20 = .ok (.return_, 1) := by decide +kernel
set_option maxRecDepth 20000 in
theorem ggL_share_X0_share : GoodIn wsL_share wsX0_share := goodIn_ca (goodIn_r _ [6, 7, 8, 9, 10, 5, 11, 12, 13, 14, 15, 16, 17, 18, 19, 20, 21, 22, 23, 24, 25, 26, 27, 28, 29, 30, 31, 32, 33, 34, 35, 36, 37, 38, 39, 40, 41, 42, 43, 44, 45, 46, 47] (by decide +kernel) (by decide +kernel)) (goodIn_sub (fun _ h => List.mem_cons_of_mem _ (List.mem_append_right _ h)) (by decide +kernel))
set_option maxRecDepth 20000 in
theorem gL_share_X0_share : GoodIn wsL_share (wsV RL 7 RX0 yX0_share wsX0_share) := goodIn_app (goodIn_of _ (by decide +kernel)) ggL_share_X0_share
theorem dL_share_0 : decode cL_share 0 = .ok (.aload 4, 2) := by decide +kernel
theorem dL_share_2 : decode cL_share 2 = .ok (.iconst 0, 1) := by decide +kernel
theorem dL_share_3 : decode cL_share 3 = .ok (.aload_n 0, 1) := by decide +kernel
theorem dL_share_4 : decode cL_share 4 = .ok (.iload_n 1, 1) := by decide +kernel
theorem dL_share_5 : decode cL_share 5 = .ok (.iload_n 2, 1) := by decide +kernel
theorem dL_share_6 : decode cL_share 6 = .ok (.iload_n 3, 1) := by decide +kernel
theorem dL_share_7 : decode cL_share 7 = .ok (.invokevirtual 7, 3) := by decide +kernel
theorem dL_share_10 : decode cL_share 10 = .ok (.i2l, 1) := by decide +kernel
theorem dL_share_11 : decode cL_share 11 = .ok (.lastore, 1) := by decide +kernel
theorem dL_share_12 : decode cL_share 12 = .ok (.goto 7, 3) := by decide +kernel
theorem dL_share_15 : decode cL_share 15 = .ok (.astore 5, 2) := by decide +kernel
theorem dL_share_17 : decode cL_share 17 = .ok (.iconst 1, 1) := by decide +kernel
theorem dL_share_18 : decode cL_share 18 = .ok (.ireturn, 1) := by decide +kernel
theorem dL_share_19 : decode cL_share 19 = .ok (.iconst 0, 1) := by decide +kernel
theorem dL_share_20 : decode cL_share 20 = .ok (.ireturn, 1) := by decide +kernel
set_option maxRecDepth 20000 in
theorem ggL_law_X0_init : GoodIn wsL_law wsX0_init := goodIn_r _ [8, 9, 10, 11, 12, 13, 14, 15, 16, 17, 18, 19, 20, 21, 22, 23, 155, 156, 157, 158, 159, 160, 161] (by decide +kernel) (by decide +kernel)
set_option maxRecDepth 20000 in
theorem gL_law_X0_init : GoodIn wsL_law (wsX0_init) := ggL_law_X0_init
set_option maxRecDepth 20000 in
theorem ggL_law_X0_row : GoodIn wsL_law wsX0_row := goodIn_r _ [27, 13, 19, 28, 29, 2, 30, 31, 32, 33, 34, 35, 36, 37, 38, 39, 40, 41, 42, 43, 14, 44, 45, 46, 47, 15, 155, 156, 157, 158, 159, 160, 161] (by decide +kernel) (by decide +kernel)
set_option maxRecDepth 20000 in
theorem gL_law_X0_row : GoodIn wsL_law (wsV RL 19 RX0 yX0_row wsX0_row) := goodIn_app (goodIn_of _ (by decide +kernel)) ggL_law_X0_row
set_option maxRecDepth 20000 in
theorem ggL_law_X0_drop : GoodIn wsL_law wsX0_drop := goodIn_r _ [51, 13, 19, 28, 29, 2, 30, 31, 32, 33, 34, 35, 36, 37, 38, 39, 40, 41, 42, 43, 14, 44, 45, 46, 47, 15, 155, 156, 157, 158, 159, 160, 161] (by decide +kernel) (by decide +kernel)
set_option maxRecDepth 20000 in
theorem gL_law_X0_drop : GoodIn wsL_law (wsV RL 24 RX0 yX0_drop wsX0_drop) := goodIn_app (goodIn_of _ (by decide +kernel)) ggL_law_X0_drop
set_option maxRecDepth 20000 in
theorem ggL_law_X0_above : GoodIn wsL_law wsX0_above := goodIn_r _ [55, 15, 34, 35, 2, 36, 44, 45, 46, 47, 37, 38, 39, 40, 41, 42, 43, 13, 14, 155, 156, 157, 158, 159, 160, 161] (by decide +kernel) (by decide +kernel)
set_option maxRecDepth 20000 in
theorem gL_law_X0_above : GoodIn wsL_law (wsV RL 28 RX0 yX0_above wsX0_above) := goodIn_app (goodIn_of _ (by decide +kernel)) ggL_law_X0_above
set_option maxRecDepth 20000 in
theorem ggL_law_X0_choose : GoodIn wsL_law wsX0_choose := goodIn_r _ [59, 16, 31, 32, 2, 33, 34, 35, 36, 60, 61, 62, 63, 64, 65, 66, 67, 68, 69, 70, 71, 14, 13, 155, 156, 157, 158, 159, 160, 161] (by decide +kernel) (by decide +kernel)
set_option maxRecDepth 20000 in
theorem gL_law_X0_choose : GoodIn wsL_law (wsV RL 33 RX0 yX0_choose wsX0_choose) := goodIn_app (goodIn_of _ (by decide +kernel)) ggL_law_X0_choose
set_option maxRecDepth 20000 in
theorem ggL_law_X0_kept : GoodIn wsL_law wsX0_kept := goodIn_r _ [75, 60, 61, 62, 2, 63, 64, 65, 66, 67, 16, 68, 69, 70, 71, 14, 13, 155, 156, 157, 158, 159, 160, 161] (by decide +kernel) (by decide +kernel)
set_option maxRecDepth 20000 in
theorem gL_law_X0_kept : GoodIn wsL_law (wsV RL 37 RX0 yX0_kept wsX0_kept) := goodIn_app (goodIn_of _ (by decide +kernel)) ggL_law_X0_kept
set_option maxRecDepth 20000 in
theorem ggL_law_X0_isKept : GoodIn wsL_law wsX0_isKept := goodIn_r _ [79, 28, 29, 2, 30, 64, 65, 66, 67, 16, 68, 69, 70, 71, 14, 13, 155, 156, 157, 158, 159, 160, 161] (by decide +kernel) (by decide +kernel)
set_option maxRecDepth 20000 in
theorem gL_law_X0_isKept : GoodIn wsL_law (wsV RL 42 RX0 yX0_isKept wsX0_isKept) := goodIn_app (goodIn_of _ (by decide +kernel)) ggL_law_X0_isKept
set_option maxRecDepth 20000 in
theorem ggL_law_X0_facet : GoodIn wsL_law wsX0_facet := goodIn_r _ [83, 31, 32, 2, 33, 34, 35, 36, 84, 85, 86, 87, 68, 69, 70, 71, 14, 13, 88, 89, 90, 91, 64, 65, 66, 67, 16, 155, 156, 157, 158, 159, 160, 161] (by decide +kernel) (by decide +kernel)
set_option maxRecDepth 20000 in
theorem gL_law_X0_facet : GoodIn wsL_law (wsV RL 47 RX0 yX0_facet wsX0_facet) := goodIn_app (goodIn_of _ (by decide +kernel)) ggL_law_X0_facet
set_option maxRecDepth 20000 in
theorem ggL_law_X0_top : GoodIn wsL_law wsX0_top := goodIn_r _ [95, 18, 31, 32, 2, 33, 96, 97, 98, 99, 20, 21, 22, 23, 64, 65, 66, 67, 16, 68, 69, 70, 71, 14, 13, 100, 101, 102, 103, 37, 38, 39, 104, 105, 106, 107, 155, 156, 157, 158, 159, 160, 161] (by decide +kernel) (by decide +kernel)
set_option maxRecDepth 20000 in
theorem gL_law_X0_top : GoodIn wsL_law (wsV RL 51 RX0 yX0_top wsX0_top) := goodIn_app (goodIn_of _ (by decide +kernel)) ggL_law_X0_top
set_option maxRecDepth 20000 in
theorem ggL_law_X0_range : GoodIn wsL_law wsX0_range := goodIn_r _ [111, 31, 32, 2, 33, 112, 113, 114, 115, 116, 117, 118, 119, 120, 121, 84, 85, 86, 87, 68, 69, 70, 71, 14, 13, 88, 89, 90, 91, 64, 65, 66, 67, 16, 155, 156, 157, 158, 159, 160, 161] (by decide +kernel) (by decide +kernel)
set_option maxRecDepth 20000 in
theorem gL_law_X0_range : GoodIn wsL_law (wsV RL 55 RX0 yX0_range wsX0_range) := goodIn_app (goodIn_of _ (by decide +kernel)) ggL_law_X0_range
set_option maxRecDepth 20000 in
theorem ggL_law_X0_sum : GoodIn wsL_law wsX0_sum := goodIn_r _ [125, 31, 32, 2, 33, 34, 35, 36, 68, 69, 70, 71, 14, 13, 37, 38, 39, 64, 65, 66, 67, 16, 126, 127, 128, 155, 156, 157, 158, 159, 160, 161] (by decide +kernel) (by decide +kernel)
set_option maxRecDepth 20000 in
theorem gL_law_X0_sum : GoodIn wsL_law (wsV RL 59 RX0 yX0_sum wsX0_sum) := goodIn_app (goodIn_of _ (by decide +kernel)) ggL_law_X0_sum
set_option maxRecDepth 20000 in
theorem ggL_law_L_share : GoodIn wsL_law wsL_share := goodIn_ca (goodIn_r _ [132, 133, 134, 135, 136, 2, 137, 138, 139, 31, 32, 33, 34, 35, 36, 140, 141, 142, 143, 88, 89, 90, 91, 64, 65, 66, 67, 16, 68, 69, 70, 71, 14, 13, 84, 85, 86, 87, 144, 145, 146, 155, 156, 157, 158, 159, 160, 161] (by decide +kernel) (by decide +kernel)) (goodIn_sub (fun _ h => List.mem_append_right _ h) (by decide +kernel))
set_option maxRecDepth 20000 in
theorem gL_law_L_share : GoodIn wsL_law (va_wsS RL 63 yL_share wsL_share) := goodIn_app (goodIn_of _ (by decide +kernel)) ggL_law_L_share
set_option maxRecDepth 20000 in
theorem ggL_law_X0_changed : GoodIn wsL_law wsX0_changed := goodIn_r _ [150, 18, 17, 96, 97, 98, 2, 99, 20, 21, 22, 23, 64, 65, 66, 67, 16, 68, 69, 70, 71, 14, 13, 100, 101, 102, 103, 37, 38, 39, 155, 156, 157, 158, 159, 160, 161] (by decide +kernel) (by decide +kernel)
set_option maxRecDepth 20000 in
theorem gL_law_X0_changed : GoodIn wsL_law (wsV RL 72 RX0 yX0_changed wsX0_changed) := goodIn_app (goodIn_of _ (by decide +kernel)) ggL_law_X0_changed
set_option maxRecDepth 20000 in
theorem ggL_law_X0_rows : GoodIn wsL_law wsX0_rows := goodIn_r _ [154, 19, 155, 156, 157, 158, 159, 160, 161] (by decide +kernel) (by decide +kernel)
set_option maxRecDepth 20000 in
theorem gL_law_X0_rows : GoodIn wsL_law (wsV RL 76 RX0 yX0_rows wsX0_rows) := goodIn_app (goodIn_of _ (by decide +kernel)) ggL_law_X0_rows
theorem dL_law_0 : decode cL_law 0 = .ok (.new 8, 3) := by decide +kernel
theorem dL_law_3 : decode cL_law 3 = .ok (.dup, 1) := by decide +kernel
theorem dL_law_4 : decode cL_law 4 = .ok (.invokespecial 15, 3) := by decide +kernel
theorem dL_law_7 : decode cL_law 7 = .ok (.astore_n 1, 1) := by decide +kernel
theorem dL_law_8 : decode cL_law 8 = .ok (.new 16, 3) := by decide +kernel
theorem dL_law_11 : decode cL_law 11 = .ok (.dup, 1) := by decide +kernel
theorem dL_law_12 : decode cL_law 12 = .ok (.invokespecial 18, 3) := by decide +kernel
theorem dL_law_15 : decode cL_law 15 = .ok (.astore_n 2, 1) := by decide +kernel
theorem dL_law_16 : decode cL_law 16 = .ok (.iconst 1, 1) := by decide +kernel
theorem dL_law_17 : decode cL_law 17 = .ok (.newarray .long, 2) := by decide +kernel
theorem dL_law_19 : decode cL_law 19 = .ok (.astore_n 3, 1) := by decide +kernel
theorem dL_law_20 : decode cL_law 20 = .ok (.iconst 0, 1) := by decide +kernel
theorem dL_law_21 : decode cL_law 21 = .ok (.istore 4, 2) := by decide +kernel
theorem dL_law_23 : decode cL_law 23 = .ok (.iload 4, 2) := by decide +kernel
theorem dL_law_25 : decode cL_law 25 = .ok (.aload_n 0, 1) := by decide +kernel
theorem dL_law_26 : decode cL_law 26 = .ok (.arraylength, 1) := by decide +kernel
theorem dL_law_27 : decode cL_law 27 = .ok (.iconst 4, 1) := by decide +kernel
theorem dL_law_28 : decode cL_law 28 = .ok (.isub, 1) := by decide +kernel
theorem dL_law_29 : decode cL_law 29 = .ok (.if_icmp .gt 613, 3) := by decide +kernel
theorem dL_law_32 : decode cL_law 32 = .ok (.aload_n 0, 1) := by decide +kernel
theorem dL_law_33 : decode cL_law 33 = .ok (.iload 4, 2) := by decide +kernel
theorem dL_law_35 : decode cL_law 35 = .ok (.iaload, 1) := by decide +kernel
theorem dL_law_36 : decode cL_law 36 = .ok (.bipush 15, 2) := by decide +kernel
theorem dL_law_38 : decode cL_law 38 = .ok (.iand, 1) := by decide +kernel
theorem dL_law_39 : decode cL_law 39 = .ok (.tableswitch 597 0 12 #[65, 114, 163, 200, 265, 278, 303, 340, 377, 426, 475, 571, 584], 65) := by decide +kernel
theorem dL_law_104 : decode cL_law 104 = .ok (.aload_n 1, 1) := by decide +kernel
theorem dL_law_105 : decode cL_law 105 = .ok (.aload_n 0, 1) := by decide +kernel
theorem dL_law_106 : decode cL_law 106 = .ok (.iload 4, 2) := by decide +kernel
theorem dL_law_108 : decode cL_law 108 = .ok (.iconst 1, 1) := by decide +kernel
theorem dL_law_109 : decode cL_law 109 = .ok (.iadd, 1) := by decide +kernel
theorem dL_law_110 : decode cL_law 110 = .ok (.iaload, 1) := by decide +kernel
theorem dL_law_111 : decode cL_law 111 = .ok (.aload_n 0, 1) := by decide +kernel
theorem dL_law_112 : decode cL_law 112 = .ok (.iload 4, 2) := by decide +kernel
theorem dL_law_114 : decode cL_law 114 = .ok (.iconst 2, 1) := by decide +kernel
theorem dL_law_115 : decode cL_law 115 = .ok (.iadd, 1) := by decide +kernel
theorem dL_law_116 : decode cL_law 116 = .ok (.iaload, 1) := by decide +kernel
theorem dL_law_117 : decode cL_law 117 = .ok (.aload_n 0, 1) := by decide +kernel
theorem dL_law_118 : decode cL_law 118 = .ok (.iload 4, 2) := by decide +kernel
theorem dL_law_120 : decode cL_law 120 = .ok (.iconst 3, 1) := by decide +kernel
theorem dL_law_121 : decode cL_law 121 = .ok (.iadd, 1) := by decide +kernel
theorem dL_law_122 : decode cL_law 122 = .ok (.iaload, 1) := by decide +kernel
theorem dL_law_123 : decode cL_law 123 = .ok (.invokevirtual 19, 3) := by decide +kernel
theorem dL_law_126 : decode cL_law 126 = .ok (.aload_n 2, 1) := by decide +kernel
theorem dL_law_127 : decode cL_law 127 = .ok (.aload_n 0, 1) := by decide +kernel
theorem dL_law_128 : decode cL_law 128 = .ok (.iload 4, 2) := by decide +kernel
theorem dL_law_130 : decode cL_law 130 = .ok (.iconst 1, 1) := by decide +kernel
theorem dL_law_131 : decode cL_law 131 = .ok (.iadd, 1) := by decide +kernel
theorem dL_law_132 : decode cL_law 132 = .ok (.iaload, 1) := by decide +kernel
theorem dL_law_133 : decode cL_law 133 = .ok (.aload_n 0, 1) := by decide +kernel
theorem dL_law_134 : decode cL_law 134 = .ok (.iload 4, 2) := by decide +kernel
theorem dL_law_136 : decode cL_law 136 = .ok (.iconst 2, 1) := by decide +kernel
theorem dL_law_137 : decode cL_law 137 = .ok (.iadd, 1) := by decide +kernel
theorem dL_law_138 : decode cL_law 138 = .ok (.iaload, 1) := by decide +kernel
theorem dL_law_139 : decode cL_law 139 = .ok (.aload_n 0, 1) := by decide +kernel
theorem dL_law_140 : decode cL_law 140 = .ok (.iload 4, 2) := by decide +kernel
theorem dL_law_142 : decode cL_law 142 = .ok (.iconst 3, 1) := by decide +kernel
theorem dL_law_143 : decode cL_law 143 = .ok (.iadd, 1) := by decide +kernel
theorem dL_law_144 : decode cL_law 144 = .ok (.iaload, 1) := by decide +kernel
theorem dL_law_145 : decode cL_law 145 = .ok (.invokevirtual 23, 3) := by decide +kernel
theorem dL_law_148 : decode cL_law 148 = .ok (.if_icmp .eq 488, 3) := by decide +kernel
theorem dL_law_151 : decode cL_law 151 = .ok (.iconst 0, 1) := by decide +kernel
theorem dL_law_152 : decode cL_law 152 = .ok (.ireturn, 1) := by decide +kernel
theorem dL_law_153 : decode cL_law 153 = .ok (.aload_n 1, 1) := by decide +kernel
theorem dL_law_154 : decode cL_law 154 = .ok (.aload_n 0, 1) := by decide +kernel
theorem dL_law_155 : decode cL_law 155 = .ok (.iload 4, 2) := by decide +kernel
theorem dL_law_157 : decode cL_law 157 = .ok (.iconst 1, 1) := by decide +kernel
theorem dL_law_158 : decode cL_law 158 = .ok (.iadd, 1) := by decide +kernel
theorem dL_law_159 : decode cL_law 159 = .ok (.iaload, 1) := by decide +kernel
theorem dL_law_160 : decode cL_law 160 = .ok (.aload_n 0, 1) := by decide +kernel
theorem dL_law_161 : decode cL_law 161 = .ok (.iload 4, 2) := by decide +kernel
theorem dL_law_163 : decode cL_law 163 = .ok (.iconst 2, 1) := by decide +kernel
theorem dL_law_164 : decode cL_law 164 = .ok (.iadd, 1) := by decide +kernel
theorem dL_law_165 : decode cL_law 165 = .ok (.iaload, 1) := by decide +kernel
theorem dL_law_166 : decode cL_law 166 = .ok (.aload_n 0, 1) := by decide +kernel
theorem dL_law_167 : decode cL_law 167 = .ok (.iload 4, 2) := by decide +kernel
theorem dL_law_169 : decode cL_law 169 = .ok (.iconst 3, 1) := by decide +kernel
theorem dL_law_170 : decode cL_law 170 = .ok (.iadd, 1) := by decide +kernel
theorem dL_law_171 : decode cL_law 171 = .ok (.iaload, 1) := by decide +kernel
theorem dL_law_172 : decode cL_law 172 = .ok (.invokevirtual 24, 3) := by decide +kernel
theorem dL_law_175 : decode cL_law 175 = .ok (.aload_n 2, 1) := by decide +kernel
theorem dL_law_176 : decode cL_law 176 = .ok (.aload_n 0, 1) := by decide +kernel
theorem dL_law_177 : decode cL_law 177 = .ok (.iload 4, 2) := by decide +kernel
theorem dL_law_179 : decode cL_law 179 = .ok (.iconst 1, 1) := by decide +kernel
theorem dL_law_180 : decode cL_law 180 = .ok (.iadd, 1) := by decide +kernel
theorem dL_law_181 : decode cL_law 181 = .ok (.iaload, 1) := by decide +kernel
theorem dL_law_182 : decode cL_law 182 = .ok (.aload_n 0, 1) := by decide +kernel
theorem dL_law_183 : decode cL_law 183 = .ok (.iload 4, 2) := by decide +kernel
theorem dL_law_185 : decode cL_law 185 = .ok (.iconst 2, 1) := by decide +kernel
theorem dL_law_186 : decode cL_law 186 = .ok (.iadd, 1) := by decide +kernel
theorem dL_law_187 : decode cL_law 187 = .ok (.iaload, 1) := by decide +kernel
theorem dL_law_188 : decode cL_law 188 = .ok (.aload_n 0, 1) := by decide +kernel
theorem dL_law_189 : decode cL_law 189 = .ok (.iload 4, 2) := by decide +kernel
theorem dL_law_191 : decode cL_law 191 = .ok (.iconst 3, 1) := by decide +kernel
theorem dL_law_192 : decode cL_law 192 = .ok (.iadd, 1) := by decide +kernel
theorem dL_law_193 : decode cL_law 193 = .ok (.iaload, 1) := by decide +kernel
theorem dL_law_194 : decode cL_law 194 = .ok (.invokevirtual 27, 3) := by decide +kernel
theorem dL_law_197 : decode cL_law 197 = .ok (.if_icmp .eq 439, 3) := by decide +kernel
theorem dL_law_200 : decode cL_law 200 = .ok (.iconst 0, 1) := by decide +kernel
theorem dL_law_201 : decode cL_law 201 = .ok (.ireturn, 1) := by decide +kernel
theorem dL_law_202 : decode cL_law 202 = .ok (.aload_n 1, 1) := by decide +kernel
theorem dL_law_203 : decode cL_law 203 = .ok (.aload_n 0, 1) := by decide +kernel
theorem dL_law_204 : decode cL_law 204 = .ok (.iload 4, 2) := by decide +kernel
theorem dL_law_206 : decode cL_law 206 = .ok (.iconst 1, 1) := by decide +kernel
theorem dL_law_207 : decode cL_law 207 = .ok (.iadd, 1) := by decide +kernel
theorem dL_law_208 : decode cL_law 208 = .ok (.iaload, 1) := by decide +kernel
theorem dL_law_209 : decode cL_law 209 = .ok (.aload_n 0, 1) := by decide +kernel
theorem dL_law_210 : decode cL_law 210 = .ok (.iload 4, 2) := by decide +kernel
theorem dL_law_212 : decode cL_law 212 = .ok (.iconst 2, 1) := by decide +kernel
theorem dL_law_213 : decode cL_law 213 = .ok (.iadd, 1) := by decide +kernel
theorem dL_law_214 : decode cL_law 214 = .ok (.iaload, 1) := by decide +kernel
theorem dL_law_215 : decode cL_law 215 = .ok (.invokevirtual 28, 3) := by decide +kernel
theorem dL_law_218 : decode cL_law 218 = .ok (.aload_n 2, 1) := by decide +kernel
theorem dL_law_219 : decode cL_law 219 = .ok (.aload_n 0, 1) := by decide +kernel
theorem dL_law_220 : decode cL_law 220 = .ok (.iload 4, 2) := by decide +kernel
theorem dL_law_222 : decode cL_law 222 = .ok (.iconst 1, 1) := by decide +kernel
theorem dL_law_223 : decode cL_law 223 = .ok (.iadd, 1) := by decide +kernel
theorem dL_law_224 : decode cL_law 224 = .ok (.iaload, 1) := by decide +kernel
theorem dL_law_225 : decode cL_law 225 = .ok (.aload_n 0, 1) := by decide +kernel
theorem dL_law_226 : decode cL_law 226 = .ok (.iload 4, 2) := by decide +kernel
theorem dL_law_228 : decode cL_law 228 = .ok (.iconst 2, 1) := by decide +kernel
theorem dL_law_229 : decode cL_law 229 = .ok (.iadd, 1) := by decide +kernel
theorem dL_law_230 : decode cL_law 230 = .ok (.iaload, 1) := by decide +kernel
theorem dL_law_231 : decode cL_law 231 = .ok (.invokevirtual 32, 3) := by decide +kernel
theorem dL_law_234 : decode cL_law 234 = .ok (.if_icmp .eq 402, 3) := by decide +kernel
theorem dL_law_237 : decode cL_law 237 = .ok (.iconst 0, 1) := by decide +kernel
theorem dL_law_238 : decode cL_law 238 = .ok (.ireturn, 1) := by decide +kernel
theorem dL_law_239 : decode cL_law 239 = .ok (.aload_n 1, 1) := by decide +kernel
theorem dL_law_240 : decode cL_law 240 = .ok (.aload_n 0, 1) := by decide +kernel
theorem dL_law_241 : decode cL_law 241 = .ok (.iload 4, 2) := by decide +kernel
theorem dL_law_243 : decode cL_law 243 = .ok (.iconst 1, 1) := by decide +kernel
theorem dL_law_244 : decode cL_law 244 = .ok (.iadd, 1) := by decide +kernel
theorem dL_law_245 : decode cL_law 245 = .ok (.iaload, 1) := by decide +kernel
theorem dL_law_246 : decode cL_law 246 = .ok (.aload_n 0, 1) := by decide +kernel
theorem dL_law_247 : decode cL_law 247 = .ok (.iload 4, 2) := by decide +kernel
theorem dL_law_249 : decode cL_law 249 = .ok (.iconst 2, 1) := by decide +kernel
theorem dL_law_250 : decode cL_law 250 = .ok (.iadd, 1) := by decide +kernel
theorem dL_law_251 : decode cL_law 251 = .ok (.iaload, 1) := by decide +kernel
theorem dL_law_252 : decode cL_law 252 = .ok (.aload_n 0, 1) := by decide +kernel
theorem dL_law_253 : decode cL_law 253 = .ok (.iload 4, 2) := by decide +kernel
theorem dL_law_255 : decode cL_law 255 = .ok (.iconst 3, 1) := by decide +kernel
theorem dL_law_256 : decode cL_law 256 = .ok (.iadd, 1) := by decide +kernel
theorem dL_law_257 : decode cL_law 257 = .ok (.iaload, 1) := by decide +kernel
theorem dL_law_258 : decode cL_law 258 = .ok (.ifCond .eq 7, 3) := by decide +kernel
theorem dL_law_261 : decode cL_law 261 = .ok (.iconst 1, 1) := by decide +kernel
theorem dL_law_262 : decode cL_law 262 = .ok (.goto 4, 3) := by decide +kernel
theorem dL_law_265 : decode cL_law 265 = .ok (.iconst 0, 1) := by decide +kernel
theorem dL_law_266 : decode cL_law 266 = .ok (.invokevirtual 33, 3) := by decide +kernel
theorem dL_law_269 : decode cL_law 269 = .ok (.aload_n 2, 1) := by decide +kernel
theorem dL_law_270 : decode cL_law 270 = .ok (.aload_n 0, 1) := by decide +kernel
theorem dL_law_271 : decode cL_law 271 = .ok (.iload 4, 2) := by decide +kernel
theorem dL_law_273 : decode cL_law 273 = .ok (.iconst 1, 1) := by decide +kernel
theorem dL_law_274 : decode cL_law 274 = .ok (.iadd, 1) := by decide +kernel
theorem dL_law_275 : decode cL_law 275 = .ok (.iaload, 1) := by decide +kernel
theorem dL_law_276 : decode cL_law 276 = .ok (.aload_n 0, 1) := by decide +kernel
theorem dL_law_277 : decode cL_law 277 = .ok (.iload 4, 2) := by decide +kernel
theorem dL_law_279 : decode cL_law 279 = .ok (.iconst 2, 1) := by decide +kernel
theorem dL_law_280 : decode cL_law 280 = .ok (.iadd, 1) := by decide +kernel
theorem dL_law_281 : decode cL_law 281 = .ok (.iaload, 1) := by decide +kernel
theorem dL_law_282 : decode cL_law 282 = .ok (.aload_n 0, 1) := by decide +kernel
theorem dL_law_283 : decode cL_law 283 = .ok (.iload 4, 2) := by decide +kernel
theorem dL_law_285 : decode cL_law 285 = .ok (.iconst 3, 1) := by decide +kernel
theorem dL_law_286 : decode cL_law 286 = .ok (.iadd, 1) := by decide +kernel
theorem dL_law_287 : decode cL_law 287 = .ok (.iaload, 1) := by decide +kernel
theorem dL_law_288 : decode cL_law 288 = .ok (.ifCond .eq 7, 3) := by decide +kernel
theorem dL_law_291 : decode cL_law 291 = .ok (.iconst 1, 1) := by decide +kernel
theorem dL_law_292 : decode cL_law 292 = .ok (.goto 4, 3) := by decide +kernel
theorem dL_law_295 : decode cL_law 295 = .ok (.iconst 0, 1) := by decide +kernel
theorem dL_law_296 : decode cL_law 296 = .ok (.invokevirtual 36, 3) := by decide +kernel
theorem dL_law_299 : decode cL_law 299 = .ok (.if_icmp .eq 337, 3) := by decide +kernel
theorem dL_law_302 : decode cL_law 302 = .ok (.iconst 0, 1) := by decide +kernel
theorem dL_law_303 : decode cL_law 303 = .ok (.ireturn, 1) := by decide +kernel
theorem dL_law_304 : decode cL_law 304 = .ok (.aload_n 1, 1) := by decide +kernel
theorem dL_law_305 : decode cL_law 305 = .ok (.invokevirtual 37, 3) := by decide +kernel
theorem dL_law_308 : decode cL_law 308 = .ok (.aload_n 2, 1) := by decide +kernel
theorem dL_law_309 : decode cL_law 309 = .ok (.invokevirtual 41, 3) := by decide +kernel
theorem dL_law_312 : decode cL_law 312 = .ok (.if_icmp .eq 324, 3) := by decide +kernel
theorem dL_law_315 : decode cL_law 315 = .ok (.iconst 0, 1) := by decide +kernel
theorem dL_law_316 : decode cL_law 316 = .ok (.ireturn, 1) := by decide +kernel
theorem dL_law_317 : decode cL_law 317 = .ok (.aload_n 1, 1) := by decide +kernel
theorem dL_law_318 : decode cL_law 318 = .ok (.aload_n 0, 1) := by decide +kernel
theorem dL_law_319 : decode cL_law 319 = .ok (.iload 4, 2) := by decide +kernel
theorem dL_law_321 : decode cL_law 321 = .ok (.iconst 1, 1) := by decide +kernel
theorem dL_law_322 : decode cL_law 322 = .ok (.iadd, 1) := by decide +kernel
theorem dL_law_323 : decode cL_law 323 = .ok (.iaload, 1) := by decide +kernel
theorem dL_law_324 : decode cL_law 324 = .ok (.invokevirtual 42, 3) := by decide +kernel
theorem dL_law_327 : decode cL_law 327 = .ok (.aload_n 2, 1) := by decide +kernel
theorem dL_law_328 : decode cL_law 328 = .ok (.aload_n 0, 1) := by decide +kernel
theorem dL_law_329 : decode cL_law 329 = .ok (.iload 4, 2) := by decide +kernel
theorem dL_law_331 : decode cL_law 331 = .ok (.iconst 1, 1) := by decide +kernel
theorem dL_law_332 : decode cL_law 332 = .ok (.iadd, 1) := by decide +kernel
theorem dL_law_333 : decode cL_law 333 = .ok (.iaload, 1) := by decide +kernel
theorem dL_law_334 : decode cL_law 334 = .ok (.invokevirtual 46, 3) := by decide +kernel
theorem dL_law_337 : decode cL_law 337 = .ok (.if_icmp .eq 299, 3) := by decide +kernel
theorem dL_law_340 : decode cL_law 340 = .ok (.iconst 0, 1) := by decide +kernel
theorem dL_law_341 : decode cL_law 341 = .ok (.ireturn, 1) := by decide +kernel
theorem dL_law_342 : decode cL_law 342 = .ok (.aload_n 1, 1) := by decide +kernel
theorem dL_law_343 : decode cL_law 343 = .ok (.aload_n 0, 1) := by decide +kernel
theorem dL_law_344 : decode cL_law 344 = .ok (.iload 4, 2) := by decide +kernel
theorem dL_law_346 : decode cL_law 346 = .ok (.iconst 1, 1) := by decide +kernel
theorem dL_law_347 : decode cL_law 347 = .ok (.iadd, 1) := by decide +kernel
theorem dL_law_348 : decode cL_law 348 = .ok (.iaload, 1) := by decide +kernel
theorem dL_law_349 : decode cL_law 349 = .ok (.aload_n 0, 1) := by decide +kernel
theorem dL_law_350 : decode cL_law 350 = .ok (.iload 4, 2) := by decide +kernel
theorem dL_law_352 : decode cL_law 352 = .ok (.iconst 2, 1) := by decide +kernel
theorem dL_law_353 : decode cL_law 353 = .ok (.iadd, 1) := by decide +kernel
theorem dL_law_354 : decode cL_law 354 = .ok (.iaload, 1) := by decide +kernel
theorem dL_law_355 : decode cL_law 355 = .ok (.invokevirtual 47, 3) := by decide +kernel
theorem dL_law_358 : decode cL_law 358 = .ok (.aload_n 2, 1) := by decide +kernel
theorem dL_law_359 : decode cL_law 359 = .ok (.aload_n 0, 1) := by decide +kernel
theorem dL_law_360 : decode cL_law 360 = .ok (.iload 4, 2) := by decide +kernel
theorem dL_law_362 : decode cL_law 362 = .ok (.iconst 1, 1) := by decide +kernel
theorem dL_law_363 : decode cL_law 363 = .ok (.iadd, 1) := by decide +kernel
theorem dL_law_364 : decode cL_law 364 = .ok (.iaload, 1) := by decide +kernel
theorem dL_law_365 : decode cL_law 365 = .ok (.aload_n 0, 1) := by decide +kernel
theorem dL_law_366 : decode cL_law 366 = .ok (.iload 4, 2) := by decide +kernel
theorem dL_law_368 : decode cL_law 368 = .ok (.iconst 2, 1) := by decide +kernel
theorem dL_law_369 : decode cL_law 369 = .ok (.iadd, 1) := by decide +kernel
theorem dL_law_370 : decode cL_law 370 = .ok (.iaload, 1) := by decide +kernel
theorem dL_law_371 : decode cL_law 371 = .ok (.invokevirtual 50, 3) := by decide +kernel
theorem dL_law_374 : decode cL_law 374 = .ok (.if_icmp .eq 262, 3) := by decide +kernel
theorem dL_law_377 : decode cL_law 377 = .ok (.iconst 0, 1) := by decide +kernel
theorem dL_law_378 : decode cL_law 378 = .ok (.ireturn, 1) := by decide +kernel
theorem dL_law_379 : decode cL_law 379 = .ok (.aload_n 1, 1) := by decide +kernel
theorem dL_law_380 : decode cL_law 380 = .ok (.aload_n 0, 1) := by decide +kernel
theorem dL_law_381 : decode cL_law 381 = .ok (.iload 4, 2) := by decide +kernel
theorem dL_law_383 : decode cL_law 383 = .ok (.iconst 1, 1) := by decide +kernel
theorem dL_law_384 : decode cL_law 384 = .ok (.iadd, 1) := by decide +kernel
theorem dL_law_385 : decode cL_law 385 = .ok (.iaload, 1) := by decide +kernel
theorem dL_law_386 : decode cL_law 386 = .ok (.aload_n 0, 1) := by decide +kernel
theorem dL_law_387 : decode cL_law 387 = .ok (.iload 4, 2) := by decide +kernel
theorem dL_law_389 : decode cL_law 389 = .ok (.iconst 2, 1) := by decide +kernel
theorem dL_law_390 : decode cL_law 390 = .ok (.iadd, 1) := by decide +kernel
theorem dL_law_391 : decode cL_law 391 = .ok (.iaload, 1) := by decide +kernel
theorem dL_law_392 : decode cL_law 392 = .ok (.invokevirtual 51, 3) := by decide +kernel
theorem dL_law_395 : decode cL_law 395 = .ok (.aload_n 2, 1) := by decide +kernel
theorem dL_law_396 : decode cL_law 396 = .ok (.aload_n 0, 1) := by decide +kernel
theorem dL_law_397 : decode cL_law 397 = .ok (.iload 4, 2) := by decide +kernel
theorem dL_law_399 : decode cL_law 399 = .ok (.iconst 1, 1) := by decide +kernel
theorem dL_law_400 : decode cL_law 400 = .ok (.iadd, 1) := by decide +kernel
theorem dL_law_401 : decode cL_law 401 = .ok (.iaload, 1) := by decide +kernel
theorem dL_law_402 : decode cL_law 402 = .ok (.aload_n 0, 1) := by decide +kernel
theorem dL_law_403 : decode cL_law 403 = .ok (.iload 4, 2) := by decide +kernel
theorem dL_law_405 : decode cL_law 405 = .ok (.iconst 2, 1) := by decide +kernel
theorem dL_law_406 : decode cL_law 406 = .ok (.iadd, 1) := by decide +kernel
theorem dL_law_407 : decode cL_law 407 = .ok (.iaload, 1) := by decide +kernel
theorem dL_law_408 : decode cL_law 408 = .ok (.invokevirtual 54, 3) := by decide +kernel
theorem dL_law_411 : decode cL_law 411 = .ok (.if_icmp .eq 225, 3) := by decide +kernel
theorem dL_law_414 : decode cL_law 414 = .ok (.iconst 0, 1) := by decide +kernel
theorem dL_law_415 : decode cL_law 415 = .ok (.ireturn, 1) := by decide +kernel
theorem dL_law_416 : decode cL_law 416 = .ok (.aload_n 1, 1) := by decide +kernel
theorem dL_law_417 : decode cL_law 417 = .ok (.aload_n 0, 1) := by decide +kernel
theorem dL_law_418 : decode cL_law 418 = .ok (.iload 4, 2) := by decide +kernel
theorem dL_law_420 : decode cL_law 420 = .ok (.iconst 1, 1) := by decide +kernel
theorem dL_law_421 : decode cL_law 421 = .ok (.iadd, 1) := by decide +kernel
theorem dL_law_422 : decode cL_law 422 = .ok (.iaload, 1) := by decide +kernel
theorem dL_law_423 : decode cL_law 423 = .ok (.aload_n 0, 1) := by decide +kernel
theorem dL_law_424 : decode cL_law 424 = .ok (.iload 4, 2) := by decide +kernel
theorem dL_law_426 : decode cL_law 426 = .ok (.iconst 2, 1) := by decide +kernel
theorem dL_law_427 : decode cL_law 427 = .ok (.iadd, 1) := by decide +kernel
theorem dL_law_428 : decode cL_law 428 = .ok (.iaload, 1) := by decide +kernel
theorem dL_law_429 : decode cL_law 429 = .ok (.aload_n 0, 1) := by decide +kernel
theorem dL_law_430 : decode cL_law 430 = .ok (.iload 4, 2) := by decide +kernel
theorem dL_law_432 : decode cL_law 432 = .ok (.iconst 3, 1) := by decide +kernel
theorem dL_law_433 : decode cL_law 433 = .ok (.iadd, 1) := by decide +kernel
theorem dL_law_434 : decode cL_law 434 = .ok (.iaload, 1) := by decide +kernel
theorem dL_law_435 : decode cL_law 435 = .ok (.invokevirtual 55, 3) := by decide +kernel
theorem dL_law_438 : decode cL_law 438 = .ok (.aload_n 2, 1) := by decide +kernel
theorem dL_law_439 : decode cL_law 439 = .ok (.aload_n 0, 1) := by decide +kernel
theorem dL_law_440 : decode cL_law 440 = .ok (.iload 4, 2) := by decide +kernel
theorem dL_law_442 : decode cL_law 442 = .ok (.iconst 1, 1) := by decide +kernel
theorem dL_law_443 : decode cL_law 443 = .ok (.iadd, 1) := by decide +kernel
theorem dL_law_444 : decode cL_law 444 = .ok (.iaload, 1) := by decide +kernel
theorem dL_law_445 : decode cL_law 445 = .ok (.aload_n 0, 1) := by decide +kernel
theorem dL_law_446 : decode cL_law 446 = .ok (.iload 4, 2) := by decide +kernel
theorem dL_law_448 : decode cL_law 448 = .ok (.iconst 2, 1) := by decide +kernel
theorem dL_law_449 : decode cL_law 449 = .ok (.iadd, 1) := by decide +kernel
theorem dL_law_450 : decode cL_law 450 = .ok (.iaload, 1) := by decide +kernel
theorem dL_law_451 : decode cL_law 451 = .ok (.aload_n 0, 1) := by decide +kernel
theorem dL_law_452 : decode cL_law 452 = .ok (.iload 4, 2) := by decide +kernel
theorem dL_law_454 : decode cL_law 454 = .ok (.iconst 3, 1) := by decide +kernel
theorem dL_law_455 : decode cL_law 455 = .ok (.iadd, 1) := by decide +kernel
theorem dL_law_456 : decode cL_law 456 = .ok (.iaload, 1) := by decide +kernel
theorem dL_law_457 : decode cL_law 457 = .ok (.invokevirtual 58, 3) := by decide +kernel
theorem dL_law_460 : decode cL_law 460 = .ok (.if_icmp .eq 176, 3) := by decide +kernel
theorem dL_law_463 : decode cL_law 463 = .ok (.iconst 0, 1) := by decide +kernel
theorem dL_law_464 : decode cL_law 464 = .ok (.ireturn, 1) := by decide +kernel
theorem dL_law_465 : decode cL_law 465 = .ok (.aload_n 1, 1) := by decide +kernel
theorem dL_law_466 : decode cL_law 466 = .ok (.aload_n 0, 1) := by decide +kernel
theorem dL_law_467 : decode cL_law 467 = .ok (.iload 4, 2) := by decide +kernel
theorem dL_law_469 : decode cL_law 469 = .ok (.iconst 1, 1) := by decide +kernel
theorem dL_law_470 : decode cL_law 470 = .ok (.iadd, 1) := by decide +kernel
theorem dL_law_471 : decode cL_law 471 = .ok (.iaload, 1) := by decide +kernel
theorem dL_law_472 : decode cL_law 472 = .ok (.aload_n 0, 1) := by decide +kernel
theorem dL_law_473 : decode cL_law 473 = .ok (.iload 4, 2) := by decide +kernel
theorem dL_law_475 : decode cL_law 475 = .ok (.iconst 2, 1) := by decide +kernel
theorem dL_law_476 : decode cL_law 476 = .ok (.iadd, 1) := by decide +kernel
theorem dL_law_477 : decode cL_law 477 = .ok (.iaload, 1) := by decide +kernel
theorem dL_law_478 : decode cL_law 478 = .ok (.aload_n 0, 1) := by decide +kernel
theorem dL_law_479 : decode cL_law 479 = .ok (.iload 4, 2) := by decide +kernel
theorem dL_law_481 : decode cL_law 481 = .ok (.iconst 3, 1) := by decide +kernel
theorem dL_law_482 : decode cL_law 482 = .ok (.iadd, 1) := by decide +kernel
theorem dL_law_483 : decode cL_law 483 = .ok (.iaload, 1) := by decide +kernel
theorem dL_law_484 : decode cL_law 484 = .ok (.invokevirtual 59, 3) := by decide +kernel
theorem dL_law_487 : decode cL_law 487 = .ok (.aload_n 2, 1) := by decide +kernel
theorem dL_law_488 : decode cL_law 488 = .ok (.aload_n 0, 1) := by decide +kernel
theorem dL_law_489 : decode cL_law 489 = .ok (.iload 4, 2) := by decide +kernel
theorem dL_law_491 : decode cL_law 491 = .ok (.iconst 1, 1) := by decide +kernel
theorem dL_law_492 : decode cL_law 492 = .ok (.iadd, 1) := by decide +kernel
theorem dL_law_493 : decode cL_law 493 = .ok (.iaload, 1) := by decide +kernel
theorem dL_law_494 : decode cL_law 494 = .ok (.aload_n 0, 1) := by decide +kernel
theorem dL_law_495 : decode cL_law 495 = .ok (.iload 4, 2) := by decide +kernel
theorem dL_law_497 : decode cL_law 497 = .ok (.iconst 2, 1) := by decide +kernel
theorem dL_law_498 : decode cL_law 498 = .ok (.iadd, 1) := by decide +kernel
theorem dL_law_499 : decode cL_law 499 = .ok (.iaload, 1) := by decide +kernel
theorem dL_law_500 : decode cL_law 500 = .ok (.aload_n 0, 1) := by decide +kernel
theorem dL_law_501 : decode cL_law 501 = .ok (.iload 4, 2) := by decide +kernel
theorem dL_law_503 : decode cL_law 503 = .ok (.iconst 3, 1) := by decide +kernel
theorem dL_law_504 : decode cL_law 504 = .ok (.iadd, 1) := by decide +kernel
theorem dL_law_505 : decode cL_law 505 = .ok (.iaload, 1) := by decide +kernel
theorem dL_law_506 : decode cL_law 506 = .ok (.invokevirtual 62, 3) := by decide +kernel
theorem dL_law_509 : decode cL_law 509 = .ok (.if_icmp .eq 127, 3) := by decide +kernel
theorem dL_law_512 : decode cL_law 512 = .ok (.iconst 0, 1) := by decide +kernel
theorem dL_law_513 : decode cL_law 513 = .ok (.ireturn, 1) := by decide +kernel
theorem dL_law_514 : decode cL_law 514 = .ok (.aload_n 1, 1) := by decide +kernel
theorem dL_law_515 : decode cL_law 515 = .ok (.aload_n 0, 1) := by decide +kernel
theorem dL_law_516 : decode cL_law 516 = .ok (.iload 4, 2) := by decide +kernel
theorem dL_law_518 : decode cL_law 518 = .ok (.iconst 1, 1) := by decide +kernel
theorem dL_law_519 : decode cL_law 519 = .ok (.iadd, 1) := by decide +kernel
theorem dL_law_520 : decode cL_law 520 = .ok (.iaload, 1) := by decide +kernel
theorem dL_law_521 : decode cL_law 521 = .ok (.aload_n 0, 1) := by decide +kernel
theorem dL_law_522 : decode cL_law 522 = .ok (.iload 4, 2) := by decide +kernel
theorem dL_law_524 : decode cL_law 524 = .ok (.iconst 2, 1) := by decide +kernel
theorem dL_law_525 : decode cL_law 525 = .ok (.iadd, 1) := by decide +kernel
theorem dL_law_526 : decode cL_law 526 = .ok (.iaload, 1) := by decide +kernel
theorem dL_law_527 : decode cL_law 527 = .ok (.aload_n 0, 1) := by decide +kernel
theorem dL_law_528 : decode cL_law 528 = .ok (.iload 4, 2) := by decide +kernel
theorem dL_law_530 : decode cL_law 530 = .ok (.iconst 3, 1) := by decide +kernel
theorem dL_law_531 : decode cL_law 531 = .ok (.iadd, 1) := by decide +kernel
theorem dL_law_532 : decode cL_law 532 = .ok (.iaload, 1) := by decide +kernel
theorem dL_law_533 : decode cL_law 533 = .ok (.ifCond .eq 7, 3) := by decide +kernel
theorem dL_law_536 : decode cL_law 536 = .ok (.iconst 1, 1) := by decide +kernel
theorem dL_law_537 : decode cL_law 537 = .ok (.goto 4, 3) := by decide +kernel
theorem dL_law_540 : decode cL_law 540 = .ok (.iconst 0, 1) := by decide +kernel
theorem dL_law_541 : decode cL_law 541 = .ok (.aload_n 3, 1) := by decide +kernel
theorem dL_law_542 : decode cL_law 542 = .ok (.invokestatic 63, 3) := by decide +kernel
theorem dL_law_545 : decode cL_law 545 = .ok (.istore 5, 2) := by decide +kernel
theorem dL_law_547 : decode cL_law 547 = .ok (.aload_n 2, 1) := by decide +kernel
theorem dL_law_548 : decode cL_law 548 = .ok (.aload_n 0, 1) := by decide +kernel
theorem dL_law_549 : decode cL_law 549 = .ok (.iload 4, 2) := by decide +kernel
theorem dL_law_551 : decode cL_law 551 = .ok (.iconst 1, 1) := by decide +kernel
theorem dL_law_552 : decode cL_law 552 = .ok (.iadd, 1) := by decide +kernel
theorem dL_law_553 : decode cL_law 553 = .ok (.iaload, 1) := by decide +kernel
theorem dL_law_554 : decode cL_law 554 = .ok (.aload_n 0, 1) := by decide +kernel
theorem dL_law_555 : decode cL_law 555 = .ok (.iload 4, 2) := by decide +kernel
theorem dL_law_557 : decode cL_law 557 = .ok (.iconst 2, 1) := by decide +kernel
theorem dL_law_558 : decode cL_law 558 = .ok (.iadd, 1) := by decide +kernel
theorem dL_law_559 : decode cL_law 559 = .ok (.iaload, 1) := by decide +kernel
theorem dL_law_560 : decode cL_law 560 = .ok (.aload_n 0, 1) := by decide +kernel
theorem dL_law_561 : decode cL_law 561 = .ok (.iload 4, 2) := by decide +kernel
theorem dL_law_563 : decode cL_law 563 = .ok (.iconst 3, 1) := by decide +kernel
theorem dL_law_564 : decode cL_law 564 = .ok (.iadd, 1) := by decide +kernel
theorem dL_law_565 : decode cL_law 565 = .ok (.iaload, 1) := by decide +kernel
theorem dL_law_566 : decode cL_law 566 = .ok (.ifCond .eq 7, 3) := by decide +kernel
theorem dL_law_569 : decode cL_law 569 = .ok (.iconst 1, 1) := by decide +kernel
theorem dL_law_570 : decode cL_law 570 = .ok (.goto 4, 3) := by decide +kernel
theorem dL_law_573 : decode cL_law 573 = .ok (.iconst 0, 1) := by decide +kernel
theorem dL_law_574 : decode cL_law 574 = .ok (.invokevirtual 68, 3) := by decide +kernel
theorem dL_law_577 : decode cL_law 577 = .ok (.istore 6, 2) := by decide +kernel
theorem dL_law_579 : decode cL_law 579 = .ok (.aload_n 2, 1) := by decide +kernel
theorem dL_law_580 : decode cL_law 580 = .ok (.invokevirtual 69, 3) := by decide +kernel
theorem dL_law_583 : decode cL_law 583 = .ok (.iload 5, 2) := by decide +kernel
theorem dL_law_585 : decode cL_law 585 = .ok (.if_icmp .eq 5, 3) := by decide +kernel
theorem dL_law_588 : decode cL_law 588 = .ok (.iconst 0, 1) := by decide +kernel
theorem dL_law_589 : decode cL_law 589 = .ok (.ireturn, 1) := by decide +kernel
theorem dL_law_590 : decode cL_law 590 = .ok (.iload 5, 2) := by decide +kernel
theorem dL_law_592 : decode cL_law 592 = .ok (.ifCond .ne 15, 3) := by decide +kernel
theorem dL_law_595 : decode cL_law 595 = .ok (.aload_n 3, 1) := by decide +kernel
theorem dL_law_596 : decode cL_law 596 = .ok (.iconst 0, 1) := by decide +kernel
theorem dL_law_597 : decode cL_law 597 = .ok (.laload, 1) := by decide +kernel
theorem dL_law_598 : decode cL_law 598 = .ok (.iload 6, 2) := by decide +kernel
theorem dL_law_600 : decode cL_law 600 = .ok (.i2l, 1) := by decide +kernel
theorem dL_law_601 : decode cL_law 601 = .ok (.lcmp, 1) := by decide +kernel
theorem dL_law_602 : decode cL_law 602 = .ok (.ifCond .eq 5, 3) := by decide +kernel
theorem dL_law_605 : decode cL_law 605 = .ok (.iconst 0, 1) := by decide +kernel
theorem dL_law_606 : decode cL_law 606 = .ok (.ireturn, 1) := by decide +kernel
theorem dL_law_607 : decode cL_law 607 = .ok (.goto 29, 3) := by decide +kernel
theorem dL_law_610 : decode cL_law 610 = .ok (.aload_n 1, 1) := by decide +kernel
theorem dL_law_611 : decode cL_law 611 = .ok (.invokevirtual 72, 3) := by decide +kernel
theorem dL_law_614 : decode cL_law 614 = .ok (.aload_n 2, 1) := by decide +kernel
theorem dL_law_615 : decode cL_law 615 = .ok (.invokevirtual 75, 3) := by decide +kernel
theorem dL_law_618 : decode cL_law 618 = .ok (.if_icmp .eq 18, 3) := by decide +kernel
theorem dL_law_621 : decode cL_law 621 = .ok (.iconst 0, 1) := by decide +kernel
theorem dL_law_622 : decode cL_law 622 = .ok (.ireturn, 1) := by decide +kernel
theorem dL_law_623 : decode cL_law 623 = .ok (.aload_n 1, 1) := by decide +kernel
theorem dL_law_624 : decode cL_law 624 = .ok (.invokevirtual 76, 3) := by decide +kernel
theorem dL_law_627 : decode cL_law 627 = .ok (.aload_n 2, 1) := by decide +kernel
theorem dL_law_628 : decode cL_law 628 = .ok (.invokevirtual 79, 3) := by decide +kernel
theorem dL_law_631 : decode cL_law 631 = .ok (.if_icmp .eq 5, 3) := by decide +kernel
theorem dL_law_634 : decode cL_law 634 = .ok (.iconst 0, 1) := by decide +kernel
theorem dL_law_635 : decode cL_law 635 = .ok (.ireturn, 1) := by decide +kernel
theorem dL_law_636 : decode cL_law 636 = .ok (.iinc 4 4, 3) := by decide +kernel
theorem dL_law_639 : decode cL_law 639 = .ok (.goto (-616), 3) := by decide +kernel
theorem dL_law_642 : decode cL_law 642 = .ok (.iconst 1, 1) := by decide +kernel
theorem dL_law_643 : decode cL_law 643 = .ok (.ireturn, 1) := by decide +kernel
end
section
/-! the reference's names, as the claim's printed text has the class's -/
def TM : u_T := fun k => match k with
  | 0 => ("FacetCountsModel", "code", "I", false)
  | 1 => ("FacetCountsModel", "has", "[Z", true)
  | 2 => ("FacetCountsModel", "above", "[I", true)
  | 3 => ("FacetCountsModel", "chosen", "[Z", true)
  | 4 => ("FacetCountsModel", "told", "[I", true)
  | 5 => ("FacetCountsModel", "counts", "[I", true)
  | _ => ("FacetCountsModel", "rows", "I", false)
def tyM : Nat → FieldType := fun k => match k with
  | 0 => .int
  | 1 => .array .boolean
  | 2 => .array .int
  | 3 => .array .boolean
  | 4 => .array .int
  | 5 => .array .int
  | _ => .int
abbrev wsM0 : List Cond := u_ws RX1 TM 7
theorem nmM : ∀ a, a < 7 → ∀ b, b < 7 → a ≠ b → (TM a).2.1 ≠ (TM b).2.1 := by decide +kernel
theorem tyM_ok : ∀ k, k < 7 → parseFieldDescriptor (TM k).2.2.1 = some (tyM k) := by decide +kernel
abbrev cM_init : ByteArray := prog_3_method_1_code
def yM_init : MethodName := ⟨RX1, "<init>", "()V"⟩
abbrev cM_thrown : ByteArray := prog_3_method_2_code
def yM_thrown : MethodName := ⟨RX1, "thrown", "()I"⟩
abbrev cM_row : ByteArray := prog_3_method_7_code
def yM_row : MethodName := ⟨RX1, "row", "(III)I"⟩
abbrev cM_isThing : ByteArray := prog_3_method_3_code
def yM_isThing : MethodName := ⟨RX1, "isThing", "(I)Z"⟩
abbrev cM_isHead : ByteArray := prog_3_method_4_code
def yM_isHead : MethodName := ⟨RX1, "isHead", "(I)Z"⟩
abbrev cM_isValue : ByteArray := prog_3_method_5_code
def yM_isValue : MethodName := ⟨RX1, "isValue", "(I)Z"⟩
abbrev cM_at : ByteArray := prog_3_method_6_code
def yM_at : MethodName := ⟨RX1, "at", "(III)I"⟩
abbrev cM_drop : ByteArray := prog_3_method_8_code
def yM_drop : MethodName := ⟨RX1, "drop", "(III)I"⟩
abbrev cM_above : ByteArray := prog_3_method_10_code
def yM_above : MethodName := ⟨RX1, "above", "(II)I"⟩
abbrev cM_isUnder : ByteArray := prog_3_method_9_code
def yM_isUnder : MethodName := ⟨RX1, "isUnder", "(II)Z"⟩
abbrev cM_choose : ByteArray := prog_3_method_16_code
def yM_choose : MethodName := ⟨RX1, "choose", "(IIZ)I"⟩
abbrev cM_all : ByteArray := prog_3_method_15_code
def yM_all : MethodName := ⟨RX1, "all", "(I)I"⟩
abbrev cM_isKeptBut : ByteArray := prog_3_method_13_code
def yM_isKeptBut : MethodName := ⟨RX1, "isKeptBut", "(II)Z"⟩
abbrev cM_isMet : ByteArray := prog_3_method_12_code
def yM_isMet : MethodName := ⟨RX1, "isMet", "(II)Z"⟩
abbrev cM_owns : ByteArray := prog_3_method_11_code
def yM_owns : MethodName := ⟨RX1, "owns", "(III)Z"⟩
abbrev cM_kept : ByteArray := prog_3_method_17_code
def yM_kept : MethodName := ⟨RX1, "kept", "()I"⟩
abbrev cM_isKept : ByteArray := prog_3_method_18_code
def yM_isKept : MethodName := ⟨RX1, "isKept", "(I)I"⟩
abbrev cM_facet : ByteArray := prog_3_method_19_code
def yM_facet : MethodName := ⟨RX1, "facet", "(II)I"⟩
abbrev cM_count : ByteArray := prog_3_method_14_code
def yM_count : MethodName := ⟨RX1, "count", "(II)I"⟩
abbrev cM_top : ByteArray := prog_3_method_20_code
def yM_top : MethodName := ⟨RX1, "top", "(II)I"⟩
abbrev cM_range : ByteArray := prog_3_method_21_code
def yM_range : MethodName := ⟨RX1, "range", "(III)I"⟩
abbrev cM_sum : ByteArray := prog_3_method_22_code
def yM_sum : MethodName := ⟨RX1, "sum", "(III)I"⟩
abbrev cM_share : ByteArray := prog_3_method_23_code
def yM_share : MethodName := ⟨RX1, "share", "(IIZ)I"⟩
abbrev cM_changed : ByteArray := prog_3_method_24_code
def yM_changed : MethodName := ⟨RX1, "changed", "()I"⟩
abbrev cM_rows : ByteArray := prog_3_method_25_code
def yM_rows : MethodName := ⟨RX1, "rows", "()I"⟩
def fmW : List Cond := [.initialized RX1, .methodLink RX1 1 objectInit, .instanceMethod objectInit, .arrayClass .int, .arrayClass .boolean, .fieldLink RX1 26 "FacetCountsModel" "code" "I", .fieldLink RX1 7 "FacetCountsModel" "has" "[Z", .fieldLink RX1 13 "FacetCountsModel" "above" "[I", .fieldLink RX1 17 "FacetCountsModel" "chosen" "[Z", .fieldLink RX1 20 "FacetCountsModel" "told" "[I", .fieldLink RX1 23 "FacetCountsModel" "counts" "[I", .fieldLink RX1 44 "FacetCountsModel" "rows" "I", .methodLink RX1 30 yM_isThing, .static yM_isThing, .methodLink RX1 34 yM_isHead, .static yM_isHead, .methodLink RX1 37 yM_isValue, .static yM_isValue, .methodLink RX1 40 yM_at, .static yM_at, .methodLink RX1 47 yM_isUnder, .instanceMethod yM_isUnder, .selects RX1 yM_isUnder yM_isUnder, .methodLink RX1 61 yM_all, .instanceMethod yM_all, .selects RX1 yM_all yM_all, .methodLink RX1 58 yM_isKeptBut, .instanceMethod yM_isKeptBut, .selects RX1 yM_isKeptBut yM_isKeptBut, .methodLink RX1 55 yM_isMet, .instanceMethod yM_isMet, .selects RX1 yM_isMet yM_isMet, .methodLink RX1 51 yM_owns, .instanceMethod yM_owns, .selects RX1 yM_owns yM_owns, .methodLink RX1 65 yM_count, .instanceMethod yM_count, .selects RX1 yM_count yM_count]
def fmK : List Cond := [.code objectInit ⟨#[0xb1]⟩ 1 none, .code yM_isThing cM_isThing 1 (some .boolean), .code yM_isHead cM_isHead 1 (some .boolean), .code yM_isValue cM_isValue 1 (some .boolean), .code yM_at cM_at 3 (some .int), .code yM_isUnder cM_isUnder 4 (some .boolean), .code yM_all cM_all 4 (some .int), .code yM_isKeptBut cM_isKeptBut 5 (some .boolean), .code yM_isMet cM_isMet 6 (some .boolean), .code yM_owns cM_owns 6 (some .boolean), .code yM_count cM_count 5 (some .int)]
def fmT : List Cond := fmK ++ (fmW ++ wsM0)
set_option maxRecDepth 20000 in
theorem fmK_in : GoodIn lw_tbl fmK := goodIn_r _ [34, 294, 297, 300, 303, 315, 323, 327, 331, 335, 351] (by decide +kernel) (by decide +kernel)
set_option maxRecDepth 20000 in
theorem fmW_in : GoodIn lw_tbl (fmW ++ wsM0) := goodIn_of _ (by decide +kernel)
theorem fmT_in : GoodIn lw_tbl fmT := goodIn_app fmK_in fmW_in
theorem fmT_self {me : Cond} : GoodIn (me :: fmT) fmT := fun w h => ⟨List.mem_cons_of_mem _ h, (fmT_in w h).2⟩
theorem fmT_good {me w0 : Cond} {hd : List Cond} (h : ∀ w ∈ hd, w ∈ fmT) (h0 : w0 ∈ fmT) : GoodIn (me :: fmT) (hd ++ (w0 :: fmT)) := fun w hw => (List.mem_append.mp hw).elim (fun q => fmT_self w (h w q)) (fun q => (List.mem_cons.mp q).elim (fun e => by rw [e]; exact fmT_self w0 h0) (fmT_self w))
theorem fmT_law {w0 : Cond} {hd : List Cond} (h : GoodIn lw_tbl hd) (h0 : GoodIn lw_tbl [w0]) : GoodIn lw_tbl (hd ++ (w0 :: fmT)) := goodIn_app h (fun w q => (List.mem_cons.mp q).elim (fun e => h0 w (List.mem_cons.mpr (Or.inl e))) (fmT_in w))
def wsM_init : List Cond := .code yM_init cM_init 2 none :: fmT
def wsM_thrown : List Cond := .code yM_thrown cM_thrown 1 (some .int) :: fmT
def wsM_row : List Cond := .code yM_row cM_row 4 (some .int) :: fmT
def wsM_isThing : List Cond := .code yM_isThing cM_isThing 1 (some .boolean) :: fmT
def wsM_isHead : List Cond := .code yM_isHead cM_isHead 1 (some .boolean) :: fmT
def wsM_isValue : List Cond := .code yM_isValue cM_isValue 1 (some .boolean) :: fmT
def wsM_at : List Cond := .code yM_at cM_at 3 (some .int) :: fmT
def wsM_drop : List Cond := .code yM_drop cM_drop 4 (some .int) :: fmT
def wsM_above : List Cond := .code yM_above cM_above 3 (some .int) :: fmT
def wsM_isUnder : List Cond := .code yM_isUnder cM_isUnder 4 (some .boolean) :: fmT
def wsM_choose : List Cond := .code yM_choose cM_choose 4 (some .int) :: fmT
def wsM_all : List Cond := .code yM_all cM_all 4 (some .int) :: fmT
def wsM_isKeptBut : List Cond := .code yM_isKeptBut cM_isKeptBut 5 (some .boolean) :: fmT
def wsM_isMet : List Cond := .code yM_isMet cM_isMet 6 (some .boolean) :: fmT
def wsM_owns : List Cond := .code yM_owns cM_owns 6 (some .boolean) :: fmT
def wsM_kept : List Cond := .code yM_kept cM_kept 1 (some .int) :: fmT
def wsM_isKept : List Cond := .code yM_isKept cM_isKept 2 (some .int) :: fmT
def wsM_facet : List Cond := .code yM_facet cM_facet 3 (some .int) :: fmT
def wsM_count : List Cond := .code yM_count cM_count 5 (some .int) :: fmT
def wsM_top : List Cond := .code yM_top cM_top 7 (some .int) :: fmT
def wsM_range : List Cond := .code yM_range cM_range 8 (some .int) :: fmT
def wsM_sum : List Cond := .code yM_sum cM_sum 8 (some .int) :: fmT
def wsM_share : List Cond := .code yM_share cM_share 8 (some .int) :: fmT
def wsM_changed : List Cond := .code yM_changed cM_changed 5 (some .int) :: fmT
def wsM_rows : List Cond := .code yM_rows cM_rows 1 (some .int) :: fmT
set_option maxRecDepth 20000 in
theorem gM_row_isThing : GoodIn wsM_row (va_wsS RX1 30 yM_isThing wsM_isThing) := fmT_good (by decide +kernel) (List.mem_append_left _ (List.mem_of_getElem? (i := 1) rfl))
set_option maxRecDepth 20000 in
theorem gM_row_isHead : GoodIn wsM_row (va_wsS RX1 34 yM_isHead wsM_isHead) := fmT_good (by decide +kernel) (List.mem_append_left _ (List.mem_of_getElem? (i := 2) rfl))
set_option maxRecDepth 20000 in
theorem gM_row_isValue : GoodIn wsM_row (va_wsS RX1 37 yM_isValue wsM_isValue) := fmT_good (by decide +kernel) (List.mem_append_left _ (List.mem_of_getElem? (i := 3) rfl))
set_option maxRecDepth 20000 in
theorem gM_row_at : GoodIn wsM_row (va_wsS RX1 40 yM_at wsM_at) := fmT_good (by decide +kernel) (List.mem_append_left _ (List.mem_of_getElem? (i := 4) rfl))
set_option maxRecDepth 20000 in
theorem gM_drop_isThing : GoodIn wsM_drop (va_wsS RX1 30 yM_isThing wsM_isThing) := fmT_good (by decide +kernel) (List.mem_append_left _ (List.mem_of_getElem? (i := 1) rfl))
set_option maxRecDepth 20000 in
theorem gM_drop_isHead : GoodIn wsM_drop (va_wsS RX1 34 yM_isHead wsM_isHead) := fmT_good (by decide +kernel) (List.mem_append_left _ (List.mem_of_getElem? (i := 2) rfl))
set_option maxRecDepth 20000 in
theorem gM_drop_isValue : GoodIn wsM_drop (va_wsS RX1 37 yM_isValue wsM_isValue) := fmT_good (by decide +kernel) (List.mem_append_left _ (List.mem_of_getElem? (i := 3) rfl))
set_option maxRecDepth 20000 in
theorem gM_drop_at : GoodIn wsM_drop (va_wsS RX1 40 yM_at wsM_at) := fmT_good (by decide +kernel) (List.mem_append_left _ (List.mem_of_getElem? (i := 4) rfl))
set_option maxRecDepth 20000 in
theorem gM_above_isValue : GoodIn wsM_above (va_wsS RX1 37 yM_isValue wsM_isValue) := fmT_good (by decide +kernel) (List.mem_append_left _ (List.mem_of_getElem? (i := 3) rfl))
set_option maxRecDepth 20000 in
theorem gM_above_isUnder : GoodIn wsM_above (wsV RX1 47 RX1 yM_isUnder wsM_isUnder) := fmT_good (by decide +kernel) (List.mem_append_left _ (List.mem_of_getElem? (i := 5) rfl))
set_option maxRecDepth 20000 in
theorem gM_owns_at : GoodIn wsM_owns (va_wsS RX1 40 yM_at wsM_at) := fmT_good (by decide +kernel) (List.mem_append_left _ (List.mem_of_getElem? (i := 4) rfl))
set_option maxRecDepth 20000 in
theorem gM_owns_isUnder : GoodIn wsM_owns (wsV RX1 47 RX1 yM_isUnder wsM_isUnder) := fmT_good (by decide +kernel) (List.mem_append_left _ (List.mem_of_getElem? (i := 5) rfl))
set_option maxRecDepth 20000 in
theorem gM_isMet_owns : GoodIn wsM_isMet (wsV RX1 51 RX1 yM_owns wsM_owns) := fmT_good (by decide +kernel) (List.mem_append_left _ (List.mem_of_getElem? (i := 9) rfl))
set_option maxRecDepth 20000 in
theorem gM_isKeptBut_isMet : GoodIn wsM_isKeptBut (wsV RX1 55 RX1 yM_isMet wsM_isMet) := fmT_good (by decide +kernel) (List.mem_append_left _ (List.mem_of_getElem? (i := 8) rfl))
set_option maxRecDepth 20000 in
theorem gM_count_owns : GoodIn wsM_count (wsV RX1 51 RX1 yM_owns wsM_owns) := fmT_good (by decide +kernel) (List.mem_append_left _ (List.mem_of_getElem? (i := 9) rfl))
set_option maxRecDepth 20000 in
theorem gM_count_isKeptBut : GoodIn wsM_count (wsV RX1 58 RX1 yM_isKeptBut wsM_isKeptBut) := fmT_good (by decide +kernel) (List.mem_append_left _ (List.mem_of_getElem? (i := 7) rfl))
set_option maxRecDepth 20000 in
theorem gM_all_isKeptBut : GoodIn wsM_all (wsV RX1 58 RX1 yM_isKeptBut wsM_isKeptBut) := fmT_good (by decide +kernel) (List.mem_append_left _ (List.mem_of_getElem? (i := 7) rfl))
set_option maxRecDepth 20000 in
theorem gM_choose_isHead : GoodIn wsM_choose (va_wsS RX1 34 yM_isHead wsM_isHead) := fmT_good (by decide +kernel) (List.mem_append_left _ (List.mem_of_getElem? (i := 2) rfl))
set_option maxRecDepth 20000 in
theorem gM_choose_isValue : GoodIn wsM_choose (va_wsS RX1 37 yM_isValue wsM_isValue) := fmT_good (by decide +kernel) (List.mem_append_left _ (List.mem_of_getElem? (i := 3) rfl))
set_option maxRecDepth 20000 in
theorem gM_choose_all : GoodIn wsM_choose (wsV RX1 61 RX1 yM_all wsM_all) := fmT_good (by decide +kernel) (List.mem_append_left _ (List.mem_of_getElem? (i := 6) rfl))
set_option maxRecDepth 20000 in
theorem gM_kept_all : GoodIn wsM_kept (wsV RX1 61 RX1 yM_all wsM_all) := fmT_good (by decide +kernel) (List.mem_append_left _ (List.mem_of_getElem? (i := 6) rfl))
set_option maxRecDepth 20000 in
theorem gM_isKept_isThing : GoodIn wsM_isKept (va_wsS RX1 30 yM_isThing wsM_isThing) := fmT_good (by decide +kernel) (List.mem_append_left _ (List.mem_of_getElem? (i := 1) rfl))
set_option maxRecDepth 20000 in
theorem gM_isKept_isKeptBut : GoodIn wsM_isKept (wsV RX1 58 RX1 yM_isKeptBut wsM_isKeptBut) := fmT_good (by decide +kernel) (List.mem_append_left _ (List.mem_of_getElem? (i := 7) rfl))
set_option maxRecDepth 20000 in
theorem gM_facet_isHead : GoodIn wsM_facet (va_wsS RX1 34 yM_isHead wsM_isHead) := fmT_good (by decide +kernel) (List.mem_append_left _ (List.mem_of_getElem? (i := 2) rfl))
set_option maxRecDepth 20000 in
theorem gM_facet_isValue : GoodIn wsM_facet (va_wsS RX1 37 yM_isValue wsM_isValue) := fmT_good (by decide +kernel) (List.mem_append_left _ (List.mem_of_getElem? (i := 3) rfl))
set_option maxRecDepth 20000 in
theorem gM_facet_count : GoodIn wsM_facet (wsV RX1 65 RX1 yM_count wsM_count) := fmT_good (by decide +kernel) (List.mem_append_left _ (List.mem_of_getElem? (i := 10) rfl))
set_option maxRecDepth 20000 in
theorem gM_top_isHead : GoodIn wsM_top (va_wsS RX1 34 yM_isHead wsM_isHead) := fmT_good (by decide +kernel) (List.mem_append_left _ (List.mem_of_getElem? (i := 2) rfl))
set_option maxRecDepth 20000 in
theorem gM_top_count : GoodIn wsM_top (wsV RX1 65 RX1 yM_count wsM_count) := fmT_good (by decide +kernel) (List.mem_append_left _ (List.mem_of_getElem? (i := 10) rfl))
set_option maxRecDepth 20000 in
theorem gM_range_isHead : GoodIn wsM_range (va_wsS RX1 34 yM_isHead wsM_isHead) := fmT_good (by decide +kernel) (List.mem_append_left _ (List.mem_of_getElem? (i := 2) rfl))
set_option maxRecDepth 20000 in
theorem gM_range_owns : GoodIn wsM_range (wsV RX1 51 RX1 yM_owns wsM_owns) := fmT_good (by decide +kernel) (List.mem_append_left _ (List.mem_of_getElem? (i := 9) rfl))
set_option maxRecDepth 20000 in
theorem gM_range_isKeptBut : GoodIn wsM_range (wsV RX1 58 RX1 yM_isKeptBut wsM_isKeptBut) := fmT_good (by decide +kernel) (List.mem_append_left _ (List.mem_of_getElem? (i := 7) rfl))
set_option maxRecDepth 20000 in
theorem gM_sum_isHead : GoodIn wsM_sum (va_wsS RX1 34 yM_isHead wsM_isHead) := fmT_good (by decide +kernel) (List.mem_append_left _ (List.mem_of_getElem? (i := 2) rfl))
set_option maxRecDepth 20000 in
theorem gM_sum_isValue : GoodIn wsM_sum (va_wsS RX1 37 yM_isValue wsM_isValue) := fmT_good (by decide +kernel) (List.mem_append_left _ (List.mem_of_getElem? (i := 3) rfl))
set_option maxRecDepth 20000 in
theorem gM_sum_owns : GoodIn wsM_sum (wsV RX1 51 RX1 yM_owns wsM_owns) := fmT_good (by decide +kernel) (List.mem_append_left _ (List.mem_of_getElem? (i := 9) rfl))
set_option maxRecDepth 20000 in
theorem gM_sum_isKeptBut : GoodIn wsM_sum (wsV RX1 58 RX1 yM_isKeptBut wsM_isKeptBut) := fmT_good (by decide +kernel) (List.mem_append_left _ (List.mem_of_getElem? (i := 7) rfl))
set_option maxRecDepth 20000 in
theorem gM_share_isHead : GoodIn wsM_share (va_wsS RX1 34 yM_isHead wsM_isHead) := fmT_good (by decide +kernel) (List.mem_append_left _ (List.mem_of_getElem? (i := 2) rfl))
set_option maxRecDepth 20000 in
theorem gM_share_isValue : GoodIn wsM_share (va_wsS RX1 37 yM_isValue wsM_isValue) := fmT_good (by decide +kernel) (List.mem_append_left _ (List.mem_of_getElem? (i := 3) rfl))
set_option maxRecDepth 20000 in
theorem gM_share_all : GoodIn wsM_share (wsV RX1 61 RX1 yM_all wsM_all) := fmT_good (by decide +kernel) (List.mem_append_left _ (List.mem_of_getElem? (i := 6) rfl))
set_option maxRecDepth 20000 in
theorem gM_share_count : GoodIn wsM_share (wsV RX1 65 RX1 yM_count wsM_count) := fmT_good (by decide +kernel) (List.mem_append_left _ (List.mem_of_getElem? (i := 10) rfl))
set_option maxRecDepth 20000 in
theorem gM_changed_count : GoodIn wsM_changed (wsV RX1 65 RX1 yM_count wsM_count) := fmT_good (by decide +kernel) (List.mem_append_left _ (List.mem_of_getElem? (i := 10) rfl))
set_option maxRecDepth 20000 in
theorem gL_M_init : GoodIn lw_tbl wsM_init := fmT_law (hd := []) (fun w h => nomatch h) (goodIn_r _ [259] (by decide +kernel) (by decide +kernel))
set_option maxRecDepth 20000 in
theorem gL_M_thrown : GoodIn lw_tbl (wsV RL 69 RX1 yM_thrown wsM_thrown) := fmT_law (goodIn_of _ (by decide +kernel)) (goodIn_r _ [287] (by decide +kernel) (by decide +kernel))
set_option maxRecDepth 20000 in
theorem gL_M_row : GoodIn lw_tbl (wsV RL 23 RX1 yM_row wsM_row) := fmT_law (goodIn_of _ (by decide +kernel)) (goodIn_r _ [291] (by decide +kernel) (by decide +kernel))
set_option maxRecDepth 20000 in
theorem gL_M_drop : GoodIn lw_tbl (wsV RL 27 RX1 yM_drop wsM_drop) := fmT_law (goodIn_of _ (by decide +kernel)) (goodIn_r _ [307] (by decide +kernel) (by decide +kernel))
set_option maxRecDepth 20000 in
theorem gL_M_above : GoodIn lw_tbl (wsV RL 32 RX1 yM_above wsM_above) := fmT_law (goodIn_of _ (by decide +kernel)) (goodIn_r _ [311] (by decide +kernel) (by decide +kernel))
set_option maxRecDepth 20000 in
theorem gL_M_choose : GoodIn lw_tbl (wsV RL 36 RX1 yM_choose wsM_choose) := fmT_law (goodIn_of _ (by decide +kernel)) (goodIn_r _ [319] (by decide +kernel) (by decide +kernel))
set_option maxRecDepth 20000 in
theorem gL_M_kept : GoodIn lw_tbl (wsV RL 41 RX1 yM_kept wsM_kept) := fmT_law (goodIn_of _ (by decide +kernel)) (goodIn_r _ [339] (by decide +kernel) (by decide +kernel))
set_option maxRecDepth 20000 in
theorem gL_M_isKept : GoodIn lw_tbl (wsV RL 46 RX1 yM_isKept wsM_isKept) := fmT_law (goodIn_of _ (by decide +kernel)) (goodIn_r _ [343] (by decide +kernel) (by decide +kernel))
set_option maxRecDepth 20000 in
theorem gL_M_facet : GoodIn lw_tbl (wsV RL 50 RX1 yM_facet wsM_facet) := fmT_law (goodIn_of _ (by decide +kernel)) (goodIn_r _ [347] (by decide +kernel) (by decide +kernel))
set_option maxRecDepth 20000 in
theorem gL_M_top : GoodIn lw_tbl (wsV RL 54 RX1 yM_top wsM_top) := fmT_law (goodIn_of _ (by decide +kernel)) (goodIn_r _ [355] (by decide +kernel) (by decide +kernel))
set_option maxRecDepth 20000 in
theorem gL_M_range : GoodIn lw_tbl (wsV RL 58 RX1 yM_range wsM_range) := fmT_law (goodIn_of _ (by decide +kernel)) (goodIn_r _ [359] (by decide +kernel) (by decide +kernel))
set_option maxRecDepth 20000 in
theorem gL_M_sum : GoodIn lw_tbl (wsV RL 62 RX1 yM_sum wsM_sum) := fmT_law (goodIn_of _ (by decide +kernel)) (goodIn_r _ [363] (by decide +kernel) (by decide +kernel))
set_option maxRecDepth 20000 in
theorem gL_M_share : GoodIn lw_tbl (wsV RL 68 RX1 yM_share wsM_share) := fmT_law (goodIn_of _ (by decide +kernel)) (goodIn_r _ [367] (by decide +kernel) (by decide +kernel))
set_option maxRecDepth 20000 in
theorem gL_M_changed : GoodIn lw_tbl (wsV RL 75 RX1 yM_changed wsM_changed) := fmT_law (goodIn_of _ (by decide +kernel)) (goodIn_r _ [371] (by decide +kernel) (by decide +kernel))
set_option maxRecDepth 20000 in
theorem gL_M_rows : GoodIn lw_tbl (wsV RL 79 RX1 yM_rows wsM_rows) := fmT_law (goodIn_of _ (by decide +kernel)) (goodIn_r _ [375] (by decide +kernel) (by decide +kernel))
theorem dM_init_0 : decode cM_init 0 = .ok (.aload_n 0, 1) := by decide +kernel
theorem dM_init_1 : decode cM_init 1 = .ok (.invokespecial 1, 3) := by decide +kernel
theorem dM_init_4 : decode cM_init 4 = .ok (.aload_n 0, 1) := by decide +kernel
theorem dM_init_5 : decode cM_init 5 = .ok (.sipush 10240, 3) := by decide +kernel
theorem dM_init_8 : decode cM_init 8 = .ok (.newarray .boolean, 2) := by decide +kernel
theorem dM_init_10 : decode cM_init 10 = .ok (.putfield 7, 3) := by decide +kernel
theorem dM_init_13 : decode cM_init 13 = .ok (.aload_n 0, 1) := by decide +kernel
theorem dM_init_14 : decode cM_init 14 = .ok (.bipush 32, 2) := by decide +kernel
theorem dM_init_16 : decode cM_init 16 = .ok (.newarray .int, 2) := by decide +kernel
theorem dM_init_18 : decode cM_init 18 = .ok (.putfield 13, 3) := by decide +kernel
theorem dM_init_21 : decode cM_init 21 = .ok (.aload_n 0, 1) := by decide +kernel
theorem dM_init_22 : decode cM_init 22 = .ok (.sipush 256, 3) := by decide +kernel
theorem dM_init_25 : decode cM_init 25 = .ok (.newarray .boolean, 2) := by decide +kernel
theorem dM_init_27 : decode cM_init 27 = .ok (.putfield 17, 3) := by decide +kernel
theorem dM_init_30 : decode cM_init 30 = .ok (.aload_n 0, 1) := by decide +kernel
theorem dM_init_31 : decode cM_init 31 = .ok (.sipush 256, 3) := by decide +kernel
theorem dM_init_34 : decode cM_init 34 = .ok (.newarray .int, 2) := by decide +kernel
theorem dM_init_36 : decode cM_init 36 = .ok (.putfield 20, 3) := by decide +kernel
theorem dM_init_39 : decode cM_init 39 = .ok (.aload_n 0, 1) := by decide +kernel
theorem dM_init_40 : decode cM_init 40 = .ok (.bipush 32, 2) := by decide +kernel
theorem dM_init_42 : decode cM_init 42 = .ok (.newarray .int, 2) := by decide +kernel
theorem dM_init_44 : decode cM_init 44 = .ok (.putfield 23, 3) := by decide +kernel
theorem dM_init_47 : decode cM_init 47 = .ok (.iconst 0, 1) := by decide +kernel
theorem dM_init_48 : decode cM_init 48 = .ok (.istore_n 1, 1) := by decide +kernel
theorem dM_init_49 : decode cM_init 49 = .ok (.iload_n 1, 1) := by decide +kernel
theorem dM_init_50 : decode cM_init 50 = .ok (.bipush 32, 2) := by decide +kernel
theorem dM_init_52 : decode cM_init 52 = .ok (.if_icmp .ge 16, 3) := by decide +kernel
theorem dM_init_55 : decode cM_init 55 = .ok (.aload_n 0, 1) := by decide +kernel
theorem dM_init_56 : decode cM_init 56 = .ok (.getfield 13, 3) := by decide +kernel
theorem dM_init_59 : decode cM_init 59 = .ok (.iload_n 1, 1) := by decide +kernel
theorem dM_init_60 : decode cM_init 60 = .ok (.iconst (-1), 1) := by decide +kernel
theorem dM_init_61 : decode cM_init 61 = .ok (.iastore, 1) := by decide +kernel
theorem dM_init_62 : decode cM_init 62 = .ok (.iinc 1 1, 3) := by decide +kernel
theorem dM_init_65 : decode cM_init 65 = .ok (.goto (-16), 3) := by decide +kernel
theorem dM_init_68 : decode cM_init 68 = .ok (.return_, 1) := by decide +kernel
theorem dM_thrown_0 : decode cM_thrown 0 = .ok (.aload_n 0, 1) := by decide +kernel
theorem dM_thrown_1 : decode cM_thrown 1 = .ok (.getfield 26, 3) := by decide +kernel
theorem dM_thrown_4 : decode cM_thrown 4 = .ok (.ireturn, 1) := by decide +kernel
theorem dM_isThing_0 : decode cM_isThing 0 = .ok (.iload_n 0, 1) := by decide +kernel
theorem dM_isThing_1 : decode cM_isThing 1 = .ok (.ifCond .lt 13, 3) := by decide +kernel
theorem dM_isThing_4 : decode cM_isThing 4 = .ok (.iload_n 0, 1) := by decide +kernel
theorem dM_isThing_5 : decode cM_isThing 5 = .ok (.bipush 40, 2) := by decide +kernel
theorem dM_isThing_7 : decode cM_isThing 7 = .ok (.if_icmp .ge 7, 3) := by decide +kernel
theorem dM_isThing_10 : decode cM_isThing 10 = .ok (.iconst 1, 1) := by decide +kernel
theorem dM_isThing_11 : decode cM_isThing 11 = .ok (.goto 4, 3) := by decide +kernel
theorem dM_isThing_14 : decode cM_isThing 14 = .ok (.iconst 0, 1) := by decide +kernel
theorem dM_isThing_15 : decode cM_isThing 15 = .ok (.ireturn, 1) := by decide +kernel
theorem dM_isHead_0 : decode cM_isHead 0 = .ok (.iload_n 0, 1) := by decide +kernel
theorem dM_isHead_1 : decode cM_isHead 1 = .ok (.ifCond .lt 13, 3) := by decide +kernel
theorem dM_isHead_4 : decode cM_isHead 4 = .ok (.iload_n 0, 1) := by decide +kernel
theorem dM_isHead_5 : decode cM_isHead 5 = .ok (.bipush 8, 2) := by decide +kernel
theorem dM_isHead_7 : decode cM_isHead 7 = .ok (.if_icmp .ge 7, 3) := by decide +kernel
theorem dM_isHead_10 : decode cM_isHead 10 = .ok (.iconst 1, 1) := by decide +kernel
theorem dM_isHead_11 : decode cM_isHead 11 = .ok (.goto 4, 3) := by decide +kernel
theorem dM_isHead_14 : decode cM_isHead 14 = .ok (.iconst 0, 1) := by decide +kernel
theorem dM_isHead_15 : decode cM_isHead 15 = .ok (.ireturn, 1) := by decide +kernel
theorem dM_isValue_0 : decode cM_isValue 0 = .ok (.iload_n 0, 1) := by decide +kernel
theorem dM_isValue_1 : decode cM_isValue 1 = .ok (.ifCond .lt 13, 3) := by decide +kernel
theorem dM_isValue_4 : decode cM_isValue 4 = .ok (.iload_n 0, 1) := by decide +kernel
theorem dM_isValue_5 : decode cM_isValue 5 = .ok (.bipush 32, 2) := by decide +kernel
theorem dM_isValue_7 : decode cM_isValue 7 = .ok (.if_icmp .ge 7, 3) := by decide +kernel
theorem dM_isValue_10 : decode cM_isValue 10 = .ok (.iconst 1, 1) := by decide +kernel
theorem dM_isValue_11 : decode cM_isValue 11 = .ok (.goto 4, 3) := by decide +kernel
theorem dM_isValue_14 : decode cM_isValue 14 = .ok (.iconst 0, 1) := by decide +kernel
theorem dM_isValue_15 : decode cM_isValue 15 = .ok (.ireturn, 1) := by decide +kernel
theorem dM_at_0 : decode cM_at 0 = .ok (.iload_n 0, 1) := by decide +kernel
theorem dM_at_1 : decode cM_at 1 = .ok (.bipush 8, 2) := by decide +kernel
theorem dM_at_3 : decode cM_at 3 = .ok (.imul, 1) := by decide +kernel
theorem dM_at_4 : decode cM_at 4 = .ok (.iload_n 1, 1) := by decide +kernel
theorem dM_at_5 : decode cM_at 5 = .ok (.iadd, 1) := by decide +kernel
theorem dM_at_6 : decode cM_at 6 = .ok (.bipush 32, 2) := by decide +kernel
theorem dM_at_8 : decode cM_at 8 = .ok (.imul, 1) := by decide +kernel
theorem dM_at_9 : decode cM_at 9 = .ok (.iload_n 2, 1) := by decide +kernel
theorem dM_at_10 : decode cM_at 10 = .ok (.iadd, 1) := by decide +kernel
theorem dM_at_11 : decode cM_at 11 = .ok (.ireturn, 1) := by decide +kernel
theorem dM_row_0 : decode cM_row 0 = .ok (.aload_n 0, 1) := by decide +kernel
theorem dM_row_1 : decode cM_row 1 = .ok (.iconst 0, 1) := by decide +kernel
theorem dM_row_2 : decode cM_row 2 = .ok (.putfield 26, 3) := by decide +kernel
theorem dM_row_5 : decode cM_row 5 = .ok (.iload_n 1, 1) := by decide +kernel
theorem dM_row_6 : decode cM_row 6 = .ok (.invokestatic 30, 3) := by decide +kernel
theorem dM_row_9 : decode cM_row 9 = .ok (.ifCond .eq 17, 3) := by decide +kernel
theorem dM_row_12 : decode cM_row 12 = .ok (.iload_n 2, 1) := by decide +kernel
theorem dM_row_13 : decode cM_row 13 = .ok (.invokestatic 34, 3) := by decide +kernel
theorem dM_row_16 : decode cM_row 16 = .ok (.ifCond .eq 10, 3) := by decide +kernel
theorem dM_row_19 : decode cM_row 19 = .ok (.iload_n 3, 1) := by decide +kernel
theorem dM_row_20 : decode cM_row 20 = .ok (.invokestatic 37, 3) := by decide +kernel
theorem dM_row_23 : decode cM_row 23 = .ok (.ifCond .ne 5, 3) := by decide +kernel
theorem dM_row_26 : decode cM_row 26 = .ok (.iconst (-1), 1) := by decide +kernel
theorem dM_row_27 : decode cM_row 27 = .ok (.ireturn, 1) := by decide +kernel
theorem dM_row_28 : decode cM_row 28 = .ok (.aload_n 0, 1) := by decide +kernel
theorem dM_row_29 : decode cM_row 29 = .ok (.getfield 7, 3) := by decide +kernel
theorem dM_row_32 : decode cM_row 32 = .ok (.iload_n 1, 1) := by decide +kernel
theorem dM_row_33 : decode cM_row 33 = .ok (.iload_n 2, 1) := by decide +kernel
theorem dM_row_34 : decode cM_row 34 = .ok (.iload_n 3, 1) := by decide +kernel
theorem dM_row_35 : decode cM_row 35 = .ok (.invokestatic 40, 3) := by decide +kernel
theorem dM_row_38 : decode cM_row 38 = .ok (.baload, 1) := by decide +kernel
theorem dM_row_39 : decode cM_row 39 = .ok (.ifCond .eq 5, 3) := by decide +kernel
theorem dM_row_42 : decode cM_row 42 = .ok (.iconst 0, 1) := by decide +kernel
theorem dM_row_43 : decode cM_row 43 = .ok (.ireturn, 1) := by decide +kernel
theorem dM_row_44 : decode cM_row 44 = .ok (.aload_n 0, 1) := by decide +kernel
theorem dM_row_45 : decode cM_row 45 = .ok (.getfield 44, 3) := by decide +kernel
theorem dM_row_48 : decode cM_row 48 = .ok (.sipush 300, 3) := by decide +kernel
theorem dM_row_51 : decode cM_row 51 = .ok (.if_icmp .ne 6, 3) := by decide +kernel
theorem dM_row_54 : decode cM_row 54 = .ok (.bipush (-2), 2) := by decide +kernel
theorem dM_row_56 : decode cM_row 56 = .ok (.ireturn, 1) := by decide +kernel
theorem dM_row_57 : decode cM_row 57 = .ok (.aload_n 0, 1) := by decide +kernel
theorem dM_row_58 : decode cM_row 58 = .ok (.getfield 7, 3) := by decide +kernel
theorem dM_row_61 : decode cM_row 61 = .ok (.iload_n 1, 1) := by decide +kernel
theorem dM_row_62 : decode cM_row 62 = .ok (.iload_n 2, 1) := by decide +kernel
theorem dM_row_63 : decode cM_row 63 = .ok (.iload_n 3, 1) := by decide +kernel
theorem dM_row_64 : decode cM_row 64 = .ok (.invokestatic 40, 3) := by decide +kernel
theorem dM_row_67 : decode cM_row 67 = .ok (.iconst 1, 1) := by decide +kernel
theorem dM_row_68 : decode cM_row 68 = .ok (.bastore, 1) := by decide +kernel
theorem dM_row_69 : decode cM_row 69 = .ok (.aload_n 0, 1) := by decide +kernel
theorem dM_row_70 : decode cM_row 70 = .ok (.dup, 1) := by decide +kernel
theorem dM_row_71 : decode cM_row 71 = .ok (.getfield 44, 3) := by decide +kernel
theorem dM_row_74 : decode cM_row 74 = .ok (.iconst 1, 1) := by decide +kernel
theorem dM_row_75 : decode cM_row 75 = .ok (.iadd, 1) := by decide +kernel
theorem dM_row_76 : decode cM_row 76 = .ok (.putfield 44, 3) := by decide +kernel
theorem dM_row_79 : decode cM_row 79 = .ok (.iconst 1, 1) := by decide +kernel
theorem dM_row_80 : decode cM_row 80 = .ok (.ireturn, 1) := by decide +kernel
theorem dM_drop_0 : decode cM_drop 0 = .ok (.aload_n 0, 1) := by decide +kernel
theorem dM_drop_1 : decode cM_drop 1 = .ok (.iconst 0, 1) := by decide +kernel
theorem dM_drop_2 : decode cM_drop 2 = .ok (.putfield 26, 3) := by decide +kernel
theorem dM_drop_5 : decode cM_drop 5 = .ok (.iload_n 1, 1) := by decide +kernel
theorem dM_drop_6 : decode cM_drop 6 = .ok (.invokestatic 30, 3) := by decide +kernel
theorem dM_drop_9 : decode cM_drop 9 = .ok (.ifCond .eq 17, 3) := by decide +kernel
theorem dM_drop_12 : decode cM_drop 12 = .ok (.iload_n 2, 1) := by decide +kernel
theorem dM_drop_13 : decode cM_drop 13 = .ok (.invokestatic 34, 3) := by decide +kernel
theorem dM_drop_16 : decode cM_drop 16 = .ok (.ifCond .eq 10, 3) := by decide +kernel
theorem dM_drop_19 : decode cM_drop 19 = .ok (.iload_n 3, 1) := by decide +kernel
theorem dM_drop_20 : decode cM_drop 20 = .ok (.invokestatic 37, 3) := by decide +kernel
theorem dM_drop_23 : decode cM_drop 23 = .ok (.ifCond .ne 5, 3) := by decide +kernel
theorem dM_drop_26 : decode cM_drop 26 = .ok (.iconst (-1), 1) := by decide +kernel
theorem dM_drop_27 : decode cM_drop 27 = .ok (.ireturn, 1) := by decide +kernel
theorem dM_drop_28 : decode cM_drop 28 = .ok (.aload_n 0, 1) := by decide +kernel
theorem dM_drop_29 : decode cM_drop 29 = .ok (.getfield 7, 3) := by decide +kernel
theorem dM_drop_32 : decode cM_drop 32 = .ok (.iload_n 1, 1) := by decide +kernel
theorem dM_drop_33 : decode cM_drop 33 = .ok (.iload_n 2, 1) := by decide +kernel
theorem dM_drop_34 : decode cM_drop 34 = .ok (.iload_n 3, 1) := by decide +kernel
theorem dM_drop_35 : decode cM_drop 35 = .ok (.invokestatic 40, 3) := by decide +kernel
theorem dM_drop_38 : decode cM_drop 38 = .ok (.baload, 1) := by decide +kernel
theorem dM_drop_39 : decode cM_drop 39 = .ok (.ifCond .ne 5, 3) := by decide +kernel
theorem dM_drop_42 : decode cM_drop 42 = .ok (.iconst 0, 1) := by decide +kernel
theorem dM_drop_43 : decode cM_drop 43 = .ok (.ireturn, 1) := by decide +kernel
theorem dM_drop_44 : decode cM_drop 44 = .ok (.aload_n 0, 1) := by decide +kernel
theorem dM_drop_45 : decode cM_drop 45 = .ok (.getfield 7, 3) := by decide +kernel
theorem dM_drop_48 : decode cM_drop 48 = .ok (.iload_n 1, 1) := by decide +kernel
theorem dM_drop_49 : decode cM_drop 49 = .ok (.iload_n 2, 1) := by decide +kernel
theorem dM_drop_50 : decode cM_drop 50 = .ok (.iload_n 3, 1) := by decide +kernel
theorem dM_drop_51 : decode cM_drop 51 = .ok (.invokestatic 40, 3) := by decide +kernel
theorem dM_drop_54 : decode cM_drop 54 = .ok (.iconst 0, 1) := by decide +kernel
theorem dM_drop_55 : decode cM_drop 55 = .ok (.bastore, 1) := by decide +kernel
theorem dM_drop_56 : decode cM_drop 56 = .ok (.aload_n 0, 1) := by decide +kernel
theorem dM_drop_57 : decode cM_drop 57 = .ok (.dup, 1) := by decide +kernel
theorem dM_drop_58 : decode cM_drop 58 = .ok (.getfield 44, 3) := by decide +kernel
theorem dM_drop_61 : decode cM_drop 61 = .ok (.iconst 1, 1) := by decide +kernel
theorem dM_drop_62 : decode cM_drop 62 = .ok (.isub, 1) := by decide +kernel
theorem dM_drop_63 : decode cM_drop 63 = .ok (.putfield 44, 3) := by decide +kernel
theorem dM_drop_66 : decode cM_drop 66 = .ok (.iconst 1, 1) := by decide +kernel
theorem dM_drop_67 : decode cM_drop 67 = .ok (.ireturn, 1) := by decide +kernel
theorem dM_isUnder_0 : decode cM_isUnder 0 = .ok (.iload_n 1, 1) := by decide +kernel
theorem dM_isUnder_1 : decode cM_isUnder 1 = .ok (.istore_n 3, 1) := by decide +kernel
theorem dM_isUnder_2 : decode cM_isUnder 2 = .ok (.iload_n 3, 1) := by decide +kernel
theorem dM_isUnder_3 : decode cM_isUnder 3 = .ok (.iconst (-1), 1) := by decide +kernel
theorem dM_isUnder_4 : decode cM_isUnder 4 = .ok (.if_icmp .eq 18, 3) := by decide +kernel
theorem dM_isUnder_7 : decode cM_isUnder 7 = .ok (.iload_n 3, 1) := by decide +kernel
theorem dM_isUnder_8 : decode cM_isUnder 8 = .ok (.iload_n 2, 1) := by decide +kernel
theorem dM_isUnder_9 : decode cM_isUnder 9 = .ok (.if_icmp .eq 13, 3) := by decide +kernel
theorem dM_isUnder_12 : decode cM_isUnder 12 = .ok (.aload_n 0, 1) := by decide +kernel
theorem dM_isUnder_13 : decode cM_isUnder 13 = .ok (.getfield 13, 3) := by decide +kernel
theorem dM_isUnder_16 : decode cM_isUnder 16 = .ok (.iload_n 3, 1) := by decide +kernel
theorem dM_isUnder_17 : decode cM_isUnder 17 = .ok (.iaload, 1) := by decide +kernel
theorem dM_isUnder_18 : decode cM_isUnder 18 = .ok (.istore_n 3, 1) := by decide +kernel
theorem dM_isUnder_19 : decode cM_isUnder 19 = .ok (.goto (-17), 3) := by decide +kernel
theorem dM_isUnder_22 : decode cM_isUnder 22 = .ok (.iload_n 3, 1) := by decide +kernel
theorem dM_isUnder_23 : decode cM_isUnder 23 = .ok (.iconst (-1), 1) := by decide +kernel
theorem dM_isUnder_24 : decode cM_isUnder 24 = .ok (.if_icmp .eq 7, 3) := by decide +kernel
theorem dM_isUnder_27 : decode cM_isUnder 27 = .ok (.iconst 1, 1) := by decide +kernel
theorem dM_isUnder_28 : decode cM_isUnder 28 = .ok (.goto 4, 3) := by decide +kernel
theorem dM_isUnder_31 : decode cM_isUnder 31 = .ok (.iconst 0, 1) := by decide +kernel
theorem dM_isUnder_32 : decode cM_isUnder 32 = .ok (.ireturn, 1) := by decide +kernel
theorem dM_above_0 : decode cM_above 0 = .ok (.aload_n 0, 1) := by decide +kernel
theorem dM_above_1 : decode cM_above 1 = .ok (.iconst 0, 1) := by decide +kernel
theorem dM_above_2 : decode cM_above 2 = .ok (.putfield 26, 3) := by decide +kernel
theorem dM_above_5 : decode cM_above 5 = .ok (.iload_n 1, 1) := by decide +kernel
theorem dM_above_6 : decode cM_above 6 = .ok (.invokestatic 37, 3) := by decide +kernel
theorem dM_above_9 : decode cM_above 9 = .ok (.ifCond .eq 15, 3) := by decide +kernel
theorem dM_above_12 : decode cM_above 12 = .ok (.iload_n 2, 1) := by decide +kernel
theorem dM_above_13 : decode cM_above 13 = .ok (.iconst (-1), 1) := by decide +kernel
theorem dM_above_14 : decode cM_above 14 = .ok (.if_icmp .eq 12, 3) := by decide +kernel
theorem dM_above_17 : decode cM_above 17 = .ok (.iload_n 2, 1) := by decide +kernel
theorem dM_above_18 : decode cM_above 18 = .ok (.invokestatic 37, 3) := by decide +kernel
theorem dM_above_21 : decode cM_above 21 = .ok (.ifCond .ne 5, 3) := by decide +kernel
theorem dM_above_24 : decode cM_above 24 = .ok (.iconst (-1), 1) := by decide +kernel
theorem dM_above_25 : decode cM_above 25 = .ok (.ireturn, 1) := by decide +kernel
theorem dM_above_26 : decode cM_above 26 = .ok (.aload_n 0, 1) := by decide +kernel
theorem dM_above_27 : decode cM_above 27 = .ok (.getfield 13, 3) := by decide +kernel
theorem dM_above_30 : decode cM_above 30 = .ok (.iload_n 1, 1) := by decide +kernel
theorem dM_above_31 : decode cM_above 31 = .ok (.iaload, 1) := by decide +kernel
theorem dM_above_32 : decode cM_above 32 = .ok (.iload_n 2, 1) := by decide +kernel
theorem dM_above_33 : decode cM_above 33 = .ok (.if_icmp .ne 5, 3) := by decide +kernel
theorem dM_above_36 : decode cM_above 36 = .ok (.iconst 0, 1) := by decide +kernel
theorem dM_above_37 : decode cM_above 37 = .ok (.ireturn, 1) := by decide +kernel
theorem dM_above_38 : decode cM_above 38 = .ok (.iload_n 2, 1) := by decide +kernel
theorem dM_above_39 : decode cM_above 39 = .ok (.iconst (-1), 1) := by decide +kernel
theorem dM_above_40 : decode cM_above 40 = .ok (.if_icmp .eq 15, 3) := by decide +kernel
theorem dM_above_43 : decode cM_above 43 = .ok (.aload_n 0, 1) := by decide +kernel
theorem dM_above_44 : decode cM_above 44 = .ok (.iload_n 2, 1) := by decide +kernel
theorem dM_above_45 : decode cM_above 45 = .ok (.iload_n 1, 1) := by decide +kernel
theorem dM_above_46 : decode cM_above 46 = .ok (.invokevirtual 47, 3) := by decide +kernel
theorem dM_above_49 : decode cM_above 49 = .ok (.ifCond .eq 6, 3) := by decide +kernel
theorem dM_above_52 : decode cM_above 52 = .ok (.bipush (-3), 2) := by decide +kernel
theorem dM_above_54 : decode cM_above 54 = .ok (.ireturn, 1) := by decide +kernel
theorem dM_above_55 : decode cM_above 55 = .ok (.aload_n 0, 1) := by decide +kernel
theorem dM_above_56 : decode cM_above 56 = .ok (.getfield 13, 3) := by decide +kernel
theorem dM_above_59 : decode cM_above 59 = .ok (.iload_n 1, 1) := by decide +kernel
theorem dM_above_60 : decode cM_above 60 = .ok (.iload_n 2, 1) := by decide +kernel
theorem dM_above_61 : decode cM_above 61 = .ok (.iastore, 1) := by decide +kernel
theorem dM_above_62 : decode cM_above 62 = .ok (.iconst 1, 1) := by decide +kernel
theorem dM_above_63 : decode cM_above 63 = .ok (.ireturn, 1) := by decide +kernel
theorem dM_owns_0 : decode cM_owns 0 = .ok (.iload_n 2, 1) := by decide +kernel
theorem dM_owns_1 : decode cM_owns 1 = .ok (.ifCond .le 15, 3) := by decide +kernel
theorem dM_owns_4 : decode cM_owns 4 = .ok (.aload_n 0, 1) := by decide +kernel
theorem dM_owns_5 : decode cM_owns 5 = .ok (.getfield 7, 3) := by decide +kernel
theorem dM_owns_8 : decode cM_owns 8 = .ok (.iload_n 1, 1) := by decide +kernel
theorem dM_owns_9 : decode cM_owns 9 = .ok (.iload_n 2, 1) := by decide +kernel
theorem dM_owns_10 : decode cM_owns 10 = .ok (.iload_n 3, 1) := by decide +kernel
theorem dM_owns_11 : decode cM_owns 11 = .ok (.invokestatic 40, 3) := by decide +kernel
theorem dM_owns_14 : decode cM_owns 14 = .ok (.baload, 1) := by decide +kernel
theorem dM_owns_15 : decode cM_owns 15 = .ok (.ireturn, 1) := by decide +kernel
theorem dM_owns_16 : decode cM_owns 16 = .ok (.iconst 0, 1) := by decide +kernel
theorem dM_owns_17 : decode cM_owns 17 = .ok (.istore 4, 2) := by decide +kernel
theorem dM_owns_19 : decode cM_owns 19 = .ok (.iconst 0, 1) := by decide +kernel
theorem dM_owns_20 : decode cM_owns 20 = .ok (.istore 5, 2) := by decide +kernel
theorem dM_owns_22 : decode cM_owns 22 = .ok (.iload 5, 2) := by decide +kernel
theorem dM_owns_24 : decode cM_owns 24 = .ok (.bipush 32, 2) := by decide +kernel
theorem dM_owns_26 : decode cM_owns 26 = .ok (.if_icmp .ge 46, 3) := by decide +kernel
theorem dM_owns_29 : decode cM_owns 29 = .ok (.iload 4, 2) := by decide +kernel
theorem dM_owns_31 : decode cM_owns 31 = .ok (.ifCond .ne 28, 3) := by decide +kernel
theorem dM_owns_34 : decode cM_owns 34 = .ok (.aload_n 0, 1) := by decide +kernel
theorem dM_owns_35 : decode cM_owns 35 = .ok (.getfield 7, 3) := by decide +kernel
theorem dM_owns_38 : decode cM_owns 38 = .ok (.iload_n 1, 1) := by decide +kernel
theorem dM_owns_39 : decode cM_owns 39 = .ok (.iconst 0, 1) := by decide +kernel
theorem dM_owns_40 : decode cM_owns 40 = .ok (.iload 5, 2) := by decide +kernel
theorem dM_owns_42 : decode cM_owns 42 = .ok (.invokestatic 40, 3) := by decide +kernel
theorem dM_owns_45 : decode cM_owns 45 = .ok (.baload, 1) := by decide +kernel
theorem dM_owns_46 : decode cM_owns 46 = .ok (.ifCond .eq 17, 3) := by decide +kernel
theorem dM_owns_49 : decode cM_owns 49 = .ok (.aload_n 0, 1) := by decide +kernel
theorem dM_owns_50 : decode cM_owns 50 = .ok (.iload 5, 2) := by decide +kernel
theorem dM_owns_52 : decode cM_owns 52 = .ok (.iload_n 3, 1) := by decide +kernel
theorem dM_owns_53 : decode cM_owns 53 = .ok (.invokevirtual 47, 3) := by decide +kernel
theorem dM_owns_56 : decode cM_owns 56 = .ok (.ifCond .eq 7, 3) := by decide +kernel
theorem dM_owns_59 : decode cM_owns 59 = .ok (.iconst 1, 1) := by decide +kernel
theorem dM_owns_60 : decode cM_owns 60 = .ok (.goto 4, 3) := by decide +kernel
theorem dM_owns_63 : decode cM_owns 63 = .ok (.iconst 0, 1) := by decide +kernel
theorem dM_owns_64 : decode cM_owns 64 = .ok (.istore 4, 2) := by decide +kernel
theorem dM_owns_66 : decode cM_owns 66 = .ok (.iinc 5 1, 3) := by decide +kernel
theorem dM_owns_69 : decode cM_owns 69 = .ok (.goto (-47), 3) := by decide +kernel
theorem dM_owns_72 : decode cM_owns 72 = .ok (.iload 4, 2) := by decide +kernel
theorem dM_owns_74 : decode cM_owns 74 = .ok (.ireturn, 1) := by decide +kernel
theorem dM_isMet_0 : decode cM_isMet 0 = .ok (.iconst 0, 1) := by decide +kernel
theorem dM_isMet_1 : decode cM_isMet 1 = .ok (.istore_n 3, 1) := by decide +kernel
theorem dM_isMet_2 : decode cM_isMet 2 = .ok (.iconst 0, 1) := by decide +kernel
theorem dM_isMet_3 : decode cM_isMet 3 = .ok (.istore 4, 2) := by decide +kernel
theorem dM_isMet_5 : decode cM_isMet 5 = .ok (.iconst 0, 1) := by decide +kernel
theorem dM_isMet_6 : decode cM_isMet 6 = .ok (.istore 5, 2) := by decide +kernel
theorem dM_isMet_8 : decode cM_isMet 8 = .ok (.iload 5, 2) := by decide +kernel
theorem dM_isMet_10 : decode cM_isMet 10 = .ok (.bipush 32, 2) := by decide +kernel
theorem dM_isMet_12 : decode cM_isMet 12 = .ok (.if_icmp .ge 49, 3) := by decide +kernel
theorem dM_isMet_15 : decode cM_isMet 15 = .ok (.aload_n 0, 1) := by decide +kernel
theorem dM_isMet_16 : decode cM_isMet 16 = .ok (.getfield 17, 3) := by decide +kernel
theorem dM_isMet_19 : decode cM_isMet 19 = .ok (.bipush 32, 2) := by decide +kernel
theorem dM_isMet_21 : decode cM_isMet 21 = .ok (.iload_n 2, 1) := by decide +kernel
theorem dM_isMet_22 : decode cM_isMet 22 = .ok (.imul, 1) := by decide +kernel
theorem dM_isMet_23 : decode cM_isMet 23 = .ok (.iload 5, 2) := by decide +kernel
theorem dM_isMet_25 : decode cM_isMet 25 = .ok (.iadd, 1) := by decide +kernel
theorem dM_isMet_26 : decode cM_isMet 26 = .ok (.baload, 1) := by decide +kernel
theorem dM_isMet_27 : decode cM_isMet 27 = .ok (.ifCond .eq 28, 3) := by decide +kernel
theorem dM_isMet_30 : decode cM_isMet 30 = .ok (.iconst 1, 1) := by decide +kernel
theorem dM_isMet_31 : decode cM_isMet 31 = .ok (.istore_n 3, 1) := by decide +kernel
theorem dM_isMet_32 : decode cM_isMet 32 = .ok (.iload 4, 2) := by decide +kernel
theorem dM_isMet_34 : decode cM_isMet 34 = .ok (.ifCond .ne 14, 3) := by decide +kernel
theorem dM_isMet_37 : decode cM_isMet 37 = .ok (.aload_n 0, 1) := by decide +kernel
theorem dM_isMet_38 : decode cM_isMet 38 = .ok (.iload_n 1, 1) := by decide +kernel
theorem dM_isMet_39 : decode cM_isMet 39 = .ok (.iload_n 2, 1) := by decide +kernel
theorem dM_isMet_40 : decode cM_isMet 40 = .ok (.iload 5, 2) := by decide +kernel
theorem dM_isMet_42 : decode cM_isMet 42 = .ok (.invokevirtual 51, 3) := by decide +kernel
theorem dM_isMet_45 : decode cM_isMet 45 = .ok (.ifCond .eq 7, 3) := by decide +kernel
theorem dM_isMet_48 : decode cM_isMet 48 = .ok (.iconst 1, 1) := by decide +kernel
theorem dM_isMet_49 : decode cM_isMet 49 = .ok (.goto 4, 3) := by decide +kernel
theorem dM_isMet_52 : decode cM_isMet 52 = .ok (.iconst 0, 1) := by decide +kernel
theorem dM_isMet_53 : decode cM_isMet 53 = .ok (.istore 4, 2) := by decide +kernel
theorem dM_isMet_55 : decode cM_isMet 55 = .ok (.iinc 5 1, 3) := by decide +kernel
theorem dM_isMet_58 : decode cM_isMet 58 = .ok (.goto (-50), 3) := by decide +kernel
theorem dM_isMet_61 : decode cM_isMet 61 = .ok (.iload 4, 2) := by decide +kernel
theorem dM_isMet_63 : decode cM_isMet 63 = .ok (.ifCond .ne 7, 3) := by decide +kernel
theorem dM_isMet_66 : decode cM_isMet 66 = .ok (.iload_n 3, 1) := by decide +kernel
theorem dM_isMet_67 : decode cM_isMet 67 = .ok (.ifCond .ne 7, 3) := by decide +kernel
theorem dM_isMet_70 : decode cM_isMet 70 = .ok (.iconst 1, 1) := by decide +kernel
theorem dM_isMet_71 : decode cM_isMet 71 = .ok (.goto 4, 3) := by decide +kernel
theorem dM_isMet_74 : decode cM_isMet 74 = .ok (.iconst 0, 1) := by decide +kernel
theorem dM_isMet_75 : decode cM_isMet 75 = .ok (.ireturn, 1) := by decide +kernel
theorem dM_isKeptBut_0 : decode cM_isKeptBut 0 = .ok (.iconst 1, 1) := by decide +kernel
theorem dM_isKeptBut_1 : decode cM_isKeptBut 1 = .ok (.istore_n 3, 1) := by decide +kernel
theorem dM_isKeptBut_2 : decode cM_isKeptBut 2 = .ok (.iconst 0, 1) := by decide +kernel
theorem dM_isKeptBut_3 : decode cM_isKeptBut 3 = .ok (.istore 4, 2) := by decide +kernel
theorem dM_isKeptBut_5 : decode cM_isKeptBut 5 = .ok (.iload 4, 2) := by decide +kernel
theorem dM_isKeptBut_7 : decode cM_isKeptBut 7 = .ok (.bipush 8, 2) := by decide +kernel
theorem dM_isKeptBut_9 : decode cM_isKeptBut 9 = .ok (.if_icmp .ge 35, 3) := by decide +kernel
theorem dM_isKeptBut_12 : decode cM_isKeptBut 12 = .ok (.iload_n 3, 1) := by decide +kernel
theorem dM_isKeptBut_13 : decode cM_isKeptBut 13 = .ok (.ifCond .eq 23, 3) := by decide +kernel
theorem dM_isKeptBut_16 : decode cM_isKeptBut 16 = .ok (.iload 4, 2) := by decide +kernel
theorem dM_isKeptBut_18 : decode cM_isKeptBut 18 = .ok (.iload_n 2, 1) := by decide +kernel
theorem dM_isKeptBut_19 : decode cM_isKeptBut 19 = .ok (.if_icmp .eq 13, 3) := by decide +kernel
theorem dM_isKeptBut_22 : decode cM_isKeptBut 22 = .ok (.aload_n 0, 1) := by decide +kernel
theorem dM_isKeptBut_23 : decode cM_isKeptBut 23 = .ok (.iload_n 1, 1) := by decide +kernel
theorem dM_isKeptBut_24 : decode cM_isKeptBut 24 = .ok (.iload 4, 2) := by decide +kernel
theorem dM_isKeptBut_26 : decode cM_isKeptBut 26 = .ok (.invokevirtual 55, 3) := by decide +kernel
theorem dM_isKeptBut_29 : decode cM_isKeptBut 29 = .ok (.ifCond .eq 7, 3) := by decide +kernel
theorem dM_isKeptBut_32 : decode cM_isKeptBut 32 = .ok (.iconst 1, 1) := by decide +kernel
theorem dM_isKeptBut_33 : decode cM_isKeptBut 33 = .ok (.goto 4, 3) := by decide +kernel
theorem dM_isKeptBut_36 : decode cM_isKeptBut 36 = .ok (.iconst 0, 1) := by decide +kernel
theorem dM_isKeptBut_37 : decode cM_isKeptBut 37 = .ok (.istore_n 3, 1) := by decide +kernel
theorem dM_isKeptBut_38 : decode cM_isKeptBut 38 = .ok (.iinc 4 1, 3) := by decide +kernel
theorem dM_isKeptBut_41 : decode cM_isKeptBut 41 = .ok (.goto (-36), 3) := by decide +kernel
theorem dM_isKeptBut_44 : decode cM_isKeptBut 44 = .ok (.iload_n 3, 1) := by decide +kernel
theorem dM_isKeptBut_45 : decode cM_isKeptBut 45 = .ok (.ireturn, 1) := by decide +kernel
theorem dM_count_0 : decode cM_count 0 = .ok (.iconst 0, 1) := by decide +kernel
theorem dM_count_1 : decode cM_count 1 = .ok (.istore_n 3, 1) := by decide +kernel
theorem dM_count_2 : decode cM_count 2 = .ok (.iconst 0, 1) := by decide +kernel
theorem dM_count_3 : decode cM_count 3 = .ok (.istore 4, 2) := by decide +kernel
theorem dM_count_5 : decode cM_count 5 = .ok (.iload 4, 2) := by decide +kernel
theorem dM_count_7 : decode cM_count 7 = .ok (.bipush 40, 2) := by decide +kernel
theorem dM_count_9 : decode cM_count 9 = .ok (.if_icmp .ge 38, 3) := by decide +kernel
theorem dM_count_12 : decode cM_count 12 = .ok (.iload_n 3, 1) := by decide +kernel
theorem dM_count_13 : decode cM_count 13 = .ok (.aload_n 0, 1) := by decide +kernel
theorem dM_count_14 : decode cM_count 14 = .ok (.iload 4, 2) := by decide +kernel
theorem dM_count_16 : decode cM_count 16 = .ok (.iload_n 1, 1) := by decide +kernel
theorem dM_count_17 : decode cM_count 17 = .ok (.iload_n 2, 1) := by decide +kernel
theorem dM_count_18 : decode cM_count 18 = .ok (.invokevirtual 51, 3) := by decide +kernel
theorem dM_count_21 : decode cM_count 21 = .ok (.ifCond .eq 17, 3) := by decide +kernel
theorem dM_count_24 : decode cM_count 24 = .ok (.aload_n 0, 1) := by decide +kernel
theorem dM_count_25 : decode cM_count 25 = .ok (.iload 4, 2) := by decide +kernel
theorem dM_count_27 : decode cM_count 27 = .ok (.iload_n 1, 1) := by decide +kernel
theorem dM_count_28 : decode cM_count 28 = .ok (.invokevirtual 58, 3) := by decide +kernel
theorem dM_count_31 : decode cM_count 31 = .ok (.ifCond .eq 7, 3) := by decide +kernel
theorem dM_count_34 : decode cM_count 34 = .ok (.iconst 1, 1) := by decide +kernel
theorem dM_count_35 : decode cM_count 35 = .ok (.goto 4, 3) := by decide +kernel
theorem dM_count_38 : decode cM_count 38 = .ok (.iconst 0, 1) := by decide +kernel
theorem dM_count_39 : decode cM_count 39 = .ok (.iadd, 1) := by decide +kernel
theorem dM_count_40 : decode cM_count 40 = .ok (.istore_n 3, 1) := by decide +kernel
theorem dM_count_41 : decode cM_count 41 = .ok (.iinc 4 1, 3) := by decide +kernel
theorem dM_count_44 : decode cM_count 44 = .ok (.goto (-39), 3) := by decide +kernel
theorem dM_count_47 : decode cM_count 47 = .ok (.iload_n 3, 1) := by decide +kernel
theorem dM_count_48 : decode cM_count 48 = .ok (.ireturn, 1) := by decide +kernel
theorem dM_all_0 : decode cM_all 0 = .ok (.iconst 0, 1) := by decide +kernel
theorem dM_all_1 : decode cM_all 1 = .ok (.istore_n 2, 1) := by decide +kernel
theorem dM_all_2 : decode cM_all 2 = .ok (.iconst 0, 1) := by decide +kernel
theorem dM_all_3 : decode cM_all 3 = .ok (.istore_n 3, 1) := by decide +kernel
theorem dM_all_4 : decode cM_all 4 = .ok (.iload_n 3, 1) := by decide +kernel
theorem dM_all_5 : decode cM_all 5 = .ok (.bipush 40, 2) := by decide +kernel
theorem dM_all_7 : decode cM_all 7 = .ok (.if_icmp .ge 26, 3) := by decide +kernel
theorem dM_all_10 : decode cM_all 10 = .ok (.iload_n 2, 1) := by decide +kernel
theorem dM_all_11 : decode cM_all 11 = .ok (.aload_n 0, 1) := by decide +kernel
theorem dM_all_12 : decode cM_all 12 = .ok (.iload_n 3, 1) := by decide +kernel
theorem dM_all_13 : decode cM_all 13 = .ok (.iload_n 1, 1) := by decide +kernel
theorem dM_all_14 : decode cM_all 14 = .ok (.invokevirtual 58, 3) := by decide +kernel
theorem dM_all_17 : decode cM_all 17 = .ok (.ifCond .eq 7, 3) := by decide +kernel
theorem dM_all_20 : decode cM_all 20 = .ok (.iconst 1, 1) := by decide +kernel
theorem dM_all_21 : decode cM_all 21 = .ok (.goto 4, 3) := by decide +kernel
theorem dM_all_24 : decode cM_all 24 = .ok (.iconst 0, 1) := by decide +kernel
theorem dM_all_25 : decode cM_all 25 = .ok (.iadd, 1) := by decide +kernel
theorem dM_all_26 : decode cM_all 26 = .ok (.istore_n 2, 1) := by decide +kernel
theorem dM_all_27 : decode cM_all 27 = .ok (.iinc 3 1, 3) := by decide +kernel
theorem dM_all_30 : decode cM_all 30 = .ok (.goto (-26), 3) := by decide +kernel
theorem dM_all_33 : decode cM_all 33 = .ok (.iload_n 2, 1) := by decide +kernel
theorem dM_all_34 : decode cM_all 34 = .ok (.ireturn, 1) := by decide +kernel
theorem dM_choose_0 : decode cM_choose 0 = .ok (.aload_n 0, 1) := by decide +kernel
theorem dM_choose_1 : decode cM_choose 1 = .ok (.iconst 0, 1) := by decide +kernel
theorem dM_choose_2 : decode cM_choose 2 = .ok (.putfield 26, 3) := by decide +kernel
theorem dM_choose_5 : decode cM_choose 5 = .ok (.iload_n 1, 1) := by decide +kernel
theorem dM_choose_6 : decode cM_choose 6 = .ok (.invokestatic 34, 3) := by decide +kernel
theorem dM_choose_9 : decode cM_choose 9 = .ok (.ifCond .eq 10, 3) := by decide +kernel
theorem dM_choose_12 : decode cM_choose 12 = .ok (.iload_n 2, 1) := by decide +kernel
theorem dM_choose_13 : decode cM_choose 13 = .ok (.invokestatic 37, 3) := by decide +kernel
theorem dM_choose_16 : decode cM_choose 16 = .ok (.ifCond .ne 5, 3) := by decide +kernel
theorem dM_choose_19 : decode cM_choose 19 = .ok (.iconst (-1), 1) := by decide +kernel
theorem dM_choose_20 : decode cM_choose 20 = .ok (.ireturn, 1) := by decide +kernel
theorem dM_choose_21 : decode cM_choose 21 = .ok (.aload_n 0, 1) := by decide +kernel
theorem dM_choose_22 : decode cM_choose 22 = .ok (.getfield 17, 3) := by decide +kernel
theorem dM_choose_25 : decode cM_choose 25 = .ok (.bipush 32, 2) := by decide +kernel
theorem dM_choose_27 : decode cM_choose 27 = .ok (.iload_n 1, 1) := by decide +kernel
theorem dM_choose_28 : decode cM_choose 28 = .ok (.imul, 1) := by decide +kernel
theorem dM_choose_29 : decode cM_choose 29 = .ok (.iload_n 2, 1) := by decide +kernel
theorem dM_choose_30 : decode cM_choose 30 = .ok (.iadd, 1) := by decide +kernel
theorem dM_choose_31 : decode cM_choose 31 = .ok (.iload_n 3, 1) := by decide +kernel
theorem dM_choose_32 : decode cM_choose 32 = .ok (.bastore, 1) := by decide +kernel
theorem dM_choose_33 : decode cM_choose 33 = .ok (.aload_n 0, 1) := by decide +kernel
theorem dM_choose_34 : decode cM_choose 34 = .ok (.iconst (-1), 1) := by decide +kernel
theorem dM_choose_35 : decode cM_choose 35 = .ok (.invokevirtual 61, 3) := by decide +kernel
theorem dM_choose_38 : decode cM_choose 38 = .ok (.ireturn, 1) := by decide +kernel
theorem dM_kept_0 : decode cM_kept 0 = .ok (.aload_n 0, 1) := by decide +kernel
theorem dM_kept_1 : decode cM_kept 1 = .ok (.iconst 0, 1) := by decide +kernel
theorem dM_kept_2 : decode cM_kept 2 = .ok (.putfield 26, 3) := by decide +kernel
theorem dM_kept_5 : decode cM_kept 5 = .ok (.aload_n 0, 1) := by decide +kernel
theorem dM_kept_6 : decode cM_kept 6 = .ok (.iconst (-1), 1) := by decide +kernel
theorem dM_kept_7 : decode cM_kept 7 = .ok (.invokevirtual 61, 3) := by decide +kernel
theorem dM_kept_10 : decode cM_kept 10 = .ok (.ireturn, 1) := by decide +kernel
theorem dM_isKept_0 : decode cM_isKept 0 = .ok (.aload_n 0, 1) := by decide +kernel
theorem dM_isKept_1 : decode cM_isKept 1 = .ok (.iconst 0, 1) := by decide +kernel
theorem dM_isKept_2 : decode cM_isKept 2 = .ok (.putfield 26, 3) := by decide +kernel
theorem dM_isKept_5 : decode cM_isKept 5 = .ok (.iload_n 1, 1) := by decide +kernel
theorem dM_isKept_6 : decode cM_isKept 6 = .ok (.invokestatic 30, 3) := by decide +kernel
theorem dM_isKept_9 : decode cM_isKept 9 = .ok (.ifCond .ne 7, 3) := by decide +kernel
theorem dM_isKept_12 : decode cM_isKept 12 = .ok (.iconst (-1), 1) := by decide +kernel
theorem dM_isKept_13 : decode cM_isKept 13 = .ok (.goto 17, 3) := by decide +kernel
theorem dM_isKept_16 : decode cM_isKept 16 = .ok (.aload_n 0, 1) := by decide +kernel
theorem dM_isKept_17 : decode cM_isKept 17 = .ok (.iload_n 1, 1) := by decide +kernel
theorem dM_isKept_18 : decode cM_isKept 18 = .ok (.iconst (-1), 1) := by decide +kernel
theorem dM_isKept_19 : decode cM_isKept 19 = .ok (.invokevirtual 58, 3) := by decide +kernel
theorem dM_isKept_22 : decode cM_isKept 22 = .ok (.ifCond .eq 7, 3) := by decide +kernel
theorem dM_isKept_25 : decode cM_isKept 25 = .ok (.iconst 1, 1) := by decide +kernel
theorem dM_isKept_26 : decode cM_isKept 26 = .ok (.goto 4, 3) := by decide +kernel
theorem dM_isKept_29 : decode cM_isKept 29 = .ok (.iconst 0, 1) := by decide +kernel
theorem dM_isKept_30 : decode cM_isKept 30 = .ok (.ireturn, 1) := by decide +kernel
theorem dM_facet_0 : decode cM_facet 0 = .ok (.aload_n 0, 1) := by decide +kernel
theorem dM_facet_1 : decode cM_facet 1 = .ok (.iconst 0, 1) := by decide +kernel
theorem dM_facet_2 : decode cM_facet 2 = .ok (.putfield 26, 3) := by decide +kernel
theorem dM_facet_5 : decode cM_facet 5 = .ok (.iload_n 1, 1) := by decide +kernel
theorem dM_facet_6 : decode cM_facet 6 = .ok (.invokestatic 34, 3) := by decide +kernel
theorem dM_facet_9 : decode cM_facet 9 = .ok (.ifCond .eq 19, 3) := by decide +kernel
theorem dM_facet_12 : decode cM_facet 12 = .ok (.iload_n 2, 1) := by decide +kernel
theorem dM_facet_13 : decode cM_facet 13 = .ok (.invokestatic 37, 3) := by decide +kernel
theorem dM_facet_16 : decode cM_facet 16 = .ok (.ifCond .eq 12, 3) := by decide +kernel
theorem dM_facet_19 : decode cM_facet 19 = .ok (.aload_n 0, 1) := by decide +kernel
theorem dM_facet_20 : decode cM_facet 20 = .ok (.iload_n 1, 1) := by decide +kernel
theorem dM_facet_21 : decode cM_facet 21 = .ok (.iload_n 2, 1) := by decide +kernel
theorem dM_facet_22 : decode cM_facet 22 = .ok (.invokevirtual 65, 3) := by decide +kernel
theorem dM_facet_25 : decode cM_facet 25 = .ok (.goto 4, 3) := by decide +kernel
theorem dM_facet_28 : decode cM_facet 28 = .ok (.iconst (-1), 1) := by decide +kernel
theorem dM_facet_29 : decode cM_facet 29 = .ok (.ireturn, 1) := by decide +kernel
theorem dM_top_0 : decode cM_top 0 = .ok (.aload_n 0, 1) := by decide +kernel
theorem dM_top_1 : decode cM_top 1 = .ok (.iconst 0, 1) := by decide +kernel
theorem dM_top_2 : decode cM_top 2 = .ok (.putfield 26, 3) := by decide +kernel
theorem dM_top_5 : decode cM_top 5 = .ok (.iload_n 1, 1) := by decide +kernel
theorem dM_top_6 : decode cM_top 6 = .ok (.invokestatic 34, 3) := by decide +kernel
theorem dM_top_9 : decode cM_top 9 = .ok (.ifCond .ne 5, 3) := by decide +kernel
theorem dM_top_12 : decode cM_top 12 = .ok (.iconst (-1), 1) := by decide +kernel
theorem dM_top_13 : decode cM_top 13 = .ok (.ireturn, 1) := by decide +kernel
theorem dM_top_14 : decode cM_top 14 = .ok (.iconst 0, 1) := by decide +kernel
theorem dM_top_15 : decode cM_top 15 = .ok (.istore_n 3, 1) := by decide +kernel
theorem dM_top_16 : decode cM_top 16 = .ok (.iload_n 3, 1) := by decide +kernel
theorem dM_top_17 : decode cM_top 17 = .ok (.bipush 32, 2) := by decide +kernel
theorem dM_top_19 : decode cM_top 19 = .ok (.if_icmp .ge 21, 3) := by decide +kernel
theorem dM_top_22 : decode cM_top 22 = .ok (.aload_n 0, 1) := by decide +kernel
theorem dM_top_23 : decode cM_top 23 = .ok (.getfield 23, 3) := by decide +kernel
theorem dM_top_26 : decode cM_top 26 = .ok (.iload_n 3, 1) := by decide +kernel
theorem dM_top_27 : decode cM_top 27 = .ok (.aload_n 0, 1) := by decide +kernel
theorem dM_top_28 : decode cM_top 28 = .ok (.iload_n 1, 1) := by decide +kernel
theorem dM_top_29 : decode cM_top 29 = .ok (.iload_n 3, 1) := by decide +kernel
theorem dM_top_30 : decode cM_top 30 = .ok (.invokevirtual 65, 3) := by decide +kernel
theorem dM_top_33 : decode cM_top 33 = .ok (.iastore, 1) := by decide +kernel
theorem dM_top_34 : decode cM_top 34 = .ok (.iinc 3 1, 3) := by decide +kernel
theorem dM_top_37 : decode cM_top 37 = .ok (.goto (-21), 3) := by decide +kernel
theorem dM_top_40 : decode cM_top 40 = .ok (.iconst 0, 1) := by decide +kernel
theorem dM_top_41 : decode cM_top 41 = .ok (.istore_n 3, 1) := by decide +kernel
theorem dM_top_42 : decode cM_top 42 = .ok (.iload_n 3, 1) := by decide +kernel
theorem dM_top_43 : decode cM_top 43 = .ok (.bipush 32, 2) := by decide +kernel
theorem dM_top_45 : decode cM_top 45 = .ok (.if_icmp .ge 89, 3) := by decide +kernel
theorem dM_top_48 : decode cM_top 48 = .ok (.aload_n 0, 1) := by decide +kernel
theorem dM_top_49 : decode cM_top 49 = .ok (.getfield 23, 3) := by decide +kernel
theorem dM_top_52 : decode cM_top 52 = .ok (.iload_n 3, 1) := by decide +kernel
theorem dM_top_53 : decode cM_top 53 = .ok (.iaload, 1) := by decide +kernel
theorem dM_top_54 : decode cM_top 54 = .ok (.istore 4, 2) := by decide +kernel
theorem dM_top_56 : decode cM_top 56 = .ok (.iconst 0, 1) := by decide +kernel
theorem dM_top_57 : decode cM_top 57 = .ok (.istore 5, 2) := by decide +kernel
theorem dM_top_59 : decode cM_top 59 = .ok (.iconst 0, 1) := by decide +kernel
theorem dM_top_60 : decode cM_top 60 = .ok (.istore 6, 2) := by decide +kernel
theorem dM_top_62 : decode cM_top 62 = .ok (.iload 6, 2) := by decide +kernel
theorem dM_top_64 : decode cM_top 64 = .ok (.bipush 32, 2) := by decide +kernel
theorem dM_top_66 : decode cM_top 66 = .ok (.if_icmp .ge 49, 3) := by decide +kernel
theorem dM_top_69 : decode cM_top 69 = .ok (.iload 5, 2) := by decide +kernel
theorem dM_top_71 : decode cM_top 71 = .ok (.aload_n 0, 1) := by decide +kernel
theorem dM_top_72 : decode cM_top 72 = .ok (.getfield 23, 3) := by decide +kernel
theorem dM_top_75 : decode cM_top 75 = .ok (.iload 6, 2) := by decide +kernel
theorem dM_top_77 : decode cM_top 77 = .ok (.iaload, 1) := by decide +kernel
theorem dM_top_78 : decode cM_top 78 = .ok (.iload 4, 2) := by decide +kernel
theorem dM_top_80 : decode cM_top 80 = .ok (.if_icmp .gt 21, 3) := by decide +kernel
theorem dM_top_83 : decode cM_top 83 = .ok (.aload_n 0, 1) := by decide +kernel
theorem dM_top_84 : decode cM_top 84 = .ok (.getfield 23, 3) := by decide +kernel
theorem dM_top_87 : decode cM_top 87 = .ok (.iload 6, 2) := by decide +kernel
theorem dM_top_89 : decode cM_top 89 = .ok (.iaload, 1) := by decide +kernel
theorem dM_top_90 : decode cM_top 90 = .ok (.iload 4, 2) := by decide +kernel
theorem dM_top_92 : decode cM_top 92 = .ok (.if_icmp .ne 13, 3) := by decide +kernel
theorem dM_top_95 : decode cM_top 95 = .ok (.iload 6, 2) := by decide +kernel
theorem dM_top_97 : decode cM_top 97 = .ok (.iload_n 3, 1) := by decide +kernel
theorem dM_top_98 : decode cM_top 98 = .ok (.if_icmp .ge 7, 3) := by decide +kernel
theorem dM_top_101 : decode cM_top 101 = .ok (.iconst 1, 1) := by decide +kernel
theorem dM_top_102 : decode cM_top 102 = .ok (.goto 4, 3) := by decide +kernel
theorem dM_top_105 : decode cM_top 105 = .ok (.iconst 0, 1) := by decide +kernel
theorem dM_top_106 : decode cM_top 106 = .ok (.iadd, 1) := by decide +kernel
theorem dM_top_107 : decode cM_top 107 = .ok (.istore 5, 2) := by decide +kernel
theorem dM_top_109 : decode cM_top 109 = .ok (.iinc 6 1, 3) := by decide +kernel
theorem dM_top_112 : decode cM_top 112 = .ok (.goto (-50), 3) := by decide +kernel
theorem dM_top_115 : decode cM_top 115 = .ok (.iload 4, 2) := by decide +kernel
theorem dM_top_117 : decode cM_top 117 = .ok (.ifCond .le 11, 3) := by decide +kernel
theorem dM_top_120 : decode cM_top 120 = .ok (.iload 5, 2) := by decide +kernel
theorem dM_top_122 : decode cM_top 122 = .ok (.iload_n 2, 1) := by decide +kernel
theorem dM_top_123 : decode cM_top 123 = .ok (.if_icmp .ne 5, 3) := by decide +kernel
theorem dM_top_126 : decode cM_top 126 = .ok (.iload_n 3, 1) := by decide +kernel
theorem dM_top_127 : decode cM_top 127 = .ok (.ireturn, 1) := by decide +kernel
theorem dM_top_128 : decode cM_top 128 = .ok (.iinc 3 1, 3) := by decide +kernel
theorem dM_top_131 : decode cM_top 131 = .ok (.goto (-89), 3) := by decide +kernel
theorem dM_top_134 : decode cM_top 134 = .ok (.iconst (-1), 1) := by decide +kernel
theorem dM_top_135 : decode cM_top 135 = .ok (.ireturn, 1) := by decide +kernel
theorem dM_range_0 : decode cM_range 0 = .ok (.aload_n 0, 1) := by decide +kernel
theorem dM_range_1 : decode cM_range 1 = .ok (.iconst 0, 1) := by decide +kernel
theorem dM_range_2 : decode cM_range 2 = .ok (.putfield 26, 3) := by decide +kernel
theorem dM_range_5 : decode cM_range 5 = .ok (.iload_n 1, 1) := by decide +kernel
theorem dM_range_6 : decode cM_range 6 = .ok (.invokestatic 34, 3) := by decide +kernel
theorem dM_range_9 : decode cM_range 9 = .ok (.ifCond .ne 5, 3) := by decide +kernel
theorem dM_range_12 : decode cM_range 12 = .ok (.iconst (-1), 1) := by decide +kernel
theorem dM_range_13 : decode cM_range 13 = .ok (.ireturn, 1) := by decide +kernel
theorem dM_range_14 : decode cM_range 14 = .ok (.iconst 0, 1) := by decide +kernel
theorem dM_range_15 : decode cM_range 15 = .ok (.istore 4, 2) := by decide +kernel
theorem dM_range_17 : decode cM_range 17 = .ok (.iconst 0, 1) := by decide +kernel
theorem dM_range_18 : decode cM_range 18 = .ok (.istore 5, 2) := by decide +kernel
theorem dM_range_20 : decode cM_range 20 = .ok (.iload 5, 2) := by decide +kernel
theorem dM_range_22 : decode cM_range 22 = .ok (.bipush 40, 2) := by decide +kernel
theorem dM_range_24 : decode cM_range 24 = .ok (.if_icmp .ge 89, 3) := by decide +kernel
theorem dM_range_27 : decode cM_range 27 = .ok (.iconst 0, 1) := by decide +kernel
theorem dM_range_28 : decode cM_range 28 = .ok (.istore 6, 2) := by decide +kernel
theorem dM_range_30 : decode cM_range 30 = .ok (.iconst 0, 1) := by decide +kernel
theorem dM_range_31 : decode cM_range 31 = .ok (.istore 7, 2) := by decide +kernel
theorem dM_range_33 : decode cM_range 33 = .ok (.iload 7, 2) := by decide +kernel
theorem dM_range_35 : decode cM_range 35 = .ok (.bipush 32, 2) := by decide +kernel
theorem dM_range_37 : decode cM_range 37 = .ok (.if_icmp .ge 45, 3) := by decide +kernel
theorem dM_range_40 : decode cM_range 40 = .ok (.iload 6, 2) := by decide +kernel
theorem dM_range_42 : decode cM_range 42 = .ok (.ifCond .ne 27, 3) := by decide +kernel
theorem dM_range_45 : decode cM_range 45 = .ok (.iload 7, 2) := by decide +kernel
theorem dM_range_47 : decode cM_range 47 = .ok (.iload_n 2, 1) := by decide +kernel
theorem dM_range_48 : decode cM_range 48 = .ok (.if_icmp .lt 25, 3) := by decide +kernel
theorem dM_range_51 : decode cM_range 51 = .ok (.iload 7, 2) := by decide +kernel
theorem dM_range_53 : decode cM_range 53 = .ok (.iload_n 3, 1) := by decide +kernel
theorem dM_range_54 : decode cM_range 54 = .ok (.if_icmp .gt 19, 3) := by decide +kernel
theorem dM_range_57 : decode cM_range 57 = .ok (.aload_n 0, 1) := by decide +kernel
theorem dM_range_58 : decode cM_range 58 = .ok (.iload 5, 2) := by decide +kernel
theorem dM_range_60 : decode cM_range 60 = .ok (.iload_n 1, 1) := by decide +kernel
theorem dM_range_61 : decode cM_range 61 = .ok (.iload 7, 2) := by decide +kernel
theorem dM_range_63 : decode cM_range 63 = .ok (.invokevirtual 51, 3) := by decide +kernel
theorem dM_range_66 : decode cM_range 66 = .ok (.ifCond .eq 7, 3) := by decide +kernel
theorem dM_range_69 : decode cM_range 69 = .ok (.iconst 1, 1) := by decide +kernel
theorem dM_range_70 : decode cM_range 70 = .ok (.goto 4, 3) := by decide +kernel
theorem dM_range_73 : decode cM_range 73 = .ok (.iconst 0, 1) := by decide +kernel
theorem dM_range_74 : decode cM_range 74 = .ok (.istore 6, 2) := by decide +kernel
theorem dM_range_76 : decode cM_range 76 = .ok (.iinc 7 1, 3) := by decide +kernel
theorem dM_range_79 : decode cM_range 79 = .ok (.goto (-46), 3) := by decide +kernel
theorem dM_range_82 : decode cM_range 82 = .ok (.iload 4, 2) := by decide +kernel
theorem dM_range_84 : decode cM_range 84 = .ok (.iload 6, 2) := by decide +kernel
theorem dM_range_86 : decode cM_range 86 = .ok (.ifCond .eq 17, 3) := by decide +kernel
theorem dM_range_89 : decode cM_range 89 = .ok (.aload_n 0, 1) := by decide +kernel
theorem dM_range_90 : decode cM_range 90 = .ok (.iload 5, 2) := by decide +kernel
theorem dM_range_92 : decode cM_range 92 = .ok (.iload_n 1, 1) := by decide +kernel
theorem dM_range_93 : decode cM_range 93 = .ok (.invokevirtual 58, 3) := by decide +kernel
theorem dM_range_96 : decode cM_range 96 = .ok (.ifCond .eq 7, 3) := by decide +kernel
theorem dM_range_99 : decode cM_range 99 = .ok (.iconst 1, 1) := by decide +kernel
theorem dM_range_100 : decode cM_range 100 = .ok (.goto 4, 3) := by decide +kernel
theorem dM_range_103 : decode cM_range 103 = .ok (.iconst 0, 1) := by decide +kernel
theorem dM_range_104 : decode cM_range 104 = .ok (.iadd, 1) := by decide +kernel
theorem dM_range_105 : decode cM_range 105 = .ok (.istore 4, 2) := by decide +kernel
theorem dM_range_107 : decode cM_range 107 = .ok (.iinc 5 1, 3) := by decide +kernel
theorem dM_range_110 : decode cM_range 110 = .ok (.goto (-90), 3) := by decide +kernel
theorem dM_range_113 : decode cM_range 113 = .ok (.iload 4, 2) := by decide +kernel
theorem dM_range_115 : decode cM_range 115 = .ok (.ireturn, 1) := by decide +kernel
theorem dM_sum_0 : decode cM_sum 0 = .ok (.aload_n 0, 1) := by decide +kernel
theorem dM_sum_1 : decode cM_sum 1 = .ok (.iconst 0, 1) := by decide +kernel
theorem dM_sum_2 : decode cM_sum 2 = .ok (.putfield 26, 3) := by decide +kernel
theorem dM_sum_5 : decode cM_sum 5 = .ok (.iload_n 1, 1) := by decide +kernel
theorem dM_sum_6 : decode cM_sum 6 = .ok (.invokestatic 34, 3) := by decide +kernel
theorem dM_sum_9 : decode cM_sum 9 = .ok (.ifCond .eq 17, 3) := by decide +kernel
theorem dM_sum_12 : decode cM_sum 12 = .ok (.iload_n 2, 1) := by decide +kernel
theorem dM_sum_13 : decode cM_sum 13 = .ok (.invokestatic 37, 3) := by decide +kernel
theorem dM_sum_16 : decode cM_sum 16 = .ok (.ifCond .eq 10, 3) := by decide +kernel
theorem dM_sum_19 : decode cM_sum 19 = .ok (.iload_n 3, 1) := by decide +kernel
theorem dM_sum_20 : decode cM_sum 20 = .ok (.invokestatic 34, 3) := by decide +kernel
theorem dM_sum_23 : decode cM_sum 23 = .ok (.ifCond .ne 5, 3) := by decide +kernel
theorem dM_sum_26 : decode cM_sum 26 = .ok (.iconst (-1), 1) := by decide +kernel
theorem dM_sum_27 : decode cM_sum 27 = .ok (.ireturn, 1) := by decide +kernel
theorem dM_sum_28 : decode cM_sum 28 = .ok (.iconst 0, 1) := by decide +kernel
theorem dM_sum_29 : decode cM_sum 29 = .ok (.istore 4, 2) := by decide +kernel
theorem dM_sum_31 : decode cM_sum 31 = .ok (.iconst 0, 1) := by decide +kernel
theorem dM_sum_32 : decode cM_sum 32 = .ok (.istore 5, 2) := by decide +kernel
theorem dM_sum_34 : decode cM_sum 34 = .ok (.iload 5, 2) := by decide +kernel
theorem dM_sum_36 : decode cM_sum 36 = .ok (.bipush 40, 2) := by decide +kernel
theorem dM_sum_38 : decode cM_sum 38 = .ok (.if_icmp .ge 81, 3) := by decide +kernel
theorem dM_sum_41 : decode cM_sum 41 = .ok (.aload_n 0, 1) := by decide +kernel
theorem dM_sum_42 : decode cM_sum 42 = .ok (.iload 5, 2) := by decide +kernel
theorem dM_sum_44 : decode cM_sum 44 = .ok (.iload_n 1, 1) := by decide +kernel
theorem dM_sum_45 : decode cM_sum 45 = .ok (.iload_n 2, 1) := by decide +kernel
theorem dM_sum_46 : decode cM_sum 46 = .ok (.invokevirtual 51, 3) := by decide +kernel
theorem dM_sum_49 : decode cM_sum 49 = .ok (.ifCond .eq 17, 3) := by decide +kernel
theorem dM_sum_52 : decode cM_sum 52 = .ok (.aload_n 0, 1) := by decide +kernel
theorem dM_sum_53 : decode cM_sum 53 = .ok (.iload 5, 2) := by decide +kernel
theorem dM_sum_55 : decode cM_sum 55 = .ok (.iconst (-1), 1) := by decide +kernel
theorem dM_sum_56 : decode cM_sum 56 = .ok (.invokevirtual 58, 3) := by decide +kernel
theorem dM_sum_59 : decode cM_sum 59 = .ok (.ifCond .eq 7, 3) := by decide +kernel
theorem dM_sum_62 : decode cM_sum 62 = .ok (.iconst 1, 1) := by decide +kernel
theorem dM_sum_63 : decode cM_sum 63 = .ok (.goto 4, 3) := by decide +kernel
theorem dM_sum_66 : decode cM_sum 66 = .ok (.iconst 0, 1) := by decide +kernel
theorem dM_sum_67 : decode cM_sum 67 = .ok (.istore 6, 2) := by decide +kernel
theorem dM_sum_69 : decode cM_sum 69 = .ok (.iconst 0, 1) := by decide +kernel
theorem dM_sum_70 : decode cM_sum 70 = .ok (.istore 7, 2) := by decide +kernel
theorem dM_sum_72 : decode cM_sum 72 = .ok (.iload 7, 2) := by decide +kernel
theorem dM_sum_74 : decode cM_sum 74 = .ok (.bipush 32, 2) := by decide +kernel
theorem dM_sum_76 : decode cM_sum 76 = .ok (.if_icmp .ge 37, 3) := by decide +kernel
theorem dM_sum_79 : decode cM_sum 79 = .ok (.iload 6, 2) := by decide +kernel
theorem dM_sum_81 : decode cM_sum 81 = .ok (.ifCond .eq 32, 3) := by decide +kernel
theorem dM_sum_84 : decode cM_sum 84 = .ok (.iload 4, 2) := by decide +kernel
theorem dM_sum_86 : decode cM_sum 86 = .ok (.aload_n 0, 1) := by decide +kernel
theorem dM_sum_87 : decode cM_sum 87 = .ok (.iload 5, 2) := by decide +kernel
theorem dM_sum_89 : decode cM_sum 89 = .ok (.iload_n 3, 1) := by decide +kernel
theorem dM_sum_90 : decode cM_sum 90 = .ok (.iload 7, 2) := by decide +kernel
theorem dM_sum_92 : decode cM_sum 92 = .ok (.invokevirtual 51, 3) := by decide +kernel
theorem dM_sum_95 : decode cM_sum 95 = .ok (.ifCond .eq 8, 3) := by decide +kernel
theorem dM_sum_98 : decode cM_sum 98 = .ok (.iload 7, 2) := by decide +kernel
theorem dM_sum_100 : decode cM_sum 100 = .ok (.goto 4, 3) := by decide +kernel
theorem dM_sum_103 : decode cM_sum 103 = .ok (.iconst 0, 1) := by decide +kernel
theorem dM_sum_104 : decode cM_sum 104 = .ok (.iadd, 1) := by decide +kernel
theorem dM_sum_105 : decode cM_sum 105 = .ok (.istore 4, 2) := by decide +kernel
theorem dM_sum_107 : decode cM_sum 107 = .ok (.iinc 7 1, 3) := by decide +kernel
theorem dM_sum_110 : decode cM_sum 110 = .ok (.goto (-38), 3) := by decide +kernel
theorem dM_sum_113 : decode cM_sum 113 = .ok (.iinc 5 1, 3) := by decide +kernel
theorem dM_sum_116 : decode cM_sum 116 = .ok (.goto (-82), 3) := by decide +kernel
theorem dM_sum_119 : decode cM_sum 119 = .ok (.iload 4, 2) := by decide +kernel
theorem dM_sum_121 : decode cM_sum 121 = .ok (.ireturn, 1) := by decide +kernel
theorem dM_share_0 : decode cM_share 0 = .ok (.iload_n 1, 1) := by decide +kernel
theorem dM_share_1 : decode cM_share 1 = .ok (.invokestatic 34, 3) := by decide +kernel
theorem dM_share_4 : decode cM_share 4 = .ok (.ifCond .eq 18, 3) := by decide +kernel
theorem dM_share_7 : decode cM_share 7 = .ok (.iload_n 2, 1) := by decide +kernel
theorem dM_share_8 : decode cM_share 8 = .ok (.invokestatic 37, 3) := by decide +kernel
theorem dM_share_11 : decode cM_share 11 = .ok (.ifCond .eq 11, 3) := by decide +kernel
theorem dM_share_14 : decode cM_share 14 = .ok (.aload_n 0, 1) := by decide +kernel
theorem dM_share_15 : decode cM_share 15 = .ok (.iload_n 1, 1) := by decide +kernel
theorem dM_share_16 : decode cM_share 16 = .ok (.invokevirtual 61, 3) := by decide +kernel
theorem dM_share_19 : decode cM_share 19 = .ok (.goto 4, 3) := by decide +kernel
theorem dM_share_22 : decode cM_share 22 = .ok (.iconst 0, 1) := by decide +kernel
theorem dM_share_23 : decode cM_share 23 = .ok (.istore 4, 2) := by decide +kernel
theorem dM_share_25 : decode cM_share 25 = .ok (.aload_n 0, 1) := by decide +kernel
theorem dM_share_26 : decode cM_share 26 = .ok (.iload 4, 2) := by decide +kernel
theorem dM_share_28 : decode cM_share 28 = .ok (.ifCond .ne 7, 3) := by decide +kernel
theorem dM_share_31 : decode cM_share 31 = .ok (.iconst 1, 1) := by decide +kernel
theorem dM_share_32 : decode cM_share 32 = .ok (.goto 4, 3) := by decide +kernel
theorem dM_share_35 : decode cM_share 35 = .ok (.iconst 0, 1) := by decide +kernel
theorem dM_share_36 : decode cM_share 36 = .ok (.putfield 26, 3) := by decide +kernel
theorem dM_share_39 : decode cM_share 39 = .ok (.aload_n 0, 1) := by decide +kernel
theorem dM_share_40 : decode cM_share 40 = .ok (.getfield 26, 3) := by decide +kernel
theorem dM_share_43 : decode cM_share 43 = .ok (.ifCond .le 5, 3) := by decide +kernel
theorem dM_share_46 : decode cM_share 46 = .ok (.iconst 0, 1) := by decide +kernel
theorem dM_share_47 : decode cM_share 47 = .ok (.ireturn, 1) := by decide +kernel
theorem dM_share_48 : decode cM_share 48 = .ok (.aload_n 0, 1) := by decide +kernel
theorem dM_share_49 : decode cM_share 49 = .ok (.iload_n 1, 1) := by decide +kernel
theorem dM_share_50 : decode cM_share 50 = .ok (.iload_n 2, 1) := by decide +kernel
theorem dM_share_51 : decode cM_share 51 = .ok (.invokevirtual 65, 3) := by decide +kernel
theorem dM_share_54 : decode cM_share 54 = .ok (.istore 5, 2) := by decide +kernel
theorem dM_share_56 : decode cM_share 56 = .ok (.iconst 1, 1) := by decide +kernel
theorem dM_share_57 : decode cM_share 57 = .ok (.istore 6, 2) := by decide +kernel
theorem dM_share_59 : decode cM_share 59 = .ok (.iconst 1, 1) := by decide +kernel
theorem dM_share_60 : decode cM_share 60 = .ok (.istore 7, 2) := by decide +kernel
theorem dM_share_62 : decode cM_share 62 = .ok (.iload 7, 2) := by decide +kernel
theorem dM_share_64 : decode cM_share 64 = .ok (.iload 4, 2) := by decide +kernel
theorem dM_share_66 : decode cM_share 66 = .ok (.if_icmp .gt 34, 3) := by decide +kernel
theorem dM_share_69 : decode cM_share 69 = .ok (.iload 4, 2) := by decide +kernel
theorem dM_share_71 : decode cM_share 71 = .ok (.iload 7, 2) := by decide +kernel
theorem dM_share_73 : decode cM_share 73 = .ok (.irem, 1) := by decide +kernel
theorem dM_share_74 : decode cM_share 74 = .ok (.ifCond .ne 16, 3) := by decide +kernel
theorem dM_share_77 : decode cM_share 77 = .ok (.iload 5, 2) := by decide +kernel
theorem dM_share_79 : decode cM_share 79 = .ok (.iload 7, 2) := by decide +kernel
theorem dM_share_81 : decode cM_share 81 = .ok (.irem, 1) := by decide +kernel
theorem dM_share_82 : decode cM_share 82 = .ok (.ifCond .ne 8, 3) := by decide +kernel
theorem dM_share_85 : decode cM_share 85 = .ok (.iload 7, 2) := by decide +kernel
theorem dM_share_87 : decode cM_share 87 = .ok (.goto 5, 3) := by decide +kernel
theorem dM_share_90 : decode cM_share 90 = .ok (.iload 6, 2) := by decide +kernel
theorem dM_share_92 : decode cM_share 92 = .ok (.istore 6, 2) := by decide +kernel
theorem dM_share_94 : decode cM_share 94 = .ok (.iinc 7 1, 3) := by decide +kernel
theorem dM_share_97 : decode cM_share 97 = .ok (.goto (-35), 3) := by decide +kernel
theorem dM_share_100 : decode cM_share 100 = .ok (.iload_n 3, 1) := by decide +kernel
theorem dM_share_101 : decode cM_share 101 = .ok (.ifCond .eq 11, 3) := by decide +kernel
theorem dM_share_104 : decode cM_share 104 = .ok (.iload 4, 2) := by decide +kernel
theorem dM_share_106 : decode cM_share 106 = .ok (.iload 6, 2) := by decide +kernel
theorem dM_share_108 : decode cM_share 108 = .ok (.idiv, 1) := by decide +kernel
theorem dM_share_109 : decode cM_share 109 = .ok (.goto 8, 3) := by decide +kernel
theorem dM_share_112 : decode cM_share 112 = .ok (.iload 5, 2) := by decide +kernel
theorem dM_share_114 : decode cM_share 114 = .ok (.iload 6, 2) := by decide +kernel
theorem dM_share_116 : decode cM_share 116 = .ok (.idiv, 1) := by decide +kernel
theorem dM_share_117 : decode cM_share 117 = .ok (.ireturn, 1) := by decide +kernel
theorem dM_changed_0 : decode cM_changed 0 = .ok (.aload_n 0, 1) := by decide +kernel
theorem dM_changed_1 : decode cM_changed 1 = .ok (.iconst 0, 1) := by decide +kernel
theorem dM_changed_2 : decode cM_changed 2 = .ok (.putfield 26, 3) := by decide +kernel
theorem dM_changed_5 : decode cM_changed 5 = .ok (.iconst 0, 1) := by decide +kernel
theorem dM_changed_6 : decode cM_changed 6 = .ok (.istore_n 1, 1) := by decide +kernel
theorem dM_changed_7 : decode cM_changed 7 = .ok (.iconst 0, 1) := by decide +kernel
theorem dM_changed_8 : decode cM_changed 8 = .ok (.istore_n 2, 1) := by decide +kernel
theorem dM_changed_9 : decode cM_changed 9 = .ok (.iload_n 2, 1) := by decide +kernel
theorem dM_changed_10 : decode cM_changed 10 = .ok (.bipush 8, 2) := by decide +kernel
theorem dM_changed_12 : decode cM_changed 12 = .ok (.if_icmp .ge 68, 3) := by decide +kernel
theorem dM_changed_15 : decode cM_changed 15 = .ok (.iconst 0, 1) := by decide +kernel
theorem dM_changed_16 : decode cM_changed 16 = .ok (.istore_n 3, 1) := by decide +kernel
theorem dM_changed_17 : decode cM_changed 17 = .ok (.iload_n 3, 1) := by decide +kernel
theorem dM_changed_18 : decode cM_changed 18 = .ok (.bipush 32, 2) := by decide +kernel
theorem dM_changed_20 : decode cM_changed 20 = .ok (.if_icmp .ge 54, 3) := by decide +kernel
theorem dM_changed_23 : decode cM_changed 23 = .ok (.aload_n 0, 1) := by decide +kernel
theorem dM_changed_24 : decode cM_changed 24 = .ok (.iload_n 2, 1) := by decide +kernel
theorem dM_changed_25 : decode cM_changed 25 = .ok (.iload_n 3, 1) := by decide +kernel
theorem dM_changed_26 : decode cM_changed 26 = .ok (.invokevirtual 65, 3) := by decide +kernel
theorem dM_changed_29 : decode cM_changed 29 = .ok (.istore 4, 2) := by decide +kernel
theorem dM_changed_31 : decode cM_changed 31 = .ok (.iload_n 1, 1) := by decide +kernel
theorem dM_changed_32 : decode cM_changed 32 = .ok (.iload 4, 2) := by decide +kernel
theorem dM_changed_34 : decode cM_changed 34 = .ok (.aload_n 0, 1) := by decide +kernel
theorem dM_changed_35 : decode cM_changed 35 = .ok (.getfield 20, 3) := by decide +kernel
theorem dM_changed_38 : decode cM_changed 38 = .ok (.bipush 32, 2) := by decide +kernel
theorem dM_changed_40 : decode cM_changed 40 = .ok (.iload_n 2, 1) := by decide +kernel
theorem dM_changed_41 : decode cM_changed 41 = .ok (.imul, 1) := by decide +kernel
theorem dM_changed_42 : decode cM_changed 42 = .ok (.iload_n 3, 1) := by decide +kernel
theorem dM_changed_43 : decode cM_changed 43 = .ok (.iadd, 1) := by decide +kernel
theorem dM_changed_44 : decode cM_changed 44 = .ok (.iaload, 1) := by decide +kernel
theorem dM_changed_45 : decode cM_changed 45 = .ok (.if_icmp .eq 7, 3) := by decide +kernel
theorem dM_changed_48 : decode cM_changed 48 = .ok (.iconst 1, 1) := by decide +kernel
theorem dM_changed_49 : decode cM_changed 49 = .ok (.goto 4, 3) := by decide +kernel
theorem dM_changed_52 : decode cM_changed 52 = .ok (.iconst 0, 1) := by decide +kernel
theorem dM_changed_53 : decode cM_changed 53 = .ok (.iadd, 1) := by decide +kernel
theorem dM_changed_54 : decode cM_changed 54 = .ok (.istore_n 1, 1) := by decide +kernel
theorem dM_changed_55 : decode cM_changed 55 = .ok (.aload_n 0, 1) := by decide +kernel
theorem dM_changed_56 : decode cM_changed 56 = .ok (.getfield 20, 3) := by decide +kernel
theorem dM_changed_59 : decode cM_changed 59 = .ok (.bipush 32, 2) := by decide +kernel
theorem dM_changed_61 : decode cM_changed 61 = .ok (.iload_n 2, 1) := by decide +kernel
theorem dM_changed_62 : decode cM_changed 62 = .ok (.imul, 1) := by decide +kernel
theorem dM_changed_63 : decode cM_changed 63 = .ok (.iload_n 3, 1) := by decide +kernel
theorem dM_changed_64 : decode cM_changed 64 = .ok (.iadd, 1) := by decide +kernel
theorem dM_changed_65 : decode cM_changed 65 = .ok (.iload 4, 2) := by decide +kernel
theorem dM_changed_67 : decode cM_changed 67 = .ok (.iastore, 1) := by decide +kernel
theorem dM_changed_68 : decode cM_changed 68 = .ok (.iinc 3 1, 3) := by decide +kernel
theorem dM_changed_71 : decode cM_changed 71 = .ok (.goto (-54), 3) := by decide +kernel
theorem dM_changed_74 : decode cM_changed 74 = .ok (.iinc 2 1, 3) := by decide +kernel
theorem dM_changed_77 : decode cM_changed 77 = .ok (.goto (-68), 3) := by decide +kernel
theorem dM_changed_80 : decode cM_changed 80 = .ok (.iload_n 1, 1) := by decide +kernel
theorem dM_changed_81 : decode cM_changed 81 = .ok (.ireturn, 1) := by decide +kernel
theorem dM_rows_0 : decode cM_rows 0 = .ok (.aload_n 0, 1) := by decide +kernel
theorem dM_rows_1 : decode cM_rows 1 = .ok (.iconst 0, 1) := by decide +kernel
theorem dM_rows_2 : decode cM_rows 2 = .ok (.putfield 26, 3) := by decide +kernel
theorem dM_rows_5 : decode cM_rows 5 = .ok (.aload_n 0, 1) := by decide +kernel
theorem dM_rows_6 : decode cM_rows 6 = .ok (.getfield 44, 3) := by decide +kernel
theorem dM_rows_9 : decode cM_rows 9 = .ok (.ireturn, 1) := by decide +kernel
theorem inM : ∀ w ∈ wsM0, w ∈ lw_tbl := fun w h => (fmW_in w (List.mem_append_right _ h)).1
abbrev fmCl : List vw_C := [(RX0, TX0, 7), (RX1, TM, 7)]
end
section
/-! rows on bits, shifts and unsigned numbers, to paste: each family out of a closed proof of our own, whole with what it rests on; each by itself clean at Lean in its own claim (generation 39, form 5). Take a family whole -/
/-! ===== Int32 by its bits: bt x i ===== -/
def bt (x : Int32) (i : Nat) : Bool := x.toBitVec.getLsbD i
theorem b_ext {x y : Int32} (h : ∀ i, i < 32 → bt x i = bt y i) : x = y := Int32.toBitVec_inj.mp (BitVec.eq_of_getLsbD_eq (fun i hi => h i hi))
theorem b_or (x y : Int32) (i : Nat) : bt (x ||| y) i = (bt x i || bt y i) := by unfold bt; rw [Int32.toBitVec_or, BitVec.getLsbD_or]
theorem b_and (x y : Int32) (i : Nat) : bt (x &&& y) i = (bt x i && bt y i) := by unfold bt; rw [Int32.toBitVec_and, BitVec.getLsbD_and]
theorem b_xor (x y : Int32) (i : Nat) : bt (x ^^^ y) i = (bt x i ^^ bt y i) := by unfold bt; rw [Int32.toBitVec_xor, BitVec.getLsbD_xor]
theorem b_big {x : Int32} {i : Nat} (h : 32 ≤ i) : bt x i = false := BitVec.getLsbD_of_ge _ _ h
theorem b_255 (i : Nat) : bt 255 i = decide (i < 8) := by
  rcases Nat.lt_or_ge i 32 with h | h
  · exact (by decide +kernel : ∀ i, i < 32 → bt 255 i = decide (i < 8)) i h
  · rw [b_big h, decide_eq_false (by omega)]
theorem b_65535 (i : Nat) : bt 65535 i = decide (i < 16) := by
  rcases Nat.lt_or_ge i 32 with h | h
  · exact (by decide +kernel : ∀ i, i < 32 → bt 65535 i = decide (i < 16)) i h
  · rw [b_big h, decide_eq_false (by omega)]
theorem b_m1 : ∀ i, i < 32 → bt (-1) i = true := by decide +kernel
theorem b_0 (i : Nat) : bt 0 i = false := BitVec.getLsbD_zero
theorem s_l : ∀ n, n < 32 → ((nI n &&& 31).toBitVec.smod 32).toNat = n := by decide +kernel
theorem s_u : ∀ n, n < 32 → (((nI n).toUInt32 &&& Int32.toUInt32 31).toBitVec % 32).toNat = n := by decide +kernel
theorem b_shl (n : Nat) (hn : n < 32) (x : Int32) {i : Nat} (hi : i < 32) : bt (x <<< (nI n &&& 31)) i = (decide (n ≤ i) && bt x (i - n)) := by
  unfold bt
  rw [Int32.toBitVec_shiftLeft]
  show (x.toBitVec <<< ((nI n &&& 31).toBitVec.smod 32).toNat).getLsbD i = _
  rw [s_l n hn, BitVec.getLsbD_shiftLeft]
  rcases Nat.lt_or_ge i n with h | h
  · simp [h, Nat.not_le.mpr h]
  · simp [hi, h, Nat.not_lt.mpr h]
theorem b_ushr (n : Nat) (hn : n < 32) (x : Int32) (i : Nat) : bt ((x.toUInt32 >>> ((nI n).toUInt32 &&& Int32.toUInt32 31)).toInt32) i = bt x (n + i) := by
  show (x.toUInt32 >>> ((nI n).toUInt32 &&& Int32.toUInt32 31)).toBitVec.getLsbD i = x.toUInt32.toBitVec.getLsbD (n + i)
  rw [UInt32.toBitVec_shiftRight]
  show (x.toUInt32.toBitVec >>> (((nI n).toUInt32 &&& Int32.toUInt32 31).toBitVec % 32).toNat).getLsbD i = _
  rw [s_u n hn, BitVec.getLsbD_ushiftRight]
theorem b_sshr (n : Nat) (hn : n < 32) (x : Int32) {i : Nat} (hi : i < 32) : bt (x >>> (nI n &&& 31)) i = if n + i < 32 then bt x (n + i) else bt x 31 := by
  unfold bt
  rw [Int32.toBitVec_shiftRight]
  show (x.toBitVec.sshiftRight ((nI n &&& 31).toBitVec.smod 32).toNat).getLsbD i = _
  rw [s_l n hn, BitVec.getLsbD_sshiftRight, BitVec.msb_eq_getLsbD_last]
  simp [hi]
theorem b_shl8 (x : Int32) {i : Nat} (hi : i < 32) : bt (x <<< ((8 : Int32) &&& 31)) i = (decide (8 ≤ i) && bt x (i - 8)) := b_shl 8 (by omega) x hi
theorem b_shl16 (x : Int32) {i : Nat} (hi : i < 32) : bt (x <<< ((16 : Int32) &&& 31)) i = (decide (16 ≤ i) && bt x (i - 16)) := b_shl 16 (by omega) x hi
theorem b_shl24 (x : Int32) {i : Nat} (hi : i < 32) : bt (x <<< ((24 : Int32) &&& 31)) i = (decide (24 ≤ i) && bt x (i - 24)) := b_shl 24 (by omega) x hi
theorem b_sshr8 (x : Int32) {i : Nat} (hi : i < 32) : bt (x >>> ((8 : Int32) &&& 31)) i = if 8 + i < 32 then bt x (8 + i) else bt x 31 := b_sshr 8 (by omega) x hi
/-! rows of my own: numbers that are naturals, branches on them, loops -/
def xf_B (b : Bool) : Int32 := if b = true then nI 1 else nI 0
def xf_in (x : Int32) (n : Nat) : Bool := decide (0 ≤ x.toInt ∧ x.toInt < n)
def xf_bit (j : Nat) : Int32 := nI 1 <<< (nI j &&& 31)
def xf_not (x : Int32) : Int32 := x ^^^ (-1)
def xf_cnt (P : Nat → Bool) : Nat → Nat
  | 0 => 0
  | n + 1 => xf_cnt P n + (if P n = true then 1 else 0)
def xf_mk (P : Nat → Bool) : Nat → Int32
  | 0 => nI 0
  | n + 1 => if P n = true then xf_mk P n ||| xf_bit n else xf_mk P n
def xf_find (P : Nat → Bool) : Nat → Nat → Int32
  | 0, _ => -1
  | n + 1, i => if P i = true then nI i else xf_find P n (i + 1)
def xf_any (P : Nat → Bool) : Nat → Bool
  | 0 => false
  | n + 1 => xf_any P n || P n
def xf_all (P : Nat → Bool) : Nat → Bool
  | 0 => true
  | n + 1 => xf_all P n && P n
theorem xf_in_iff {x : Int32} {n : Nat} : xf_in x n = true ↔ vp_in x n := by
  rw [vp_in_iff]; simp [xf_in]
theorem xf_in_of {x : Int32} {n : Nat} (h : xf_in x n = true) (hn : n < 2 ^ 31) : ∃ j : Nat, j < n ∧ x = nI j := vp_in_of (xf_in_iff.mp h) hn
theorem xf_in_nI {j n : Nat} (h : j < n) (hn : n < 2 ^ 31) : xf_in (nI j) n = true := xf_in_iff.mpr (vp_in_nI h hn)
theorem xf_in_split (x : Int32) {n : Nat} (hn : n < 2 ^ 31) : xf_in x n = (!decide (x < 0) && decide (x < nI n)) := by
  rw [Bool.eq_iff_iff]
  simp only [xf_in, decide_eq_true_eq, Bool.and_eq_true, Bool.not_eq_true', decide_eq_false_iff_not]
  rw [Int32.lt_iff_toInt_lt, Int32.lt_iff_toInt_lt, nI_toInt hn]
  show 0 ≤ x.toInt ∧ _ ↔ ¬ x.toInt < 0 ∧ _
  omega
theorem xf_B_narrow (b : Bool) : narrow .boolean (.int (xf_B b)) = .int (xf_B b) := by cases b <;> rfl
theorem xf_B0 {b : Bool} : xf_B b = 0 ↔ b = false := by cases b <;> simp [xf_B] <;> decide
theorem xf_lv {ls : Array Slot} {nL : Nat} {a b : List (Nat × Value)} (h : lv_has ls nL a) (e : b = a) : lv_has ls nL b := by rw [e]; exact h
theorem xf_wP {D : va_G} {cl : List vw_C} {a b : va_W} {H : Heap} (h : va_P D cl a H) (e : b = a) : va_P D cl b H := by rw [e]; exact h
theorem xf_wD {A : Nat → Prop} {a b : va_W} (h : va_D A a) (e : b.map (·.1) = a.map (·.1)) : va_D A b := by
  have key : ∀ (k : Nat) (q : Nat × va_E), b[k]? = some q → ∃ q', a[k]? = some q' ∧ q'.1 = q.1 := by
    intro k q hq
    have h1 : (b.map (·.1))[k]? = some q.1 := by rw [List.getElem?_map, hq]; rfl
    rw [e, List.getElem?_map] at h1
    cases ha : a[k]? with
    | none => rw [ha] at h1; cases h1
    | some q' => rw [ha] at h1; exact ⟨q', rfl, Option.some.inj h1⟩
  refine ⟨fun i j p q hi hj hpq => ?_, fun k q hk => ?_⟩
  · obtain ⟨p', h1, e1⟩ := key i p hi
    obtain ⟨q', h2, e2⟩ := key j q hj
    exact h.1 i j p' q' h1 h2 (by rw [e1, e2, hpq])
  · obtain ⟨q', h1, e1⟩ := key k q hk
    rw [← e1]
    exact h.2 k q' h1
theorem xf_hP {D : va_G} {cl : List vw_C} {w : va_W} {t : State} {H : Heap} (h : t.heap = H) (hP : va_P D cl w H) : va_P D cl w t.heap := by rw [h]; exact hP
theorem xf_hB {D : va_G} {cl : List vw_C} {w : va_W} {t : State} {H : Heap} (h : t.heap = H) (hP : va_P D cl w t.heap) : va_P D cl w H := by rw [← h]; exact hP
/-- the cells of a world -/
def xf_A (w : va_W) : Nat → Prop := fun q => ∃ (k : Nat) (e : va_E), w[k]? = some (q, e)
theorem xf_A_self {A : Nat → Prop} {w : va_W} (h : va_D A w) : va_D (xf_A w) w := ⟨h.1, fun k q hk => ⟨k, q.2, hk⟩⟩
theorem xf_A_le {A : Nat → Prop} {w : va_W} (h : va_D A w) : ∀ q, xf_A w q → A q := fun q hq => by
  obtain ⟨k, e, hk⟩ := hq
  exact h.2 k (q, e) hk
section XFR
variable {p : Program} {l : Launch} {e : Env} {R : Room} {s : State} {m : MethodId} {args : Array Value} {below : List Frame} {meth : Method} {c : Code} {H : Heap} {locs : List Loc} {cells slots : Nat} {Q : State → Prop}
variable {cc : ByteArray} {pc : Nat} {ls : Array Slot} {rest : List Value} {D : va_G} {cl : List vw_C} {A : Nat → Prop} {a : Nat} {tys : List (ClassId × FieldType)} {ws : va_W} {H0 : Heap}
theorem xf_be {x y : Int32} (h : x = y) (k : W p l e R s m args below meth c H locs cells slots Q (F0 m pc ls (.int y :: rest))) : W p l e R s m args below meth c H locs cells slots Q (F0 m pc ls (.int x :: rest)) := by rw [h]; exact k
theorem xf_ge (hexec : p.tables.exec = Jvm.exec) (hb : c.code = cc) {i j : Nat} {off : Int} {tgt : Nat} (hdg : decode cc pc = .ok (.if_icmp .ge off, 3)) (ht : (pc : Int) + off = (tgt : Int)) (hi : i < 2 ^ 31) (hj : j < 2 ^ 31)
    (kt : j ≤ i → W p l e R s m args below meth c H locs cells slots Q (F0 m tgt ls rest)) (kf : i < j → W p l e R s m args below meth c H locs cells slots Q (F0 m (pc + 3) ls rest)) : W p l e R s m args below meth c H locs cells slots Q (F0 m pc ls (.int (nI j) :: .int (nI i) :: rest)) :=
  lv_icmp_ge hexec hb hdg ht (fun h => kt ((nI_leI hj hi).mp h)) (fun h => kf (Nat.not_le.mp fun q => h ((nI_leI hj hi).mpr q)))
theorem xf_lt (hexec : p.tables.exec = Jvm.exec) (hb : c.code = cc) {i j : Nat} {off : Int} {tgt : Nat} (hdg : decode cc pc = .ok (.if_icmp .lt off, 3)) (ht : (pc : Int) + off = (tgt : Int)) (hi : i < 2 ^ 31) (hj : j < 2 ^ 31)
    (kt : i < j → W p l e R s m args below meth c H locs cells slots Q (F0 m tgt ls rest)) (kf : j ≤ i → W p l e R s m args below meth c H locs cells slots Q (F0 m (pc + 3) ls rest)) : W p l e R s m args below meth c H locs cells slots Q (F0 m pc ls (.int (nI j) :: .int (nI i) :: rest)) :=
  lv_icmp_lt hexec hb hdg ht (fun h => kt ((nI_ltI hi hj).mp h)) (fun h => kf (Nat.not_lt.mp fun q => h ((nI_ltI hi hj).mpr q)))
theorem xf_gt (hexec : p.tables.exec = Jvm.exec) (hb : c.code = cc) {i j : Nat} {off : Int} {tgt : Nat} (hdg : decode cc pc = .ok (.if_icmp .gt off, 3)) (ht : (pc : Int) + off = (tgt : Int)) (hi : i < 2 ^ 31) (hj : j < 2 ^ 31)
    (kt : j < i → W p l e R s m args below meth c H locs cells slots Q (F0 m tgt ls rest)) (kf : i ≤ j → W p l e R s m args below meth c H locs cells slots Q (F0 m (pc + 3) ls rest)) : W p l e R s m args below meth c H locs cells slots Q (F0 m pc ls (.int (nI j) :: .int (nI i) :: rest)) :=
  lv_icmp_gt hexec hb hdg ht (fun h => kt ((nI_ltI hj hi).mp h)) (fun h => kf (Nat.not_lt.mp fun q => h ((nI_ltI hj hi).mpr q)))
theorem xf_le (hexec : p.tables.exec = Jvm.exec) (hb : c.code = cc) {i j : Nat} {off : Int} {tgt : Nat} (hdg : decode cc pc = .ok (.if_icmp .le off, 3)) (ht : (pc : Int) + off = (tgt : Int)) (hi : i < 2 ^ 31) (hj : j < 2 ^ 31)
    (kt : i ≤ j → W p l e R s m args below meth c H locs cells slots Q (F0 m tgt ls rest)) (kf : j < i → W p l e R s m args below meth c H locs cells slots Q (F0 m (pc + 3) ls rest)) : W p l e R s m args below meth c H locs cells slots Q (F0 m pc ls (.int (nI j) :: .int (nI i) :: rest)) :=
  lv_icmp_le hexec hb hdg ht (fun h => kt ((nI_leI hi hj).mp h)) (fun h => kf (Nat.not_le.mp fun q => h ((nI_leI hi hj).mpr q)))
theorem xf_eq (hexec : p.tables.exec = Jvm.exec) (hb : c.code = cc) {i j : Nat} {off : Int} {tgt : Nat} (hdg : decode cc pc = .ok (.if_icmp .eq off, 3)) (ht : (pc : Int) + off = (tgt : Int)) (hi : i < 2 ^ 31) (hj : j < 2 ^ 31)
    (kt : i = j → W p l e R s m args below meth c H locs cells slots Q (F0 m tgt ls rest)) (kf : ¬ i = j → W p l e R s m args below meth c H locs cells slots Q (F0 m (pc + 3) ls rest)) : W p l e R s m args below meth c H locs cells slots Q (F0 m pc ls (.int (nI j) :: .int (nI i) :: rest)) :=
  lv_icmp_eq hexec hb hdg ht (fun h => kt ((nI_eq hi hj).mp h)) (fun h => kf fun q => h ((nI_eq hi hj).mpr q))
theorem xf_ne (hexec : p.tables.exec = Jvm.exec) (hb : c.code = cc) {i j : Nat} {off : Int} {tgt : Nat} (hdg : decode cc pc = .ok (.if_icmp .ne off, 3)) (ht : (pc : Int) + off = (tgt : Int)) (hi : i < 2 ^ 31) (hj : j < 2 ^ 31)
    (kt : ¬ i = j → W p l e R s m args below meth c H locs cells slots Q (F0 m tgt ls rest)) (kf : i = j → W p l e R s m args below meth c H locs cells slots Q (F0 m (pc + 3) ls rest)) : W p l e R s m args below meth c H locs cells slots Q (F0 m pc ls (.int (nI j) :: .int (nI i) :: rest)) :=
  lv_icmp_ne hexec hb hdg ht (fun h => kt fun q => h ((nI_eq hi hj).mpr q)) (fun h => kf ((nI_eq hi hj).mp h))
theorem xf_Beq (hexec : p.tables.exec = Jvm.exec) (hb : c.code = cc) {b : Bool} {off : Int} {tgt : Nat} (hdg : decode cc pc = .ok (.ifCond .eq off, 3)) (ht : (pc : Int) + off = (tgt : Int))
    (kt : b = false → W p l e R s m args below meth c H locs cells slots Q (F0 m tgt ls rest)) (kf : b = true → W p l e R s m args below meth c H locs cells slots Q (F0 m (pc + 3) ls rest)) : W p l e R s m args below meth c H locs cells slots Q (F0 m pc ls (.int (xf_B b) :: rest)) :=
  lv_if_eq hexec hb hdg ht (fun h => kt (xf_B0.mp h)) (fun h => kf (by cases hb9 : b with | true => rfl | false => exact absurd (xf_B0.mpr hb9) h))
theorem xf_Bne (hexec : p.tables.exec = Jvm.exec) (hb : c.code = cc) {b : Bool} {off : Int} {tgt : Nat} (hdg : decode cc pc = .ok (.ifCond .ne off, 3)) (ht : (pc : Int) + off = (tgt : Int))
    (kt : b = true → W p l e R s m args below meth c H locs cells slots Q (F0 m tgt ls rest)) (kf : b = false → W p l e R s m args below meth c H locs cells slots Q (F0 m (pc + 3) ls rest)) : W p l e R s m args below meth c H locs cells slots Q (F0 m pc ls (.int (xf_B b) :: rest)) :=
  lv_if_ne hexec hb hdg ht (fun h => kt (by cases hb9 : b with | true => rfl | false => exact absurd (xf_B0.mpr hb9) h)) (fun h => kf (xf_B0.mp h))
theorem xf_zeq (hexec : p.tables.exec = Jvm.exec) (hb : c.code = cc) {i : Nat} {off : Int} {tgt : Nat} (hdg : decode cc pc = .ok (.ifCond .eq off, 3)) (ht : (pc : Int) + off = (tgt : Int)) (hi : i < 2 ^ 31)
    (kt : i = 0 → W p l e R s m args below meth c H locs cells slots Q (F0 m tgt ls rest)) (kf : ¬ i = 0 → W p l e R s m args below meth c H locs cells slots Q (F0 m (pc + 3) ls rest)) : W p l e R s m args below meth c H locs cells slots Q (F0 m pc ls (.int (nI i) :: rest)) :=
  lv_if_eq hexec hb hdg ht (fun h => kt ((nI_eq hi (by decide)).mp (h.trans nI_0.symm))) (fun h => kf fun q => h (by rw [q]; exact nI_0))
theorem xf_zne (hexec : p.tables.exec = Jvm.exec) (hb : c.code = cc) {i : Nat} {off : Int} {tgt : Nat} (hdg : decode cc pc = .ok (.ifCond .ne off, 3)) (ht : (pc : Int) + off = (tgt : Int)) (hi : i < 2 ^ 31)
    (kt : ¬ i = 0 → W p l e R s m args below meth c H locs cells slots Q (F0 m tgt ls rest)) (kf : i = 0 → W p l e R s m args below meth c H locs cells slots Q (F0 m (pc + 3) ls rest)) : W p l e R s m args below meth c H locs cells slots Q (F0 m pc ls (.int (nI i) :: rest)) :=
  lv_if_ne hexec hb hdg ht (fun h => kt fun q => h (by rw [q]; exact nI_0)) (fun h => kf ((nI_eq hi (by decide)).mp (h.trans nI_0.symm)))
theorem xf_iald (hexec : p.tables.exec = Jvm.exec) (hb : c.code = cc) (hK : va_K D cl tys s) (hP : va_P D cl ws H) (q0 t0 : Nat) {cA : ClassId} {n : Nat} {f : Nat → Int32} (ha : ws[q0]? = some (a, .inl (cA, n, .inl f))) (ht : tys[t0]? = some (cA, .int)) {j : Nat} (hj : j < n) (hn : n < 2 ^ 31) (hdg : decode cc pc = .ok (.iaload, 1))
    (kk : W p l e R s m args below meth c H locs cells slots Q (F0 m (pc + 1) ls (.int (f j) :: rest))) : W p l e R s m args below meth c H locs cells slots Q (F0 m pc ls (.int (nI j) :: .ref a :: rest)) := by
  refine va_iald hexec hb hK hP q0 t0 ha ht (vp_in_nI hj hn) hdg ?_
  rw [nI_clamp (by omega)]
  exact kk
theorem xf_iast (hexec : p.tables.exec = Jvm.exec) (hb : c.code = cc) (hK : va_K D cl tys s) (hP : va_P D cl ws H) (hD : va_D A ws) (hS : va_S A H0 H locs) (q0 t0 : Nat) {cA : ClassId} {n : Nat} {f : Nat → Int32} (ha : ws[q0]? = some (a, .inl (cA, n, .inl f))) (ht : tys[t0]? = some (cA, .int)) {j : Nat} {x : Int32} (hj : j < n) (hn : n < 2 ^ 31) (hdg : decode cc pc = .ok (.iastore, 1))
    (kk : ∀ (H1 : Heap) (locs1 : List Loc), va_P D cl (ws.set q0 (a, .inl (cA, n, .inl (upd f j x)))) H1 → va_D A (ws.set q0 (a, .inl (cA, n, .inl (upd f j x)))) → va_S A H0 H1 locs1 → W p l e R s m args below meth c H1 locs1 cells slots Q (F0 m (pc + 1) ls rest)) : W p l e R s m args below meth c H locs cells slots Q (F0 m pc ls (.int x :: .int (nI j) :: .ref a :: rest)) := by
  refine va_iast hexec hb hK hP hD hS q0 t0 ha ht (vp_in_nI hj hn) hdg ?_
  rw [nI_clamp (by omega)]
  exact kk
theorem xf_zle (hexec : p.tables.exec = Jvm.exec) (hb : c.code = cc) {i : Nat} {off : Int} {tgt : Nat} (hdg : decode cc pc = .ok (.ifCond .le off, 3)) (ht : (pc : Int) + off = (tgt : Int)) (hi : i < 2 ^ 31)
    (kt : i = 0 → W p l e R s m args below meth c H locs cells slots Q (F0 m tgt ls rest)) (kf : 0 < i → W p l e R s m args below meth c H locs cells slots Q (F0 m (pc + 3) ls rest)) : W p l e R s m args below meth c H locs cells slots Q (F0 m pc ls (.int (nI i) :: rest)) :=
  lv_if_le hexec hb hdg ht (fun h => kt (Nat.le_zero.mp ((nI_leI hi (by decide)).mp (by rw [nI_0]; exact h)))) (fun h => kf (Nat.pos_of_ne_zero fun q => h (by rw [q, nI_0]; exact Int32.le_refl 0)))
theorem xf_zald (hexec : p.tables.exec = Jvm.exec) (hb : c.code = cc) (hK : va_K D cl tys s) (hP : va_P D cl ws H) (q0 t0 : Nat) {cA : ClassId} {n : Nat} {f : Nat → Bool} (ha : ws[q0]? = some (a, .inl (cA, n, .inl (fun i => xf_B (f i))))) (ht : tys[t0]? = some (cA, .boolean)) {j : Nat} (hj : j < n) (hn : n < 2 ^ 31) (hdg : decode cc pc = .ok (.baload, 1))
    (kk : W p l e R s m args below meth c H locs cells slots Q (F0 m (pc + 1) ls (.int (xf_B (f j)) :: rest))) : W p l e R s m args below meth c H locs cells slots Q (F0 m pc ls (.int (nI j) :: .ref a :: rest)) := by
  refine va_zald hexec hb hK hP q0 t0 ha ht (vp_in_nI hj hn) hdg ?_
  rw [nI_clamp (by omega)]
  exact kk
theorem xf_zast {b : Bool} (hexec : p.tables.exec = Jvm.exec) (hb : c.code = cc) (hK : va_K D cl tys s) (hP : va_P D cl ws H) (hD : va_D A ws) (hS : va_S A H0 H locs) (q0 t0 : Nat) {cA : ClassId} {n : Nat} {f : Nat → Bool} (ha : ws[q0]? = some (a, .inl (cA, n, .inl (fun i => xf_B (f i))))) (ht : tys[t0]? = some (cA, .boolean)) {j : Nat} {x : Int32} (hx : x = xf_B b) (hj : j < n) (hn : n < 2 ^ 31) (hdg : decode cc pc = .ok (.bastore, 1))
    (kk : ∀ (H1 : Heap) (locs1 : List Loc), va_P D cl (ws.set q0 (a, .inl (cA, n, .inl (fun i => xf_B (va_up f j b i))))) H1 → va_D A (ws.set q0 (a, .inl (cA, n, .inl (fun i => xf_B (va_up f j b i))))) → va_S A H0 H1 locs1 → W p l e R s m args below meth c H1 locs1 cells slots Q (F0 m (pc + 1) ls rest)) : W p l e R s m args below meth c H locs cells slots Q (F0 m pc ls (.int x :: .int (nI j) :: .ref a :: rest)) := by
  have e : upd (fun i => xf_B (f i)) j (vp_nar .boolean x) = fun i => xf_B (va_up f j b i) := by
    funext i
    rw [show vp_nar .boolean x = xf_B b from by rw [hx]; cases b <;> rfl]
    by_cases h : i = j
    · subst h; simp [upd, va_up]
    · simp [upd, va_up, h]
  refine va_zast hexec hb hK hP hD hS q0 t0 ha ht (vp_in_nI hj hn) hdg ?_
  rw [nI_clamp (by omega), e]
  exact kk
theorem xf_sld (hexec : p.tables.exec = Jvm.exec) (hb : c.code = cc) {b L : Nat} {xs : Nat → Int32} (hX : va_X b L xs s H0) (hbl : b < H0.size) (hbA : ¬ A b) (hS : va_S A H0 H locs) {j : Nat} (hj : j < L) (hL : L < 2 ^ 31) (hdg : decode cc pc = .ok (.iaload, 1))
    (kk : W p l e R s m args below meth c H locs cells slots Q (F0 m (pc + 1) ls (.int (xs j) :: rest))) : W p l e R s m args below meth c H locs cells slots Q (F0 m pc ls (.int (nI j) :: .ref b :: rest)) := by
  refine va_sld hexec hb hX hbl hbA hS (vp_in_nI hj hL) hdg ?_
  rw [nI_clamp (by omega)]
  exact kk
/-- a loop that writes no cell: μ falls -/
theorem xf_loopS {σ : Type} {nL : Nat} (μ : σ → Nat) (I : σ → List (Nat × Value)) (P : σ → Prop) (x0 : σ) (hl : lv_has ls nL (I x0)) (h0 : P x0)
    (step : ∀ (x : σ) (ls : Array Slot), P x → lv_has ls nL (I x) → (∀ (x' : σ) (ls' : Array Slot), μ x' < μ x → P x' → lv_has ls' nL (I x') → W p l e R s m args below meth c H locs cells slots Q (F0 m pc ls' [])) → W p l e R s m args below meth c H locs cells slots Q (F0 m pc ls [])) :
    W p l e R s m args below meth c H locs cells slots Q (F0 m pc ls []) := by
  have key : ∀ (n : Nat) (x : σ) (ls : Array Slot), μ x < n → P x → lv_has ls nL (I x) → W p l e R s m args below meth c H locs cells slots Q (F0 m pc ls []) := by
    intro n
    induction n with
    | zero => intro x ls h; exact absurd h (Nat.not_lt_zero _)
    | succ n ih => exact fun x ls h hx hl => step x ls hx hl fun x' ls' h' hx' hl' => ih x' ls' (by omega) hx' hl'
  exact key _ x0 ls (Nat.lt_succ_self _) h0 hl
/-- a loop that writes cells of its world -/
theorem xf_loopH {σ : Type} {nL : Nat} (μ : σ → Nat) (I : σ → List (Nat × Value)) (w : σ → va_W) (P : σ → Prop) (x0 : σ) (hl : lv_has ls nL (I x0)) (h0 : P x0) (hP : va_P D cl (w x0) H) (hD : va_D A (w x0)) (hS : va_S A H0 H locs)
    (step : ∀ (x : σ) (ls : Array Slot) (H : Heap) (locs : List Loc), P x → lv_has ls nL (I x) → va_P D cl (w x) H → va_D A (w x) → va_S A H0 H locs → (∀ (x' : σ) (ls' : Array Slot) (H' : Heap) (locs' : List Loc), μ x' < μ x → P x' → lv_has ls' nL (I x') → va_P D cl (w x') H' → va_D A (w x') → va_S A H0 H' locs' → W p l e R s m args below meth c H' locs' cells slots Q (F0 m pc ls' [])) → W p l e R s m args below meth c H locs cells slots Q (F0 m pc ls [])) :
    W p l e R s m args below meth c H locs cells slots Q (F0 m pc ls []) := by
  have key : ∀ (n : Nat) (x : σ) (ls : Array Slot) (H : Heap) (locs : List Loc), μ x < n → P x → lv_has ls nL (I x) → va_P D cl (w x) H → va_D A (w x) → va_S A H0 H locs → W p l e R s m args below meth c H locs cells slots Q (F0 m pc ls []) := by
    intro n
    induction n with
    | zero => intro x ls H locs h; exact absurd h (Nat.not_lt_zero _)
    | succ n ih => exact fun x ls H locs h hx hl hP hD hS => step x ls H locs hx hl hP hD hS fun x' ls' H' locs' h' hx' hl' => ih x' ls' H' locs' (by omega) hx' hl'
  exact key _ x0 ls H locs (Nat.lt_succ_self _) h0 hl hP hD hS
theorem xf_preS0 {As : List Value} : PreS s H (va_Pc As (fun _ => True)) As := ⟨fun _ _ _ _ q => q, fun _ _ _ => ⟨rfl, trivial⟩⟩
theorem xf_preV {w : va_W} {As : List Value} {b ci : Nat} (q : vw_C) {fs : List Value} (hK : va_K D cl tys s) (hP : va_P D cl w H) (hc : cl[ci]? = some q) (he : w[0]? = some (b, .inr (ci, fs))) : PreV s H q.1 b (va_Pc (.ref b :: As) (fun U => va_P D cl w U.heap ∧ va_K D cl tys U)) As :=
  ⟨fun a U g mk z => ⟨z.1, z.2.1, va_K.moved (u := U) (U := U.calling g mk a) (Vm.Alike.refl U.vm) z.2.2⟩, va_recv hK hP hc he, fun U hU hW => ⟨rfl, by rw [hU]; exact hP, va_K.moved hW.alike hK⟩⟩
theorem xf_preW {w : va_W} {As : List Value} {b ci : Nat} (q : vw_C) {fs : List Value} (hK : va_K D cl tys s) (hP : va_P D cl w H) (hD : va_D A w) (hc : cl[ci]? = some q) (he : w[0]? = some (b, .inr (ci, fs))) : PreV s H q.1 b (va_Pc (.ref b :: As) (fun U => va_P D cl w U.heap ∧ va_K D cl tys U ∧ va_D (fun _ => True) w)) As :=
  ⟨fun a U g mk z => ⟨z.1, z.2.1, va_K.moved (u := U) (U := U.calling g mk a) (Vm.Alike.refl U.vm) z.2.2.1, z.2.2.2⟩, va_recv hK hP hc he, fun U hU hW => ⟨rfl, by rw [hU]; exact hP, va_K.moved hW.alike hK, hD.weaken (fun _ _ _ _ => trivial)⟩⟩
theorem xf_preSW {w : va_W} {As : List Value} (hK : va_K D cl tys s) (hP : va_P D cl w H) (hD : va_D A w) : PreS s H (va_Pc As (fun U => va_P D cl w U.heap ∧ va_K D cl tys U ∧ va_D (fun _ => True) w)) As :=
  ⟨fun a U g mk z => ⟨z.1, z.2.1, va_K.moved (u := U) (U := U.calling g mk a) (Vm.Alike.refl U.vm) z.2.2.1, z.2.2.2⟩, fun U hU hW => ⟨rfl, by rw [hU]; exact hP, va_K.moved hW.alike hK, hD.weaken (fun _ _ _ _ => trivial)⟩⟩
end XFR
/-! worlds side by side -/
section XFW
variable {D : va_G} {cl : List vw_C} {A : Nat → Prop} {H H1 : Heap}
theorem xf_P_left {a b : va_W} (h : va_P D cl (a ++ b) H) : va_P D cl a H := fun k q hk => h k q (by rw [List.getElem?_append_left (List.getElem?_eq_some_iff.mp hk).1]; exact hk)
theorem xf_P_right {a b : va_W} (h : va_P D cl (a ++ b) H) : va_P D cl b H := fun k q hk => h (a.length + k) q (by rw [List.getElem?_append_right (Nat.le_add_right _ _), Nat.add_sub_cancel_left]; exact hk)
theorem xf_ix_left {a b : va_W} {k : Nat} {q : Nat × va_E} (hk : a[k]? = some q) : (a ++ b)[k]? = some q := by rw [List.getElem?_append_left (List.getElem?_eq_some_iff.mp hk).1]; exact hk
theorem xf_ix_right {a b : va_W} {k : Nat} {q : Nat × va_E} (hk : b[k]? = some q) : (a ++ b)[a.length + k]? = some q := by rw [List.getElem?_append_right (Nat.le_add_right _ _), Nat.add_sub_cancel_left]; exact hk
theorem xf_D_left {a b : va_W} (h : va_D A (a ++ b)) : va_D A a := ⟨fun i j p q hi hj e => h.1 i j p q (xf_ix_left hi) (xf_ix_left hj) e, fun k q hk => h.2 k q (xf_ix_left hk)⟩
theorem xf_D_right {a b : va_W} (h : va_D A (a ++ b)) : va_D A b := ⟨fun i j p q hi hj e => by
  have := h.1 _ _ p q (xf_ix_right (a := a) hi) (xf_ix_right (a := a) hj) e
  omega, fun k q hk => h.2 _ q (xf_ix_right (a := a) hk)⟩
theorem xf_apart {a b : va_W} (h : va_D A (a ++ b)) {i j : Nat} {p q : Nat × va_E} (hi : a[i]? = some p) (hj : b[j]? = some q) : p.1 ≠ q.1 := fun e => by
  have h1 := h.1 _ _ p q (xf_ix_left hi) (xf_ix_right (a := a) hj) e
  have h2 := (List.getElem?_eq_some_iff.mp hi).1
  omega
theorem xf_keep {r w : va_W} (hP : va_P D cl r H) (hap : ∀ (k : Nat) (q : Nat × va_E), r[k]? = some q → ¬ xf_A w q.1) (hk : ∀ q : Nat, q < H.size → ¬ xf_A w q → H1[q]? = H[q]?) : va_P D cl r H1 := fun k q hq => (hP k q hq).kept (hk q.1 (hP k q hq).lt (hap k q hq))
/-- behind a call: what stands left and right of the callee's world is as it was -/
theorem xf_join {a w w1 b : va_W} (hP : va_P D cl (a ++ (w ++ b)) H) (hD : va_D A (a ++ (w ++ b))) (hP1 : va_P D cl w1 H1) (hk : ∀ q : Nat, q < H.size → ¬ xf_A w q → H1[q]? = H[q]?) : va_P D cl (a ++ (w1 ++ b)) H1 := by
  refine va_P.app (xf_keep (w := w) (xf_P_left hP) (fun k q hq z => ?_) hk) (va_P.app hP1 (xf_keep (w := w) (xf_P_right (xf_P_right hP)) (fun k q hq z => ?_) hk))
  · obtain ⟨j, e, hj⟩ := z
    exact xf_apart hD hq (xf_ix_left (b := b) hj) rfl
  · obtain ⟨j, e, hj⟩ := z
    exact xf_apart (xf_D_right hD) hj hq rfl
/-- two arrays of one type have one class -/
theorem xf_oneI {s : State} {tys : List (ClassId × FieldType)} {c1 c2 : ClassId} {i j : Nat} (hK : va_K D cl tys s) (h1 : tys[i]? = some (c1, .int)) (h2 : tys[j]? = some (c2, .int)) : c1 = c2 :=
  Option.some.inj ((va_nm_int (hK.2 i _ h1).2).symm.trans (va_nm_int (hK.2 j _ h2).2))
theorem xf_oneZ {s : State} {tys : List (ClassId × FieldType)} {c1 c2 : ClassId} {i j : Nat} (hK : va_K D cl tys s) (h1 : tys[i]? = some (c1, .boolean)) (h2 : tys[j]? = some (c2, .boolean)) : c1 = c2 :=
  Option.some.inj ((va_nm_boolean (hK.2 i _ h1).2).symm.trans (va_nm_boolean (hK.2 j _ h2).2))
end XFW
/-- the cells of the class's object, of the reference's -/
abbrev fw (h0 a1 a2 a3 a4 a5 a6 : Nat) (cI : ClassId) (fg fk fu fc fb fn : Nat → Int32) (rc : Int32) : va_W := [(h0, .inr (0, [.ref a1, .ref a2, .ref a3, .ref a4, .ref a5, .ref a6, .int rc])), (a1, .inl (cI, 320, .inl fg)), (a2, .inl (cI, 40, .inl fk)), (a3, .inl (cI, 32, .inl fu)), (a4, .inl (cI, 8, .inl fc)), (a5, .inl (cI, 256, .inl fb)), (a6, .inl (cI, 256, .inl fn))]
abbrev mw (h0 b1 b2 b3 b4 b5 : Nat) (cI cZ : ClassId) (mh : Nat → Bool) (ma : Nat → Int32) (mc : Nat → Bool) (mt mn : Nat → Int32) (cd ro : Int32) : va_W := [(h0, .inr (1, [.int cd, .ref b1, .ref b2, .ref b3, .ref b4, .ref b5, .int ro])), (b1, .inl (cZ, 10240, .inl (fun i => xf_B (mh i)))), (b2, .inl (cI, 32, .inl ma)), (b3, .inl (cZ, 256, .inl (fun i => xf_B (mc i)))), (b4, .inl (cI, 256, .inl mt)), (b5, .inl (cI, 32, .inl mn))]
end
section
/-! what the class's methods answer: pure words, near to the code -/
abbrev FcS : Type := (Nat → Int32) × (Nat → Int32) × (Nat → Int32) × (Nat → Int32) × (Nat → Int32) × (Nat → Int32) × Int32
def fcV (fg fk : Nat → Int32) (t h : Nat) : Int32 := if h = 0 then fk t else fg (t * 8 + h)
def fcLP (fc V : Nat → Int32) : Nat → Bool := fun h => decide (¬ fc h = 0) && decide (fc h &&& V h = 0)
def fcLk (fg fk fc : Nat → Int32) (t : Nat) : Int32 := xf_mk (fcLP fc (fcV fg fk t)) 8
def fcKp (fg fk fc : Nat → Int32) : Nat → Bool := fun t => decide (fcLk fg fk fc t = 0)
def fcKB (fg fk fc : Nat → Int32) (h : Nat) : Nat → Bool := fun t => decide (fcLk fg fk fc t &&& xf_not (xf_bit h) = 0)
def fcWA (fg fk fc : Nat → Int32) (h : Nat) (set : Int32) : Nat → Bool := fun t => decide (¬ fcV fg fk t h &&& set = 0) && fcKB fg fk fc h t
def fcWU (fu : Nat → Int32) : Nat → Int32 → Int32 → Int32
  | 0, _, all => all
  | n + 1, ka, all => if xf_in ka 32 = true then (if bt all ka.toNatClampNeg = true then all else fcWU fu n (fu ka.toNatClampNeg) (all ||| xf_bit ka.toNatClampNeg)) else all
def fcRK (fu : Nat → Int32) (own : Int32) : Nat → Int32
  | 0 => nI 0
  | k + 1 => if bt own k = true then fcWU fu 32 (nI k) (fcRK fu own k) else fcRK fu own k
def fcRA (fu fg fk : Nat → Int32) : Nat → (Nat → Int32)
  | 0 => fk
  | t + 1 => upd (fcRA fu fg fk t) t (fcRK fu (fg (t * 8)) 32)
def fcCV (h : Nat) (set : Int32) (fn : Nat → Int32) : Nat → (Nat → Int32)
  | 0 => fn
  | v + 1 => if bt set v = true then upd (fcCV h set fn v) (h * 32 + v) (fcCV h set fn v (h * 32 + v) + nI 1) else fcCV h set fn v
def fcCW (h : Nat) (set : Int32) (fn : Nat → Int32) : Nat → Int32 := if set = 0 then fn else fcCV h set fn 32
def fcCH (lk : Int32) (V : Nat → Int32) (fn : Nat → Int32) : Nat → (Nat → Int32)
  | 0 => fn
  | h + 1 => if lk &&& xf_not (xf_bit h) = 0 then fcCW h (V h) (fcCH lk V fn h) else fcCH lk V fn h
def fcCA (fg fk fc fn : Nat → Int32) : Nat → (Nat → Int32)
  | 0 => fn
  | t + 1 => fcCH (fcLk fg fk fc t) (fcV fg fk t) (fcCA fg fk fc fn t) 8
def xf_fill (x : Int32) (f : Nat → Int32) : Nat → (Nat → Int32)
  | 0 => f
  | k + 1 => upd (xf_fill x f k) k x
def fcAll (fg fk fc fn : Nat → Int32) : Nat → Int32 := fcCA fg fk fc (xf_fill (nI 0) fn 256) 40
def fcRkP (fn : Nat → Int32) (h v : Nat) : Nat → Bool := fun q => decide (fn (h * 32 + v) < fn (h * 32 + q)) || (decide (fn (h * 32 + q) = fn (h * 32 + v)) && decide (q < v))
def fcTP (fn : Nat → Int32) (h : Nat) (rank : Int32) : Nat → Bool := fun v => decide (¬ fn (h * 32 + v) = 0) && decide (nI (xf_cnt (fcRkP fn h v) 32) = rank)
def fcCp (fb fn : Nat → Int32) : Nat → (Nat → Int32)
  | 0 => fb
  | k + 1 => upd (fcCp fb fn k) k (fn k)
def fcDf (fb fn : Nat → Int32) : Nat → Bool := fun i => decide (¬ fn i = fb i)
def fcSO (set : Int32) : Nat → Nat
  | 0 => 0
  | v + 1 => fcSO set v + (if bt set v = true then v else 0)
def fcSm (fg fk fc : Nat → Int32) (h v o : Nat) : Nat → Nat
  | 0 => 0
  | t + 1 => fcSm fg fk fc h v o t + (if (bt (fcV fg fk t h) v && fcKp fg fk fc t) = true then fcSO (fcV fg fk t o) 32 else 0)
def fcLT (x b w : Nat) : Nat → Nat
  | 0 => x
  | d + 1 => if d + 1 ≤ 1 then x else if b % (d + 1) = 0 ∧ w % (d + 1) = 0 then x / (d + 1) else fcLT x b w d
def fcSpP (a b : Int32) : Nat → Bool := fun j => decide (a.toInt ≤ (j : Int)) && decide ((j : Int) ≤ b.toInt)
/-- the calls of the face: the answer, and the state behind it -/
def fcRow (fg fk fu fc fb fn : Nat → Int32) (rc t h v : Int32) : Int32 × FcS :=
  if (xf_in t 40 && xf_in h 8 && xf_in v 32) = true then
    (if bt (fg (t.toNatClampNeg * 8 + h.toNatClampNeg)) v.toNatClampNeg = true then (nI 0, fg, fk, fu, fc, fb, fn, rc)
     else if rc < nI 300 then
      (nI 1, upd fg (t.toNatClampNeg * 8 + h.toNatClampNeg) (fg (t.toNatClampNeg * 8 + h.toNatClampNeg) ||| xf_bit v.toNatClampNeg),
        upd fk t.toNatClampNeg (fcRK fu (upd fg (t.toNatClampNeg * 8 + h.toNatClampNeg) (fg (t.toNatClampNeg * 8 + h.toNatClampNeg) ||| xf_bit v.toNatClampNeg) (t.toNatClampNeg * 8)) 32), fu, fc, fb, fn, rc + nI 1)
     else (-2, fg, fk, fu, fc, fb, fn, rc))
  else (-1, fg, fk, fu, fc, fb, fn, rc)
def fcDrop (fg fk fu fc fb fn : Nat → Int32) (rc t h v : Int32) : Int32 × FcS :=
  if (xf_in t 40 && xf_in h 8 && xf_in v 32) = true then
    (if bt (fg (t.toNatClampNeg * 8 + h.toNatClampNeg)) v.toNatClampNeg = true then
      (nI 1, upd fg (t.toNatClampNeg * 8 + h.toNatClampNeg) (fg (t.toNatClampNeg * 8 + h.toNatClampNeg) &&& xf_not (xf_bit v.toNatClampNeg)),
        upd fk t.toNatClampNeg (fcRK fu (upd fg (t.toNatClampNeg * 8 + h.toNatClampNeg) (fg (t.toNatClampNeg * 8 + h.toNatClampNeg) &&& xf_not (xf_bit v.toNatClampNeg)) (t.toNatClampNeg * 8)) 32), fu, fc, fb, fn, rc - nI 1)
     else (nI 0, fg, fk, fu, fc, fb, fn, rc))
  else (-1, fg, fk, fu, fc, fb, fn, rc)
def fcAbove (fg fk fu fc fb fn : Nat → Int32) (rc k u : Int32) : Int32 × FcS :=
  if (xf_in k 32 && (decide (u = -1) || xf_in u 32)) = true then
    (if fu k.toNatClampNeg = u then (nI 0, fg, fk, fu, fc, fb, fn, rc)
     else if (!decide (u = -1) && bt (fcWU fu 32 u (nI 0)) k.toNatClampNeg) = true then (-3, fg, fk, fu, fc, fb, fn, rc)
     else (nI 1, fg, fcRA (upd fu k.toNatClampNeg u) fg fk 40, upd fu k.toNatClampNeg u, fc, fb, fn, rc))
  else (-1, fg, fk, fu, fc, fb, fn, rc)
def fcCh (fc : Nat → Int32) (h v : Nat) (on : Int32) : Nat → Int32 := if on = 0 then upd fc h (fc h &&& xf_not (xf_bit v)) else upd fc h (fc h ||| xf_bit v)
def fcChoose (fg fk fu fc fb fn : Nat → Int32) (rc h v on : Int32) : Int32 × FcS :=
  if (xf_in h 8 && xf_in v 32) = true then (nI (xf_cnt (fcKp fg fk (fcCh fc h.toNatClampNeg v.toNatClampNeg on)) 40), fg, fk, fu, fcCh fc h.toNatClampNeg v.toNatClampNeg on, fb, fn, rc)
  else (-1, fg, fk, fu, fc, fb, fn, rc)
def fcIsKept (fg fk fc : Nat → Int32) (t : Int32) : Int32 := if xf_in t 40 = true then xf_B (fcKp fg fk fc t.toNatClampNeg) else -1
def fcFacet (fg fk fc : Nat → Int32) (h v : Int32) : Int32 := if (xf_in h 8 && xf_in v 32) = true then nI (xf_cnt (fcWA fg fk fc h.toNatClampNeg (xf_bit v.toNatClampNeg)) 40) else -1
def fcTop (fg fk fu fc fb fn : Nat → Int32) (rc h rank : Int32) : Int32 × FcS :=
  if (xf_in h 8 && xf_in rank 32) = true then (xf_find (fcTP (fcAll fg fk fc fn) h.toNatClampNeg rank) 32 0, fg, fk, fu, fc, fb, fcAll fg fk fc fn, rc)
  else (-1, fg, fk, fu, fc, fb, fn, rc)
def fcRange (fg fk fc : Nat → Int32) (h a b : Int32) : Int32 := if xf_in h 8 = true then nI (xf_cnt (fcWA fg fk fc h.toNatClampNeg (xf_mk (fcSpP a b) 32)) 40) else -1
def fcSum (fg fk fc : Nat → Int32) (h v o : Int32) : Int32 := if (xf_in h 8 && xf_in v 32 && xf_in o 8) = true then nI (fcSm fg fk fc h.toNatClampNeg v.toNatClampNeg o.toNatClampNeg 40) else -1
def fcChanged (fg fk fu fc fb fn : Nat → Int32) (rc : Int32) : Int32 × FcS :=
  (nI (xf_cnt (fcDf fb (fcAll fg fk fc fn)) 256), fg, fk, fu, fc, fcCp fb (fcAll fg fk fc fn) 256, fcAll fg fk fc fn, rc)
/-- share: none where it throws -/
def fcShare (fg fk fc : Nat → Int32) (h v lo : Int32) : Option Int32 :=
  if (xf_in h 8 && xf_in v 32) = true then
    (if xf_cnt (fcKB fg fk fc h.toNatClampNeg) 40 = 0 then none
     else some (nI (fcLT (if lo = 0 then xf_cnt (fcWA fg fk fc h.toNatClampNeg (xf_bit v.toNatClampNeg)) 40 else xf_cnt (fcKB fg fk fc h.toNatClampNeg) 40) (xf_cnt (fcWA fg fk fc h.toNatClampNeg (xf_bit v.toNatClampNeg)) 40) (xf_cnt (fcKB fg fk fc h.toNatClampNeg) 40) (xf_cnt (fcKB fg fk fc h.toNatClampNeg) 40))))
  else none
/-! rows on these -/
theorem xf_bt_bit : ∀ j, j < 32 → ∀ i, i < 32 → bt (xf_bit j) i = decide (i = j) := by decide +kernel
theorem xf_holds {x : Int32} {j : Nat} (hj : j < 32) : x &&& xf_bit j = 0 ↔ bt x j = false := by
  constructor
  · intro h
    have h1 := b_and x (xf_bit j) j
    rw [h, b_0, xf_bt_bit j hj j hj] at h1
    simpa using h1.symm
  · intro h
    refine b_ext (fun i hi => ?_)
    rw [b_and, xf_bt_bit j hj i hi, b_0]
    by_cases e : i = j
    · subst e; simp [h]
    · simp [e]
theorem fcCp_ge (fb fn : Nat → Int32) : ∀ (i j : Nat), i ≤ j → fcCp fb fn i j = fb j
  | 0, _, _ => rfl
  | i + 1, j, h => by
    show upd (fcCp fb fn i) i (fn i) j = fb j
    rw [pk_un (by omega)]
    exact fcCp_ge fb fn i j (by omega)
theorem xf_cnt_le (P : Nat → Bool) : ∀ n, xf_cnt P n ≤ n
  | 0 => Nat.le_refl 0
  | n + 1 => by
    have h := xf_cnt_le P n
    unfold xf_cnt
    split <;> omega
theorem xf_mk_0 {P : Nat → Bool} : ∀ {n : Nat}, (∀ j, j < n → P j = false) → xf_mk P n = nI 0
  | 0, _ => rfl
  | n + 1, h => by
    unfold xf_mk
    rw [h n (Nat.lt_succ_self n)]
    exact xf_mk_0 fun j hj => h j (Nat.lt_succ_of_lt hj)
theorem xf_mk_stay {P : Nat → Bool} {a : Nat} : ∀ {n : Nat}, a ≤ n → (∀ j, a ≤ j → j < n → P j = false) → xf_mk P n = xf_mk P a
  | 0, h, _ => by rw [Nat.le_zero.mp h]
  | n + 1, h, hP => by
    by_cases e : a = n + 1
    · rw [e]
    · have h1 := hP n (by omega) (Nat.lt_succ_self n)
      show (if P n = true then _ else xf_mk P n) = _
      rw [h1]
      exact xf_mk_stay (by omega) (fun j hj hn => hP j hj (Nat.lt_succ_of_lt hn))
theorem xf_max0 (x : Int32) : ∃ a : Nat, a < 2 ^ 31 ∧ (if x < nI 0 then nI 0 else x) = nI a ∧ (x.toInt < 0 ∧ (a : Int) = 0 ∨ 0 ≤ x.toInt ∧ (a : Int) = x.toInt) := by
  by_cases h : x < nI 0
  · refine ⟨0, by decide, by rw [if_pos h], Or.inl ⟨?_, rfl⟩⟩
    have z := Int32.lt_iff_toInt_lt.mp h
    rwa [nI_toInt (by decide)] at z
  · obtain ⟨j, hj, e⟩ := nI_of (x := x) (by rw [← nI_0]; exact h)
    refine ⟨j, hj, by rw [if_neg h, e], Or.inr ?_⟩
    rw [e, nI_toInt hj]
    omega
theorem xf_min31 (x : Int32) : ((if nI 31 < x then nI 31 else x).toInt = 31 ∧ 31 < x.toInt) ∨ ((if nI 31 < x then nI 31 else x).toInt = x.toInt ∧ x.toInt ≤ 31) := by
  by_cases h : nI 31 < x
  · have z := Int32.lt_iff_toInt_lt.mp h
    rw [nI_toInt (by decide)] at z
    rw [if_pos h, nI_toInt (by decide)]
    exact Or.inl ⟨rfl, z⟩
  · have z := Int32.le_iff_toInt_le.mp (Int32.not_lt.mp h)
    rw [nI_toInt (by decide)] at z
    rw [if_neg h]
    exact Or.inr ⟨rfl, z⟩
/-! what the reference's methods answer -/
abbrev MdS : Type := (Nat → Bool) × (Nat → Int32) × (Nat → Bool) × (Nat → Int32) × (Nat → Int32) × Int32 × Int32
def mdIt (ma : Nat → Int32) : Nat → Int32 → Int32
  | 0, a => a
  | n + 1, a => if a = -1 then -1 else mdIt ma n (ma a.toNatClampNeg)
def mdOk (ma : Nat → Int32) : Prop := ∀ k, k < 32 → ma k = -1 ∨ ∃ j, j < 32 ∧ ma k = nI j
def mdAc (ma : Nat → Int32) : Prop := ∀ k, k < 32 → ∃ n, mdIt ma n (nI k) = -1
noncomputable def mdU (ma : Nat → Int32) (k u : Nat) : Bool := @decide (∃ n, mdIt ma n (nI k) = nI u) (Classical.propDecidable _)
noncomputable def mdOP (mh : Nat → Bool) (ma : Nat → Int32) (t v : Nat) : Nat → Bool := fun k => mh (t * 8 * 32 + k) && mdU ma k v
noncomputable def mdO (mh : Nat → Bool) (ma : Nat → Int32) (t h v : Nat) : Bool := if 0 < h then mh ((t * 8 + h) * 32 + v) else xf_any (mdOP mh ma t v) 32
def mdCh (mc : Nat → Bool) (h : Nat) : Nat → Bool := fun v => mc (32 * h + v)
noncomputable def mdMP (mh : Nat → Bool) (ma : Nat → Int32) (mc : Nat → Bool) (t h : Nat) : Nat → Bool := fun v => mc (32 * h + v) && mdO mh ma t h v
noncomputable def mdM (mh : Nat → Bool) (ma : Nat → Int32) (mc : Nat → Bool) (t h : Nat) : Bool := xf_any (mdMP mh ma mc t h) 32 || !xf_any (mdCh mc h) 32
noncomputable def mdKP (mh : Nat → Bool) (ma : Nat → Int32) (mc : Nat → Bool) (t : Nat) (hd : Int32) : Nat → Bool := fun h => decide (nI h = hd) || mdM mh ma mc t h
noncomputable def mdK (mh : Nat → Bool) (ma : Nat → Int32) (mc : Nat → Bool) (t : Nat) (hd : Int32) : Bool := xf_all (mdKP mh ma mc t hd) 8
noncomputable def mdNP (mh : Nat → Bool) (ma : Nat → Int32) (mc : Nat → Bool) (h v : Nat) : Nat → Bool := fun t => mdO mh ma t h v && mdK mh ma mc t (nI h)
noncomputable def mdN (mh : Nat → Bool) (ma : Nat → Int32) (mc : Nat → Bool) (h v : Nat) : Nat := xf_cnt (mdNP mh ma mc h v) 40
noncomputable def mdAP (mh : Nat → Bool) (ma : Nat → Int32) (mc : Nat → Bool) (hd : Int32) : Nat → Bool := fun t => mdK mh ma mc t hd
noncomputable def mdCt (mh : Nat → Bool) (ma : Nat → Int32) (mc : Nat → Bool) (h : Nat) (mn : Nat → Int32) : Nat → (Nat → Int32)
  | 0 => mn
  | k + 1 => upd (mdCt mh ma mc h mn k) k (nI (mdN mh ma mc h k))
noncomputable def mdRk (mh : Nat → Bool) (ma : Nat → Int32) (mc : Nat → Bool) (h v : Nat) : Nat → Bool := fun o => decide (mdN mh ma mc h v < mdN mh ma mc h o) || (decide (mdN mh ma mc h o = mdN mh ma mc h v) && decide (o < v))
noncomputable def mdTP (mh : Nat → Bool) (ma : Nat → Int32) (mc : Nat → Bool) (h : Nat) (pr : Int32) : Nat → Bool := fun v => decide (0 < mdN mh ma mc h v) && decide (nI (xf_cnt (mdRk mh ma mc h v) 32) = pr)
noncomputable def mdRq (mh : Nat → Bool) (ma : Nat → Int32) (t h : Nat) (pa pb : Int32) : Nat → Bool := fun v => !decide (nI v < pa) && !decide (pb < nI v) && mdO mh ma t h v
noncomputable def mdRg (mh : Nat → Bool) (ma : Nat → Int32) (mc : Nat → Bool) (h : Nat) (pa pb : Int32) : Nat → Bool := fun t => xf_any (mdRq mh ma t h pa pb) 32 && mdK mh ma mc t (nI h)
noncomputable def mdSO (mh : Nat → Bool) (ma : Nat → Int32) (t o : Nat) : Nat → Nat
  | 0 => 0
  | v + 1 => mdSO mh ma t o v + (if mdO mh ma t o v = true then v else 0)
noncomputable def mdSm (mh : Nat → Bool) (ma : Nat → Int32) (mc : Nat → Bool) (h v o : Nat) : Nat → Nat
  | 0 => 0
  | t + 1 => mdSm mh ma mc h v o t + (if (mdO mh ma t h v && mdK mh ma mc t (-1)) = true then mdSO mh ma t o 32 else 0)
def mdG (n w : Nat) : Nat → Nat
  | 0 => 1
  | i + 1 => if w % (i + 1) = 0 ∧ n % (i + 1) = 0 then i + 1 else mdG n w i
noncomputable def mdDf (mh : Nat → Bool) (ma : Nat → Int32) (mc : Nat → Bool) (mt : Nat → Int32) : Nat → Bool := fun i => decide (¬ nI (mdN mh ma mc (i / 32) (i % 32)) = mt i)
noncomputable def mdTd (mh : Nat → Bool) (ma : Nat → Int32) (mc : Nat → Bool) (mt : Nat → Int32) : Nat → (Nat → Int32)
  | 0 => mt
  | i + 1 => upd (mdTd mh ma mc mt i) i (nI (mdN mh ma mc (i / 32) (i % 32)))
/-- the calls: the answer, and the state behind it -/
def mdRow (mh : Nat → Bool) (ma : Nat → Int32) (mc : Nat → Bool) (mt mn : Nat → Int32) (ro t h v : Int32) : Int32 × MdS :=
  if (xf_in t 40 && xf_in h 8 && xf_in v 32) = true then
    (if mh ((t.toNatClampNeg * 8 + h.toNatClampNeg) * 32 + v.toNatClampNeg) = true then (nI 0, mh, ma, mc, mt, mn, nI 0, ro)
     else if ro = nI 300 then (-2, mh, ma, mc, mt, mn, nI 0, ro)
     else (nI 1, va_up mh ((t.toNatClampNeg * 8 + h.toNatClampNeg) * 32 + v.toNatClampNeg) true, ma, mc, mt, mn, nI 0, ro + nI 1))
  else (-1, mh, ma, mc, mt, mn, nI 0, ro)
def mdDrop (mh : Nat → Bool) (ma : Nat → Int32) (mc : Nat → Bool) (mt mn : Nat → Int32) (ro t h v : Int32) : Int32 × MdS :=
  if (xf_in t 40 && xf_in h 8 && xf_in v 32) = true then
    (if mh ((t.toNatClampNeg * 8 + h.toNatClampNeg) * 32 + v.toNatClampNeg) = true then (nI 1, va_up mh ((t.toNatClampNeg * 8 + h.toNatClampNeg) * 32 + v.toNatClampNeg) false, ma, mc, mt, mn, nI 0, ro - nI 1)
     else (nI 0, mh, ma, mc, mt, mn, nI 0, ro))
  else (-1, mh, ma, mc, mt, mn, nI 0, ro)
noncomputable def mdAbove (mh : Nat → Bool) (ma : Nat → Int32) (mc : Nat → Bool) (mt mn : Nat → Int32) (ro k u : Int32) : Int32 × MdS :=
  if (xf_in k 32 && (decide (u = -1) || xf_in u 32)) = true then
    (if ma k.toNatClampNeg = u then (nI 0, mh, ma, mc, mt, mn, nI 0, ro)
     else if (!decide (u = -1) && mdU ma u.toNatClampNeg k.toNatClampNeg) = true then (-3, mh, ma, mc, mt, mn, nI 0, ro)
     else (nI 1, mh, upd ma k.toNatClampNeg u, mc, mt, mn, nI 0, ro))
  else (-1, mh, ma, mc, mt, mn, nI 0, ro)
noncomputable def mdChoose (mh : Nat → Bool) (ma : Nat → Int32) (mc : Nat → Bool) (mt mn : Nat → Int32) (ro h v : Int32) (on : Bool) : Int32 × MdS :=
  if (xf_in h 8 && xf_in v 32) = true then (nI (xf_cnt (mdAP mh ma (va_up mc (32 * h.toNatClampNeg + v.toNatClampNeg) on) (-1)) 40), mh, ma, va_up mc (32 * h.toNatClampNeg + v.toNatClampNeg) on, mt, mn, nI 0, ro)
  else (-1, mh, ma, mc, mt, mn, nI 0, ro)
noncomputable def mdIsKept (mh : Nat → Bool) (ma : Nat → Int32) (mc : Nat → Bool) (t : Int32) : Int32 := if xf_in t 40 = true then xf_B (mdK mh ma mc t.toNatClampNeg (-1)) else -1
noncomputable def mdFacet (mh : Nat → Bool) (ma : Nat → Int32) (mc : Nat → Bool) (h v : Int32) : Int32 := if (xf_in h 8 && xf_in v 32) = true then nI (mdN mh ma mc h.toNatClampNeg v.toNatClampNeg) else -1
noncomputable def mdTop (mh : Nat → Bool) (ma : Nat → Int32) (mc : Nat → Bool) (mt mn : Nat → Int32) (ro h pr : Int32) : Int32 × MdS :=
  if xf_in h 8 = true then (xf_find (mdTP mh ma mc h.toNatClampNeg pr) 32 0, mh, ma, mc, mt, mdCt mh ma mc h.toNatClampNeg mn 32, nI 0, ro)
  else (-1, mh, ma, mc, mt, mn, nI 0, ro)
noncomputable def mdRange (mh : Nat → Bool) (ma : Nat → Int32) (mc : Nat → Bool) (h pa pb : Int32) : Int32 := if xf_in h 8 = true then nI (xf_cnt (mdRg mh ma mc h.toNatClampNeg pa pb) 40) else -1
noncomputable def mdSum (mh : Nat → Bool) (ma : Nat → Int32) (mc : Nat → Bool) (h v o : Int32) : Int32 := if (xf_in h 8 && xf_in v 32 && xf_in o 8) = true then nI (mdSm mh ma mc h.toNatClampNeg v.toNatClampNeg o.toNatClampNeg 40) else -1
noncomputable def mdShW (mh : Nat → Bool) (ma : Nat → Int32) (mc : Nat → Bool) (h v : Int32) : Nat := if (xf_in h 8 && xf_in v 32) = true then xf_cnt (mdAP mh ma mc h) 40 else 0
noncomputable def mdShare (mh : Nat → Bool) (ma : Nat → Int32) (mc : Nat → Bool) (mt mn : Nat → Int32) (ro h v lo : Int32) : Int32 × MdS :=
  if mdShW mh ma mc h v = 0 then (nI 0, mh, ma, mc, mt, mn, nI 1, ro)
  else (nI ((if lo = 0 then mdN mh ma mc h.toNatClampNeg v.toNatClampNeg else mdShW mh ma mc h v) / mdG (mdN mh ma mc h.toNatClampNeg v.toNatClampNeg) (mdShW mh ma mc h v) (mdShW mh ma mc h v)), mh, ma, mc, mt, mn, nI 0, ro)
noncomputable def mdChanged (mh : Nat → Bool) (ma : Nat → Int32) (mc : Nat → Bool) (mt mn : Nat → Int32) (ro : Int32) : Int32 × MdS :=
  (nI (xf_cnt (mdDf mh ma mc mt) 256), mh, ma, mc, mdTd mh ma mc mt 256, mn, nI 0, ro)
/-! rows on these -/
theorem mdU_iff {ma : Nat → Int32} {k u : Nat} : mdU ma k u = true ↔ ∃ n, mdIt ma n (nI k) = nI u := by unfold mdU; exact @decide_eq_true_iff _ (Classical.propDecidable _)
theorem mdU_f {ma : Nat → Int32} {k u : Nat} (h : ¬ ∃ n, mdIt ma n (nI k) = nI u) : mdU ma k u = false := by
  cases hb : mdU ma k u with
  | true => exact absurd (mdU_iff.mp hb) h
  | false => rfl
theorem xf_m1 {j : Nat} (h : j < 2 ^ 31) : ¬ nI j = -1 := fun e => by
  have h1 := congrArg Int32.toInt e
  rw [nI_toInt h] at h1
  have h2 : (-1 : Int32).toInt = -1 := by decide
  omega
theorem mdIt_m1 (ma : Nat → Int32) : ∀ n, mdIt ma n (-1) = -1
  | 0 => rfl
  | n + 1 => by unfold mdIt; rw [if_pos rfl]
theorem mdIt_s (ma : Nat → Int32) {j : Nat} (hj : j < 32) (n : Nat) : mdIt ma (n + 1) (nI j) = mdIt ma n (ma j) := by
  show (if nI j = -1 then -1 else mdIt ma n (ma (nI j).toNatClampNeg)) = _
  rw [if_neg (xf_m1 (by omega)), nI_clamp (by omega)]
theorem mdIt_e (ma : Nat → Int32) {j u : Nat} (hj : j < 32) (hu : ¬ nI j = nI u) : (∃ q, mdIt ma q (nI j) = nI u) ↔ ∃ q, mdIt ma q (ma j) = nI u := by
  constructor
  · intro ⟨q, hq⟩
    match q, hq with
    | 0, hq => exact absurd hq hu
    | q + 1, hq => exact ⟨q, by rw [← mdIt_s ma hj]; exact hq⟩
  · intro ⟨q, hq⟩
    exact ⟨q + 1, by rw [mdIt_s ma hj]; exact hq⟩
theorem mdN_le (mh : Nat → Bool) (ma : Nat → Int32) (mc : Nat → Bool) (h v : Nat) : mdN mh ma mc h v ≤ 40 := xf_cnt_le _ _
theorem mdCt_at (mh : Nat → Bool) (ma : Nat → Int32) (mc : Nat → Bool) (h : Nat) (mn : Nat → Int32) : ∀ n v, v < n → mdCt mh ma mc h mn n v = nI (mdN mh ma mc h v)
  | 0, v, hv => absurd hv (Nat.not_lt_zero v)
  | n + 1, v, hv => by
    show upd (mdCt mh ma mc h mn n) n (nI (mdN mh ma mc h n)) v = _
    by_cases e : v = n
    · subst e; rw [pk_us]
    · rw [pk_un e]; exact mdCt_at mh ma mc h mn n v (by omega)
theorem mdTd_ge (mh : Nat → Bool) (ma : Nat → Int32) (mc : Nat → Bool) (mt : Nat → Int32) : ∀ i j, i ≤ j → mdTd mh ma mc mt i j = mt j
  | 0, _, _ => rfl
  | i + 1, j, h => by
    show upd (mdTd mh ma mc mt i) i _ j = mt j
    rw [pk_un (by omega)]
    exact mdTd_ge mh ma mc mt i j (by omega)
theorem mdG_in (n w : Nat) : ∀ i, 1 ≤ mdG n w i ∧ (mdG n w i ≤ i ∨ mdG n w i = 1)
  | 0 => ⟨Nat.le_refl 1, Or.inr rfl⟩
  | i + 1 => by
    unfold mdG
    split
    · exact ⟨by omega, Or.inl (by omega)⟩
    · have h := mdG_in n w i
      exact ⟨h.1, by omega⟩
/-! the counts that countAll leaves -/
theorem xf_fill_at (x : Int32) (f : Nat → Int32) : ∀ n i, xf_fill x f n i = if i < n then x else f i
  | 0, i => by rw [if_neg (by omega)]; rfl
  | n + 1, i => by
    show upd (xf_fill x f n) n x i = _
    by_cases h : i = n
    · subst h; rw [pk_us, if_pos (by omega)]
    · rw [pk_un h, xf_fill_at x f n i]
      by_cases h2 : i < n
      · rw [if_pos h2, if_pos (by omega)]
      · rw [if_neg h2, if_neg (by omega)]
theorem fcCV_at (h : Nat) (set : Int32) (fn : Nat → Int32) (a v : Nat) (hv : v < 32) : ∀ n, n ≤ 32 → fcCV h set fn n (a * 32 + v) = if a = h ∧ v < n ∧ bt set v = true then fn (a * 32 + v) + nI 1 else fn (a * 32 + v)
  | 0, _ => by rw [if_neg (by omega)]; rfl
  | n + 1, hn => by
    have ih := fcCV_at h set fn a v hv n (by omega)
    show (if bt set n = true then upd (fcCV h set fn n) (h * 32 + n) (fcCV h set fn n (h * 32 + n) + nI 1) else fcCV h set fn n) (a * 32 + v) = _
    by_cases hb : bt set n = true
    · rw [if_pos hb]
      by_cases e : a = h ∧ v = n
      · obtain ⟨e1, e2⟩ := e
        subst e1; subst e2
        rw [pk_us, ih, if_neg (by omega), if_pos ⟨rfl, by omega, hb⟩]
      · rw [pk_un (by omega), ih]
        by_cases c : a = h ∧ v < n ∧ bt set v = true
        · rw [if_pos c, if_pos ⟨c.1, by omega, c.2.2⟩]
        · rw [if_neg c, if_neg (fun z => c ⟨z.1, by omega, z.2.2⟩)]
    · rw [if_neg hb, ih]
      by_cases c : a = h ∧ v < n ∧ bt set v = true
      · rw [if_pos c, if_pos ⟨c.1, by omega, c.2.2⟩]
      · rw [if_neg c, if_neg (fun z => c ⟨z.1, (by
          rcases Nat.lt_or_ge v n with q | q
          · exact q
          · exact absurd (by rw [← show v = n by omega]; exact z.2.2) hb), z.2.2⟩)]
theorem fcCW_at (h : Nat) (set : Int32) (fn : Nat → Int32) (a v : Nat) (hv : v < 32) : fcCW h set fn (a * 32 + v) = if a = h ∧ bt set v = true then fn (a * 32 + v) + nI 1 else fn (a * 32 + v) := by
  unfold fcCW
  by_cases e : set = 0
  · rw [if_pos e, if_neg (fun z => by rw [e, b_0] at z; exact absurd z.2 (by decide))]
  · rw [if_neg e, fcCV_at h set fn a v hv 32 (Nat.le_refl _)]
    by_cases c : a = h ∧ bt set v = true
    · rw [if_pos c, if_pos ⟨c.1, hv, c.2⟩]
    · rw [if_neg c, if_neg (fun z => c ⟨z.1, z.2.2⟩)]
theorem fcCH_at (lk : Int32) (V fn : Nat → Int32) (a v : Nat) (hv : v < 32) : ∀ n, fcCH lk V fn n (a * 32 + v) = if a < n ∧ lk &&& xf_not (xf_bit a) = 0 ∧ bt (V a) v = true then fn (a * 32 + v) + nI 1 else fn (a * 32 + v)
  | 0 => by rw [if_neg (by omega)]; rfl
  | n + 1 => by
    have ih := fcCH_at lk V fn a v hv n
    show (if lk &&& xf_not (xf_bit n) = 0 then fcCW n (V n) (fcCH lk V fn n) else fcCH lk V fn n) (a * 32 + v) = _
    by_cases hk : lk &&& xf_not (xf_bit n) = 0
    · rw [if_pos hk, fcCW_at n (V n) _ a v hv, ih]
      by_cases e : a = n
      · subst e
        rw [if_neg (show ¬ (a < a ∧ lk &&& xf_not (xf_bit a) = 0 ∧ bt (V a) v = true) by omega)]
        by_cases c : bt (V a) v = true
        · rw [if_pos ⟨rfl, c⟩, if_pos ⟨by omega, hk, c⟩]
        · rw [if_neg (fun z => c z.2), if_neg (fun z => c z.2.2)]
      · rw [if_neg (fun z => e z.1)]
        by_cases c : a < n ∧ lk &&& xf_not (xf_bit a) = 0 ∧ bt (V a) v = true
        · rw [if_pos c, if_pos ⟨by omega, c.2⟩]
        · rw [if_neg c, if_neg (fun z => c ⟨by omega, z.2⟩)]
    · rw [if_neg hk, ih]
      by_cases c : a < n ∧ lk &&& xf_not (xf_bit a) = 0 ∧ bt (V a) v = true
      · rw [if_pos c, if_pos ⟨by omega, c.2⟩]
      · rw [if_neg c, if_neg (fun z => c ⟨(by
          rcases Nat.lt_or_ge a n with q | q
          · exact q
          · exact absurd (by rw [← show a = n by omega]; exact z.2.1) hk), z.2⟩)]
/-- THE COUNT of a value under a head -/
def fcN (fg fk fc : Nat → Int32) (h v : Nat) : Nat := xf_cnt (fun t => bt (fcV fg fk t h) v && fcKB fg fk fc h t) 40
theorem fcCA_at (fg fk fc fn : Nat → Int32) (h v : Nat) (hh : h < 8) (hv : v < 32) : ∀ n, fcCA fg fk fc fn n (h * 32 + v) = fn (h * 32 + v) + nI (xf_cnt (fun t => bt (fcV fg fk t h) v && fcKB fg fk fc h t) n)
  | 0 => by
    show fn (h * 32 + v) = fn (h * 32 + v) + nI 0
    rw [nI_0, Int32.add_zero]
  | n + 1 => by
    have ih := fcCA_at fg fk fc fn h v hh hv n
    show fcCH (fcLk fg fk fc n) (fcV fg fk n) (fcCA fg fk fc fn n) 8 (h * 32 + v) = _
    rw [fcCH_at _ _ _ h v hv 8, ih]
    show _ = fn (h * 32 + v) + nI (xf_cnt _ n + (if (bt (fcV fg fk n h) v && fcKB fg fk fc h n) = true then 1 else 0))
    by_cases c : fcLk fg fk fc n &&& xf_not (xf_bit h) = 0 ∧ bt (fcV fg fk n h) v = true
    · rw [if_pos ⟨hh, c⟩, if_pos (by unfold fcKB; rw [c.2, decide_eq_true c.1]; rfl), Int32.add_assoc, nI_add]
    · rw [if_neg (fun z => c z.2), if_neg (fun z => c (by
        unfold fcKB at z
        rw [Bool.and_eq_true, decide_eq_true_eq] at z
        exact ⟨z.2, z.1⟩)), Nat.add_zero]
theorem fcAll_at (fg fk fc fn : Nat → Int32) (h v : Nat) (hh : h < 8) (hv : v < 32) : fcAll fg fk fc fn (h * 32 + v) = nI (fcN fg fk fc h v) := by
  unfold fcAll fcN
  rw [fcCA_at fg fk fc _ h v hh hv 40, xf_fill_at, if_pos (by omega), nI_0, Int32.zero_add]
theorem fcWA_bit (fg fk fc : Nat → Int32) (h v : Nat) (hv : v < 32) : fcWA fg fk fc h (xf_bit v) = fun t => bt (fcV fg fk t h) v && fcKB fg fk fc h t := by
  funext t
  unfold fcWA
  congr 1
  cases hb : bt (fcV fg fk t h) v with
  | true => exact decide_eq_true (fun z => by rw [xf_holds hv, hb] at z; cases z)
  | false => exact decide_eq_false (fun z => z ((xf_holds hv).mpr hb))
/-! sets of bits -/
theorem xf_mk_bt (P : Nat → Bool) : ∀ n, n ≤ 32 → ∀ j, j < 32 → bt (xf_mk P n) j = (decide (j < n) && P j)
  | 0, _, j, _ => by
    show bt (nI 0) j = _
    rw [nI_0, b_0, decide_eq_false (by omega), Bool.false_and]
  | n + 1, hn, j, hj => by
    have ih := xf_mk_bt P n (by omega) j hj
    show bt (if P n = true then xf_mk P n ||| xf_bit n else xf_mk P n) j = _
    by_cases hp : P n = true
    · rw [if_pos hp, b_or, ih, xf_bt_bit n (by omega) j hj]
      by_cases e : j = n
      · subst e; simp [hp]
      · rw [decide_eq_false e, Bool.or_false]
        by_cases q : j < n
        · rw [decide_eq_true q, decide_eq_true (show j < n + 1 by omega)]
        · rw [decide_eq_false q, decide_eq_false (show ¬ j < n + 1 by omega)]
    · rw [if_neg hp, ih]
      by_cases e : j = n
      · subst e
        rw [decide_eq_false (Nat.lt_irrefl _), Bool.false_and]
        cases hb : P j with
        | true => exact absurd hb hp
        | false => rw [Bool.and_false]
      · by_cases q : j < n
        · rw [decide_eq_true q, decide_eq_true (show j < n + 1 by omega)]
        · rw [decide_eq_false q, decide_eq_false (show ¬ j < n + 1 by omega)]
theorem xf_bt0 {x : Int32} : x = 0 ↔ ∀ j, j < 32 → bt x j = false := by
  constructor
  · intro h j _; rw [h, b_0]
  · intro h; exact b_ext fun i hi => by rw [h i hi, b_0]
theorem xf_not_bt (x : Int32) (j : Nat) (hj : j < 32) : bt (xf_not x) j = !bt x j := by
  unfold xf_not
  rw [b_xor, b_m1 j hj]
  cases bt x j <;> rfl
/-- a thing lacks a head: the head has chosen values, the thing has none of them -/
def fcLa (fg fk fc : Nat → Int32) (t h : Nat) : Bool := fcLP fc (fcV fg fk t) h
theorem fcKp_iff (fg fk fc : Nat → Int32) (t : Nat) : fcKp fg fk fc t = true ↔ ∀ h, h < 8 → fcLa fg fk fc t h = false := by
  unfold fcKp fcLk fcLa
  rw [decide_eq_true_eq, xf_bt0]
  constructor
  · intro z h hh
    have := z h (by omega)
    rwa [xf_mk_bt _ 8 (by omega) h (by omega), decide_eq_true hh, Bool.true_and] at this
  · intro z j hj
    rw [xf_mk_bt _ 8 (by omega) j hj]
    by_cases q : j < 8
    · rw [z j q, Bool.and_false]
    · rw [decide_eq_false q, Bool.false_and]
theorem fcKB_iff (fg fk fc : Nat → Int32) (h t : Nat) (hh : h < 8) : fcKB fg fk fc h t = true ↔ ∀ a, a < 8 → a ≠ h → fcLa fg fk fc t a = false := by
  unfold fcKB fcLk fcLa
  rw [decide_eq_true_eq, xf_bt0]
  constructor
  · intro z a ha hne
    have := z a (by omega)
    rw [b_and, xf_not_bt _ a (by omega), xf_bt_bit h (by omega) a (by omega), decide_eq_false hne, xf_mk_bt _ 8 (by omega) a (by omega), decide_eq_true ha] at this
    simpa using this
  · intro z j hj
    rw [b_and, xf_not_bt _ j hj, xf_bt_bit h (by omega) j hj, xf_mk_bt _ 8 (by omega) j hj]
    by_cases q : j < 8
    · by_cases e : j = h
      · rw [decide_eq_true e]; simp
      · rw [z j q e]; simp
    · rw [decide_eq_false q]; simp
end
section
/-! kinds and those above them -/
theorem xf_any_iff (P : Nat → Bool) : ∀ n, xf_any P n = true ↔ ∃ j, j < n ∧ P j = true
  | 0 => ⟨fun h => (by cases h), fun ⟨j, h, _⟩ => absurd h (Nat.not_lt_zero j)⟩
  | n + 1 => by
    show (xf_any P n || P n) = true ↔ _
    rw [Bool.or_eq_true, xf_any_iff P n]
    constructor
    · rintro (⟨j, h1, h2⟩ | h)
      · exact ⟨j, by omega, h2⟩
      · exact ⟨n, by omega, h⟩
    · rintro ⟨j, h1, h2⟩
      by_cases e : j = n
      · exact Or.inr (by rw [← e]; exact h2)
      · exact Or.inl ⟨j, by omega, h2⟩
theorem xf_all_iff (P : Nat → Bool) : ∀ n, xf_all P n = true ↔ ∀ j, j < n → P j = true
  | 0 => ⟨fun _ j h => absurd h (Nat.not_lt_zero j), fun _ => rfl⟩
  | n + 1 => by
    show (xf_all P n && P n) = true ↔ _
    rw [Bool.and_eq_true, xf_all_iff P n]
    constructor
    · intro ⟨h1, h2⟩ j hj
      by_cases e : j = n
      · rw [e]; exact h2
      · exact h1 j (by omega)
    · intro h
      exact ⟨fun j hj => h j (by omega), h n (by omega)⟩
theorem xf_cnt_congr {P Q : Nat → Bool} : ∀ {n : Nat}, (∀ j, j < n → P j = Q j) → xf_cnt P n = xf_cnt Q n
  | 0, _ => rfl
  | n + 1, h => by
    show xf_cnt P n + _ = xf_cnt Q n + _
    rw [xf_cnt_congr (n := n) (fun j hj => h j (by omega)), h n (by omega)]
theorem xf_cnt_full {P : Nat → Bool} : ∀ {n : Nat}, n ≤ xf_cnt P n → ∀ j, j < n → P j = true
  | 0, _, j, hj => absurd hj (Nat.not_lt_zero j)
  | n + 1, h, j, hj => by
    have h' : n + 1 ≤ xf_cnt P n + (if P n = true then 1 else 0) := h
    have hle := xf_cnt_le P n
    by_cases hp : P n = true
    · rw [if_pos hp] at h'
      by_cases e : j = n
      · rw [e]; exact hp
      · exact xf_cnt_full (n := n) (by omega) j (by omega)
    · rw [if_neg hp] at h'
      omega
theorem xf_cnt_set {P Q : Nat → Bool} {i : Nat} (hP : P i = false) (hQ : Q i = true) (hne : ∀ j, j ≠ i → Q j = P j) : ∀ n, i < n → xf_cnt Q n = xf_cnt P n + 1
  | 0, h => absurd h (Nat.not_lt_zero i)
  | n + 1, h => by
    show xf_cnt Q n + (if Q n = true then 1 else 0) = xf_cnt P n + (if P n = true then 1 else 0) + 1
    by_cases e : i = n
    · subst e
      rw [xf_cnt_congr (n := i) (P := Q) (Q := P) (fun j hj => hne j (by omega)), hP, hQ]
      simp
    · rw [xf_cnt_set hP hQ hne n (by omega), hne n (fun z => e z.symm)]
      omega
theorem xf_inj {i j : Nat} (hi : i < 32) (hj : j < 32) (h : nI i = nI j) : i = j := (nI_eq (by omega) (by omega)).mp h
/-- the walk up: what it keeps, what it brings -/
theorem fcWU_spec (fu : Nat → Int32) : ∀ (n : Nat) (ka al : Int32), 32 ≤ n + xf_cnt (bt al) 32 → (∀ j, j < 32 → bt al j = true → ∀ i, i < 32 → fu j = nI i → bt al i = true ∨ ka = nI i) →
    (∀ v, v < 32 → bt al v = true → bt (fcWU fu n ka al) v = true) ∧ (∀ i, i < 32 → ka = nI i → bt (fcWU fu n ka al) i = true) ∧
    (∀ j, j < 32 → bt (fcWU fu n ka al) j = true → ∀ i, i < 32 → fu j = nI i → bt (fcWU fu n ka al) i = true) ∧
    (∀ v, v < 32 → bt (fcWU fu n ka al) v = true → bt al v = true ∨ ∃ q, mdIt fu q ka = nI v)
  | 0, ka, al, hc, _ => by
    have hf : ∀ j, j < 32 → bt al j = true := xf_cnt_full (by omega)
    exact ⟨fun v _ h => h, fun i hi _ => hf i hi, fun _ _ _ i hi _ => hf i hi, fun v _ h => Or.inl h⟩
  | n + 1, ka, al, hc, hn => by
    by_cases hin : xf_in ka 32 = true
    · obtain ⟨j, hj, rfl⟩ := xf_in_of hin (by decide)
      have ej : (nI j).toNatClampNeg = j := nI_clamp (by omega)
      by_cases hb : bt al j = true
      · have e : fcWU fu (n + 1) (nI j) al = al := by rw [fcWU, if_pos hin, ej, if_pos hb]
        rw [e]
        refine ⟨fun v _ h => h, fun i hi h => by rw [← xf_inj hj hi h]; exact hb, fun a ha h i hi hu => ?_, fun v _ h => Or.inl h⟩
        rcases hn a ha h i hi hu with q | q
        · exact q
        · rw [← xf_inj hj hi q]; exact hb
      · have e : fcWU fu (n + 1) (nI j) al = fcWU fu n (fu j) (al ||| xf_bit j) := by rw [fcWU, if_pos hin, ej, if_neg hb]
        rw [e]
        have hor : ∀ v, v < 32 → bt (al ||| xf_bit j) v = (bt al v || decide (v = j)) := fun v hv => by rw [b_or, xf_bt_bit j hj v hv]
        have hbf : bt al j = false := by cases q : bt al j with | true => exact absurd q hb | false => rfl
        have hcard : xf_cnt (bt (al ||| xf_bit j)) 32 = xf_cnt (bt al) 32 + 1 := by
          have h1 : xf_cnt (bt (al ||| xf_bit j)) 32 = xf_cnt (fun v => bt al v || decide (v = j)) 32 := xf_cnt_congr hor
          rw [h1]
          exact xf_cnt_set hbf (by simp) (fun v hv => by simp [hv]) 32 hj
        obtain ⟨p1, p2, p3, p4⟩ := fcWU_spec fu n (fu j) (al ||| xf_bit j) (by omega) (fun a ha h i hi hu => by
          rw [hor a ha, Bool.or_eq_true, decide_eq_true_eq] at h
          rcases h with h | h
          · rcases hn a ha h i hi hu with q | q
            · exact Or.inl (by rw [hor i hi, q]; rfl)
            · exact Or.inl (by rw [hor i hi, xf_inj hj hi q]; simp)
          · exact Or.inr (by rw [← h]; exact hu))
        refine ⟨fun v hv h => p1 v hv (by rw [hor v hv, h]; rfl), fun i hi h => p1 i hi (by rw [hor i hi, xf_inj hj hi h]; simp), p3, fun v hv h => ?_⟩
        rcases p4 v hv h with q | ⟨q, hq⟩
        · rw [hor v hv, Bool.or_eq_true, decide_eq_true_eq] at q
          rcases q with q | q
          · exact Or.inl q
          · exact Or.inr ⟨0, by rw [q]; rfl⟩
        · exact Or.inr ⟨q + 1, by rw [mdIt_s fu hj]; exact hq⟩
    · have e : fcWU fu (n + 1) ka al = al := by rw [fcWU, if_neg hin]
      rw [e]
      refine ⟨fun v _ h => h, fun i hi h => absurd (by rw [h]; exact xf_in_nI hi (by decide)) hin, fun a ha h i hi hu => ?_, fun v _ h => Or.inl h⟩
      rcases hn a ha h i hi hu with q | q
      · exact q
      · exact absurd (by rw [q]; exact xf_in_nI hi (by decide)) hin
def fcCl (fu : Nat → Int32) (S : Int32) : Prop := ∀ j, j < 32 → bt S j = true → ∀ i, i < 32 → fu j = nI i → bt S i = true
theorem fcCl_reach {fu : Nat → Int32} (hOk : mdOk fu) {S : Int32} (hc : fcCl fu S) {v : Nat} (hv : v < 32) : ∀ q j, j < 32 → bt S j = true → mdIt fu q (nI j) = nI v → bt S v = true
  | 0, j, hj, hb, h => by rw [← xf_inj hj hv h]; exact hb
  | q + 1, j, hj, hb, h => by
    rw [mdIt_s fu hj] at h
    rcases hOk j hj with e | ⟨i, hi, e⟩
    · rw [e, mdIt_m1] at h
      exact absurd h.symm (xf_m1 (by omega))
    · rw [e] at h
      exact fcCl_reach hOk hc hv q i hi (hc j hj hb i hi e) h
theorem fcWU_up {fu : Nat → Int32} (hOk : mdOk fu) {k v : Nat} (hk : k < 32) (hv : v < 32) : bt (fcWU fu 32 (nI k) (nI 0)) v = mdU fu k v := by
  obtain ⟨p1, p2, p3, p4⟩ := fcWU_spec fu 32 (nI k) (nI 0) (by omega) (fun j _ h => by rw [nI_0, b_0] at h; cases h)
  rw [Bool.eq_iff_iff, mdU_iff]
  constructor
  · intro h
    rcases p4 v hv h with q | q
    · rw [nI_0, b_0] at q; cases q
    · exact q
  · intro ⟨q, hq⟩
    exact fcCl_reach hOk p3 hv q k hk (p2 k hk rfl) hq
theorem fcRK_spec {fu : Nat → Int32} (hOk : mdOk fu) (own : Int32) : ∀ n, n ≤ 32 → fcCl fu (fcRK fu own n) ∧ ∀ v, v < 32 → (bt (fcRK fu own n) v = true ↔ ∃ k, k < n ∧ bt own k = true ∧ mdU fu k v = true)
  | 0, _ => ⟨fun j _ h => (by rw [show fcRK fu own 0 = nI 0 from rfl, nI_0, b_0] at h; cases h), fun v _ => ⟨fun h => (by rw [show fcRK fu own 0 = nI 0 from rfl, nI_0, b_0] at h; cases h), fun ⟨k, h, _⟩ => absurd h (Nat.not_lt_zero k)⟩⟩
  | n + 1, hn => by
    obtain ⟨c1, c2⟩ := fcRK_spec hOk own n (by omega)
    by_cases hb : bt own n = true
    · have e : fcRK fu own (n + 1) = fcWU fu 32 (nI n) (fcRK fu own n) := by rw [fcRK, if_pos hb]
      rw [e]
      obtain ⟨p1, p2, p3, p4⟩ := fcWU_spec fu 32 (nI n) (fcRK fu own n) (by omega) (fun j hj h i hi hu => Or.inl (c1 j hj h i hi hu))
      refine ⟨p3, fun v hv => ⟨fun h => ?_, fun ⟨k, h1, h2, h3⟩ => ?_⟩⟩
      · rcases p4 v hv h with q | q
        · obtain ⟨k, h1, h2, h3⟩ := (c2 v hv).mp q
          exact ⟨k, by omega, h2, h3⟩
        · exact ⟨n, by omega, hb, mdU_iff.mpr q⟩
      · by_cases ek : k = n
        · subst ek
          obtain ⟨q, hq⟩ := mdU_iff.mp h3
          exact fcCl_reach hOk p3 hv q k (by omega) (p2 k (by omega) rfl) hq
        · exact p1 v hv ((c2 v hv).mpr ⟨k, by omega, h2, h3⟩)
    · have e : fcRK fu own (n + 1) = fcRK fu own n := by rw [fcRK, if_neg hb]
      rw [e]
      refine ⟨c1, fun v hv => (c2 v hv).trans ⟨fun ⟨k, h1, h2, h3⟩ => ⟨k, by omega, h2, h3⟩, fun ⟨k, h1, h2, h3⟩ => ⟨k, ?_, h2, h3⟩⟩⟩
      rcases Nat.lt_or_ge k n with q | q
      · exact q
      · exact absurd (by rw [← show k = n by omega]; exact h2) hb
theorem mdIt_congr {fu ma : Nat → Int32} (h : ∀ k, k < 32 → fu k = ma k) (hOk : mdOk ma) : ∀ q a, (a = -1 ∨ ∃ j, j < 32 ∧ a = nI j) → mdIt fu q a = mdIt ma q a
  | 0, _, _ => rfl
  | q + 1, a, ha => by
    rcases ha with rfl | ⟨j, hj, rfl⟩
    · rw [mdIt_m1, mdIt_m1]
    · rw [mdIt_s fu hj, mdIt_s ma hj, h j hj]
      exact mdIt_congr h hOk q _ (hOk j hj)
theorem mdU_congr {fu ma : Nat → Int32} (h : ∀ k, k < 32 → fu k = ma k) (hOk : mdOk ma) {k : Nat} (hk : k < 32) (v : Nat) : mdU fu k v = mdU ma k v := by
  rw [Bool.eq_iff_iff, mdU_iff, mdU_iff]
  constructor
  · intro ⟨q, hq⟩
    exact ⟨q, by rw [← mdIt_congr h hOk q _ (Or.inr ⟨k, hk, rfl⟩)]; exact hq⟩
  · intro ⟨q, hq⟩
    exact ⟨q, by rw [mdIt_congr h hOk q _ (Or.inr ⟨k, hk, rfl⟩)]; exact hq⟩
theorem mdOk_congr {fu ma : Nat → Int32} (h : ∀ k, k < 32 → fu k = ma k) (hOk : mdOk ma) : mdOk fu := fun k hk => by rw [h k hk]; exact hOk k hk
/-! a new one above: chains still end -/
theorem mdOk_upd {ma : Nat → Int32} (hOk : mdOk ma) (k : Nat) {u : Int32} (hu : u = -1 ∨ ∃ j, j < 32 ∧ u = nI j) : mdOk (upd ma k u) := fun j hj => by
  by_cases e : j = k
  · rw [e, pk_us]; exact hu
  · rw [pk_un e]; exact hOk j hj
theorem mdIt_away {ma : Nat → Int32} (hOk : mdOk ma) {k : Nat} (u : Int32) (hk : k < 32) : ∀ q a, (a = -1 ∨ ∃ j, j < 32 ∧ a = nI j) → (∀ i, mdIt ma i a ≠ nI k) → mdIt (upd ma k u) q a = mdIt ma q a
  | 0, _, _, _ => rfl
  | q + 1, a, ha, hn => by
    rcases ha with rfl | ⟨j, hj, rfl⟩
    · rw [mdIt_m1, mdIt_m1]
    · have hjk : j ≠ k := fun e => hn 0 (by rw [e]; rfl)
      rw [mdIt_s _ hj, mdIt_s ma hj, pk_un hjk]
      exact mdIt_away hOk u hk q _ (hOk j hj) (fun i => by rw [← mdIt_s ma hj]; exact hn (i + 1))
theorem mdAc_upd {ma : Nat → Int32} (hOk : mdOk ma) (hAc : mdAc ma) {k : Nat} (hk : k < 32) {u : Int32} (hu : u = -1 ∨ ∃ j, j < 32 ∧ u = nI j ∧ mdU ma j k = false) : mdAc (upd ma k u) := by
  have hend : ∃ n, mdIt (upd ma k u) n u = -1 := by
    rcases hu with rfl | ⟨j, hj, rfl, hf⟩
    · exact ⟨0, rfl⟩
    · obtain ⟨n, hn⟩ := hAc j hj
      exact ⟨n, by rw [mdIt_away hOk _ hk n _ (Or.inr ⟨j, hj, rfl⟩) (fun i e => by rw [mdU_iff.mpr ⟨i, e⟩] at hf; cases hf)]; exact hn⟩
  have key : ∀ n a, (a = -1 ∨ ∃ j, j < 32 ∧ a = nI j) → mdIt ma n a = -1 → ∃ q, mdIt (upd ma k u) q a = -1 := by
    intro n
    induction n with
    | zero => exact fun a _ h => ⟨0, h⟩
    | succ n ih =>
      intro a ha h
      rcases ha with rfl | ⟨j, hj, rfl⟩
      · exact ⟨0, rfl⟩
      · by_cases e : j = k
        · obtain ⟨q, hq⟩ := hend
          exact ⟨q + 1, by rw [mdIt_s _ hj, e, pk_us]; exact hq⟩
        · rw [mdIt_s ma hj] at h
          obtain ⟨q, hq⟩ := ih _ (hOk j hj) h
          exact ⟨q + 1, by rw [mdIt_s _ hj, pk_un e]; exact hq⟩
  exact fun j hj => by
    obtain ⟨n, hn⟩ := hAc j hj
    exact key n _ (Or.inr ⟨j, hj, rfl⟩) hn
theorem fcRA_at (fu fg fk : Nat → Int32) : ∀ n t, fcRA fu fg fk n t = if t < n then fcRK fu (fg (t * 8)) 32 else fk t
  | 0, t => by rw [if_neg (by omega)]; rfl
  | n + 1, t => by
    show upd (fcRA fu fg fk n) n (fcRK fu (fg (n * 8)) 32) t = _
    by_cases e : t = n
    · subst e; rw [pk_us, if_pos (by omega)]
    · rw [pk_un e, fcRA_at fu fg fk n t]
      by_cases h : t < n
      · rw [if_pos h, if_pos (by omega)]
      · rw [if_neg h, if_neg (by omega)]
end
section
/-! what holds between the class's state and the reference's -/
def fmI (fg fk fu fc fb : Nat → Int32) (rc : Int32) (mh : Nat → Bool) (ma : Nat → Int32) (mc : Nat → Bool) (mt : Nat → Int32) (ro : Int32) (n : Nat) : Prop :=
  (∀ k, k < 32 → fu k = ma k) ∧ mdOk ma ∧ mdAc ma ∧ (∀ t h v, t < 40 → h < 8 → v < 32 → mh ((t * 8 + h) * 32 + v) = bt (fg (t * 8 + h)) v) ∧
  (∀ t v, t < 40 → v < 32 → (bt (fk t) v = true ↔ ∃ k, k < 32 ∧ bt (fg (t * 8)) k = true ∧ mdU ma k v = true)) ∧
  (∀ h v, h < 8 → v < 32 → mc (32 * h + v) = bt (fc h) v) ∧ (∀ i, i < 256 → mt i = fb i) ∧ rc = ro ∧ -(n : Int) ≤ rc.toInt ∧ rc.toInt ≤ 300
theorem xf_ne0 {x : Int32} : ¬ x = 0 ↔ ∃ j, j < 32 ∧ bt x j = true := by
  rw [xf_bt0]
  constructor
  · intro h
    apply Classical.byContradiction
    intro hn
    exact h fun j hj => by
      cases hb : bt x j with
      | true => exact absurd ⟨j, hj, hb⟩ hn
      | false => rfl
  · intro ⟨j, hj, hb⟩ h
    rw [h j hj] at hb
    cases hb
section FMS
variable {fg fk fu fc fb : Nat → Int32} {rc : Int32} {mh : Nat → Bool} {ma : Nat → Int32} {mc : Nat → Bool} {mt : Nat → Int32} {ro : Int32} {n : Nat}
theorem fm_O (hI : fmI fg fk fu fc fb rc mh ma mc mt ro n) {t h v : Nat} (ht : t < 40) (hh : h < 8) (hv : v < 32) : mdO mh ma t h v = bt (fcV fg fk t h) v := by
  obtain ⟨-, -, -, i4, i5, -⟩ := hI
  unfold mdO fcV
  by_cases e : h = 0
  · subst e
    rw [if_neg (by omega), if_pos rfl, Bool.eq_iff_iff, xf_any_iff, i5 t v ht hv]
    constructor
    · intro ⟨k, hk, hb⟩
      unfold mdOP at hb
      rw [Bool.and_eq_true] at hb
      have q := i4 t 0 k ht (by omega) hk
      rw [Nat.add_zero] at q
      exact ⟨k, hk, by rw [← q]; exact hb.1, hb.2⟩
    · intro ⟨k, hk, h1, h2⟩
      have q := i4 t 0 k ht (by omega) hk
      rw [Nat.add_zero] at q
      exact ⟨k, hk, by unfold mdOP; rw [q, h1, h2]; rfl⟩
  · rw [if_pos (by omega), if_neg e]
    exact i4 t h v ht hh hv
theorem fm_M (hI : fmI fg fk fu fc fb rc mh ma mc mt ro n) {t h : Nat} (ht : t < 40) (hh : h < 8) : mdM mh ma mc t h = !fcLa fg fk fc t h := by
  have hc := hI.2.2.2.2.2.1
  have h1 : xf_any (mdCh mc h) 32 = decide (¬ fc h = 0) := by
    rw [Bool.eq_iff_iff, xf_any_iff, decide_eq_true_eq, xf_ne0]
    constructor
    · intro ⟨j, hj, hb⟩
      exact ⟨j, hj, by rw [← hc h j hh hj]; exact hb⟩
    · intro ⟨j, hj, hb⟩
      exact ⟨j, hj, by unfold mdCh; rw [hc h j hh hj]; exact hb⟩
  have h2 : xf_any (mdMP mh ma mc t h) 32 = decide (¬ fc h &&& fcV fg fk t h = 0) := by
    rw [Bool.eq_iff_iff, xf_any_iff, decide_eq_true_eq, xf_ne0]
    constructor
    · intro ⟨j, hj, hb⟩
      unfold mdMP at hb
      rw [hc h j hh hj, fm_O hI ht hh hj] at hb
      exact ⟨j, hj, by rw [b_and]; exact hb⟩
    · intro ⟨j, hj, hb⟩
      rw [b_and] at hb
      exact ⟨j, hj, by unfold mdMP; rw [hc h j hh hj, fm_O hI ht hh hj]; exact hb⟩
  unfold mdM fcLa fcLP
  rw [h1, h2]
  by_cases a : fc h = 0
  · simp [a]
  · by_cases b : fc h &&& fcV fg fk t h = 0
    · simp [a, b]
    · simp [a, b]
theorem fm_KB (hI : fmI fg fk fu fc fb rc mh ma mc mt ro n) {t h : Nat} (ht : t < 40) (hh : h < 8) : mdK mh ma mc t (nI h) = fcKB fg fk fc h t := by
  rw [Bool.eq_iff_iff, fcKB_iff fg fk fc h t hh]
  unfold mdK
  rw [xf_all_iff]
  constructor
  · intro q a ha hne
    have := q a ha
    unfold mdKP at this
    rw [fm_M hI ht ha, decide_eq_false (fun z => hne ((nI_eq (by omega) (by omega)).mp z)), Bool.false_or] at this
    simpa using this
  · intro q a ha
    unfold mdKP
    by_cases e : a = h
    · rw [e, decide_eq_true rfl, Bool.true_or]
    · rw [fm_M hI ht ha, q a ha e]
      simp
theorem fm_Kp (hI : fmI fg fk fu fc fb rc mh ma mc mt ro n) {t : Nat} (ht : t < 40) : mdK mh ma mc t (-1) = fcKp fg fk fc t := by
  rw [Bool.eq_iff_iff, fcKp_iff fg fk fc t]
  unfold mdK
  rw [xf_all_iff]
  constructor
  · intro q a ha
    have := q a ha
    unfold mdKP at this
    rw [fm_M hI ht ha, decide_eq_false (xf_m1 (show a < 2 ^ 31 by omega)), Bool.false_or] at this
    simpa using this
  · intro q a ha
    unfold mdKP
    rw [fm_M hI ht ha, q a ha]
    simp
theorem fm_N (hI : fmI fg fk fu fc fb rc mh ma mc mt ro n) {h v : Nat} (hh : h < 8) (hv : v < 32) : mdN mh ma mc h v = fcN fg fk fc h v := by
  unfold mdN fcN
  exact xf_cnt_congr fun t ht => by
    unfold mdNP
    rw [fm_O hI ht hh hv, fm_KB hI ht hh]
theorem fm_all (hI : fmI fg fk fu fc fb rc mh ma mc mt ro n) : xf_cnt (mdAP mh ma mc (-1)) 40 = xf_cnt (fcKp fg fk fc) 40 := xf_cnt_congr fun t ht => fm_Kp hI ht
theorem fm_allB (hI : fmI fg fk fu fc fb rc mh ma mc mt ro n) {h : Nat} (hh : h < 8) : xf_cnt (mdAP mh ma mc (nI h)) 40 = xf_cnt (fcKB fg fk fc h) 40 := xf_cnt_congr fun t ht => fm_KB hI ht hh
/-- one call more -/
theorem fm_more (hI : fmI fg fk fu fc fb rc mh ma mc mt ro n) : fmI fg fk fu fc fb rc mh ma mc mt ro (n + 1) := by
  obtain ⟨i1, i2, i3, i4, i5, i6, i7, i8, i9, i10⟩ := hI
  exact ⟨i1, i2, i3, i4, i5, i6, i7, i8, by omega, i10⟩
theorem fm_isKept (hI : fmI fg fk fu fc fb rc mh ma mc mt ro n) (t : Int32) : fcIsKept fg fk fc t = mdIsKept mh ma mc t := by
  unfold fcIsKept mdIsKept
  by_cases h : xf_in t 40 = true
  · obtain ⟨j, hj, rfl⟩ := xf_in_of h (by decide)
    rw [if_pos h, if_pos h, nI_clamp (by omega), fm_Kp hI hj]
  · rw [if_neg h, if_neg h]
theorem fm_facet (hI : fmI fg fk fu fc fb rc mh ma mc mt ro n) (h v : Int32) : fcFacet fg fk fc h v = mdFacet mh ma mc h v := by
  unfold fcFacet mdFacet
  by_cases q : (xf_in h 8 && xf_in v 32) = true
  · have q' := q
    rw [Bool.and_eq_true] at q'
    obtain ⟨i, hi, rfl⟩ := xf_in_of q'.1 (by decide)
    obtain ⟨j, hj, rfl⟩ := xf_in_of q'.2 (by decide)
    rw [if_pos q, if_pos q, nI_clamp (by omega), nI_clamp (by omega), fm_N hI hi hj, fcWA_bit fg fk fc i j hj]
    rfl
  · rw [if_neg q, if_neg q]
theorem fm_range (hI : fmI fg fk fu fc fb rc mh ma mc mt ro n) (h pa pb : Int32) : fcRange fg fk fc h pa pb = mdRange mh ma mc h pa pb := by
  unfold fcRange mdRange
  by_cases q : xf_in h 8 = true
  · obtain ⟨i, hi, rfl⟩ := xf_in_of q (by decide)
    rw [if_pos q, if_pos q, nI_clamp (by omega)]
    congr 1
    refine xf_cnt_congr fun t ht => ?_
    unfold fcWA mdRg
    rw [fm_KB hI ht hi]
    congr 1
    rw [Bool.eq_iff_iff, decide_eq_true_eq, xf_ne0, xf_any_iff]
    constructor
    · intro ⟨j, hj, hb⟩
      rw [b_and, xf_mk_bt _ 32 (Nat.le_refl _) j hj, decide_eq_true hj, Bool.true_and, Bool.and_eq_true] at hb
      refine ⟨j, hj, ?_⟩
      unfold mdRq
      have h2 := hb.2
      unfold fcSpP at h2
      rw [Bool.and_eq_true, decide_eq_true_eq, decide_eq_true_eq] at h2
      rw [fm_O hI ht hi hj, hb.1, decide_eq_false (fun z => by
        have z := Int32.lt_iff_toInt_lt.mp z
        rw [nI_toInt (by omega)] at z
        omega), decide_eq_false (fun z => by
        have z := Int32.lt_iff_toInt_lt.mp z
        rw [nI_toInt (by omega)] at z
        omega)]
      rfl
    · intro ⟨j, hj, hb⟩
      unfold mdRq at hb
      rw [Bool.and_eq_true, Bool.and_eq_true, fm_O hI ht hi hj] at hb
      refine ⟨j, hj, ?_⟩
      rw [b_and, xf_mk_bt _ 32 (Nat.le_refl _) j hj, decide_eq_true hj, Bool.true_and, hb.2, Bool.true_and]
      unfold fcSpP
      have h1 : ¬ nI j < pa := by simpa using hb.1.1
      have h2 : ¬ pb < nI j := by simpa using hb.1.2
      rw [Int32.lt_iff_toInt_lt, nI_toInt (by omega)] at h1 h2
      rw [decide_eq_true (show pa.toInt ≤ (j : Int) by omega), decide_eq_true (show (j : Int) ≤ pb.toInt by omega)]
      rfl
  · rw [if_neg q, if_neg q]
theorem fm_SO (hI : fmI fg fk fu fc fb rc mh ma mc mt ro n) {t o : Nat} (ht : t < 40) (ho : o < 8) : ∀ k, k ≤ 32 → mdSO mh ma t o k = fcSO (fcV fg fk t o) k
  | 0, _ => rfl
  | k + 1, hk => by
    show mdSO mh ma t o k + _ = fcSO (fcV fg fk t o) k + _
    rw [fm_SO hI ht ho k (by omega), fm_O hI ht ho (show k < 32 by omega)]
theorem fm_Sm (hI : fmI fg fk fu fc fb rc mh ma mc mt ro n) {h v o : Nat} (hh : h < 8) (hv : v < 32) (ho : o < 8) : ∀ t, t ≤ 40 → mdSm mh ma mc h v o t = fcSm fg fk fc h v o t
  | 0, _ => rfl
  | t + 1, ht => by
    show mdSm mh ma mc h v o t + _ = fcSm fg fk fc h v o t + _
    rw [fm_Sm hI hh hv ho t (by omega), fm_O hI (show t < 40 by omega) hh hv, fm_Kp hI (show t < 40 by omega), fm_SO hI (show t < 40 by omega) ho 32 (Nat.le_refl _)]
theorem fm_sum (hI : fmI fg fk fu fc fb rc mh ma mc mt ro n) (h v o : Int32) : fcSum fg fk fc h v o = mdSum mh ma mc h v o := by
  unfold fcSum mdSum
  by_cases q : (xf_in h 8 && xf_in v 32 && xf_in o 8) = true
  · have q' := q
    rw [Bool.and_eq_true, Bool.and_eq_true] at q'
    obtain ⟨i, hi, rfl⟩ := xf_in_of q'.1.1 (by decide)
    obtain ⟨j, hj, rfl⟩ := xf_in_of q'.1.2 (by decide)
    obtain ⟨k, hk, rfl⟩ := xf_in_of q'.2 (by decide)
    rw [if_pos q, if_pos q, nI_clamp (by omega), nI_clamp (by omega), nI_clamp (by omega), fm_Sm hI hi hj hk 40 (Nat.le_refl _)]
  · rw [if_neg q, if_neg q]
theorem xf_find_congr {P Q : Nat → Bool} : ∀ k i, (∀ j, i ≤ j → j < i + k → P j = Q j) → xf_find P k i = xf_find Q k i
  | 0, _, _ => rfl
  | k + 1, i, h => by
    show (if P i = true then nI i else xf_find P k (i + 1)) = (if Q i = true then nI i else xf_find Q k (i + 1))
    rw [h i (Nat.le_refl _) (by omega), xf_find_congr k (i + 1) (fun j h1 h2 => h j (by omega) (by omega))]
theorem xf_find_none {P : Nat → Bool} : ∀ k i, (∀ j, i ≤ j → j < i + k → P j = false) → xf_find P k i = -1
  | 0, _, _ => rfl
  | k + 1, i, h => by
    show (if P i = true then nI i else xf_find P k (i + 1)) = -1
    rw [h i (Nat.le_refl _) (by omega), if_neg (by decide)]
    exact xf_find_none k (i + 1) (fun j h1 h2 => h j (by omega) (by omega))
theorem fcN_le (h v : Nat) : fcN fg fk fc h v ≤ 40 := xf_cnt_le _ _
theorem fm_top (fn mn : Nat → Int32) (hI : fmI fg fk fu fc fb rc mh ma mc mt ro n) (h pr : Int32) : (fcTop fg fk fu fc fb fn rc h pr).1 = (mdTop mh ma mc mt mn ro h pr).1 := by
  unfold fcTop mdTop
  by_cases q : xf_in h 8 = true
  · obtain ⟨i, hi, rfl⟩ := xf_in_of q (by decide)
    rw [if_pos q, q, Bool.true_and, nI_clamp (show i < 2 ^ 31 by omega)]
    have key : ∀ v, v < 32 → fcTP (fcAll fg fk fc fn) i pr v = mdTP mh ma mc i pr v := fun v hv => by
      unfold fcTP mdTP
      rw [fcAll_at fg fk fc fn i v hi hv, fm_N hI hi hv]
      have hb := fcN_le (fg := fg) (fk := fk) (fc := fc) i v
      congr 1
      · rw [Bool.eq_iff_iff, decide_eq_true_eq, decide_eq_true_eq]
        constructor
        · intro z; exact Nat.pos_of_ne_zero fun e => z (by rw [e]; exact nI_0)
        · intro z; exact nI_ne0 z (by omega)
      · congr 2
        refine congrArg nI (xf_cnt_congr fun o ho => ?_)
        unfold fcRkP mdRk
        have hb2 := fcN_le (fg := fg) (fk := fk) (fc := fc) i o
        rw [fcAll_at fg fk fc fn i v hi hv, fcAll_at fg fk fc fn i o hi ho, fm_N hI hi hv, fm_N hI hi ho]
        congr 1
        · exact decide_eq_decide.mpr (nI_ltI (by omega) (by omega))
        · congr 1
          exact decide_eq_decide.mpr (nI_eq (by omega) (by omega))
    by_cases hr : xf_in pr 32 = true
    · rw [if_pos hr]
      exact xf_find_congr 32 0 (fun j _ hj => key j (by omega))
    · rw [if_neg hr]
      show -1 = xf_find (mdTP mh ma mc i pr) 32 0
      refine (xf_find_none 32 0 (fun j _ hj => ?_)).symm
      unfold mdTP
      have hc : xf_cnt (mdRk mh ma mc i j) 32 < 32 := by
        have h1 := xf_cnt_le (mdRk mh ma mc i j) 32
        rcases Nat.lt_or_ge (xf_cnt (mdRk mh ma mc i j) 32) 32 with z | z
        · exact z
        · have h2 := xf_cnt_full z j (by omega)
          unfold mdRk at h2
          simp at h2
      rw [decide_eq_false (show ¬ nI (xf_cnt (mdRk mh ma mc i j) 32) = pr from fun z => hr (by rw [← z]; exact xf_in_nI hc (by decide))), Bool.and_false]
  · rw [if_neg q, if_neg (by rw [Bool.and_eq_true]; exact fun z => q z.1)]
end FMS
/-! the calls that write -/
section FMW
variable {fg fk fu fc fb : Nat → Int32} {rc : Int32} {mh : Nat → Bool} {ma : Nat → Int32} {mc : Nat → Bool} {mt : Nat → Int32} {ro : Int32} {n : Nat}
def fmS (x : FcS) (y : MdS) (n : Nat) : Prop := fmI x.1 x.2.1 x.2.2.1 x.2.2.2.1 x.2.2.2.2.1 x.2.2.2.2.2.2 y.1 y.2.1 y.2.2.1 y.2.2.2.1 y.2.2.2.2.2.2 n
theorem xf_or_bit (x : Int32) {v : Nat} (hv : v < 32) {j : Nat} (hj : j < 32) : bt (x ||| xf_bit v) j = if j = v then true else bt x j := by
  rw [b_or, xf_bt_bit v hv j hj]
  by_cases e : j = v
  · rw [if_pos e, decide_eq_true e, Bool.or_true]
  · rw [if_neg e, decide_eq_false e, Bool.or_false]
theorem xf_and_bit (x : Int32) {v : Nat} (hv : v < 32) {j : Nat} (hj : j < 32) : bt (x &&& xf_not (xf_bit v)) j = if j = v then false else bt x j := by
  rw [b_and, xf_not_bt _ j hj, xf_bt_bit v hv j hj]
  by_cases e : j = v
  · rw [if_pos e, decide_eq_true e]; simp
  · rw [if_neg e, decide_eq_false e]; simp
/-- rows of one thing under one head change, and what the thing has under head 0 is told anew -/
theorem fm_given (hI : fmI fg fk fu fc fb rc mh ma mc mt ro n) {t h v : Nat} (ht : t < 40) (hh : h < 8) (hv : v < 32) (b : Bool) {s : Int32} (hs : ∀ j, j < 32 → bt s j = if j = v then b else bt (fg (t * 8 + h)) j) {rc' ro' : Int32} (he : rc' = ro') (h1 : -((n + 1 : Nat) : Int) ≤ rc'.toInt) (h2 : rc'.toInt ≤ 300) :
    fmI (upd fg (t * 8 + h) s) (upd fk t (fcRK fu (upd fg (t * 8 + h) s (t * 8)) 32)) fu fc fb rc' (va_up mh ((t * 8 + h) * 32 + v) b) ma mc mt ro' (n + 1) := by
  obtain ⟨i1, i2, i3, i4, i5, i6, i7, -⟩ := hI
  refine ⟨i1, i2, i3, fun a c w ha hc hw => ?_, fun a w ha hw => ?_, i6, i7, he, h1, h2⟩
  · by_cases e : a * 8 + c = t * 8 + h
    · rw [e, pk_us, hs w hw]
      by_cases e2 : w = v
      · subst e2; rw [va_up_self, if_pos rfl]
      · rw [va_up_ne _ _ (by omega), if_neg e2]
        have := i4 t h w ht hh hw
        exact this
    · rw [va_up_ne _ _ (by omega), pk_un e]
      exact i4 a c w ha hc hw
  · by_cases e : a = t
    · subst e
      rw [pk_us]
      have hOk := mdOk_congr i1 i2
      rw [(fcRK_spec hOk _ 32 (Nat.le_refl _)).2 w hw]
      constructor
      · intro ⟨k, k1, k2, k3⟩; exact ⟨k, k1, k2, by rw [← mdU_congr i1 i2 k1]; exact k3⟩
      · intro ⟨k, k1, k2, k3⟩; exact ⟨k, k1, k2, by rw [mdU_congr i1 i2 k1]; exact k3⟩
    · rw [pk_un e, pk_un (by omega)]
      exact i5 a w ha hw
theorem fm_row (fn mn : Nat → Int32) (hI : fmI fg fk fu fc fb rc mh ma mc mt ro n) (hn : n < 2 ^ 30) (t h v : Int32) : (fcRow fg fk fu fc fb fn rc t h v).1 = (mdRow mh ma mc mt mn ro t h v).1 ∧ fmS (fcRow fg fk fu fc fb fn rc t h v).2 (mdRow mh ma mc mt mn ro t h v).2 (n + 1) := by
  have hM := fm_more hI
  have i4 := hI.2.2.2.1
  have i8 := hI.2.2.2.2.2.2.2
  unfold fcRow mdRow
  by_cases q : (xf_in t 40 && xf_in h 8 && xf_in v 32) = true
  · have q' := q
    rw [Bool.and_eq_true, Bool.and_eq_true] at q'
    obtain ⟨i, hi, rfl⟩ := xf_in_of q'.1.1 (by decide)
    obtain ⟨j, hj, rfl⟩ := xf_in_of q'.1.2 (by decide)
    obtain ⟨k, hk, rfl⟩ := xf_in_of q'.2 (by decide)
    rw [if_pos q, if_pos q, nI_clamp (show i < 2 ^ 31 by omega), nI_clamp (show j < 2 ^ 31 by omega), nI_clamp (show k < 2 ^ 31 by omega), i4 i j k hi hj hk]
    by_cases b : bt (fg (i * 8 + j)) k = true
    · rw [if_pos b, if_pos b]
      exact ⟨rfl, hM⟩
    · rw [if_neg b, if_neg b]
      have h300 : (nI 300).toInt = 300 := nI_toInt (by decide)
      by_cases c : rc < nI 300
      · have c' := Int32.lt_iff_toInt_lt.mp c
        rw [h300] at c'
        have hne : ¬ ro = nI 300 := fun e => by rw [← i8.1] at e; rw [e, h300] at c'; omega
        rw [if_pos c, if_neg hne]
        have hadd : (rc + nI 1).toInt = rc.toInt + 1 := by
          have h1 : (nI 1).toInt = 1 := nI_toInt (by decide)
          rw [Int32.toInt_add, h1]
          exact Int.bmod_eq_of_le (by omega) (by omega)
        exact ⟨rfl, fm_given hI hi hj hk true (fun w hw => xf_or_bit _ hk hw) (by rw [i8.1]) (by rw [hadd]; omega) (by rw [hadd]; omega)⟩
      · have c' := Int32.le_iff_toInt_le.mp (Int32.not_lt.mp c)
        rw [h300] at c'
        have he : ro = nI 300 := by
          rw [← i8.1]
          exact Int32.toInt_inj.mp (by rw [h300]; omega)
        rw [if_neg c, if_pos he]
        exact ⟨rfl, hM⟩
  · rw [if_neg q, if_neg q]
    exact ⟨rfl, hM⟩
theorem fm_drop (fn mn : Nat → Int32) (hI : fmI fg fk fu fc fb rc mh ma mc mt ro n) (hn : n < 2 ^ 30) (t h v : Int32) : (fcDrop fg fk fu fc fb fn rc t h v).1 = (mdDrop mh ma mc mt mn ro t h v).1 ∧ fmS (fcDrop fg fk fu fc fb fn rc t h v).2 (mdDrop mh ma mc mt mn ro t h v).2 (n + 1) := by
  have hM := fm_more hI
  have i4 := hI.2.2.2.1
  have i8 := hI.2.2.2.2.2.2.2
  unfold fcDrop mdDrop
  by_cases q : (xf_in t 40 && xf_in h 8 && xf_in v 32) = true
  · have q' := q
    rw [Bool.and_eq_true, Bool.and_eq_true] at q'
    obtain ⟨i, hi, rfl⟩ := xf_in_of q'.1.1 (by decide)
    obtain ⟨j, hj, rfl⟩ := xf_in_of q'.1.2 (by decide)
    obtain ⟨k, hk, rfl⟩ := xf_in_of q'.2 (by decide)
    rw [if_pos q, if_pos q, nI_clamp (show i < 2 ^ 31 by omega), nI_clamp (show j < 2 ^ 31 by omega), nI_clamp (show k < 2 ^ 31 by omega), i4 i j k hi hj hk]
    by_cases b : bt (fg (i * 8 + j)) k = true
    · rw [if_pos b, if_pos b]
      have hsub : (rc - nI 1).toInt = rc.toInt - 1 := by
        have h1 : (nI 1).toInt = 1 := nI_toInt (by decide)
        rw [Int32.toInt_sub, h1]
        exact Int.bmod_eq_of_le (by omega) (by omega)
      exact ⟨rfl, fm_given hI hi hj hk false (fun w hw => xf_and_bit _ hk hw) (by rw [i8.1]) (by rw [hsub]; omega) (by rw [hsub]; omega)⟩
    · rw [if_neg b, if_neg b]
      exact ⟨rfl, hM⟩
  · rw [if_neg q, if_neg q]
    exact ⟨rfl, hM⟩
theorem fm_above (fn mn : Nat → Int32) (hI : fmI fg fk fu fc fb rc mh ma mc mt ro n) (k u : Int32) : (fcAbove fg fk fu fc fb fn rc k u).1 = (mdAbove mh ma mc mt mn ro k u).1 ∧ fmS (fcAbove fg fk fu fc fb fn rc k u).2 (mdAbove mh ma mc mt mn ro k u).2 (n + 1) := by
  have hM := fm_more hI
  obtain ⟨i1, i2, i3, i4, i5, i6, i7, i8, i9, i10⟩ := id hI
  unfold fcAbove mdAbove
  by_cases q : (xf_in k 32 && (decide (u = -1) || xf_in u 32)) = true
  · have q' := q
    rw [Bool.and_eq_true, Bool.or_eq_true, decide_eq_true_eq] at q'
    obtain ⟨j, hj, rfl⟩ := xf_in_of q'.1 (by decide)
    rw [if_pos q, if_pos q, nI_clamp (show j < 2 ^ 31 by omega), i1 j hj]
    by_cases b : ma j = u
    · rw [if_pos b, if_pos b]
      exact ⟨rfl, hM⟩
    · rw [if_neg b, if_neg b]
      have hu : u = -1 ∨ ∃ i, i < 32 ∧ u = nI i := q'.2.imp id (fun z => xf_in_of z (by decide))
      have hnew : (u = -1 ∨ ∃ i, i < 32 ∧ u = nI i ∧ mdU ma i j = false) → fmI fg (fcRA (upd fu j u) fg fk 40) (upd fu j u) fc fb rc mh (upd ma j u) mc mt ro (n + 1) := by
        intro hn
        have e1 : ∀ a, a < 32 → upd fu j u a = upd ma j u a := fun a ha => by
          by_cases e : a = j
          · rw [e, pk_us, pk_us]
          · rw [pk_un e, pk_un e]; exact i1 a ha
        have e2 := mdOk_upd i2 j hu
        refine ⟨e1, e2, mdAc_upd i2 i3 hj hn, i4, fun t v ht hv => ?_, i6, i7, i8, by omega, i10⟩
        rw [fcRA_at, if_pos ht, (fcRK_spec (mdOk_congr e1 e2) _ 32 (Nat.le_refl _)).2 v hv]
        constructor
        · intro ⟨a, k1, k2, k3⟩; exact ⟨a, k1, k2, by rw [← mdU_congr e1 e2 k1]; exact k3⟩
        · intro ⟨a, k1, k2, k3⟩; exact ⟨a, k1, k2, by rw [mdU_congr e1 e2 k1]; exact k3⟩
      rcases hu with rfl | ⟨i, hi, rfl⟩
      · rw [decide_eq_true rfl]
        exact ⟨rfl, hnew (Or.inl rfl)⟩
      · have hne := xf_m1 (show i < 2 ^ 31 by omega)
        rw [decide_eq_false hne, nI_clamp (show i < 2 ^ 31 by omega), fcWU_up (mdOk_congr i1 i2) hi hj, mdU_congr i1 i2 hi]
        cases c : mdU ma i j with
        | true => exact ⟨rfl, hM⟩
        | false => exact ⟨rfl, hnew (Or.inr ⟨i, hi, rfl, c⟩)⟩
  · rw [if_neg q, if_neg q]
    exact ⟨rfl, hM⟩
theorem fm_choose (fn mn : Nat → Int32) (hI : fmI fg fk fu fc fb rc mh ma mc mt ro n) (h v : Int32) (on : Bool) : (fcChoose fg fk fu fc fb fn rc h v (xf_B on)).1 = (mdChoose mh ma mc mt mn ro h v on).1 ∧ fmS (fcChoose fg fk fu fc fb fn rc h v (xf_B on)).2 (mdChoose mh ma mc mt mn ro h v on).2 (n + 1) := by
  have hM := fm_more hI
  obtain ⟨i1, i2, i3, i4, i5, i6, i7, i8⟩ := id hM
  unfold fcChoose mdChoose
  by_cases q : (xf_in h 8 && xf_in v 32) = true
  · have q' := q
    rw [Bool.and_eq_true] at q'
    obtain ⟨i, hi, rfl⟩ := xf_in_of q'.1 (by decide)
    obtain ⟨j, hj, rfl⟩ := xf_in_of q'.2 (by decide)
    rw [if_pos q, if_pos q, nI_clamp (show i < 2 ^ 31 by omega), nI_clamp (show j < 2 ^ 31 by omega)]
    have hN : fmI fg fk fu (fcCh fc i j (xf_B on)) fb rc mh ma (va_up mc (32 * i + j) on) mt ro (n + 1) := by
      refine ⟨i1, i2, i3, i4, i5, fun a w ha hw => ?_, i7, i8⟩
      have key : bt (fcCh fc i j (xf_B on) a) w = if a = i ∧ w = j then on else bt (fc a) w := by
        unfold fcCh
        cases on with
        | true =>
          rw [if_neg (show ¬ xf_B true = 0 by decide)]
          by_cases e : a = i
          · subst e
            rw [pk_us, xf_or_bit _ hj hw]
            by_cases e2 : w = j
            · rw [if_pos e2, if_pos ⟨rfl, e2⟩]
            · rw [if_neg e2, if_neg (fun z => e2 z.2)]
          · rw [pk_un e, if_neg (fun z => e z.1)]
        | false =>
          rw [if_pos (show xf_B false = 0 by decide)]
          by_cases e : a = i
          · subst e
            rw [pk_us, xf_and_bit _ hj hw]
            by_cases e2 : w = j
            · rw [if_pos e2, if_pos ⟨rfl, e2⟩]
            · rw [if_neg e2, if_neg (fun z => e2 z.2)]
          · rw [pk_un e, if_neg (fun z => e z.1)]
      rw [key]
      by_cases e : a = i ∧ w = j
      · obtain ⟨rfl, rfl⟩ := e
        rw [va_up_self, if_pos ⟨rfl, rfl⟩]
      · rw [va_up_ne _ _ (by omega), if_neg e]
        exact i6 a w ha hw
    exact ⟨congrArg nI (fm_all hN).symm, hN⟩
  · rw [if_neg q, if_neg q]
    exact ⟨rfl, hM⟩
theorem fm_topS (fn mn : Nat → Int32) (hI : fmI fg fk fu fc fb rc mh ma mc mt ro n) (h pr : Int32) : fmS (fcTop fg fk fu fc fb fn rc h pr).2 (mdTop mh ma mc mt mn ro h pr).2 (n + 1) := by
  unfold fcTop mdTop
  split <;> split <;> exact fm_more hI
theorem fcCp_at (f g : Nat → Int32) : ∀ k i, i < k → fcCp f g k i = g i
  | 0, i, h => absurd h (Nat.not_lt_zero i)
  | k + 1, i, h => by
    show upd (fcCp f g k) k (g k) i = g i
    by_cases e : i = k
    · subst e; rw [pk_us]
    · rw [pk_un e]; exact fcCp_at f g k i (by omega)
theorem mdTd_at (mh : Nat → Bool) (ma : Nat → Int32) (mc : Nat → Bool) (mt : Nat → Int32) : ∀ k i, i < k → mdTd mh ma mc mt k i = nI (mdN mh ma mc (i / 32) (i % 32))
  | 0, i, h => absurd h (Nat.not_lt_zero i)
  | k + 1, i, h => by
    show upd (mdTd mh ma mc mt k) k (nI (mdN mh ma mc (k / 32) (k % 32))) i = _
    by_cases e : i = k
    · subst e; rw [pk_us]
    · rw [pk_un e]; exact mdTd_at mh ma mc mt k i (by omega)
theorem fm_changed (fn mn : Nat → Int32) (hI : fmI fg fk fu fc fb rc mh ma mc mt ro n) : (fcChanged fg fk fu fc fb fn rc).1 = (mdChanged mh ma mc mt mn ro).1 ∧ fmS (fcChanged fg fk fu fc fb fn rc).2 (mdChanged mh ma mc mt mn ro).2 (n + 1) := by
  obtain ⟨i1, i2, i3, i4, i5, i6, i7, i8⟩ := fm_more hI
  have key : ∀ i, i < 256 → fcAll fg fk fc fn i = nI (mdN mh ma mc (i / 32) (i % 32)) := fun i hi => by
    have h1 := fcAll_at fg fk fc fn (i / 32) (i % 32) (by omega) (by omega)
    rw [show i / 32 * 32 + i % 32 = i by omega] at h1
    rw [h1, fm_N hI (by omega) (by omega)]
  refine ⟨?_, i1, i2, i3, i4, i5, i6, fun i hi => ?_, i8⟩
  · refine congrArg nI (xf_cnt_congr fun i hi => ?_)
    unfold fcDf mdDf
    rw [key i hi, i7 i hi]
  · show mdTd mh ma mc mt 256 i = fcCp fb (fcAll fg fk fc fn) 256 i
    rw [mdTd_at _ _ _ _ 256 i hi, fcCp_at _ _ 256 i hi, key i hi]
theorem fcLT_eq (x b w : Nat) : ∀ d, fcLT x b w d = x / mdG b w d
  | 0 => (Nat.div_one x).symm
  | d + 1 => by
    show (if d + 1 ≤ 1 then x else if b % (d + 1) = 0 ∧ w % (d + 1) = 0 then x / (d + 1) else fcLT x b w d) = x / (if w % (d + 1) = 0 ∧ b % (d + 1) = 0 then d + 1 else mdG b w d)
    by_cases e : d + 1 ≤ 1
    · have : d = 0 := by omega
      subst this
      rw [if_pos e, if_pos ⟨Nat.mod_one w, Nat.mod_one b⟩, Nat.div_one]
    · rw [if_neg e]
      by_cases c : b % (d + 1) = 0 ∧ w % (d + 1) = 0
      · rw [if_pos c, if_pos ⟨c.2, c.1⟩]
      · rw [if_neg c, if_neg (fun z => c ⟨z.2, z.1⟩)]
        exact fcLT_eq x b w d
/-- share: the reference's code is 1 just where the class throws; else the answers are one -/
theorem fm_share (mn : Nat → Int32) (hI : fmI fg fk fu fc fb rc mh ma mc mt ro n) (h v lo : Int32) :
    (fcShare fg fk fc h v lo = none → (mdShare mh ma mc mt mn ro h v lo).2.2.2.2.2.2.1 = nI 1) ∧ (∀ r, fcShare fg fk fc h v lo = some r → (mdShare mh ma mc mt mn ro h v lo).2.2.2.2.2.2.1 = nI 0 ∧ (mdShare mh ma mc mt mn ro h v lo).1 = r) := by
  unfold fcShare mdShare mdShW
  by_cases q : (xf_in h 8 && xf_in v 32) = true
  · have q' := q
    rw [Bool.and_eq_true] at q'
    obtain ⟨i, hi, rfl⟩ := xf_in_of q'.1 (by decide)
    obtain ⟨j, hj, rfl⟩ := xf_in_of q'.2 (by decide)
    rw [if_pos q, if_pos q, nI_clamp (show i < 2 ^ 31 by omega), nI_clamp (show j < 2 ^ 31 by omega), fm_allB hI hi, fm_N hI hi hj, fcWA_bit fg fk fc i j hj]
    by_cases c : xf_cnt (fcKB fg fk fc i) 40 = 0
    · rw [if_pos c, if_pos c]
      exact ⟨fun _ => rfl, fun r z => by cases z⟩
    · rw [if_neg c, if_neg c]
      refine ⟨fun z => (by cases z), fun r z => ⟨rfl, ?_⟩⟩
      rw [← Option.some.inj z, fcLT_eq]
      rfl
  · rw [if_neg q, if_neg q]
    exact ⟨fun _ => rfl, fun r z => by cases z⟩
end FMW
theorem fm_shareS {fg fk fu fc fb : Nat → Int32} {rc : Int32} {mh : Nat → Bool} {ma : Nat → Int32} {mc : Nat → Bool} {mt : Nat → Int32} {ro : Int32} {n : Nat} {fn : Nat → Int32} (mn : Nat → Int32) (hI : fmI fg fk fu fc fb rc mh ma mc mt ro n) (h v lo : Int32) : fmS (fg, fk, fu, fc, fb, fn, rc) (mdShare mh ma mc mt mn ro h v lo).2 (n + 1) := by
  unfold mdShare
  split <;> exact fm_more hI
theorem lg_cmp_self (x : Int64) : lg_cmp x x = 0 := by unfold lg_cmp; simp
/-- the two fresh objects -/
theorem fm_start : fmS ((fun _ => 0, fun _ => 0, xf_fill (-1) (fun _ => 0) 32, fun _ => 0, fun _ => 0, fun _ => 0, nI 0) : FcS) ((fun _ => false, xf_fill (-1) (fun _ => 0) 32, fun _ => false, fun _ => 0, fun _ => 0, 0, 0) : MdS) 0 := by
  have hm : ∀ k, k < 32 → xf_fill (-1) (fun _ => 0) 32 k = -1 := fun k hk => by rw [xf_fill_at, if_pos hk]
  refine ⟨fun _ _ => rfl, fun k hk => Or.inl (hm k hk), fun k hk => ⟨1, (mdIt_s _ hk 0).trans (hm k hk)⟩, fun t h v _ _ _ => ?_, fun t v _ _ => ?_, fun h v _ _ => ?_, fun _ _ => rfl, by decide, by decide, by decide⟩
  · show false = bt 0 v
    rw [b_0]
  · show bt 0 v = true ↔ _
    rw [b_0]
    constructor
    · intro z; cases z
    · rintro ⟨k, -, z, -⟩
      have z : bt 0 k = true := z
      rw [b_0] at z; cases z
  · show false = bt 0 v
    rw [b_0]
end
section
set_option maxHeartbeats 4000000 in
set_option maxRecDepth 100000 in
/-- isThing(x) -/
theorem k_isThing (l : Launch) (x : Int32) : Met l yX0_isThing wsX0_isThing ({ frames := 0, cells := 0, slots := 0, locals := 0 }) (va_Pc [.int x] (fun _ => True)) (vp_Si (fun r => r = xf_B (xf_in x 40))) 0 0 (fun _ => False) := by
  refine Met.ofW (cc := cX0_isThing) (maxL := 1) (ret := (some .boolean)) (by decide) rfl ?_
  intro p e s m args below meth c s₁ B hml hv
  obtain ⟨rfl, -⟩ := hv
  have hx := B.exec
  have hb := B.bytes
  have hr := B.returns
  have hts := atoms_spec (ws := wsX0_isThing) B.pre
  have hown : s.vm.findClass RX0 = some m.cls := findClass_of_methodNamed B.named
  have hlocks := B.notSynchronized
  have hl := lv_entry ([.int x]) (n := 1) (Nat.le_of_ble_eq_true rfl)
  rw [lg_entry_eq]
  generalize (lg_sl ([.int x]) ++ List.replicate (1 - (lg_sl ([.int x])).length) Slot.unset).toArray = ls at hl ⊢
  have hl : lv_has ls 1 [(0, .int x)] := hl
  refine lv_iload_n hx hb dX0_isThing_0 rfl (lv_at hl 0 rfl) ?_
  refine lv_if_lt (tgt := 14) hx hb dX0_isThing_1 (by decide) (fun c1 => ?_) (fun c1 => ?_)
  ·
    refine lv_iconst (v := nI 0) hx hb dX0_isThing_14 (by decide) ?_
    exact W.zret (v := nI 0) hx hb hr (by first | rfl | exact xf_B_narrow _) (fun t9 ht9 hW9 => ⟨_, rfl, by rw [xf_in_split x (by decide), decide_eq_true c1]; rfl, ht9⟩) (fun q h => nomatch h) dX0_isThing_15
  ·
    refine lv_iload_n hx hb dX0_isThing_4 rfl (lv_at hl 0 rfl) ?_
    refine lv_bipush (v := nI 40) hx hb dX0_isThing_5 (by decide) ?_
    refine lv_icmp_ge (tgt := 14) hx hb dX0_isThing_7 (by decide) (fun c7 => ?_) (fun c7 => ?_)
    ·
      refine lv_iconst (v := nI 0) hx hb dX0_isThing_14 (by decide) ?_
      exact W.zret (v := nI 0) hx hb hr (by first | rfl | exact xf_B_narrow _) (fun t9 ht9 hW9 => ⟨_, rfl, by rw [xf_in_split x (by decide), decide_eq_false (Int32.not_lt.mpr c7), Bool.and_false]; rfl, ht9⟩) (fun q h => nomatch h) dX0_isThing_15
    ·
      refine lv_iconst (v := nI 1) hx hb dX0_isThing_10 (by decide) ?_
      refine lv_goto (tgt := 15) hx hb dX0_isThing_11 (by decide) ?_
      exact W.zret (v := nI 1) hx hb hr (by first | rfl | exact xf_B_narrow _) (fun t9 ht9 hW9 => ⟨_, rfl, by rw [xf_in_split x (by decide), decide_eq_false c1, decide_eq_true (Int32.not_le.mp c7)]; rfl, ht9⟩) (fun q h => nomatch h) dX0_isThing_15
set_option maxHeartbeats 4000000 in
set_option maxRecDepth 100000 in
/-- isHead(x) -/
theorem k_isHead (l : Launch) (x : Int32) : Met l yX0_isHead wsX0_isHead ({ frames := 0, cells := 0, slots := 0, locals := 0 }) (va_Pc [.int x] (fun _ => True)) (vp_Si (fun r => r = xf_B (xf_in x 8))) 0 0 (fun _ => False) := by
  refine Met.ofW (cc := cX0_isHead) (maxL := 1) (ret := (some .boolean)) (by decide) rfl ?_
  intro p e s m args below meth c s₁ B hml hv
  obtain ⟨rfl, -⟩ := hv
  have hx := B.exec
  have hb := B.bytes
  have hr := B.returns
  have hts := atoms_spec (ws := wsX0_isHead) B.pre
  have hown : s.vm.findClass RX0 = some m.cls := findClass_of_methodNamed B.named
  have hlocks := B.notSynchronized
  have hl := lv_entry ([.int x]) (n := 1) (Nat.le_of_ble_eq_true rfl)
  rw [lg_entry_eq]
  generalize (lg_sl ([.int x]) ++ List.replicate (1 - (lg_sl ([.int x])).length) Slot.unset).toArray = ls at hl ⊢
  have hl : lv_has ls 1 [(0, .int x)] := hl
  refine lv_iload_n hx hb dX0_isHead_0 rfl (lv_at hl 0 rfl) ?_
  refine lv_if_lt (tgt := 14) hx hb dX0_isHead_1 (by decide) (fun c1 => ?_) (fun c1 => ?_)
  ·
    refine lv_iconst (v := nI 0) hx hb dX0_isHead_14 (by decide) ?_
    exact W.zret (v := nI 0) hx hb hr (by first | rfl | exact xf_B_narrow _) (fun t9 ht9 hW9 => ⟨_, rfl, by rw [xf_in_split x (by decide), decide_eq_true c1]; rfl, ht9⟩) (fun q h => nomatch h) dX0_isHead_15
  ·
    refine lv_iload_n hx hb dX0_isHead_4 rfl (lv_at hl 0 rfl) ?_
    refine lv_bipush (v := nI 8) hx hb dX0_isHead_5 (by decide) ?_
    refine lv_icmp_ge (tgt := 14) hx hb dX0_isHead_7 (by decide) (fun c7 => ?_) (fun c7 => ?_)
    ·
      refine lv_iconst (v := nI 0) hx hb dX0_isHead_14 (by decide) ?_
      exact W.zret (v := nI 0) hx hb hr (by first | rfl | exact xf_B_narrow _) (fun t9 ht9 hW9 => ⟨_, rfl, by rw [xf_in_split x (by decide), decide_eq_false (Int32.not_lt.mpr c7), Bool.and_false]; rfl, ht9⟩) (fun q h => nomatch h) dX0_isHead_15
    ·
      refine lv_iconst (v := nI 1) hx hb dX0_isHead_10 (by decide) ?_
      refine lv_goto (tgt := 15) hx hb dX0_isHead_11 (by decide) ?_
      exact W.zret (v := nI 1) hx hb hr (by first | rfl | exact xf_B_narrow _) (fun t9 ht9 hW9 => ⟨_, rfl, by rw [xf_in_split x (by decide), decide_eq_false c1, decide_eq_true (Int32.not_le.mp c7)]; rfl, ht9⟩) (fun q h => nomatch h) dX0_isHead_15
set_option maxHeartbeats 4000000 in
set_option maxRecDepth 100000 in
/-- isValue(x) -/
theorem k_isValue (l : Launch) (x : Int32) : Met l yX0_isValue wsX0_isValue ({ frames := 0, cells := 0, slots := 0, locals := 0 }) (va_Pc [.int x] (fun _ => True)) (vp_Si (fun r => r = xf_B (xf_in x 32))) 0 0 (fun _ => False) := by
  refine Met.ofW (cc := cX0_isValue) (maxL := 1) (ret := (some .boolean)) (by decide) rfl ?_
  intro p e s m args below meth c s₁ B hml hv
  obtain ⟨rfl, -⟩ := hv
  have hx := B.exec
  have hb := B.bytes
  have hr := B.returns
  have hts := atoms_spec (ws := wsX0_isValue) B.pre
  have hown : s.vm.findClass RX0 = some m.cls := findClass_of_methodNamed B.named
  have hlocks := B.notSynchronized
  have hl := lv_entry ([.int x]) (n := 1) (Nat.le_of_ble_eq_true rfl)
  rw [lg_entry_eq]
  generalize (lg_sl ([.int x]) ++ List.replicate (1 - (lg_sl ([.int x])).length) Slot.unset).toArray = ls at hl ⊢
  have hl : lv_has ls 1 [(0, .int x)] := hl
  refine lv_iload_n hx hb dX0_isValue_0 rfl (lv_at hl 0 rfl) ?_
  refine lv_if_lt (tgt := 14) hx hb dX0_isValue_1 (by decide) (fun c1 => ?_) (fun c1 => ?_)
  ·
    refine lv_iconst (v := nI 0) hx hb dX0_isValue_14 (by decide) ?_
    exact W.zret (v := nI 0) hx hb hr (by first | rfl | exact xf_B_narrow _) (fun t9 ht9 hW9 => ⟨_, rfl, by rw [xf_in_split x (by decide), decide_eq_true c1]; rfl, ht9⟩) (fun q h => nomatch h) dX0_isValue_15
  ·
    refine lv_iload_n hx hb dX0_isValue_4 rfl (lv_at hl 0 rfl) ?_
    refine lv_bipush (v := nI 32) hx hb dX0_isValue_5 (by decide) ?_
    refine lv_icmp_ge (tgt := 14) hx hb dX0_isValue_7 (by decide) (fun c7 => ?_) (fun c7 => ?_)
    ·
      refine lv_iconst (v := nI 0) hx hb dX0_isValue_14 (by decide) ?_
      exact W.zret (v := nI 0) hx hb hr (by first | rfl | exact xf_B_narrow _) (fun t9 ht9 hW9 => ⟨_, rfl, by rw [xf_in_split x (by decide), decide_eq_false (Int32.not_lt.mpr c7), Bool.and_false]; rfl, ht9⟩) (fun q h => nomatch h) dX0_isValue_15
    ·
      refine lv_iconst (v := nI 1) hx hb dX0_isValue_10 (by decide) ?_
      refine lv_goto (tgt := 15) hx hb dX0_isValue_11 (by decide) ?_
      exact W.zret (v := nI 1) hx hb hr (by first | rfl | exact xf_B_narrow _) (fun t9 ht9 hW9 => ⟨_, rfl, by rw [xf_in_split x (by decide), decide_eq_false c1, decide_eq_true (Int32.not_le.mp c7)]; rfl, ht9⟩) (fun q h => nomatch h) dX0_isValue_15
set_option maxHeartbeats 4000000 in
set_option maxRecDepth 100000 in
/-- holds(x, j) -/
theorem k_holds (l : Launch) (x : Int32) (j : Nat) (hj : j < 32) : Met l yX0_holds wsX0_holds ({ frames := 0, cells := 0, slots := 0, locals := 0 }) (va_Pc [.int x, .int (nI j)] (fun _ => True)) (vp_Si (fun r => r = xf_B (bt x j))) 0 0 (fun _ => False) := by
  refine Met.ofW (cc := cX0_holds) (maxL := 2) (ret := (some .boolean)) (by decide) rfl ?_
  intro p e s m args below meth c s₁ B hml hv
  obtain ⟨rfl, -⟩ := hv
  have hx := B.exec
  have hb := B.bytes
  have hr := B.returns
  have hts := atoms_spec (ws := wsX0_holds) B.pre
  have hown : s.vm.findClass RX0 = some m.cls := findClass_of_methodNamed B.named
  have hlocks := B.notSynchronized
  have hl := lv_entry ([.int x, .int (nI j)]) (n := 2) (Nat.le_of_ble_eq_true rfl)
  rw [lg_entry_eq]
  generalize (lg_sl ([.int x, .int (nI j)]) ++ List.replicate (2 - (lg_sl ([.int x, .int (nI j)])).length) Slot.unset).toArray = ls at hl ⊢
  have hl : lv_has ls 2 [(0, .int x), (1, .int (nI j))] := hl
  refine lv_iload_n hx hb dX0_holds_0 rfl (lv_at hl 0 rfl) ?_
  refine lv_iconst (v := nI 1) hx hb dX0_holds_1 (by decide) ?_
  refine lv_iload_n hx hb dX0_holds_2 rfl (lv_at hl 1 rfl) ?_
  refine lv_ishl hx hb dX0_holds_3 ?_
  refine xf_be (y := xf_bit j) (by rfl) ?_
  refine lv_iand hx hb dX0_holds_4 ?_
  refine lv_if_eq (tgt := 12) hx hb dX0_holds_5 (by decide) (fun c5 => ?_) (fun c5 => ?_)
  ·
    refine lv_iconst (v := nI 0) hx hb dX0_holds_12 (by decide) ?_
    exact W.zret (v := nI 0) hx hb hr (by first | rfl | exact xf_B_narrow _) (fun t9 ht9 hW9 => ⟨_, rfl, by rw [(xf_holds hj).mp c5]; rfl, ht9⟩) (fun q h => nomatch h) dX0_holds_13
  ·
    refine lv_iconst (v := nI 1) hx hb dX0_holds_8 (by decide) ?_
    refine lv_goto (tgt := 13) hx hb dX0_holds_9 (by decide) ?_
    exact W.zret (v := nI 1) hx hb hr (by first | rfl | exact xf_B_narrow _) (fun t9 ht9 hW9 => ⟨_, rfl, by rw [show bt x j = true from by cases hb9 : bt x j with | true => rfl | false => exact absurd ((xf_holds hj).mpr hb9) c5]; rfl, ht9⟩) (fun q h => nomatch h) dX0_holds_13
set_option maxHeartbeats 4000000 in
set_option maxRecDepth 100000 in
/-- sumOf(x) -/
theorem k_sumOf (l : Launch) (x : Int32) : Met l yX0_sumOf wsX0_sumOf ({ frames := 1, cells := 0, slots := 0, locals := 21 }) (va_Pc [.int x] (fun _ => True)) (vp_Si (fun r => r = nI (fcSO x 32))) 0 0 (fun _ => False) := by
  refine Met.ofW (cc := cX0_sumOf) (maxL := 3) (ret := (some .int)) (by decide) rfl ?_
  intro p e s m args below meth c s₁ B hml hv
  obtain ⟨rfl, -⟩ := hv
  have hx := B.exec
  have hb := B.bytes
  have hr := B.returns
  have hts := atoms_spec (ws := wsX0_sumOf) B.pre
  have hown : s.vm.findClass RX0 = some m.cls := findClass_of_methodNamed B.named
  have hlocks := B.notSynchronized
  have hl := lv_entry ([.int x]) (n := 3) (Nat.le_of_ble_eq_true rfl)
  rw [lg_entry_eq]
  generalize (lg_sl ([.int x]) ++ List.replicate (3 - (lg_sl ([.int x])).length) Slot.unset).toArray = ls at hl ⊢
  have hl : lv_has ls 3 [(0, .int x)] := hl
  refine lv_iconst (v := nI 0) hx hb dX0_sumOf_0 (by decide) ?_
  refine lv_istore_n (lv' := [(1, .int (nI 0)), (0, .int x)]) hx hb dX0_sumOf_1 rfl hl (by decide) rfl (fun ls hl => ?_)
  refine lv_iconst (v := nI 0) hx hb dX0_sumOf_2 (by decide) ?_
  refine lv_istore_n (lv' := [(2, .int (nI 0)), (1, .int (nI 0)), (0, .int x)]) hx hb dX0_sumOf_3 rfl hl (by decide) rfl (fun ls hl => ?_)
  refine xf_loopS (σ := Nat) (fun (z9 : Nat) => 32 - z9) (fun (z9 : Nat) => [(0, .int x), (1, .int (nI (fcSO x z9))), (2, .int (nI z9))]) (fun (z9 : Nat) => z9 ≤ 32) 0 (lv_sub hl [2, 1, 0] rfl) (Nat.zero_le _) (fun z9 ls hi hl ih4 => ?_)
  obtain ⟨v, hxe⟩ : ∃ z, z = z9 := ⟨_, rfl⟩
  subst hxe
  have hl : lv_has ls 3 [(0, .int x), (1, .int (nI (fcSO x v))), (2, .int (nI v))] := hl
  have hi : v ≤ 32 := hi
  refine lv_iload_n hx hb dX0_sumOf_4 rfl (lv_at hl 2 rfl) ?_
  refine lv_bipush (v := nI 32) hx hb dX0_sumOf_5 (by decide) ?_
  refine xf_ge (tgt := 28) hx hb dX0_sumOf_7 (by decide) (by omega) (by omega) (fun c7 => ?_) (fun c7 => ?_)
  ·
    refine lv_iload_n hx hb dX0_sumOf_28 rfl (lv_at hl 1 rfl) ?_
    exact W.iret (v := nI (fcSO x v)) hx hb hr (fun t9 ht9 hW9 => ⟨_, rfl, by rw [show v = 32 from by omega], ht9⟩) (fun q h => nomatch h) dX0_sumOf_29
  ·
    refine lv_iload_n hx hb dX0_sumOf_10 rfl (lv_at hl 0 rfl) ?_
    refine lv_iload_n hx hb dX0_sumOf_11 rfl (lv_at hl 2 rfl) ?_
    refine vp_callSi (W.runS (As := [.int x, .int (nI v)]) (rest := []) ⟨hx, hb, hml, hown, hts⟩ (k_holds l x v (by omega)) (va_cwS 2 hts gX0_sumOf_X0_holds rfl rfl rfl (by decide +kernel) ⟨Nat.le_of_ble_eq_true rfl, Nat.le_of_ble_eq_true rfl⟩) (xf_preS0) rfl rfl hl.1 rfl (lv_room (Nat.le_of_ble_eq_true rfl)) dX0_sumOf_12 ⟨Nat.zero_le _, Nat.zero_le _⟩) (fun r hr9 => ?_)
    subst hr9
    refine xf_Beq (tgt := 22) hx hb dX0_sumOf_15 (by decide) (fun c15 => ?_) (fun c15 => ?_)
    ·
      refine lv_iinc (v := nI (v + 1)) (lv' := [(2, .int (nI (v + 1))), (0, .int x), (1, .int (nI (fcSO x v)))]) hx hb dX0_sumOf_22 hl (k := 2) rfl (by exact nI_1 v) (by decide) rfl (fun ls hl => ?_)
      refine lv_goto (tgt := 4) hx hb dX0_sumOf_25 (by decide) ?_
      have hl := lv_sub (l' := [(0, .int x), (1, .int (nI (fcSO x v))), (2, .int (nI (v + 1)))]) hl [1, 2, 0] rfl
      have hl : lv_has ls 3 [(0, .int x), (1, .int (nI (fcSO x (v + 1)))), (2, .int (nI (v + 1)))] := xf_lv hl (by simp [fcSO, c7, c15])
      exact ih4 (v + 1) ls (by show 32 - (v + 1) < 32 - v; omega) (by show (v + 1) ≤ 32; omega) hl
    ·
      refine lv_iload_n hx hb dX0_sumOf_18 rfl (lv_at hl 1 rfl) ?_
      refine lv_iload_n hx hb dX0_sumOf_19 rfl (lv_at hl 2 rfl) ?_
      refine lv_iadd hx hb dX0_sumOf_20 ?_
      refine xf_be (y := nI (fcSO x v + v)) (by exact nI_add _ _) ?_
      refine lv_istore_n (lv' := [(1, .int (nI (fcSO x v + v))), (0, .int x), (2, .int (nI v))]) hx hb dX0_sumOf_21 rfl hl (by decide) rfl (fun ls hl => ?_)
      refine lv_iinc (v := nI (v + 1)) (lv' := [(2, .int (nI (v + 1))), (1, .int (nI (fcSO x v + v))), (0, .int x)]) hx hb dX0_sumOf_22 hl (k := 2) rfl (by exact nI_1 v) (by decide) rfl (fun ls hl => ?_)
      refine lv_goto (tgt := 4) hx hb dX0_sumOf_25 (by decide) ?_
      have hl := lv_sub (l' := [(0, .int x), (1, .int (nI (fcSO x v + v))), (2, .int (nI (v + 1)))]) hl [2, 1, 0] rfl
      have hl : lv_has ls 3 [(0, .int x), (1, .int (nI (fcSO x (v + 1)))), (2, .int (nI (v + 1)))] := xf_lv hl (by simp [fcSO, c7, c15])
      exact ih4 (v + 1) ls (by show 32 - (v + 1) < 32 - v; omega) (by show (v + 1) ≤ 32; omega) hl
set_option maxHeartbeats 4000000 in
set_option maxRecDepth 100000 in
/-- inLeastTerms(x, b, w) -/
theorem k_inLeastTerms (l : Launch) (x b w : Nat) (hx9 : x ≤ 40) (hb9 : b ≤ 40) (hw9 : w ≤ 40) : Met l yX0_inLeastTerms wsX0_inLeastTerms ({ frames := 0, cells := 0, slots := 0, locals := 0 }) (va_Pc [.int (nI x), .int (nI b), .int (nI w)] (fun _ => True)) (vp_Si (fun r => r = nI (fcLT x b w w))) 0 0 (fun _ => False) := by
  refine Met.ofW (cc := cX0_inLeastTerms) (maxL := 4) (ret := (some .int)) (by decide) rfl ?_
  intro p e s m args below meth c s₁ B hml hv
  obtain ⟨rfl, -⟩ := hv
  have hx := B.exec
  have hb := B.bytes
  have hr := B.returns
  have hts := atoms_spec (ws := wsX0_inLeastTerms) B.pre
  have hown : s.vm.findClass RX0 = some m.cls := findClass_of_methodNamed B.named
  have hlocks := B.notSynchronized
  have hl := lv_entry ([.int (nI x), .int (nI b), .int (nI w)]) (n := 4) (Nat.le_of_ble_eq_true rfl)
  rw [lg_entry_eq]
  generalize (lg_sl ([.int (nI x), .int (nI b), .int (nI w)]) ++ List.replicate (4 - (lg_sl ([.int (nI x), .int (nI b), .int (nI w)])).length) Slot.unset).toArray = ls at hl ⊢
  have hl : lv_has ls 4 [(0, .int (nI x)), (1, .int (nI b)), (2, .int (nI w))] := hl
  refine lv_iload_n hx hb dX0_inLeastTerms_0 rfl (lv_at hl 2 rfl) ?_
  refine lv_istore_n (lv' := [(3, .int (nI w)), (0, .int (nI x)), (1, .int (nI b)), (2, .int (nI w))]) hx hb dX0_inLeastTerms_1 rfl hl (by decide) rfl (fun ls hl => ?_)
  refine xf_loopS (σ := Nat) (fun (z9 : Nat) => z9) (fun (z9 : Nat) => [(0, .int (nI x)), (1, .int (nI b)), (2, .int (nI w)), (3, .int (nI z9))]) (fun (z9 : Nat) => z9 ≤ w ∧ fcLT x b w w = fcLT x b w z9) w (lv_sub hl [1, 2, 3, 0] rfl) ⟨Nat.le_refl _, rfl⟩ (fun z9 ls hi hl ih2 => ?_)
  obtain ⟨d, hxe⟩ : ∃ z, z = z9 := ⟨_, rfl⟩
  subst hxe
  have hl : lv_has ls 4 [(0, .int (nI x)), (1, .int (nI b)), (2, .int (nI w)), (3, .int (nI d))] := hl
  obtain ⟨hi, hR⟩ := hi
  have hi : d ≤ w := hi
  have hR : fcLT x b w w = fcLT x b w d := hR
  refine lv_iload_n hx hb dX0_inLeastTerms_2 rfl (lv_at hl 3 rfl) ?_
  refine lv_iconst (v := nI 1) hx hb dX0_inLeastTerms_3 (by decide) ?_
  refine xf_le (tgt := 29) hx hb dX0_inLeastTerms_4 (by decide) (by omega) (by omega) (fun c4 => ?_) (fun c4 => ?_)
  ·
    refine lv_iload_n hx hb dX0_inLeastTerms_29 rfl (lv_at hl 0 rfl) ?_
    exact W.iret (v := nI x) hx hb hr (fun t9 ht9 hW9 => ⟨_, rfl, by rw [hR]; rcases (show d = 0 ∨ d = 1 by omega) with rfl | rfl <;> rfl, ht9⟩) (fun q h => nomatch h) dX0_inLeastTerms_30
  ·
    refine lv_iload_n hx hb dX0_inLeastTerms_7 rfl (lv_at hl 1 rfl) ?_
    refine lv_iload_n hx hb dX0_inLeastTerms_8 rfl (lv_at hl 3 rfl) ?_
    refine lv_irem hx hb dX0_inLeastTerms_9 (nI_ne0 (by omega) (by omega)) ?_
    refine xf_be (y := nI (b % d)) (pk_rem (by omega) (by omega) (by omega)) ?_
    refine xf_zne (tgt := 23) hx hb dX0_inLeastTerms_10 (by decide) (by have := Nat.mod_lt b (show 0 < d by omega); omega) (fun c10 => ?_) (fun c10 => ?_)
    ·
      refine lv_iinc (v := nI (d - 1)) (lv' := [(3, .int (nI (d - 1))), (0, .int (nI x)), (1, .int (nI b)), (2, .int (nI w))]) hx hb dX0_inLeastTerms_23 hl (k := 3) rfl (by obtain ⟨q, rfl⟩ : ∃ q, d = q + 1 := ⟨d - 1, by omega⟩; exact pk_m1 q) (by decide) rfl (fun ls hl => ?_)
      refine lv_goto (tgt := 2) hx hb dX0_inLeastTerms_26 (by decide) ?_
      have hl := lv_sub (l' := [(0, .int (nI x)), (1, .int (nI b)), (2, .int (nI w)), (3, .int (nI (d - 1)))]) hl [1, 2, 3, 0] rfl
      have hl : lv_has ls 4 [(0, .int (nI x)), (1, .int (nI b)), (2, .int (nI w)), (3, .int (nI (d - 1)))] := xf_lv hl (by rfl)
      exact ih2 (d - 1) ls (by show (d - 1) < d; omega) (by refine ⟨by omega, ?_⟩; rw [hR]; obtain ⟨q, rfl⟩ : ∃ q, d = q + 1 := ⟨d - 1, by omega⟩; rw [fcLT, if_neg (by omega), if_neg (by exact fun z => c10 z.1)]; rfl) hl
    ·
      refine lv_iload_n hx hb dX0_inLeastTerms_13 rfl (lv_at hl 2 rfl) ?_
      refine lv_iload_n hx hb dX0_inLeastTerms_14 rfl (lv_at hl 3 rfl) ?_
      refine lv_irem hx hb dX0_inLeastTerms_15 (nI_ne0 (by omega) (by omega)) ?_
      refine xf_be (y := nI (w % d)) (pk_rem (by omega) (by omega) (by omega)) ?_
      refine xf_zne (tgt := 23) hx hb dX0_inLeastTerms_16 (by decide) (by have := Nat.mod_lt w (show 0 < d by omega); omega) (fun c16 => ?_) (fun c16 => ?_)
      ·
        refine lv_iinc (v := nI (d - 1)) (lv' := [(3, .int (nI (d - 1))), (0, .int (nI x)), (1, .int (nI b)), (2, .int (nI w))]) hx hb dX0_inLeastTerms_23 hl (k := 3) rfl (by obtain ⟨q, rfl⟩ : ∃ q, d = q + 1 := ⟨d - 1, by omega⟩; exact pk_m1 q) (by decide) rfl (fun ls hl => ?_)
        refine lv_goto (tgt := 2) hx hb dX0_inLeastTerms_26 (by decide) ?_
        have hl := lv_sub (l' := [(0, .int (nI x)), (1, .int (nI b)), (2, .int (nI w)), (3, .int (nI (d - 1)))]) hl [1, 2, 3, 0] rfl
        have hl : lv_has ls 4 [(0, .int (nI x)), (1, .int (nI b)), (2, .int (nI w)), (3, .int (nI (d - 1)))] := xf_lv hl (by rfl)
        exact ih2 (d - 1) ls (by show (d - 1) < d; omega) (by refine ⟨by omega, ?_⟩; rw [hR]; obtain ⟨q, rfl⟩ : ∃ q, d = q + 1 := ⟨d - 1, by omega⟩; rw [fcLT, if_neg (by omega), if_neg (by exact fun z => c16 z.2)]; rfl) hl
      ·
        refine lv_iload_n hx hb dX0_inLeastTerms_19 rfl (lv_at hl 0 rfl) ?_
        refine lv_iload_n hx hb dX0_inLeastTerms_20 rfl (lv_at hl 3 rfl) ?_
        refine lv_idiv hx hb dX0_inLeastTerms_21 (nI_ne0 (by omega) (by omega)) ?_
        refine xf_be (y := nI (x / d)) (pk_div (by omega) (by omega) (by omega)) ?_
        exact W.iret (v := nI (x / d)) hx hb hr (fun t9 ht9 hW9 => ⟨_, rfl, by rw [hR]; obtain ⟨q, rfl⟩ : ∃ q, d = q + 1 := ⟨d - 1, by omega⟩; rw [fcLT, if_neg (by omega), if_pos ⟨c10, c16⟩], ht9⟩) (fun q h => nomatch h) dX0_inLeastTerms_22
set_option maxHeartbeats 4000000 in
set_option maxRecDepth 100000 in
/-- span(pa, pb) -/
theorem k_span (l : Launch) (pa pb : Int32) : Met l yX0_span wsX0_span ({ frames := 1, cells := 0, slots := 0, locals := 21 }) (va_Pc [.int pa, .int pb] (fun _ => True)) (vp_Si (fun r => r = xf_mk (fcSpP pa pb) 32)) 0 0 (fun _ => False) := by
  refine Met.ofW (cc := cX0_span) (maxL := 6) (ret := (some .int)) (by decide) rfl ?_
  intro p e s m args below meth c s₁ B hml hv
  obtain ⟨rfl, -⟩ := hv
  have hx := B.exec
  have hb := B.bytes
  have hr := B.returns
  have hts := atoms_spec (ws := wsX0_span) B.pre
  have hown : s.vm.findClass RX0 = some m.cls := findClass_of_methodNamed B.named
  have hlocks := B.notSynchronized
  have hl := lv_entry ([.int pa, .int pb]) (n := 6) (Nat.le_of_ble_eq_true rfl)
  rw [lg_entry_eq]
  generalize (lg_sl ([.int pa, .int pb]) ++ List.replicate (6 - (lg_sl ([.int pa, .int pb])).length) Slot.unset).toArray = ls at hl ⊢
  have hl : lv_has ls 6 [(0, .int pa), (1, .int pb)] := hl
  obtain ⟨a, ha, ea, ea2⟩ := xf_max0 pa
  obtain ⟨b9, eb9⟩ : ∃ y, y = (if nI 31 < pb then nI 31 else pb) := ⟨_, rfl⟩
  have eb2 := xf_min31 pb
  rw [← eb9] at eb2
  refine lv_iload_n hx hb dX0_span_0 rfl (lv_at hl 0 rfl) ?_
  refine lv_iconst (v := nI 0) hx hb dX0_span_1 (by decide) ?_
  refine va_mmax hx hb (by rw [hml]; exact hl.1.symm) hown (hts (.methodLink RX0 109 Lib.Math.max.name) (by decide +kernel)) (hts (.static Lib.Math.max.name) (by decide +kernel)) (hts (.initialized "java/lang/Math") (by decide +kernel)) (hts (.code Lib.Math.max.name Lib.Math.max.code 2 (some .int)) (by decide +kernel)) (Nat.le_of_ble_eq_true rfl) (Nat.le_of_ble_eq_true rfl) (Nat.zero_le _) (Nat.zero_le _) dX0_span_2 ?_
  refine xf_be (y := nI a) (ea) ?_
  refine lv_istore_n (lv' := [(2, .int (nI a)), (0, .int pa), (1, .int pb)]) hx hb dX0_span_5 rfl hl (by decide) rfl (fun ls hl => ?_)
  refine lv_iload_n hx hb dX0_span_6 rfl (lv_at hl 2 rfl) ?_
  refine lv_bipush (v := nI 31) hx hb dX0_span_7 (by decide) ?_
  refine va_mmin hx hb (by rw [hml]; exact hl.1.symm) hown (hts (.methodLink RX0 114 Lib.Math.min.name) (by decide +kernel)) (hts (.static Lib.Math.min.name) (by decide +kernel)) (hts (.initialized "java/lang/Math") (by decide +kernel)) (hts (.code Lib.Math.min.name Lib.Math.min.code 2 (some .int)) (by decide +kernel)) (Nat.le_of_ble_eq_true rfl) (Nat.le_of_ble_eq_true rfl) (Nat.zero_le _) (Nat.zero_le _) dX0_span_9 ?_
  refine xf_be (y := b9) (eb9.symm) ?_
  refine lv_istore_n (lv' := [(3, .int b9), (2, .int (nI a)), (0, .int pa), (1, .int pb)]) hx hb dX0_span_12 rfl hl (by decide) rfl (fun ls hl => ?_)
  refine lv_iconst (v := nI 0) hx hb dX0_span_13 (by decide) ?_
  refine lv_istore (lv' := [(4, .int (nI 0)), (3, .int b9), (2, .int (nI a)), (0, .int pa), (1, .int pb)]) hx hb dX0_span_14 hl (by decide) rfl (fun ls hl => ?_)
  refine lv_iload_n hx hb dX0_span_16 rfl (lv_at hl 2 rfl) ?_
  refine lv_istore (lv' := [(5, .int (nI a)), (4, .int (nI 0)), (3, .int b9), (2, .int (nI a)), (0, .int pa), (1, .int pb)]) hx hb dX0_span_17 hl (by decide) rfl (fun ls hl => ?_)
  have hl := lv_sub (l' := [(0, .int pa), (1, .int pb), (2, .int (nI a)), (3, .int b9), (4, .int (nI 0)), (5, .int (nI a))]) hl [4, 5, 3, 2, 1, 0] rfl
  have hl : lv_has ls 6 [(0, .int pa), (1, .int pb), (2, .int (nI a)), (3, .int b9), (4, .int (xf_mk (fcSpP pa pb) a)), (5, .int (nI a))] := xf_lv hl (by rw [xf_mk_0 (fun j hj => by unfold fcSpP; rw [decide_eq_false (show ¬ pa.toInt ≤ (j : Int) by omega), Bool.false_and])])
  refine xf_loopS (σ := Nat) (fun (z9 : Nat) => 33 - z9) (fun (z9 : Nat) => [(0, .int pa), (1, .int pb), (2, .int (nI a)), (3, .int b9), (4, .int (xf_mk (fcSpP pa pb) z9)), (5, .int (nI z9))]) (fun (z9 : Nat) => a ≤ z9 ∧ (z9 ≤ 32 ∨ z9 = a)) a (hl) ⟨Nat.le_refl _, Or.inr rfl⟩ (fun z9 ls hi hl ih19 => ?_)
  obtain ⟨i, hxe⟩ : ∃ z, z = z9 := ⟨_, rfl⟩
  subst hxe
  have hl : lv_has ls 6 [(0, .int pa), (1, .int pb), (2, .int (nI a)), (3, .int b9), (4, .int (xf_mk (fcSpP pa pb) i)), (5, .int (nI i))] := hl
  obtain ⟨hi, hj⟩ := hi
  have hi : a ≤ i := hi
  have hj : (i ≤ 32 ∨ i = a) := hj
  refine lv_iload hx hb dX0_span_19 (lv_at hl 5 rfl) ?_
  refine lv_iload_n hx hb dX0_span_21 rfl (lv_at hl 3 rfl) ?_
  refine lv_icmp_gt (tgt := 40) hx hb dX0_span_22 (by decide) (fun c22 => ?_) (fun c22 => ?_)
  ·
    have c22' : b9.toInt < (i : Int) := by have z := Int32.lt_iff_toInt_lt.mp c22; rw [nI_toInt (by omega)] at z; exact z
    refine lv_iload hx hb dX0_span_40 (lv_at hl 4 rfl) ?_
    exact W.iret (v := xf_mk (fcSpP pa pb) i) hx hb hr (fun t9 ht9 hW9 => ⟨_, rfl, by
            by_cases h32 : i ≤ 32
            · exact (xf_mk_stay h32 (fun j h1 h2 => by unfold fcSpP; rw [decide_eq_false (show ¬ (j : Int) ≤ pb.toInt by omega), Bool.and_false])).symm
            · rw [xf_mk_0 (n := i) (fun j hj => by unfold fcSpP; rw [decide_eq_false (show ¬ pa.toInt ≤ (j : Int) by omega), Bool.false_and]), xf_mk_0 (n := 32) (fun j hj => by unfold fcSpP; rw [decide_eq_false (show ¬ pa.toInt ≤ (j : Int) by omega), Bool.false_and])], ht9⟩) (fun q h => nomatch h) dX0_span_42
  ·
    have c22' : (i : Int) ≤ b9.toInt := by have z := Int32.le_iff_toInt_le.mp (Int32.not_lt.mp c22); rw [nI_toInt (by omega)] at z; exact z
    refine lv_iload hx hb dX0_span_25 (lv_at hl 4 rfl) ?_
    refine lv_iconst (v := nI 1) hx hb dX0_span_27 (by decide) ?_
    refine lv_iload hx hb dX0_span_28 (lv_at hl 5 rfl) ?_
    refine lv_ishl hx hb dX0_span_30 ?_
    refine xf_be (y := xf_bit i) (by rfl) ?_
    refine lv_ior hx hb dX0_span_31 ?_
    refine lv_istore (lv' := [(4, .int ((xf_mk (fcSpP pa pb) i) ||| (xf_bit i))), (0, .int pa), (1, .int pb), (2, .int (nI a)), (3, .int b9), (5, .int (nI i))]) hx hb dX0_span_32 hl (by decide) rfl (fun ls hl => ?_)
    refine lv_iinc (v := nI (i + 1)) (lv' := [(5, .int (nI (i + 1))), (4, .int ((xf_mk (fcSpP pa pb) i) ||| (xf_bit i))), (0, .int pa), (1, .int pb), (2, .int (nI a)), (3, .int b9)]) hx hb dX0_span_34 hl (k := 5) rfl (by exact nI_1 i) (by decide) rfl (fun ls hl => ?_)
    refine lv_goto (tgt := 19) hx hb dX0_span_37 (by decide) ?_
    have e9 : fcSpP pa pb i = true := by unfold fcSpP; rw [decide_eq_true (show pa.toInt ≤ (i : Int) by omega), decide_eq_true (show (i : Int) ≤ pb.toInt by omega)]; rfl
    have hl := lv_sub (l' := [(0, .int pa), (1, .int pb), (2, .int (nI a)), (3, .int b9), (4, .int ((xf_mk (fcSpP pa pb) i) ||| (xf_bit i))), (5, .int (nI (i + 1)))]) hl [2, 3, 4, 5, 1, 0] rfl
    have hl : lv_has ls 6 [(0, .int pa), (1, .int pb), (2, .int (nI a)), (3, .int b9), (4, .int (xf_mk (fcSpP pa pb) (i + 1))), (5, .int (nI (i + 1)))] := xf_lv hl (by simp [xf_mk, e9])
    exact ih19 (i + 1) ls (by show 33 - (i + 1) < 33 - i; omega) (by exact ⟨by omega, Or.inl (by omega)⟩) hl
set_option maxHeartbeats 4000000 in
set_option maxRecDepth 100000 in
/-- Arrays.fill(a, x) -/
theorem j_fill (l : Launch) (dC : Nat → ClassId) (dI : Nat → Nat → Nat) (a : Nat) (cI : ClassId) (n : Nat) (f : Nat → Int32) (x : Int32) (hn : n < 2 ^ 31) : Met l yJ7_fill_53178 wsJ7_fill_53178 ({ frames := 0, cells := 0, slots := 0, locals := 0 }) (va_Pc [.ref a, .int x] (fun U => va_P (dC, dI) fmCl [(a, .inl (cI, n, .inl f))] U.heap ∧ va_K (dC, dI) fmCl [(cI, .int)] U ∧ va_D (fun _ => True) [(a, .inl (cI, n, .inl f))])) (va_Qv (fun _ : Unit => True) (fun _ t => va_P (dC, dI) fmCl [(a, .inl (cI, n, .inl (xf_fill x f n)))] t.heap) (xf_A [(a, .inl (cI, n, .inl f))])) 0 0 (xf_A [(a, .inl (cI, n, .inl f))]) := by
  refine Met.ofW (cc := cJ7_fill_53178) (maxL := 4) (ret := none) (by decide) rfl ?_
  intro p e s m args below meth c s₁ B hml hv
  obtain ⟨rfl, hP, hK, hD0⟩ := hv
  have hx := B.exec
  have hb := B.bytes
  have hr := B.returns
  have hlocks := B.notSynchronized
  have hD := xf_A_self hD0
  generalize hAe : xf_A [(a, .inl (cI, n, .inl f))] = A at hD ⊢
  have hS : va_S A s.heap s.heap [] := va_S.rf
  have hP : va_P (dC, dI) fmCl [(a, .inl (cI, n, .inl f))] s.heap := hP
  have hl := lv_entry ([.ref a, .int x]) (n := 4) (Nat.le_of_ble_eq_true rfl)
  rw [lg_entry_eq]
  generalize (lg_sl ([.ref a, .int x]) ++ List.replicate (4 - (lg_sl ([.ref a, .int x])).length) Slot.unset).toArray = ls at hl ⊢
  have hl : lv_has ls 4 [(0, .ref a), (1, .int x)] := hl
  refine lv_iconst (v := nI 0) hx hb dJ7_fill_53178_0 (by decide) ?_
  refine lv_istore_n (lv' := [(2, .int (nI 0)), (0, .ref a), (1, .int x)]) hx hb dJ7_fill_53178_1 rfl hl (by decide) rfl (fun ls hl => ?_)
  refine lv_aload_n hx hb dJ7_fill_53178_2 rfl (lv_at hl 1 rfl) ?_
  refine va_alen hx hb hK hP 0 0 rfl rfl (v := nI n) rfl dJ7_fill_53178_3 ?_
  refine lv_istore_n (lv' := [(3, .int (nI n)), (2, .int (nI 0)), (0, .ref a), (1, .int x)]) hx hb dJ7_fill_53178_4 rfl hl (by decide) rfl (fun ls hl => ?_)
  refine xf_loopH (σ := Nat) (fun (z9 : Nat) => n - z9) (fun (z9 : Nat) => [(0, .ref a), (1, .int x), (2, .int (nI z9)), (3, .int (nI n))]) (fun (z9 : Nat) => [(a, .inl (cI, n, .inl (xf_fill x f z9)))]) (fun (z9 : Nat) => z9 ≤ n) 0 (lv_sub hl [2, 3, 1, 0] rfl) (Nat.zero_le _) hP hD hS (fun z9 ls H locs hi hl hP hD hS ih5 => ?_)
  obtain ⟨i, hxe⟩ : ∃ z, z = z9 := ⟨_, rfl⟩
  subst hxe
  have hl : lv_has ls 4 [(0, .ref a), (1, .int x), (2, .int (nI i)), (3, .int (nI n))] := hl
  have hP : va_P (dC, dI) fmCl [(a, .inl (cI, n, .inl (xf_fill x f i)))] H := hP
  have hD : va_D A [(a, .inl (cI, n, .inl (xf_fill x f i)))] := hD
  have hi : i ≤ n := hi
  refine lv_iload_n hx hb dJ7_fill_53178_5 rfl (lv_at hl 2 rfl) ?_
  refine lv_iload_n hx hb dJ7_fill_53178_6 rfl (lv_at hl 3 rfl) ?_
  refine xf_ge (tgt := 20) hx hb dJ7_fill_53178_7 (by decide) (by omega) (by omega) (fun c7 => ?_) (fun c7 => ?_)
  ·
    obtain rfl : n = i := by omega
    exact W.vret hx hb hr (fun t9 ht9 hW9 => ⟨⟨(), rfl, trivial, xf_hP ht9 hP⟩, hS.F ht9⟩) hS.2.2 dJ7_fill_53178_20
  ·
    refine lv_aload_n hx hb dJ7_fill_53178_10 rfl (lv_at hl 0 rfl) ?_
    refine lv_iload_n hx hb dJ7_fill_53178_11 rfl (lv_at hl 2 rfl) ?_
    refine lv_iload_n hx hb dJ7_fill_53178_12 rfl (lv_at hl 1 rfl) ?_
    refine xf_iast hx hb hK hP hD hS 0 0 rfl rfl (j := i) (by omega) (by omega) dJ7_fill_53178_13 (fun H locs hP hD hS => ?_)
    have hP : va_P (dC, dI) fmCl [(a, .inl (cI, n, .inl (upd (xf_fill x f i) i x)))] H := hP
    have hD : va_D A [(a, .inl (cI, n, .inl (upd (xf_fill x f i) i x)))] := hD
    refine lv_iinc (v := nI (i + 1)) (lv' := [(2, .int (nI (i + 1))), (0, .ref a), (1, .int x), (3, .int (nI n))]) hx hb dJ7_fill_53178_14 hl (k := 2) rfl (by exact nI_1 i) (by decide) rfl (fun ls hl => ?_)
    refine lv_goto (tgt := 5) hx hb dJ7_fill_53178_17 (by decide) ?_
    have hl := lv_sub (l' := [(0, .ref a), (1, .int x), (2, .int (nI (i + 1))), (3, .int (nI n))]) hl [1, 2, 0, 3] rfl
    have hl : lv_has ls 4 [(0, .ref a), (1, .int x), (2, .int (nI (i + 1))), (3, .int (nI n))] := xf_lv hl (by rfl)
    have hP : va_P (dC, dI) fmCl [(a, .inl (cI, n, .inl (xf_fill x f (i + 1))))] H := xf_wP hP (by rfl)
    have hD : va_D A [(a, .inl (cI, n, .inl (xf_fill x f (i + 1))))] := xf_wD hD rfl
    exact ih5 (i + 1) ls H locs (by show n - (i + 1) < n - i; omega) (by show (i + 1) ≤ n; omega) hl hP hD hS
end
section
set_option maxHeartbeats 4000000 in
set_option maxRecDepth 100000 in
/-- valuesOf(t, h) -/
theorem k_valuesOf (l : Launch) (dC : Nat → ClassId) (dI : Nat → Nat → Nat) (h0 a1 a2 a3 a4 a5 a6 : Nat) (cI : ClassId) (fg fk fu fc fb fn : Nat → Int32) (rc : Int32) (t h : Nat) (ht : t < 40) (hh : h < 8) : Met l yX0_valuesOf wsX0_valuesOf ({ frames := 0, cells := 0, slots := 0, locals := 0 }) (va_Pc [.ref h0, .int (nI t), .int (nI h)] (fun U => va_P (dC, dI) fmCl (fw h0 a1 a2 a3 a4 a5 a6 cI fg fk fu fc fb fn rc) U.heap ∧ va_K (dC, dI) fmCl [(cI, .int)] U)) (vp_Si (fun r => r = fcV fg fk t h)) 0 0 (fun _ => False) := by
  refine Met.ofW (cc := cX0_valuesOf) (maxL := 3) (ret := (some .int)) (by decide) rfl ?_
  intro p e s m args below meth c s₁ B hml hv
  obtain ⟨rfl, hP, hK⟩ := hv
  have hx := B.exec
  have hb := B.bytes
  have hr := B.returns
  have hts := atoms_spec (ws := wsX0_valuesOf) B.pre
  have hown : s.vm.findClass RX0 = some m.cls := findClass_of_methodNamed B.named
  have hlocks := B.notSynchronized
  have hin : ∀ w ∈ u_ws RX0 TX0 7, w ∈ wsX0_valuesOf := by decide +kernel
  have hf_given := hts (.fieldLink RX0 9 "FacetCounts" "given" "[I") (by decide +kernel)
  have hf_kinds := hts (.fieldLink RX0 13 "FacetCounts" "kinds" "[I") (by decide +kernel)
  have hl := lv_entry ([.ref h0, .int (nI t), .int (nI h)]) (n := 3) (Nat.le_of_ble_eq_true rfl)
  rw [lg_entry_eq]
  generalize (lg_sl ([.ref h0, .int (nI t), .int (nI h)]) ++ List.replicate (3 - (lg_sl ([.ref h0, .int (nI t), .int (nI h)])).length) Slot.unset).toArray = ls at hl ⊢
  have hl : lv_has ls 3 [(0, .ref h0), (1, .int (nI t)), (2, .int (nI h))] := hl
  refine lv_iload_n hx hb dX0_valuesOf_0 rfl (lv_at hl 2 rfl) ?_
  refine xf_zne (tgt := 13) hx hb dX0_valuesOf_1 (by decide) (by omega) (fun c1 => ?_) (fun c1 => ?_)
  ·
    refine lv_aload_n hx hb dX0_valuesOf_13 rfl (lv_at hl 0 rfl) ?_
    refine va_get (D := (dC, dI)) (ci := 0) (v := .ref a1) (C := RX0) (T := TX0) (N := 7) hx hb hts hin hown hK hP 0 rfl rfl 0 (by decide) hf_given (fun _ h9 => h9) rfl dX0_valuesOf_14 ?_
    refine lv_iload_n hx hb dX0_valuesOf_17 rfl (lv_at hl 1 rfl) ?_
    refine lv_bipush (v := nI 8) hx hb dX0_valuesOf_18 (by decide) ?_
    refine lv_imul hx hb dX0_valuesOf_20 ?_
    refine xf_be (y := nI (t * 8)) (by exact pk_mul _ _) ?_
    refine lv_iload_n hx hb dX0_valuesOf_21 rfl (lv_at hl 2 rfl) ?_
    refine lv_iadd hx hb dX0_valuesOf_22 ?_
    refine xf_be (y := nI (t * 8 + h)) (by exact nI_add _ _) ?_
    refine xf_iald hx hb hK hP 1 0 rfl rfl (j := (t * 8 + h)) (by omega) (by decide) dX0_valuesOf_23 ?_
    exact W.iret (v := fg (t * 8 + h)) hx hb hr (fun t9 ht9 hW9 => ⟨_, rfl, by simp [fcV, c1], ht9⟩) (fun q h => nomatch h) dX0_valuesOf_24
  ·
    refine lv_aload_n hx hb dX0_valuesOf_4 rfl (lv_at hl 0 rfl) ?_
    refine va_get (D := (dC, dI)) (ci := 0) (v := .ref a2) (C := RX0) (T := TX0) (N := 7) hx hb hts hin hown hK hP 0 rfl rfl 1 (by decide) hf_kinds (fun _ h9 => h9) rfl dX0_valuesOf_5 ?_
    refine lv_iload_n hx hb dX0_valuesOf_8 rfl (lv_at hl 1 rfl) ?_
    refine xf_iald hx hb hK hP 2 0 rfl rfl (j := t) (by omega) (by decide) dX0_valuesOf_9 ?_
    refine lv_goto (tgt := 24) hx hb dX0_valuesOf_10 (by decide) ?_
    exact W.iret (v := fk t) hx hb hr (fun t9 ht9 hW9 => ⟨_, rfl, by simp [fcV, c1], ht9⟩) (fun q h => nomatch h) dX0_valuesOf_24
set_option maxHeartbeats 4000000 in
set_option maxRecDepth 100000 in
/-- withUppers(kd, set) -/
theorem k_withUppers (l : Launch) (dC : Nat → ClassId) (dI : Nat → Nat → Nat) (h0 a1 a2 a3 a4 a5 a6 : Nat) (cI : ClassId) (fg fk fu fc fb fn : Nat → Int32) (rc : Int32) (kd set : Int32) : Met l yX0_withUppers wsX0_withUppers ({ frames := 1, cells := 0, slots := 0, locals := 21 }) (va_Pc [.ref h0, .int kd, .int set] (fun U => va_P (dC, dI) fmCl (fw h0 a1 a2 a3 a4 a5 a6 cI fg fk fu fc fb fn rc) U.heap ∧ va_K (dC, dI) fmCl [(cI, .int)] U)) (vp_Si (fun r => r = fcWU fu 32 kd set)) 0 0 (fun _ => False) := by
  refine Met.ofW (cc := cX0_withUppers) (maxL := 6) (ret := (some .int)) (by decide) rfl ?_
  intro p e s m args below meth c s₁ B hml hv
  obtain ⟨rfl, hP, hK⟩ := hv
  have hx := B.exec
  have hb := B.bytes
  have hr := B.returns
  have hts := atoms_spec (ws := wsX0_withUppers) B.pre
  have hown : s.vm.findClass RX0 = some m.cls := findClass_of_methodNamed B.named
  have hlocks := B.notSynchronized
  have hin : ∀ w ∈ u_ws RX0 TX0 7, w ∈ wsX0_withUppers := by decide +kernel
  have hf_uppers := hts (.fieldLink RX0 16 "FacetCounts" "uppers" "[I") (by decide +kernel)
  have hl := lv_entry ([.ref h0, .int kd, .int set]) (n := 6) (Nat.le_of_ble_eq_true rfl)
  rw [lg_entry_eq]
  generalize (lg_sl ([.ref h0, .int kd, .int set]) ++ List.replicate (6 - (lg_sl ([.ref h0, .int kd, .int set])).length) Slot.unset).toArray = ls at hl ⊢
  have hl : lv_has ls 6 [(0, .ref h0), (1, .int kd), (2, .int set)] := hl
  refine lv_iload_n hx hb dX0_withUppers_0 rfl (lv_at hl 2 rfl) ?_
  refine lv_istore_n (lv' := [(3, .int set), (0, .ref h0), (1, .int kd), (2, .int set)]) hx hb dX0_withUppers_1 rfl hl (by decide) rfl (fun ls hl => ?_)
  refine lv_iload_n hx hb dX0_withUppers_2 rfl (lv_at hl 2 rfl) ?_
  refine lv_istore (lv' := [(4, .int kd), (3, .int set), (0, .ref h0), (1, .int kd), (2, .int set)]) hx hb dX0_withUppers_3 hl (by decide) rfl (fun ls hl => ?_)
  refine lv_iconst (v := nI 0) hx hb dX0_withUppers_5 (by decide) ?_
  refine lv_istore (lv' := [(5, .int (nI 0)), (4, .int kd), (3, .int set), (0, .ref h0), (1, .int kd), (2, .int set)]) hx hb dX0_withUppers_6 hl (by decide) rfl (fun ls hl => ?_)
  refine xf_loopS (σ := Nat × Int32 × Int32) (fun (z9 : Nat × Int32 × Int32) => 32 - z9.1) (fun (z9 : Nat × Int32 × Int32) => [(0, .ref h0), (1, .int kd), (2, .int set), (3, .int z9.2.2), (4, .int z9.2.1), (5, .int (nI z9.1))]) (fun (z9 : Nat × Int32 × Int32) => z9.1 ≤ 32 ∧ fcWU fu 32 kd set = fcWU fu (32 - z9.1) z9.2.1 z9.2.2) (0, kd, set) (lv_sub hl [3, 4, 5, 2, 1, 0] rfl) ⟨Nat.zero_le _, rfl⟩ (fun z9 ls hi hl ih8 => ?_)
  obtain ⟨i, ka, al⟩ := z9
  have hl : lv_has ls 6 [(0, .ref h0), (1, .int kd), (2, .int set), (3, .int al), (4, .int ka), (5, .int (nI i))] := hl
  obtain ⟨hi, hR⟩ := hi
  have hi : i ≤ 32 := hi
  have hR : fcWU fu 32 kd set = fcWU fu (32 - i) ka al := hR
  refine lv_iload hx hb dX0_withUppers_8 (lv_at hl 5 rfl) ?_
  refine lv_bipush (v := nI 32) hx hb dX0_withUppers_10 (by decide) ?_
  refine xf_ge (tgt := 54) hx hb dX0_withUppers_12 (by decide) (by omega) (by omega) (fun c12 => ?_) (fun c12 => ?_)
  ·
    refine lv_iload_n hx hb dX0_withUppers_54 rfl (lv_at hl 3 rfl) ?_
    exact W.iret (v := al) hx hb hr (fun t9 ht9 hW9 => ⟨_, rfl, by rw [show i = 32 by omega] at hR; exact hR.symm, ht9⟩) (fun q h => nomatch h) dX0_withUppers_55
  ·
    refine lv_iload hx hb dX0_withUppers_15 (lv_at hl 4 rfl) ?_
    refine vp_callSi (W.runS (As := [.int ka]) (rest := []) ⟨hx, hb, hml, hown, hts⟩ (k_isValue l ka) (va_cwS 1 hts gX0_withUppers_X0_isValue rfl rfl rfl (by decide +kernel) ⟨Nat.le_of_ble_eq_true rfl, Nat.le_of_ble_eq_true rfl⟩) (xf_preS0) rfl rfl hl.1 rfl (lv_room (Nat.le_of_ble_eq_true rfl)) dX0_withUppers_17 ⟨Nat.zero_le _, Nat.zero_le _⟩) (fun r hr9 => ?_)
    subst hr9
    refine xf_Beq (tgt := 54) hx hb dX0_withUppers_20 (by decide) (fun c20 => ?_) (fun c20 => ?_)
    ·
      refine lv_iload_n hx hb dX0_withUppers_54 rfl (lv_at hl 3 rfl) ?_
      exact W.iret (v := al) hx hb hr (fun t9 ht9 hW9 => ⟨_, rfl, by rw [hR, show 32 - i = (31 - i) + 1 by omega, fcWU, if_neg (by rw [c20]; decide)], ht9⟩) (fun q h => nomatch h) dX0_withUppers_55
    ·
      obtain ⟨j, hj, rfl⟩ := xf_in_of c20 (by decide)
      refine lv_iload_n hx hb dX0_withUppers_23 rfl (lv_at hl 3 rfl) ?_
      refine lv_iload hx hb dX0_withUppers_24 (lv_at hl 4 rfl) ?_
      refine vp_callSi (W.runS (As := [.int al, .int (nI j)]) (rest := []) ⟨hx, hb, hml, hown, hts⟩ (k_holds l al j (by omega)) (va_cwS 2 hts gX0_withUppers_X0_holds rfl rfl rfl (by decide +kernel) ⟨Nat.le_of_ble_eq_true rfl, Nat.le_of_ble_eq_true rfl⟩) (xf_preS0) rfl rfl hl.1 rfl (lv_room (Nat.le_of_ble_eq_true rfl)) dX0_withUppers_26 ⟨Nat.zero_le _, Nat.zero_le _⟩) (fun r hr9 => ?_)
      subst hr9
      refine xf_Bne (tgt := 54) hx hb dX0_withUppers_29 (by decide) (fun c29 => ?_) (fun c29 => ?_)
      ·
        refine lv_iload_n hx hb dX0_withUppers_54 rfl (lv_at hl 3 rfl) ?_
        exact W.iret (v := al) hx hb hr (fun t9 ht9 hW9 => ⟨_, rfl, by rw [hR, show 32 - i = (31 - i) + 1 by omega, fcWU, if_pos c20, nI_clamp (by omega), if_pos c29], ht9⟩) (fun q h => nomatch h) dX0_withUppers_55
      ·
        refine lv_iload_n hx hb dX0_withUppers_32 rfl (lv_at hl 3 rfl) ?_
        refine lv_iconst (v := nI 1) hx hb dX0_withUppers_33 (by decide) ?_
        refine lv_iload hx hb dX0_withUppers_34 (lv_at hl 4 rfl) ?_
        refine lv_ishl hx hb dX0_withUppers_36 ?_
        refine xf_be (y := xf_bit j) (by rfl) ?_
        refine lv_ior hx hb dX0_withUppers_37 ?_
        refine lv_istore_n (lv' := [(3, .int (al ||| (xf_bit j))), (0, .ref h0), (1, .int kd), (2, .int set), (4, .int (nI j)), (5, .int (nI i))]) hx hb dX0_withUppers_38 rfl hl (by decide) rfl (fun ls hl => ?_)
        refine lv_aload_n hx hb dX0_withUppers_39 rfl (lv_at hl 1 rfl) ?_
        refine va_get (D := (dC, dI)) (ci := 0) (v := .ref a3) (C := RX0) (T := TX0) (N := 7) hx hb hts hin hown hK hP 0 rfl rfl 2 (by decide) hf_uppers (fun _ h9 => h9) rfl dX0_withUppers_40 ?_
        refine lv_iload hx hb dX0_withUppers_43 (lv_at hl 4 rfl) ?_
        refine xf_iald hx hb hK hP 3 0 rfl rfl (j := j) (by omega) (by decide) dX0_withUppers_45 ?_
        refine lv_istore (lv' := [(4, .int (fu j)), (3, .int (al ||| (xf_bit j))), (0, .ref h0), (1, .int kd), (2, .int set), (5, .int (nI i))]) hx hb dX0_withUppers_46 hl (by decide) rfl (fun ls hl => ?_)
        refine lv_iinc (v := nI (i + 1)) (lv' := [(5, .int (nI (i + 1))), (4, .int (fu j)), (3, .int (al ||| (xf_bit j))), (0, .ref h0), (1, .int kd), (2, .int set)]) hx hb dX0_withUppers_48 hl (k := 5) rfl (by exact nI_1 i) (by decide) rfl (fun ls hl => ?_)
        refine lv_goto (tgt := 8) hx hb dX0_withUppers_51 (by decide) ?_
        have hl := lv_sub (l' := [(0, .ref h0), (1, .int kd), (2, .int set), (3, .int (al ||| (xf_bit j))), (4, .int (fu j)), (5, .int (nI (i + 1)))]) hl [3, 4, 5, 2, 1, 0] rfl
        have hl : lv_has ls 6 [(0, .ref h0), (1, .int kd), (2, .int set), (3, .int ((al ||| xf_bit j))), (4, .int ((fu j))), (5, .int (nI ((i + 1))))] := xf_lv hl (by rfl)
        exact ih8 (i + 1, fu j, al ||| xf_bit j) ls (by show 32 - (i + 1) < 32 - i; omega) (by refine ⟨by show i + 1 ≤ 32; omega, ?_⟩; show _ = fcWU fu (32 - (i + 1)) (fu j) (al ||| xf_bit j); rw [hR, show 32 - i = (32 - (i + 1)) + 1 by omega, fcWU, if_pos c20, nI_clamp (by omega), if_neg (by rw [c29]; decide)]) hl
set_option maxHeartbeats 4000000 in
set_option maxRecDepth 100000 in
/-- lackedHeads(t) -/
theorem k_lackedHeads (l : Launch) (dC : Nat → ClassId) (dI : Nat → Nat → Nat) (h0 a1 a2 a3 a4 a5 a6 : Nat) (cI : ClassId) (fg fk fu fc fb fn : Nat → Int32) (rc : Int32) (t : Nat) (ht : t < 40) : Met l yX0_lackedHeads wsX0_lackedHeads ({ frames := 1, cells := 0, slots := 0, locals := 22 }) (va_Pc [.ref h0, .int (nI t)] (fun U => va_P (dC, dI) fmCl (fw h0 a1 a2 a3 a4 a5 a6 cI fg fk fu fc fb fn rc) U.heap ∧ va_K (dC, dI) fmCl [(cI, .int)] U)) (vp_Si (fun r => r = fcLk fg fk fc t)) 0 0 (fun _ => False) := by
  refine Met.ofW (cc := cX0_lackedHeads) (maxL := 4) (ret := (some .int)) (by decide) rfl ?_
  intro p e s m args below meth c s₁ B hml hv
  obtain ⟨rfl, hP, hK⟩ := hv
  have hx := B.exec
  have hb := B.bytes
  have hr := B.returns
  have hts := atoms_spec (ws := wsX0_lackedHeads) B.pre
  have hown : s.vm.findClass RX0 = some m.cls := findClass_of_methodNamed B.named
  have hlocks := B.notSynchronized
  have hin : ∀ w ∈ u_ws RX0 TX0 7, w ∈ wsX0_lackedHeads := by decide +kernel
  have hf_chosen := hts (.fieldLink RX0 19 "FacetCounts" "chosen" "[I") (by decide +kernel)
  have hl := lv_entry ([.ref h0, .int (nI t)]) (n := 4) (Nat.le_of_ble_eq_true rfl)
  rw [lg_entry_eq]
  generalize (lg_sl ([.ref h0, .int (nI t)]) ++ List.replicate (4 - (lg_sl ([.ref h0, .int (nI t)])).length) Slot.unset).toArray = ls at hl ⊢
  have hl : lv_has ls 4 [(0, .ref h0), (1, .int (nI t))] := hl
  refine lv_iconst (v := nI 0) hx hb dX0_lackedHeads_0 (by decide) ?_
  refine lv_istore_n (lv' := [(2, .int (nI 0)), (0, .ref h0), (1, .int (nI t))]) hx hb dX0_lackedHeads_1 rfl hl (by decide) rfl (fun ls hl => ?_)
  refine lv_iconst (v := nI 0) hx hb dX0_lackedHeads_2 (by decide) ?_
  refine lv_istore_n (lv' := [(3, .int (nI 0)), (2, .int (nI 0)), (0, .ref h0), (1, .int (nI t))]) hx hb dX0_lackedHeads_3 rfl hl (by decide) rfl (fun ls hl => ?_)
  refine xf_loopS (σ := Nat) (fun (z9 : Nat) => 8 - z9) (fun (z9 : Nat) => [(0, .ref h0), (1, .int (nI t)), (2, .int (xf_mk (fcLP fc (fcV fg fk t)) z9)), (3, .int (nI z9))]) (fun (z9 : Nat) => z9 ≤ 8) 0 (lv_sub hl [2, 3, 1, 0] rfl) (Nat.zero_le _) (fun z9 ls hi hl ih4 => ?_)
  obtain ⟨h, hxe⟩ : ∃ z, z = z9 := ⟨_, rfl⟩
  subst hxe
  have hl : lv_has ls 4 [(0, .ref h0), (1, .int (nI t)), (2, .int (xf_mk (fcLP fc (fcV fg fk t)) h)), (3, .int (nI h))] := hl
  have hi : h ≤ 8 := hi
  refine lv_iload_n hx hb dX0_lackedHeads_4 rfl (lv_at hl 3 rfl) ?_
  refine lv_bipush (v := nI 8) hx hb dX0_lackedHeads_5 (by decide) ?_
  refine xf_ge (tgt := 47) hx hb dX0_lackedHeads_7 (by decide) (by omega) (by omega) (fun c7 => ?_) (fun c7 => ?_)
  ·
    refine lv_iload_n hx hb dX0_lackedHeads_47 rfl (lv_at hl 2 rfl) ?_
    exact W.iret (v := xf_mk (fcLP fc (fcV fg fk t)) h) hx hb hr (fun t9 ht9 hW9 => ⟨_, rfl, by rw [show h = 8 from by omega]; rfl, ht9⟩) (fun q h => nomatch h) dX0_lackedHeads_48
  ·
    refine lv_aload_n hx hb dX0_lackedHeads_10 rfl (lv_at hl 0 rfl) ?_
    refine va_get (D := (dC, dI)) (ci := 0) (v := .ref a4) (C := RX0) (T := TX0) (N := 7) hx hb hts hin hown hK hP 0 rfl rfl 3 (by decide) hf_chosen (fun _ h9 => h9) rfl dX0_lackedHeads_11 ?_
    refine lv_iload_n hx hb dX0_lackedHeads_14 rfl (lv_at hl 3 rfl) ?_
    refine xf_iald hx hb hK hP 4 0 rfl rfl (j := h) (by omega) (by decide) dX0_lackedHeads_15 ?_
    refine lv_if_eq (tgt := 41) hx hb dX0_lackedHeads_16 (by decide) (fun c16 => ?_) (fun c16 => ?_)
    ·
      refine lv_iinc (v := nI (h + 1)) (lv' := [(3, .int (nI (h + 1))), (0, .ref h0), (1, .int (nI t)), (2, .int (xf_mk (fcLP fc (fcV fg fk t)) h))]) hx hb dX0_lackedHeads_41 hl (k := 3) rfl (by exact nI_1 h) (by decide) rfl (fun ls hl => ?_)
      refine lv_goto (tgt := 4) hx hb dX0_lackedHeads_44 (by decide) ?_
      have hl := lv_sub (l' := [(0, .ref h0), (1, .int (nI t)), (2, .int (xf_mk (fcLP fc (fcV fg fk t)) h)), (3, .int (nI (h + 1)))]) hl [1, 2, 3, 0] rfl
      have hl : lv_has ls 4 [(0, .ref h0), (1, .int (nI t)), (2, .int (xf_mk (fcLP fc (fcV fg fk t)) (h + 1))), (3, .int (nI (h + 1)))] := xf_lv hl (by simp [xf_mk, fcLP, c7, c16])
      exact ih4 (h + 1) ls (by show 8 - (h + 1) < 8 - h; omega) (by show (h + 1) ≤ 8; omega) hl
    ·
      refine lv_aload_n hx hb dX0_lackedHeads_19 rfl (lv_at hl 0 rfl) ?_
      refine va_get (D := (dC, dI)) (ci := 0) (v := .ref a4) (C := RX0) (T := TX0) (N := 7) hx hb hts hin hown hK hP 0 rfl rfl 3 (by decide) hf_chosen (fun _ h9 => h9) rfl dX0_lackedHeads_20 ?_
      refine lv_iload_n hx hb dX0_lackedHeads_23 rfl (lv_at hl 3 rfl) ?_
      refine xf_iald hx hb hK hP 4 0 rfl rfl (j := h) (by omega) (by decide) dX0_lackedHeads_24 ?_
      refine lv_aload_n hx hb dX0_lackedHeads_25 rfl (lv_at hl 0 rfl) ?_
      refine lv_iload_n hx hb dX0_lackedHeads_26 rfl (lv_at hl 1 rfl) ?_
      refine lv_iload_n hx hb dX0_lackedHeads_27 rfl (lv_at hl 3 rfl) ?_
      refine vp_callSi (W.runV (As := [.int (nI t), .int (nI h)]) (rest := [.int (fc h)]) ⟨hx, hb, hml, hown, hts⟩ (k_valuesOf l dC dI h0 a1 a2 a3 a4 a5 a6 cI fg fk fu fc fb fn rc t h (by omega) (by omega)) (cwV 2 hts gX0_lackedHeads_X0_valuesOf rfl rfl rfl (by decide +kernel) ⟨Nat.le_of_ble_eq_true rfl, Nat.le_of_ble_eq_true rfl⟩) (xf_preV (ci := 0) (RX0, TX0, 7) hK hP rfl rfl) rfl rfl hl.1 rfl (lv_room (Nat.le_of_ble_eq_true rfl)) dX0_lackedHeads_28 ⟨Nat.zero_le _, Nat.zero_le _⟩) (fun r hr9 => ?_)
      subst hr9
      refine lv_iand hx hb dX0_lackedHeads_31 ?_
      refine lv_if_ne (tgt := 41) hx hb dX0_lackedHeads_32 (by decide) (fun c32 => ?_) (fun c32 => ?_)
      ·
        refine lv_iinc (v := nI (h + 1)) (lv' := [(3, .int (nI (h + 1))), (0, .ref h0), (1, .int (nI t)), (2, .int (xf_mk (fcLP fc (fcV fg fk t)) h))]) hx hb dX0_lackedHeads_41 hl (k := 3) rfl (by exact nI_1 h) (by decide) rfl (fun ls hl => ?_)
        refine lv_goto (tgt := 4) hx hb dX0_lackedHeads_44 (by decide) ?_
        have hl := lv_sub (l' := [(0, .ref h0), (1, .int (nI t)), (2, .int (xf_mk (fcLP fc (fcV fg fk t)) h)), (3, .int (nI (h + 1)))]) hl [1, 2, 3, 0] rfl
        have hl : lv_has ls 4 [(0, .ref h0), (1, .int (nI t)), (2, .int (xf_mk (fcLP fc (fcV fg fk t)) (h + 1))), (3, .int (nI (h + 1)))] := xf_lv hl (by simp [xf_mk, fcLP, c7, c16, c32])
        exact ih4 (h + 1) ls (by show 8 - (h + 1) < 8 - h; omega) (by show (h + 1) ≤ 8; omega) hl
      ·
        refine lv_iload_n hx hb dX0_lackedHeads_35 rfl (lv_at hl 2 rfl) ?_
        refine lv_iconst (v := nI 1) hx hb dX0_lackedHeads_36 (by decide) ?_
        refine lv_iload_n hx hb dX0_lackedHeads_37 rfl (lv_at hl 3 rfl) ?_
        refine lv_ishl hx hb dX0_lackedHeads_38 ?_
        refine xf_be (y := xf_bit h) (by rfl) ?_
        refine lv_ior hx hb dX0_lackedHeads_39 ?_
        refine lv_istore_n (lv' := [(2, .int ((xf_mk (fcLP fc (fcV fg fk t)) h) ||| (xf_bit h))), (0, .ref h0), (1, .int (nI t)), (3, .int (nI h))]) hx hb dX0_lackedHeads_40 rfl hl (by decide) rfl (fun ls hl => ?_)
        refine lv_iinc (v := nI (h + 1)) (lv' := [(3, .int (nI (h + 1))), (2, .int ((xf_mk (fcLP fc (fcV fg fk t)) h) ||| (xf_bit h))), (0, .ref h0), (1, .int (nI t))]) hx hb dX0_lackedHeads_41 hl (k := 3) rfl (by exact nI_1 h) (by decide) rfl (fun ls hl => ?_)
        refine lv_goto (tgt := 4) hx hb dX0_lackedHeads_44 (by decide) ?_
        have hl := lv_sub (l' := [(0, .ref h0), (1, .int (nI t)), (2, .int ((xf_mk (fcLP fc (fcV fg fk t)) h) ||| (xf_bit h))), (3, .int (nI (h + 1)))]) hl [2, 3, 1, 0] rfl
        have hl : lv_has ls 4 [(0, .ref h0), (1, .int (nI t)), (2, .int (xf_mk (fcLP fc (fcV fg fk t)) (h + 1))), (3, .int (nI (h + 1)))] := xf_lv hl (by simp [xf_mk, fcLP, c7, c16, c32])
        exact ih4 (h + 1) ls (by show 8 - (h + 1) < 8 - h; omega) (by show (h + 1) ≤ 8; omega) hl
set_option maxHeartbeats 4000000 in
set_option maxRecDepth 100000 in
/-- isKeptBut(t, h) -/
theorem k_isKeptBut (l : Launch) (dC : Nat → ClassId) (dI : Nat → Nat → Nat) (h0 a1 a2 a3 a4 a5 a6 : Nat) (cI : ClassId) (fg fk fu fc fb fn : Nat → Int32) (rc : Int32) (t h : Nat) (ht : t < 40) (hh : h < 8) : Met l yX0_isKeptBut wsX0_isKeptBut ({ frames := 2, cells := 0, slots := 0, locals := 45 }) (va_Pc [.ref h0, .int (nI t), .int (nI h)] (fun U => va_P (dC, dI) fmCl (fw h0 a1 a2 a3 a4 a5 a6 cI fg fk fu fc fb fn rc) U.heap ∧ va_K (dC, dI) fmCl [(cI, .int)] U)) (vp_Si (fun r => r = xf_B (fcKB fg fk fc h t))) 0 0 (fun _ => False) := by
  refine Met.ofW (cc := cX0_isKeptBut) (maxL := 3) (ret := (some .boolean)) (by decide) rfl ?_
  intro p e s m args below meth c s₁ B hml hv
  obtain ⟨rfl, hP, hK⟩ := hv
  have hx := B.exec
  have hb := B.bytes
  have hr := B.returns
  have hts := atoms_spec (ws := wsX0_isKeptBut) B.pre
  have hown : s.vm.findClass RX0 = some m.cls := findClass_of_methodNamed B.named
  have hlocks := B.notSynchronized
  have hl := lv_entry ([.ref h0, .int (nI t), .int (nI h)]) (n := 3) (Nat.le_of_ble_eq_true rfl)
  rw [lg_entry_eq]
  generalize (lg_sl ([.ref h0, .int (nI t), .int (nI h)]) ++ List.replicate (3 - (lg_sl ([.ref h0, .int (nI t), .int (nI h)])).length) Slot.unset).toArray = ls at hl ⊢
  have hl : lv_has ls 3 [(0, .ref h0), (1, .int (nI t)), (2, .int (nI h))] := hl
  refine lv_aload_n hx hb dX0_isKeptBut_0 rfl (lv_at hl 0 rfl) ?_
  refine lv_iload_n hx hb dX0_isKeptBut_1 rfl (lv_at hl 1 rfl) ?_
  refine vp_callSi (W.runV (As := [.int (nI t)]) (rest := []) ⟨hx, hb, hml, hown, hts⟩ (k_lackedHeads l dC dI h0 a1 a2 a3 a4 a5 a6 cI fg fk fu fc fb fn rc t (by omega)) (cwV 1 hts gX0_isKeptBut_X0_lackedHeads rfl rfl rfl (by decide +kernel) ⟨Nat.le_of_ble_eq_true rfl, Nat.le_of_ble_eq_true rfl⟩) (xf_preV (ci := 0) (RX0, TX0, 7) hK hP rfl rfl) rfl rfl hl.1 rfl (lv_room (Nat.le_of_ble_eq_true rfl)) dX0_isKeptBut_2 ⟨Nat.zero_le _, Nat.zero_le _⟩) (fun r hr9 => ?_)
  subst hr9
  refine lv_iconst (v := nI 1) hx hb dX0_isKeptBut_5 (by decide) ?_
  refine lv_iload_n hx hb dX0_isKeptBut_6 rfl (lv_at hl 2 rfl) ?_
  refine lv_ishl hx hb dX0_isKeptBut_7 ?_
  refine xf_be (y := xf_bit h) (by rfl) ?_
  refine lv_iconst (v := (-1)) hx hb dX0_isKeptBut_8 (by decide) ?_
  refine lv_ixor hx hb dX0_isKeptBut_9 ?_
  refine xf_be (y := xf_not (xf_bit h)) (by rfl) ?_
  refine lv_iand hx hb dX0_isKeptBut_10 ?_
  refine lv_if_ne (tgt := 18) hx hb dX0_isKeptBut_11 (by decide) (fun c11 => ?_) (fun c11 => ?_)
  ·
    refine lv_iconst (v := nI 0) hx hb dX0_isKeptBut_18 (by decide) ?_
    exact W.zret (v := nI 0) hx hb hr (by first | rfl | exact xf_B_narrow _) (fun t9 ht9 hW9 => ⟨_, rfl, by simp [xf_B, fcKB, c11], ht9⟩) (fun q h => nomatch h) dX0_isKeptBut_19
  ·
    refine lv_iconst (v := nI 1) hx hb dX0_isKeptBut_14 (by decide) ?_
    refine lv_goto (tgt := 19) hx hb dX0_isKeptBut_15 (by decide) ?_
    exact W.zret (v := nI 1) hx hb hr (by first | rfl | exact xf_B_narrow _) (fun t9 ht9 hW9 => ⟨_, rfl, by simp [xf_B, fcKB, c11], ht9⟩) (fun q h => nomatch h) dX0_isKeptBut_19
set_option maxHeartbeats 4000000 in
set_option maxRecDepth 100000 in
/-- countKept() -/
theorem k_countKept (l : Launch) (dC : Nat → ClassId) (dI : Nat → Nat → Nat) (h0 a1 a2 a3 a4 a5 a6 : Nat) (cI : ClassId) (fg fk fu fc fb fn : Nat → Int32) (rc : Int32) : Met l yX0_countKept wsX0_countKept ({ frames := 2, cells := 0, slots := 0, locals := 45 }) (va_Pc [.ref h0] (fun U => va_P (dC, dI) fmCl (fw h0 a1 a2 a3 a4 a5 a6 cI fg fk fu fc fb fn rc) U.heap ∧ va_K (dC, dI) fmCl [(cI, .int)] U)) (vp_Si (fun r => r = nI (xf_cnt (fcKp fg fk fc) 40))) 0 0 (fun _ => False) := by
  refine Met.ofW (cc := cX0_countKept) (maxL := 3) (ret := (some .int)) (by decide) rfl ?_
  intro p e s m args below meth c s₁ B hml hv
  obtain ⟨rfl, hP, hK⟩ := hv
  have hx := B.exec
  have hb := B.bytes
  have hr := B.returns
  have hts := atoms_spec (ws := wsX0_countKept) B.pre
  have hown : s.vm.findClass RX0 = some m.cls := findClass_of_methodNamed B.named
  have hlocks := B.notSynchronized
  have hl := lv_entry ([.ref h0]) (n := 3) (Nat.le_of_ble_eq_true rfl)
  rw [lg_entry_eq]
  generalize (lg_sl ([.ref h0]) ++ List.replicate (3 - (lg_sl ([.ref h0])).length) Slot.unset).toArray = ls at hl ⊢
  have hl : lv_has ls 3 [(0, .ref h0)] := hl
  refine lv_iconst (v := nI 0) hx hb dX0_countKept_0 (by decide) ?_
  refine lv_istore_n (lv' := [(1, .int (nI 0)), (0, .ref h0)]) hx hb dX0_countKept_1 rfl hl (by decide) rfl (fun ls hl => ?_)
  refine lv_iconst (v := nI 0) hx hb dX0_countKept_2 (by decide) ?_
  refine lv_istore_n (lv' := [(2, .int (nI 0)), (1, .int (nI 0)), (0, .ref h0)]) hx hb dX0_countKept_3 rfl hl (by decide) rfl (fun ls hl => ?_)
  refine xf_loopS (σ := Nat) (fun (z9 : Nat) => 40 - z9) (fun (z9 : Nat) => [(0, .ref h0), (1, .int (nI (xf_cnt (fcKp fg fk fc) z9))), (2, .int (nI z9))]) (fun (z9 : Nat) => z9 ≤ 40) 0 (lv_sub hl [2, 1, 0] rfl) (Nat.zero_le _) (fun z9 ls hi hl ih4 => ?_)
  obtain ⟨t, hxe⟩ : ∃ z, z = z9 := ⟨_, rfl⟩
  subst hxe
  have hl : lv_has ls 3 [(0, .ref h0), (1, .int (nI (xf_cnt (fcKp fg fk fc) t))), (2, .int (nI t))] := hl
  have hi : t ≤ 40 := hi
  refine lv_iload_n hx hb dX0_countKept_4 rfl (lv_at hl 2 rfl) ?_
  refine lv_bipush (v := nI 40) hx hb dX0_countKept_5 (by decide) ?_
  refine xf_ge (tgt := 27) hx hb dX0_countKept_7 (by decide) (by omega) (by omega) (fun c7 => ?_) (fun c7 => ?_)
  ·
    refine lv_iload_n hx hb dX0_countKept_27 rfl (lv_at hl 1 rfl) ?_
    exact W.iret (v := nI (xf_cnt (fcKp fg fk fc) t)) hx hb hr (fun t9 ht9 hW9 => ⟨_, rfl, by rw [show t = 40 from by omega], ht9⟩) (fun q h => nomatch h) dX0_countKept_28
  ·
    refine lv_aload_n hx hb dX0_countKept_10 rfl (lv_at hl 0 rfl) ?_
    refine lv_iload_n hx hb dX0_countKept_11 rfl (lv_at hl 2 rfl) ?_
    refine vp_callSi (W.runV (As := [.int (nI t)]) (rest := []) ⟨hx, hb, hml, hown, hts⟩ (k_lackedHeads l dC dI h0 a1 a2 a3 a4 a5 a6 cI fg fk fu fc fb fn rc t (by omega)) (cwV 1 hts gX0_countKept_X0_lackedHeads rfl rfl rfl (by decide +kernel) ⟨Nat.le_of_ble_eq_true rfl, Nat.le_of_ble_eq_true rfl⟩) (xf_preV (ci := 0) (RX0, TX0, 7) hK hP rfl rfl) rfl rfl hl.1 rfl (lv_room (Nat.le_of_ble_eq_true rfl)) dX0_countKept_12 ⟨Nat.zero_le _, Nat.zero_le _⟩) (fun r hr9 => ?_)
    subst hr9
    refine lv_if_ne (tgt := 21) hx hb dX0_countKept_15 (by decide) (fun c15 => ?_) (fun c15 => ?_)
    ·
      refine lv_iinc (v := nI (t + 1)) (lv' := [(2, .int (nI (t + 1))), (0, .ref h0), (1, .int (nI (xf_cnt (fcKp fg fk fc) t)))]) hx hb dX0_countKept_21 hl (k := 2) rfl (by exact nI_1 t) (by decide) rfl (fun ls hl => ?_)
      refine lv_goto (tgt := 4) hx hb dX0_countKept_24 (by decide) ?_
      have hl := lv_sub (l' := [(0, .ref h0), (1, .int (nI (xf_cnt (fcKp fg fk fc) t))), (2, .int (nI (t + 1)))]) hl [1, 2, 0] rfl
      have hl : lv_has ls 3 [(0, .ref h0), (1, .int (nI (xf_cnt (fcKp fg fk fc) (t + 1)))), (2, .int (nI (t + 1)))] := xf_lv hl (by simp [xf_cnt, fcKp, c7, c15])
      exact ih4 (t + 1) ls (by show 40 - (t + 1) < 40 - t; omega) (by show (t + 1) ≤ 40; omega) hl
    ·
      refine lv_iinc (v := nI (xf_cnt (fcKp fg fk fc) t + 1)) (lv' := [(1, .int (nI (xf_cnt (fcKp fg fk fc) t + 1))), (0, .ref h0), (2, .int (nI t))]) hx hb dX0_countKept_18 hl (k := 1) rfl (by exact nI_1 (xf_cnt (fcKp fg fk fc) t)) (by decide) rfl (fun ls hl => ?_)
      refine lv_iinc (v := nI (t + 1)) (lv' := [(2, .int (nI (t + 1))), (1, .int (nI (xf_cnt (fcKp fg fk fc) t + 1))), (0, .ref h0)]) hx hb dX0_countKept_21 hl (k := 2) rfl (by exact nI_1 t) (by decide) rfl (fun ls hl => ?_)
      refine lv_goto (tgt := 4) hx hb dX0_countKept_24 (by decide) ?_
      have hl := lv_sub (l' := [(0, .ref h0), (1, .int (nI (xf_cnt (fcKp fg fk fc) t + 1))), (2, .int (nI (t + 1)))]) hl [2, 1, 0] rfl
      have hl : lv_has ls 3 [(0, .ref h0), (1, .int (nI (xf_cnt (fcKp fg fk fc) (t + 1)))), (2, .int (nI (t + 1)))] := xf_lv hl (by simp [xf_cnt, fcKp, c7, c15])
      exact ih4 (t + 1) ls (by show 40 - (t + 1) < 40 - t; omega) (by show (t + 1) ≤ 40; omega) hl
set_option maxHeartbeats 4000000 in
set_option maxRecDepth 100000 in
/-- countKeptBut(h) -/
theorem k_countKeptBut (l : Launch) (dC : Nat → ClassId) (dI : Nat → Nat → Nat) (h0 a1 a2 a3 a4 a5 a6 : Nat) (cI : ClassId) (fg fk fu fc fb fn : Nat → Int32) (rc : Int32) (h : Nat) (hh : h < 8) : Met l yX0_countKeptBut wsX0_countKeptBut ({ frames := 3, cells := 0, slots := 0, locals := 67 }) (va_Pc [.ref h0, .int (nI h)] (fun U => va_P (dC, dI) fmCl (fw h0 a1 a2 a3 a4 a5 a6 cI fg fk fu fc fb fn rc) U.heap ∧ va_K (dC, dI) fmCl [(cI, .int)] U)) (vp_Si (fun r => r = nI (xf_cnt (fcKB fg fk fc h) 40))) 0 0 (fun _ => False) := by
  refine Met.ofW (cc := cX0_countKeptBut) (maxL := 4) (ret := (some .int)) (by decide) rfl ?_
  intro p e s m args below meth c s₁ B hml hv
  obtain ⟨rfl, hP, hK⟩ := hv
  have hx := B.exec
  have hb := B.bytes
  have hr := B.returns
  have hts := atoms_spec (ws := wsX0_countKeptBut) B.pre
  have hown : s.vm.findClass RX0 = some m.cls := findClass_of_methodNamed B.named
  have hlocks := B.notSynchronized
  have hl := lv_entry ([.ref h0, .int (nI h)]) (n := 4) (Nat.le_of_ble_eq_true rfl)
  rw [lg_entry_eq]
  generalize (lg_sl ([.ref h0, .int (nI h)]) ++ List.replicate (4 - (lg_sl ([.ref h0, .int (nI h)])).length) Slot.unset).toArray = ls at hl ⊢
  have hl : lv_has ls 4 [(0, .ref h0), (1, .int (nI h))] := hl
  refine lv_iconst (v := nI 0) hx hb dX0_countKeptBut_0 (by decide) ?_
  refine lv_istore_n (lv' := [(2, .int (nI 0)), (0, .ref h0), (1, .int (nI h))]) hx hb dX0_countKeptBut_1 rfl hl (by decide) rfl (fun ls hl => ?_)
  refine lv_iconst (v := nI 0) hx hb dX0_countKeptBut_2 (by decide) ?_
  refine lv_istore_n (lv' := [(3, .int (nI 0)), (2, .int (nI 0)), (0, .ref h0), (1, .int (nI h))]) hx hb dX0_countKeptBut_3 rfl hl (by decide) rfl (fun ls hl => ?_)
  refine xf_loopS (σ := Nat) (fun (z9 : Nat) => 40 - z9) (fun (z9 : Nat) => [(0, .ref h0), (1, .int (nI h)), (2, .int (nI (xf_cnt (fcKB fg fk fc h) z9))), (3, .int (nI z9))]) (fun (z9 : Nat) => z9 ≤ 40) 0 (lv_sub hl [2, 3, 1, 0] rfl) (Nat.zero_le _) (fun z9 ls hi hl ih4 => ?_)
  obtain ⟨t, hxe⟩ : ∃ z, z = z9 := ⟨_, rfl⟩
  subst hxe
  have hl : lv_has ls 4 [(0, .ref h0), (1, .int (nI h)), (2, .int (nI (xf_cnt (fcKB fg fk fc h) t))), (3, .int (nI t))] := hl
  have hi : t ≤ 40 := hi
  refine lv_iload_n hx hb dX0_countKeptBut_4 rfl (lv_at hl 3 rfl) ?_
  refine lv_bipush (v := nI 40) hx hb dX0_countKeptBut_5 (by decide) ?_
  refine xf_ge (tgt := 28) hx hb dX0_countKeptBut_7 (by decide) (by omega) (by omega) (fun c7 => ?_) (fun c7 => ?_)
  ·
    refine lv_iload_n hx hb dX0_countKeptBut_28 rfl (lv_at hl 2 rfl) ?_
    exact W.iret (v := nI (xf_cnt (fcKB fg fk fc h) t)) hx hb hr (fun t9 ht9 hW9 => ⟨_, rfl, by rw [show t = 40 from by omega], ht9⟩) (fun q h => nomatch h) dX0_countKeptBut_29
  ·
    refine lv_aload_n hx hb dX0_countKeptBut_10 rfl (lv_at hl 0 rfl) ?_
    refine lv_iload_n hx hb dX0_countKeptBut_11 rfl (lv_at hl 3 rfl) ?_
    refine lv_iload_n hx hb dX0_countKeptBut_12 rfl (lv_at hl 1 rfl) ?_
    refine vp_callSi (W.runV (As := [.int (nI t), .int (nI h)]) (rest := []) ⟨hx, hb, hml, hown, hts⟩ (k_isKeptBut l dC dI h0 a1 a2 a3 a4 a5 a6 cI fg fk fu fc fb fn rc t h (by omega) (by omega)) (cwV 2 hts gX0_countKeptBut_X0_isKeptBut rfl rfl rfl (by decide +kernel) ⟨Nat.le_of_ble_eq_true rfl, Nat.le_of_ble_eq_true rfl⟩) (xf_preV (ci := 0) (RX0, TX0, 7) hK hP rfl rfl) rfl rfl hl.1 rfl (lv_room (Nat.le_of_ble_eq_true rfl)) dX0_countKeptBut_13 ⟨Nat.zero_le _, Nat.zero_le _⟩) (fun r hr9 => ?_)
    subst hr9
    refine xf_Beq (tgt := 22) hx hb dX0_countKeptBut_16 (by decide) (fun c16 => ?_) (fun c16 => ?_)
    ·
      refine lv_iinc (v := nI (t + 1)) (lv' := [(3, .int (nI (t + 1))), (0, .ref h0), (1, .int (nI h)), (2, .int (nI (xf_cnt (fcKB fg fk fc h) t)))]) hx hb dX0_countKeptBut_22 hl (k := 3) rfl (by exact nI_1 t) (by decide) rfl (fun ls hl => ?_)
      refine lv_goto (tgt := 4) hx hb dX0_countKeptBut_25 (by decide) ?_
      have hl := lv_sub (l' := [(0, .ref h0), (1, .int (nI h)), (2, .int (nI (xf_cnt (fcKB fg fk fc h) t))), (3, .int (nI (t + 1)))]) hl [1, 2, 3, 0] rfl
      have hl : lv_has ls 4 [(0, .ref h0), (1, .int (nI h)), (2, .int (nI (xf_cnt (fcKB fg fk fc h) (t + 1)))), (3, .int (nI (t + 1)))] := xf_lv hl (by simp [xf_cnt, c7, c16])
      exact ih4 (t + 1) ls (by show 40 - (t + 1) < 40 - t; omega) (by show (t + 1) ≤ 40; omega) hl
    ·
      refine lv_iinc (v := nI (xf_cnt (fcKB fg fk fc h) t + 1)) (lv' := [(2, .int (nI (xf_cnt (fcKB fg fk fc h) t + 1))), (0, .ref h0), (1, .int (nI h)), (3, .int (nI t))]) hx hb dX0_countKeptBut_19 hl (k := 2) rfl (by exact nI_1 (xf_cnt (fcKB fg fk fc h) t)) (by decide) rfl (fun ls hl => ?_)
      refine lv_iinc (v := nI (t + 1)) (lv' := [(3, .int (nI (t + 1))), (2, .int (nI (xf_cnt (fcKB fg fk fc h) t + 1))), (0, .ref h0), (1, .int (nI h))]) hx hb dX0_countKeptBut_22 hl (k := 3) rfl (by exact nI_1 t) (by decide) rfl (fun ls hl => ?_)
      refine lv_goto (tgt := 4) hx hb dX0_countKeptBut_25 (by decide) ?_
      have hl := lv_sub (l' := [(0, .ref h0), (1, .int (nI h)), (2, .int (nI (xf_cnt (fcKB fg fk fc h) t + 1))), (3, .int (nI (t + 1)))]) hl [2, 3, 1, 0] rfl
      have hl : lv_has ls 4 [(0, .ref h0), (1, .int (nI h)), (2, .int (nI (xf_cnt (fcKB fg fk fc h) (t + 1)))), (3, .int (nI (t + 1)))] := xf_lv hl (by simp [xf_cnt, c7, c16])
      exact ih4 (t + 1) ls (by show 40 - (t + 1) < 40 - t; omega) (by show (t + 1) ≤ 40; omega) hl
set_option maxHeartbeats 4000000 in
set_option maxRecDepth 100000 in
/-- countWithAny(h, set) -/
theorem k_countWithAny (l : Launch) (dC : Nat → ClassId) (dI : Nat → Nat → Nat) (h0 a1 a2 a3 a4 a5 a6 : Nat) (cI : ClassId) (fg fk fu fc fb fn : Nat → Int32) (rc : Int32) (h : Nat) (hh : h < 8) (set : Int32) : Met l yX0_countWithAny wsX0_countWithAny ({ frames := 3, cells := 0, slots := 0, locals := 67 }) (va_Pc [.ref h0, .int (nI h), .int set] (fun U => va_P (dC, dI) fmCl (fw h0 a1 a2 a3 a4 a5 a6 cI fg fk fu fc fb fn rc) U.heap ∧ va_K (dC, dI) fmCl [(cI, .int)] U)) (vp_Si (fun r => r = nI (xf_cnt (fcWA fg fk fc h set) 40))) 0 0 (fun _ => False) := by
  refine Met.ofW (cc := cX0_countWithAny) (maxL := 5) (ret := (some .int)) (by decide) rfl ?_
  intro p e s m args below meth c s₁ B hml hv
  obtain ⟨rfl, hP, hK⟩ := hv
  have hx := B.exec
  have hb := B.bytes
  have hr := B.returns
  have hts := atoms_spec (ws := wsX0_countWithAny) B.pre
  have hown : s.vm.findClass RX0 = some m.cls := findClass_of_methodNamed B.named
  have hlocks := B.notSynchronized
  have hl := lv_entry ([.ref h0, .int (nI h), .int set]) (n := 5) (Nat.le_of_ble_eq_true rfl)
  rw [lg_entry_eq]
  generalize (lg_sl ([.ref h0, .int (nI h), .int set]) ++ List.replicate (5 - (lg_sl ([.ref h0, .int (nI h), .int set])).length) Slot.unset).toArray = ls at hl ⊢
  have hl : lv_has ls 5 [(0, .ref h0), (1, .int (nI h)), (2, .int set)] := hl
  refine lv_iconst (v := nI 0) hx hb dX0_countWithAny_0 (by decide) ?_
  refine lv_istore_n (lv' := [(3, .int (nI 0)), (0, .ref h0), (1, .int (nI h)), (2, .int set)]) hx hb dX0_countWithAny_1 rfl hl (by decide) rfl (fun ls hl => ?_)
  refine lv_iconst (v := nI 0) hx hb dX0_countWithAny_2 (by decide) ?_
  refine lv_istore (lv' := [(4, .int (nI 0)), (3, .int (nI 0)), (0, .ref h0), (1, .int (nI h)), (2, .int set)]) hx hb dX0_countWithAny_3 hl (by decide) rfl (fun ls hl => ?_)
  refine xf_loopS (σ := Nat) (fun (z9 : Nat) => 40 - z9) (fun (z9 : Nat) => [(0, .ref h0), (1, .int (nI h)), (2, .int set), (3, .int (nI (xf_cnt (fcWA fg fk fc h set) z9))), (4, .int (nI z9))]) (fun (z9 : Nat) => z9 ≤ 40) 0 (lv_sub hl [2, 3, 4, 1, 0] rfl) (Nat.zero_le _) (fun z9 ls hi hl ih5 => ?_)
  obtain ⟨t, hxe⟩ : ∃ z, z = z9 := ⟨_, rfl⟩
  subst hxe
  have hl : lv_has ls 5 [(0, .ref h0), (1, .int (nI h)), (2, .int set), (3, .int (nI (xf_cnt (fcWA fg fk fc h set) t))), (4, .int (nI t))] := hl
  have hi : t ≤ 40 := hi
  refine lv_iload hx hb dX0_countWithAny_5 (lv_at hl 4 rfl) ?_
  refine lv_bipush (v := nI 40) hx hb dX0_countWithAny_7 (by decide) ?_
  refine xf_ge (tgt := 43) hx hb dX0_countWithAny_9 (by decide) (by omega) (by omega) (fun c9 => ?_) (fun c9 => ?_)
  ·
    refine lv_iload_n hx hb dX0_countWithAny_43 rfl (lv_at hl 3 rfl) ?_
    exact W.iret (v := nI (xf_cnt (fcWA fg fk fc h set) t)) hx hb hr (fun t9 ht9 hW9 => ⟨_, rfl, by rw [show t = 40 from by omega], ht9⟩) (fun q h => nomatch h) dX0_countWithAny_44
  ·
    refine lv_aload_n hx hb dX0_countWithAny_12 rfl (lv_at hl 0 rfl) ?_
    refine lv_iload hx hb dX0_countWithAny_13 (lv_at hl 4 rfl) ?_
    refine lv_iload_n hx hb dX0_countWithAny_15 rfl (lv_at hl 1 rfl) ?_
    refine vp_callSi (W.runV (As := [.int (nI t), .int (nI h)]) (rest := []) ⟨hx, hb, hml, hown, hts⟩ (k_valuesOf l dC dI h0 a1 a2 a3 a4 a5 a6 cI fg fk fu fc fb fn rc t h (by omega) (by omega)) (cwV 2 hts gX0_countWithAny_X0_valuesOf rfl rfl rfl (by decide +kernel) ⟨Nat.le_of_ble_eq_true rfl, Nat.le_of_ble_eq_true rfl⟩) (xf_preV (ci := 0) (RX0, TX0, 7) hK hP rfl rfl) rfl rfl hl.1 rfl (lv_room (Nat.le_of_ble_eq_true rfl)) dX0_countWithAny_16 ⟨Nat.zero_le _, Nat.zero_le _⟩) (fun r hr9 => ?_)
    subst hr9
    refine lv_iload_n hx hb dX0_countWithAny_19 rfl (lv_at hl 2 rfl) ?_
    refine lv_iand hx hb dX0_countWithAny_20 ?_
    refine lv_if_eq (tgt := 37) hx hb dX0_countWithAny_21 (by decide) (fun c21 => ?_) (fun c21 => ?_)
    ·
      refine lv_iinc (v := nI (t + 1)) (lv' := [(4, .int (nI (t + 1))), (0, .ref h0), (1, .int (nI h)), (2, .int set), (3, .int (nI (xf_cnt (fcWA fg fk fc h set) t)))]) hx hb dX0_countWithAny_37 hl (k := 4) rfl (by exact nI_1 t) (by decide) rfl (fun ls hl => ?_)
      refine lv_goto (tgt := 5) hx hb dX0_countWithAny_40 (by decide) ?_
      have hl := lv_sub (l' := [(0, .ref h0), (1, .int (nI h)), (2, .int set), (3, .int (nI (xf_cnt (fcWA fg fk fc h set) t))), (4, .int (nI (t + 1)))]) hl [1, 2, 3, 4, 0] rfl
      have hl : lv_has ls 5 [(0, .ref h0), (1, .int (nI h)), (2, .int set), (3, .int (nI (xf_cnt (fcWA fg fk fc h set) (t + 1)))), (4, .int (nI (t + 1)))] := xf_lv hl (by simp [xf_cnt, fcWA, c9, c21])
      exact ih5 (t + 1) ls (by show 40 - (t + 1) < 40 - t; omega) (by show (t + 1) ≤ 40; omega) hl
    ·
      refine lv_aload_n hx hb dX0_countWithAny_24 rfl (lv_at hl 0 rfl) ?_
      refine lv_iload hx hb dX0_countWithAny_25 (lv_at hl 4 rfl) ?_
      refine lv_iload_n hx hb dX0_countWithAny_27 rfl (lv_at hl 1 rfl) ?_
      refine vp_callSi (W.runV (As := [.int (nI t), .int (nI h)]) (rest := []) ⟨hx, hb, hml, hown, hts⟩ (k_isKeptBut l dC dI h0 a1 a2 a3 a4 a5 a6 cI fg fk fu fc fb fn rc t h (by omega) (by omega)) (cwV 2 hts gX0_countWithAny_X0_isKeptBut rfl rfl rfl (by decide +kernel) ⟨Nat.le_of_ble_eq_true rfl, Nat.le_of_ble_eq_true rfl⟩) (xf_preV (ci := 0) (RX0, TX0, 7) hK hP rfl rfl) rfl rfl hl.1 rfl (lv_room (Nat.le_of_ble_eq_true rfl)) dX0_countWithAny_28 ⟨Nat.zero_le _, Nat.zero_le _⟩) (fun r hr9 => ?_)
      subst hr9
      refine xf_Beq (tgt := 37) hx hb dX0_countWithAny_31 (by decide) (fun c31 => ?_) (fun c31 => ?_)
      ·
        refine lv_iinc (v := nI (t + 1)) (lv' := [(4, .int (nI (t + 1))), (0, .ref h0), (1, .int (nI h)), (2, .int set), (3, .int (nI (xf_cnt (fcWA fg fk fc h set) t)))]) hx hb dX0_countWithAny_37 hl (k := 4) rfl (by exact nI_1 t) (by decide) rfl (fun ls hl => ?_)
        refine lv_goto (tgt := 5) hx hb dX0_countWithAny_40 (by decide) ?_
        have hl := lv_sub (l' := [(0, .ref h0), (1, .int (nI h)), (2, .int set), (3, .int (nI (xf_cnt (fcWA fg fk fc h set) t))), (4, .int (nI (t + 1)))]) hl [1, 2, 3, 4, 0] rfl
        have hl : lv_has ls 5 [(0, .ref h0), (1, .int (nI h)), (2, .int set), (3, .int (nI (xf_cnt (fcWA fg fk fc h set) (t + 1)))), (4, .int (nI (t + 1)))] := xf_lv hl (by simp [xf_cnt, fcWA, c9, c21, c31])
        exact ih5 (t + 1) ls (by show 40 - (t + 1) < 40 - t; omega) (by show (t + 1) ≤ 40; omega) hl
      ·
        refine lv_iinc (v := nI (xf_cnt (fcWA fg fk fc h set) t + 1)) (lv' := [(3, .int (nI (xf_cnt (fcWA fg fk fc h set) t + 1))), (0, .ref h0), (1, .int (nI h)), (2, .int set), (4, .int (nI t))]) hx hb dX0_countWithAny_34 hl (k := 3) rfl (by exact nI_1 (xf_cnt (fcWA fg fk fc h set) t)) (by decide) rfl (fun ls hl => ?_)
        refine lv_iinc (v := nI (t + 1)) (lv' := [(4, .int (nI (t + 1))), (3, .int (nI (xf_cnt (fcWA fg fk fc h set) t + 1))), (0, .ref h0), (1, .int (nI h)), (2, .int set)]) hx hb dX0_countWithAny_37 hl (k := 4) rfl (by exact nI_1 t) (by decide) rfl (fun ls hl => ?_)
        refine lv_goto (tgt := 5) hx hb dX0_countWithAny_40 (by decide) ?_
        have hl := lv_sub (l' := [(0, .ref h0), (1, .int (nI h)), (2, .int set), (3, .int (nI (xf_cnt (fcWA fg fk fc h set) t + 1))), (4, .int (nI (t + 1)))]) hl [2, 3, 4, 1, 0] rfl
        have hl : lv_has ls 5 [(0, .ref h0), (1, .int (nI h)), (2, .int set), (3, .int (nI (xf_cnt (fcWA fg fk fc h set) (t + 1)))), (4, .int (nI (t + 1)))] := xf_lv hl (by simp [xf_cnt, fcWA, c9, c21, c31])
        exact ih5 (t + 1) ls (by show 40 - (t + 1) < 40 - t; omega) (by show (t + 1) ≤ 40; omega) hl
set_option maxHeartbeats 4000000 in
set_option maxRecDepth 100000 in
/-- rankOf(h, v) -/
theorem k_rankOf (l : Launch) (dC : Nat → ClassId) (dI : Nat → Nat → Nat) (h0 a1 a2 a3 a4 a5 a6 : Nat) (cI : ClassId) (fg fk fu fc fb fn : Nat → Int32) (rc : Int32) (h v : Nat) (hh : h < 8) (hv9 : v < 32) : Met l yX0_rankOf wsX0_rankOf ({ frames := 0, cells := 0, slots := 0, locals := 0 }) (va_Pc [.ref h0, .int (nI h), .int (nI v)] (fun U => va_P (dC, dI) fmCl (fw h0 a1 a2 a3 a4 a5 a6 cI fg fk fu fc fb fn rc) U.heap ∧ va_K (dC, dI) fmCl [(cI, .int)] U)) (vp_Si (fun r => r = nI (xf_cnt (fcRkP fn h v) 32))) 0 0 (fun _ => False) := by
  refine Met.ofW (cc := cX0_rankOf) (maxL := 7) (ret := (some .int)) (by decide) rfl ?_
  intro p e s m args below meth c s₁ B hml hv
  obtain ⟨rfl, hP, hK⟩ := hv
  have hx := B.exec
  have hb := B.bytes
  have hr := B.returns
  have hts := atoms_spec (ws := wsX0_rankOf) B.pre
  have hown : s.vm.findClass RX0 = some m.cls := findClass_of_methodNamed B.named
  have hlocks := B.notSynchronized
  have hin : ∀ w ∈ u_ws RX0 TX0 7, w ∈ wsX0_rankOf := by decide +kernel
  have hf_counts := hts (.fieldLink RX0 25 "FacetCounts" "counts" "[I") (by decide +kernel)
  have hl := lv_entry ([.ref h0, .int (nI h), .int (nI v)]) (n := 7) (Nat.le_of_ble_eq_true rfl)
  rw [lg_entry_eq]
  generalize (lg_sl ([.ref h0, .int (nI h), .int (nI v)]) ++ List.replicate (7 - (lg_sl ([.ref h0, .int (nI h), .int (nI v)])).length) Slot.unset).toArray = ls at hl ⊢
  have hl : lv_has ls 7 [(0, .ref h0), (1, .int (nI h)), (2, .int (nI v))] := hl
  refine lv_aload_n hx hb dX0_rankOf_0 rfl (lv_at hl 0 rfl) ?_
  refine va_get (D := (dC, dI)) (ci := 0) (v := .ref a6) (C := RX0) (T := TX0) (N := 7) hx hb hts hin hown hK hP 0 rfl rfl 5 (by decide) hf_counts (fun _ h9 => h9) rfl dX0_rankOf_1 ?_
  refine lv_iload_n hx hb dX0_rankOf_4 rfl (lv_at hl 1 rfl) ?_
  refine lv_bipush (v := nI 32) hx hb dX0_rankOf_5 (by decide) ?_
  refine lv_imul hx hb dX0_rankOf_7 ?_
  refine xf_be (y := nI (h * 32)) (by exact pk_mul _ _) ?_
  refine lv_iload_n hx hb dX0_rankOf_8 rfl (lv_at hl 2 rfl) ?_
  refine lv_iadd hx hb dX0_rankOf_9 ?_
  refine xf_be (y := nI (h * 32 + v)) (by exact nI_add _ _) ?_
  refine xf_iald hx hb hK hP 6 0 rfl rfl (j := (h * 32 + v)) (by omega) (by decide) dX0_rankOf_10 ?_
  refine lv_istore_n (lv' := [(3, .int (fn (h * 32 + v))), (0, .ref h0), (1, .int (nI h)), (2, .int (nI v))]) hx hb dX0_rankOf_11 rfl hl (by decide) rfl (fun ls hl => ?_)
  refine lv_iconst (v := nI 0) hx hb dX0_rankOf_12 (by decide) ?_
  refine lv_istore (lv' := [(4, .int (nI 0)), (3, .int (fn (h * 32 + v))), (0, .ref h0), (1, .int (nI h)), (2, .int (nI v))]) hx hb dX0_rankOf_13 hl (by decide) rfl (fun ls hl => ?_)
  refine lv_iconst (v := nI 0) hx hb dX0_rankOf_15 (by decide) ?_
  refine lv_istore (lv' := [(5, .int (nI 0)), (4, .int (nI 0)), (3, .int (fn (h * 32 + v))), (0, .ref h0), (1, .int (nI h)), (2, .int (nI v))]) hx hb dX0_rankOf_16 hl (by decide) rfl (fun ls hl => ?_)
  refine xf_loopS (σ := Nat) (fun (z9 : Nat) => 32 - z9) (fun (z9 : Nat) => [(0, .ref h0), (1, .int (nI h)), (2, .int (nI v)), (3, .int (fn (h * 32 + v))), (4, .int (nI (xf_cnt (fcRkP fn h v) z9))), (5, .int (nI z9))]) (fun (z9 : Nat) => z9 ≤ 32) 0 (lv_sub hl [3, 4, 5, 2, 1, 0] rfl) (Nat.zero_le _) (fun z9 ls hi hl ih18 => ?_)
  obtain ⟨q, hxe⟩ : ∃ z, z = z9 := ⟨_, rfl⟩
  subst hxe
  have hl : lv_has ls 7 [(0, .ref h0), (1, .int (nI h)), (2, .int (nI v)), (3, .int (fn (h * 32 + v))), (4, .int (nI (xf_cnt (fcRkP fn h v) q))), (5, .int (nI q))] := hl
  have hi : q ≤ 32 := hi
  refine lv_iload hx hb dX0_rankOf_18 (lv_at hl 5 rfl) ?_
  refine lv_bipush (v := nI 32) hx hb dX0_rankOf_20 (by decide) ?_
  refine xf_ge (tgt := 66) hx hb dX0_rankOf_22 (by decide) (by omega) (by omega) (fun c22 => ?_) (fun c22 => ?_)
  ·
    refine lv_iload hx hb dX0_rankOf_66 (lv_at hl 4 rfl) ?_
    exact W.iret (v := nI (xf_cnt (fcRkP fn h v) q)) hx hb hr (fun t9 ht9 hW9 => ⟨_, rfl, by rw [show q = 32 from by omega], ht9⟩) (fun q h => nomatch h) dX0_rankOf_68
  ·
    refine lv_aload_n hx hb dX0_rankOf_25 rfl (lv_at hl 0 rfl) ?_
    refine va_get (D := (dC, dI)) (ci := 0) (v := .ref a6) (C := RX0) (T := TX0) (N := 7) hx hb hts hin hown hK hP 0 rfl rfl 5 (by decide) hf_counts (fun _ h9 => h9) rfl dX0_rankOf_26 ?_
    refine lv_iload_n hx hb dX0_rankOf_29 rfl (lv_at hl 1 rfl) ?_
    refine lv_bipush (v := nI 32) hx hb dX0_rankOf_30 (by decide) ?_
    refine lv_imul hx hb dX0_rankOf_32 ?_
    refine xf_be (y := nI (h * 32)) (by exact pk_mul _ _) ?_
    refine lv_iload hx hb dX0_rankOf_33 (lv_at hl 5 rfl) ?_
    refine lv_iadd hx hb dX0_rankOf_35 ?_
    refine xf_be (y := nI (h * 32 + q)) (by exact nI_add _ _) ?_
    refine xf_iald hx hb hK hP 6 0 rfl rfl (j := (h * 32 + q)) (by omega) (by decide) dX0_rankOf_36 ?_
    refine lv_istore (lv' := [(6, .int (fn (h * 32 + q))), (0, .ref h0), (1, .int (nI h)), (2, .int (nI v)), (3, .int (fn (h * 32 + v))), (4, .int (nI (xf_cnt (fcRkP fn h v) q))), (5, .int (nI q))]) hx hb dX0_rankOf_37 hl (by decide) rfl (fun ls hl => ?_)
    refine lv_iload hx hb dX0_rankOf_39 (lv_at hl 0 rfl) ?_
    refine lv_iload_n hx hb dX0_rankOf_41 rfl (lv_at hl 4 rfl) ?_
    refine lv_icmp_gt (tgt := 57) hx hb dX0_rankOf_42 (by decide) (fun c42 => ?_) (fun c42 => ?_)
    ·
      refine lv_iinc (v := nI (xf_cnt (fcRkP fn h v) q + 1)) (lv' := [(4, .int (nI (xf_cnt (fcRkP fn h v) q + 1))), (6, .int (fn (h * 32 + q))), (0, .ref h0), (1, .int (nI h)), (2, .int (nI v)), (3, .int (fn (h * 32 + v))), (5, .int (nI q))]) hx hb dX0_rankOf_57 hl (k := 5) rfl (by exact nI_1 (xf_cnt (fcRkP fn h v) q)) (by decide) rfl (fun ls hl => ?_)
      refine lv_iinc (v := nI (q + 1)) (lv' := [(5, .int (nI (q + 1))), (4, .int (nI (xf_cnt (fcRkP fn h v) q + 1))), (6, .int (fn (h * 32 + q))), (0, .ref h0), (1, .int (nI h)), (2, .int (nI v)), (3, .int (fn (h * 32 + v)))]) hx hb dX0_rankOf_60 hl (k := 6) rfl (by exact nI_1 q) (by decide) rfl (fun ls hl => ?_)
      refine lv_goto (tgt := 18) hx hb dX0_rankOf_63 (by decide) ?_
      have e9 : fcRkP fn h v q = true := by unfold fcRkP; rw [decide_eq_true c42, Bool.true_or]
      have hl := lv_sub (l' := [(0, .ref h0), (1, .int (nI h)), (2, .int (nI v)), (3, .int (fn (h * 32 + v))), (4, .int (nI (xf_cnt (fcRkP fn h v) q + 1))), (5, .int (nI (q + 1)))]) hl [3, 4, 5, 6, 1, 0] rfl
      have hl : lv_has ls 7 [(0, .ref h0), (1, .int (nI h)), (2, .int (nI v)), (3, .int (fn (h * 32 + v))), (4, .int (nI (xf_cnt (fcRkP fn h v) (q + 1)))), (5, .int (nI (q + 1)))] := xf_lv hl (by simp [xf_cnt, e9])
      exact ih18 (q + 1) ls (by show 32 - (q + 1) < 32 - q; omega) (by show (q + 1) ≤ 32; omega) hl
    ·
      refine lv_iload hx hb dX0_rankOf_45 (lv_at hl 0 rfl) ?_
      refine lv_iload_n hx hb dX0_rankOf_47 rfl (lv_at hl 4 rfl) ?_
      refine lv_icmp_ne (tgt := 60) hx hb dX0_rankOf_48 (by decide) (fun c48 => ?_) (fun c48 => ?_)
      ·
        refine lv_iinc (v := nI (q + 1)) (lv' := [(5, .int (nI (q + 1))), (6, .int (fn (h * 32 + q))), (0, .ref h0), (1, .int (nI h)), (2, .int (nI v)), (3, .int (fn (h * 32 + v))), (4, .int (nI (xf_cnt (fcRkP fn h v) q)))]) hx hb dX0_rankOf_60 hl (k := 6) rfl (by exact nI_1 q) (by decide) rfl (fun ls hl => ?_)
        refine lv_goto (tgt := 18) hx hb dX0_rankOf_63 (by decide) ?_
        have e9 : fcRkP fn h v q = false := by unfold fcRkP; rw [decide_eq_false c42, decide_eq_false c48]; rfl
        have hl := lv_sub (l' := [(0, .ref h0), (1, .int (nI h)), (2, .int (nI v)), (3, .int (fn (h * 32 + v))), (4, .int (nI (xf_cnt (fcRkP fn h v) q))), (5, .int (nI (q + 1)))]) hl [2, 3, 4, 5, 6, 0] rfl
        have hl : lv_has ls 7 [(0, .ref h0), (1, .int (nI h)), (2, .int (nI v)), (3, .int (fn (h * 32 + v))), (4, .int (nI (xf_cnt (fcRkP fn h v) (q + 1)))), (5, .int (nI (q + 1)))] := xf_lv hl (by simp [xf_cnt, e9])
        exact ih18 (q + 1) ls (by show 32 - (q + 1) < 32 - q; omega) (by show (q + 1) ≤ 32; omega) hl
      ·
        refine lv_iload hx hb dX0_rankOf_51 (lv_at hl 6 rfl) ?_
        refine lv_iload_n hx hb dX0_rankOf_53 rfl (lv_at hl 3 rfl) ?_
        refine xf_ge (tgt := 60) hx hb dX0_rankOf_54 (by decide) (by omega) (by omega) (fun c54 => ?_) (fun c54 => ?_)
        ·
          refine lv_iinc (v := nI (q + 1)) (lv' := [(5, .int (nI (q + 1))), (6, .int (fn (h * 32 + q))), (0, .ref h0), (1, .int (nI h)), (2, .int (nI v)), (3, .int (fn (h * 32 + v))), (4, .int (nI (xf_cnt (fcRkP fn h v) q)))]) hx hb dX0_rankOf_60 hl (k := 6) rfl (by exact nI_1 q) (by decide) rfl (fun ls hl => ?_)
          refine lv_goto (tgt := 18) hx hb dX0_rankOf_63 (by decide) ?_
          have e9 : fcRkP fn h v q = false := by unfold fcRkP; rw [decide_eq_false c42, decide_eq_true c48, decide_eq_false (show ¬ q < v by omega)]; rfl
          have hl := lv_sub (l' := [(0, .ref h0), (1, .int (nI h)), (2, .int (nI v)), (3, .int (fn (h * 32 + v))), (4, .int (nI (xf_cnt (fcRkP fn h v) q))), (5, .int (nI (q + 1)))]) hl [2, 3, 4, 5, 6, 0] rfl
          have hl : lv_has ls 7 [(0, .ref h0), (1, .int (nI h)), (2, .int (nI v)), (3, .int (fn (h * 32 + v))), (4, .int (nI (xf_cnt (fcRkP fn h v) (q + 1)))), (5, .int (nI (q + 1)))] := xf_lv hl (by simp [xf_cnt, e9])
          exact ih18 (q + 1) ls (by show 32 - (q + 1) < 32 - q; omega) (by show (q + 1) ≤ 32; omega) hl
        ·
          refine lv_iinc (v := nI (xf_cnt (fcRkP fn h v) q + 1)) (lv' := [(4, .int (nI (xf_cnt (fcRkP fn h v) q + 1))), (6, .int (fn (h * 32 + q))), (0, .ref h0), (1, .int (nI h)), (2, .int (nI v)), (3, .int (fn (h * 32 + v))), (5, .int (nI q))]) hx hb dX0_rankOf_57 hl (k := 5) rfl (by exact nI_1 (xf_cnt (fcRkP fn h v) q)) (by decide) rfl (fun ls hl => ?_)
          refine lv_iinc (v := nI (q + 1)) (lv' := [(5, .int (nI (q + 1))), (4, .int (nI (xf_cnt (fcRkP fn h v) q + 1))), (6, .int (fn (h * 32 + q))), (0, .ref h0), (1, .int (nI h)), (2, .int (nI v)), (3, .int (fn (h * 32 + v)))]) hx hb dX0_rankOf_60 hl (k := 6) rfl (by exact nI_1 q) (by decide) rfl (fun ls hl => ?_)
          refine lv_goto (tgt := 18) hx hb dX0_rankOf_63 (by decide) ?_
          have e9 : fcRkP fn h v q = true := by unfold fcRkP; rw [decide_eq_false c42, decide_eq_true c48, decide_eq_true c54]; rfl
          have hl := lv_sub (l' := [(0, .ref h0), (1, .int (nI h)), (2, .int (nI v)), (3, .int (fn (h * 32 + v))), (4, .int (nI (xf_cnt (fcRkP fn h v) q + 1))), (5, .int (nI (q + 1)))]) hl [3, 4, 5, 6, 1, 0] rfl
          have hl : lv_has ls 7 [(0, .ref h0), (1, .int (nI h)), (2, .int (nI v)), (3, .int (fn (h * 32 + v))), (4, .int (nI (xf_cnt (fcRkP fn h v) (q + 1)))), (5, .int (nI (q + 1)))] := xf_lv hl (by simp [xf_cnt, e9])
          exact ih18 (q + 1) ls (by show 32 - (q + 1) < 32 - q; omega) (by show (q + 1) ≤ 32; omega) hl
end
section
set_option maxHeartbeats 4000000 in
set_option maxRecDepth 100000 in
/-- renewKinds(t) -/
theorem k_renewKinds (l : Launch) (dC : Nat → ClassId) (dI : Nat → Nat → Nat) (h0 a1 a2 a3 a4 a5 a6 : Nat) (cI : ClassId) (fg fk fu fc fb fn : Nat → Int32) (rc : Int32) (t : Nat) (ht : t < 40) : Met l yX0_renewKinds wsX0_renewKinds ({ frames := 2, cells := 0, slots := 0, locals := 46 }) (va_Pc [.ref h0, .int (nI t)] (fun U => va_P (dC, dI) fmCl (fw h0 a1 a2 a3 a4 a5 a6 cI fg fk fu fc fb fn rc) U.heap ∧ va_K (dC, dI) fmCl [(cI, .int)] U ∧ va_D (fun _ => True) (fw h0 a1 a2 a3 a4 a5 a6 cI fg fk fu fc fb fn rc))) (va_Qv (fun u : FcS => u = (fg, upd fk t (fcRK fu (fg (t * 8)) 32), fu, fc, fb, fn, rc)) (fun u t => va_P (dC, dI) fmCl (fw h0 a1 a2 a3 a4 a5 a6 cI u.1 u.2.1 u.2.2.1 u.2.2.2.1 u.2.2.2.2.1 u.2.2.2.2.2.1 u.2.2.2.2.2.2) t.heap) (xf_A (fw h0 a1 a2 a3 a4 a5 a6 cI fg fk fu fc fb fn rc))) 0 0 (xf_A (fw h0 a1 a2 a3 a4 a5 a6 cI fg fk fu fc fb fn rc)) := by
  refine Met.ofW (cc := cX0_renewKinds) (maxL := 5) (ret := none) (by decide) rfl ?_
  intro p e s m args below meth c s₁ B hml hv
  obtain ⟨rfl, hP, hK, hD0⟩ := hv
  have hx := B.exec
  have hb := B.bytes
  have hr := B.returns
  have hts := atoms_spec (ws := wsX0_renewKinds) B.pre
  have hown : s.vm.findClass RX0 = some m.cls := findClass_of_methodNamed B.named
  have hlocks := B.notSynchronized
  have hin : ∀ w ∈ u_ws RX0 TX0 7, w ∈ wsX0_renewKinds := by decide +kernel
  have hf_given := hts (.fieldLink RX0 9 "FacetCounts" "given" "[I") (by decide +kernel)
  have hf_kinds := hts (.fieldLink RX0 13 "FacetCounts" "kinds" "[I") (by decide +kernel)
  have hD := xf_A_self hD0
  generalize hAe : xf_A (fw h0 a1 a2 a3 a4 a5 a6 cI fg fk fu fc fb fn rc) = A at hD ⊢
  have hS : va_S A s.heap s.heap [] := va_S.rf
  have hP : va_P (dC, dI) fmCl (fw h0 a1 a2 a3 a4 a5 a6 cI fg fk fu fc fb fn rc) s.heap := hP
  have hl := lv_entry ([.ref h0, .int (nI t)]) (n := 5) (Nat.le_of_ble_eq_true rfl)
  rw [lg_entry_eq]
  generalize (lg_sl ([.ref h0, .int (nI t)]) ++ List.replicate (5 - (lg_sl ([.ref h0, .int (nI t)])).length) Slot.unset).toArray = ls at hl ⊢
  have hl : lv_has ls 5 [(0, .ref h0), (1, .int (nI t))] := hl
  refine lv_aload_n hx hb dX0_renewKinds_0 rfl (lv_at hl 0 rfl) ?_
  refine va_get (D := (dC, dI)) (ci := 0) (v := .ref a1) (C := RX0) (T := TX0) (N := 7) hx hb hts hin hown hK hP 0 rfl rfl 0 (by decide) hf_given (fun _ h9 => h9) rfl dX0_renewKinds_1 ?_
  refine lv_iload_n hx hb dX0_renewKinds_4 rfl (lv_at hl 1 rfl) ?_
  refine lv_bipush (v := nI 8) hx hb dX0_renewKinds_5 (by decide) ?_
  refine lv_imul hx hb dX0_renewKinds_7 ?_
  refine xf_be (y := nI (t * 8)) (by exact pk_mul _ _) ?_
  refine lv_iconst (v := nI 0) hx hb dX0_renewKinds_8 (by decide) ?_
  refine lv_iadd hx hb dX0_renewKinds_9 ?_
  refine xf_be (y := nI (t * 8)) (nI_add (t * 8) 0) ?_
  refine xf_iald hx hb hK hP 1 0 rfl rfl (j := (t * 8)) (by omega) (by decide) dX0_renewKinds_10 ?_
  refine lv_istore_n (lv' := [(2, .int (fg (t * 8))), (0, .ref h0), (1, .int (nI t))]) hx hb dX0_renewKinds_11 rfl hl (by decide) rfl (fun ls hl => ?_)
  refine lv_iconst (v := nI 0) hx hb dX0_renewKinds_12 (by decide) ?_
  refine lv_istore_n (lv' := [(3, .int (nI 0)), (2, .int (fg (t * 8))), (0, .ref h0), (1, .int (nI t))]) hx hb dX0_renewKinds_13 rfl hl (by decide) rfl (fun ls hl => ?_)
  refine lv_iconst (v := nI 0) hx hb dX0_renewKinds_14 (by decide) ?_
  refine lv_istore (lv' := [(4, .int (nI 0)), (3, .int (nI 0)), (2, .int (fg (t * 8))), (0, .ref h0), (1, .int (nI t))]) hx hb dX0_renewKinds_15 hl (by decide) rfl (fun ls hl => ?_)
  refine xf_loopS (σ := Nat) (fun (z9 : Nat) => 32 - z9) (fun (z9 : Nat) => [(0, .ref h0), (1, .int (nI t)), (2, .int (fg (t * 8))), (3, .int (fcRK fu (fg (t * 8)) z9)), (4, .int (nI z9))]) (fun (z9 : Nat) => z9 ≤ 32) 0 (lv_sub hl [3, 4, 2, 1, 0] rfl) (Nat.zero_le _) (fun z9 ls hi hl ih17 => ?_)
  obtain ⟨k, hxe⟩ : ∃ z, z = z9 := ⟨_, rfl⟩
  subst hxe
  have hl : lv_has ls 5 [(0, .ref h0), (1, .int (nI t)), (2, .int (fg (t * 8))), (3, .int (fcRK fu (fg (t * 8)) k)), (4, .int (nI k))] := hl
  have hi : k ≤ 32 := hi
  refine lv_iload hx hb dX0_renewKinds_17 (lv_at hl 4 rfl) ?_
  refine lv_bipush (v := nI 32) hx hb dX0_renewKinds_19 (by decide) ?_
  refine xf_ge (tgt := 47) hx hb dX0_renewKinds_21 (by decide) (by omega) (by omega) (fun c21 => ?_) (fun c21 => ?_)
  ·
    obtain rfl : k = 32 := by omega
    refine lv_aload_n hx hb dX0_renewKinds_47 rfl (lv_at hl 0 rfl) ?_
    refine va_get (D := (dC, dI)) (ci := 0) (v := .ref a2) (C := RX0) (T := TX0) (N := 7) hx hb hts hin hown hK hP 0 rfl rfl 1 (by decide) hf_kinds (fun _ h9 => h9) rfl dX0_renewKinds_48 ?_
    refine lv_iload_n hx hb dX0_renewKinds_51 rfl (lv_at hl 1 rfl) ?_
    refine lv_iload_n hx hb dX0_renewKinds_52 rfl (lv_at hl 3 rfl) ?_
    refine xf_iast hx hb hK hP hD hS 2 0 rfl rfl (j := t) (by omega) (by decide) dX0_renewKinds_53 (fun H locs hP hD hS => ?_)
    have hP : va_P (dC, dI) fmCl (fw h0 a1 a2 a3 a4 a5 a6 cI fg (upd fk t (fcRK fu (fg (t * 8)) 32)) fu fc fb fn rc) H := hP
    have hD : va_D A (fw h0 a1 a2 a3 a4 a5 a6 cI fg (upd fk t (fcRK fu (fg (t * 8)) 32)) fu fc fb fn rc) := hD
    exact W.vret hx hb hr (fun t9 ht9 hW9 => ⟨⟨(fg, upd fk t (fcRK fu (fg (t * 8)) 32), fu, fc, fb, fn, rc), rfl, rfl, xf_hP ht9 hP⟩, hS.F ht9⟩) hS.2.2 dX0_renewKinds_54
  ·
    refine lv_iload_n hx hb dX0_renewKinds_24 rfl (lv_at hl 2 rfl) ?_
    refine lv_iload hx hb dX0_renewKinds_25 (lv_at hl 4 rfl) ?_
    refine vp_callSi (W.runS (As := [.int (fg (t * 8)), .int (nI k)]) (rest := []) ⟨hx, hb, hml, hown, hts⟩ (k_holds l (fg (t * 8)) k (by omega)) (va_cwS 2 hts gX0_renewKinds_X0_holds rfl rfl rfl (by decide +kernel) ⟨Nat.le_of_ble_eq_true rfl, Nat.le_of_ble_eq_true rfl⟩) (xf_preS0) rfl rfl hl.1 rfl (lv_room (Nat.le_of_ble_eq_true rfl)) dX0_renewKinds_27 ⟨Nat.zero_le _, Nat.zero_le _⟩) (fun r hr9 => ?_)
    subst hr9
    refine xf_Beq (tgt := 41) hx hb dX0_renewKinds_30 (by decide) (fun c30 => ?_) (fun c30 => ?_)
    ·
      refine lv_iinc (v := nI (k + 1)) (lv' := [(4, .int (nI (k + 1))), (0, .ref h0), (1, .int (nI t)), (2, .int (fg (t * 8))), (3, .int (fcRK fu (fg (t * 8)) k))]) hx hb dX0_renewKinds_41 hl (k := 4) rfl (by exact nI_1 k) (by decide) rfl (fun ls hl => ?_)
      refine lv_goto (tgt := 17) hx hb dX0_renewKinds_44 (by decide) ?_
      have hl := lv_sub (l' := [(0, .ref h0), (1, .int (nI t)), (2, .int (fg (t * 8))), (3, .int (fcRK fu (fg (t * 8)) k)), (4, .int (nI (k + 1)))]) hl [1, 2, 3, 4, 0] rfl
      have hl : lv_has ls 5 [(0, .ref h0), (1, .int (nI t)), (2, .int (fg (t * 8))), (3, .int (fcRK fu (fg (t * 8)) (k + 1))), (4, .int (nI (k + 1)))] := xf_lv hl (by simp [fcRK, c21, c30])
      exact ih17 (k + 1) ls (by show 32 - (k + 1) < 32 - k; omega) (by show (k + 1) ≤ 32; omega) hl
    ·
      refine lv_aload_n hx hb dX0_renewKinds_33 rfl (lv_at hl 0 rfl) ?_
      refine lv_iload hx hb dX0_renewKinds_34 (lv_at hl 4 rfl) ?_
      refine lv_iload_n hx hb dX0_renewKinds_36 rfl (lv_at hl 3 rfl) ?_
      refine vp_callSi (W.runV (As := [.int (nI k), .int (fcRK fu (fg (t * 8)) k)]) (rest := []) ⟨hx, hb, hml, hown, hts⟩ (k_withUppers l dC dI h0 a1 a2 a3 a4 a5 a6 cI fg fk fu fc fb fn rc (nI k) (fcRK fu (fg (t * 8)) k)) (cwV 2 hts gX0_renewKinds_X0_withUppers rfl rfl rfl (by decide +kernel) ⟨Nat.le_of_ble_eq_true rfl, Nat.le_of_ble_eq_true rfl⟩) (xf_preV (ci := 0) (RX0, TX0, 7) hK hP rfl rfl) rfl rfl hl.1 rfl (lv_room (Nat.le_of_ble_eq_true rfl)) dX0_renewKinds_37 ⟨Nat.zero_le _, Nat.zero_le _⟩) (fun r hr9 => ?_)
      subst hr9
      refine lv_istore_n (lv' := [(3, .int (fcWU fu 32 (nI k) (fcRK fu (fg (t * 8)) k))), (0, .ref h0), (1, .int (nI t)), (2, .int (fg (t * 8))), (4, .int (nI k))]) hx hb dX0_renewKinds_40 rfl hl (by decide) rfl (fun ls hl => ?_)
      refine lv_iinc (v := nI (k + 1)) (lv' := [(4, .int (nI (k + 1))), (3, .int (fcWU fu 32 (nI k) (fcRK fu (fg (t * 8)) k))), (0, .ref h0), (1, .int (nI t)), (2, .int (fg (t * 8)))]) hx hb dX0_renewKinds_41 hl (k := 4) rfl (by exact nI_1 k) (by decide) rfl (fun ls hl => ?_)
      refine lv_goto (tgt := 17) hx hb dX0_renewKinds_44 (by decide) ?_
      have hl := lv_sub (l' := [(0, .ref h0), (1, .int (nI t)), (2, .int (fg (t * 8))), (3, .int (fcWU fu 32 (nI k) (fcRK fu (fg (t * 8)) k))), (4, .int (nI (k + 1)))]) hl [2, 3, 4, 1, 0] rfl
      have hl : lv_has ls 5 [(0, .ref h0), (1, .int (nI t)), (2, .int (fg (t * 8))), (3, .int (fcRK fu (fg (t * 8)) (k + 1))), (4, .int (nI (k + 1)))] := xf_lv hl (by simp [fcRK, c21, c30])
      exact ih17 (k + 1) ls (by show 32 - (k + 1) < 32 - k; omega) (by show (k + 1) ≤ 32; omega) hl
set_option maxHeartbeats 4000000 in
set_option maxRecDepth 100000 in
/-- countValues(h, set) -/
theorem k_countValues (l : Launch) (dC : Nat → ClassId) (dI : Nat → Nat → Nat) (h0 a1 a2 a3 a4 a5 a6 : Nat) (cI : ClassId) (fg fk fu fc fb fn : Nat → Int32) (rc : Int32) (h : Nat) (hh : h < 8) (set : Int32) : Met l yX0_countValues wsX0_countValues ({ frames := 1, cells := 0, slots := 0, locals := 21 }) (va_Pc [.ref h0, .int (nI h), .int set] (fun U => va_P (dC, dI) fmCl (fw h0 a1 a2 a3 a4 a5 a6 cI fg fk fu fc fb fn rc) U.heap ∧ va_K (dC, dI) fmCl [(cI, .int)] U ∧ va_D (fun _ => True) (fw h0 a1 a2 a3 a4 a5 a6 cI fg fk fu fc fb fn rc))) (va_Qv (fun u : FcS => u = (fg, fk, fu, fc, fb, fcCW h set fn, rc)) (fun u t => va_P (dC, dI) fmCl (fw h0 a1 a2 a3 a4 a5 a6 cI u.1 u.2.1 u.2.2.1 u.2.2.2.1 u.2.2.2.2.1 u.2.2.2.2.2.1 u.2.2.2.2.2.2) t.heap) (xf_A (fw h0 a1 a2 a3 a4 a5 a6 cI fg fk fu fc fb fn rc))) 0 0 (xf_A (fw h0 a1 a2 a3 a4 a5 a6 cI fg fk fu fc fb fn rc)) := by
  refine Met.ofW (cc := cX0_countValues) (maxL := 4) (ret := none) (by decide) rfl ?_
  intro p e s m args below meth c s₁ B hml hv
  obtain ⟨rfl, hP, hK, hD0⟩ := hv
  have hx := B.exec
  have hb := B.bytes
  have hr := B.returns
  have hts := atoms_spec (ws := wsX0_countValues) B.pre
  have hown : s.vm.findClass RX0 = some m.cls := findClass_of_methodNamed B.named
  have hlocks := B.notSynchronized
  have hin : ∀ w ∈ u_ws RX0 TX0 7, w ∈ wsX0_countValues := by decide +kernel
  have hf_counts := hts (.fieldLink RX0 25 "FacetCounts" "counts" "[I") (by decide +kernel)
  have hD := xf_A_self hD0
  generalize hAe : xf_A (fw h0 a1 a2 a3 a4 a5 a6 cI fg fk fu fc fb fn rc) = A at hD ⊢
  have hS : va_S A s.heap s.heap [] := va_S.rf
  have hP : va_P (dC, dI) fmCl (fw h0 a1 a2 a3 a4 a5 a6 cI fg fk fu fc fb fn rc) s.heap := hP
  have hl := lv_entry ([.ref h0, .int (nI h), .int set]) (n := 4) (Nat.le_of_ble_eq_true rfl)
  rw [lg_entry_eq]
  generalize (lg_sl ([.ref h0, .int (nI h), .int set]) ++ List.replicate (4 - (lg_sl ([.ref h0, .int (nI h), .int set])).length) Slot.unset).toArray = ls at hl ⊢
  have hl : lv_has ls 4 [(0, .ref h0), (1, .int (nI h)), (2, .int set)] := hl
  refine lv_iload_n hx hb dX0_countValues_0 rfl (lv_at hl 2 rfl) ?_
  refine lv_if_ne (tgt := 5) hx hb dX0_countValues_1 (by decide) (fun c1 => ?_) (fun c1 => ?_)
  ·
    refine lv_iconst (v := nI 0) hx hb dX0_countValues_5 (by decide) ?_
    refine lv_istore_n (lv' := [(3, .int (nI 0)), (0, .ref h0), (1, .int (nI h)), (2, .int set)]) hx hb dX0_countValues_6 rfl hl (by decide) rfl (fun ls hl => ?_)
    refine xf_loopH (σ := Nat) (fun (z9 : Nat) => 32 - z9) (fun (z9 : Nat) => [(0, .ref h0), (1, .int (nI h)), (2, .int set), (3, .int (nI z9))]) (fun (z9 : Nat) => (fw h0 a1 a2 a3 a4 a5 a6 cI fg fk fu fc fb (fcCV h set fn z9) rc)) (fun (z9 : Nat) => z9 ≤ 32) 0 (lv_sub hl [1, 2, 3, 0] rfl) (Nat.zero_le _) hP hD hS (fun z9 ls H locs hi hl hP hD hS ih7 => ?_)
    obtain ⟨v, hxe⟩ : ∃ z, z = z9 := ⟨_, rfl⟩
    subst hxe
    have hl : lv_has ls 4 [(0, .ref h0), (1, .int (nI h)), (2, .int set), (3, .int (nI v))] := hl
    have hP : va_P (dC, dI) fmCl (fw h0 a1 a2 a3 a4 a5 a6 cI fg fk fu fc fb (fcCV h set fn v) rc) H := hP
    have hD : va_D A (fw h0 a1 a2 a3 a4 a5 a6 cI fg fk fu fc fb (fcCV h set fn v) rc) := hD
    have hi : v ≤ 32 := hi
    refine lv_iload_n hx hb dX0_countValues_7 rfl (lv_at hl 3 rfl) ?_
    refine lv_bipush (v := nI 32) hx hb dX0_countValues_8 (by decide) ?_
    refine xf_ge (tgt := 42) hx hb dX0_countValues_10 (by decide) (by omega) (by omega) (fun c10 => ?_) (fun c10 => ?_)
    ·
      obtain rfl : v = 32 := by omega
      exact W.vret hx hb hr (fun t9 ht9 hW9 => ⟨⟨(fg, fk, fu, fc, fb, fcCV h set fn 32, rc), rfl, by simp [fcCW, c1], xf_hP ht9 hP⟩, hS.F ht9⟩) hS.2.2 dX0_countValues_42
    ·
      refine lv_iload_n hx hb dX0_countValues_13 rfl (lv_at hl 2 rfl) ?_
      refine lv_iload_n hx hb dX0_countValues_14 rfl (lv_at hl 3 rfl) ?_
      refine vp_callSi (W.runS (As := [.int set, .int (nI v)]) (rest := []) ⟨hx, hb, hml, hown, hts⟩ (k_holds l set v (by omega)) (va_cwS 2 hts gX0_countValues_X0_holds rfl rfl rfl (by decide +kernel) ⟨Nat.le_of_ble_eq_true rfl, Nat.le_of_ble_eq_true rfl⟩) (xf_preS0) rfl rfl hl.1 rfl (lv_room (Nat.le_of_ble_eq_true rfl)) dX0_countValues_15 ⟨Nat.zero_le _, Nat.zero_le _⟩) (fun r hr9 => ?_)
      subst hr9
      refine xf_Beq (tgt := 36) hx hb dX0_countValues_18 (by decide) (fun c18 => ?_) (fun c18 => ?_)
      ·
        refine lv_iinc (v := nI (v + 1)) (lv' := [(3, .int (nI (v + 1))), (0, .ref h0), (1, .int (nI h)), (2, .int set)]) hx hb dX0_countValues_36 hl (k := 3) rfl (by exact nI_1 v) (by decide) rfl (fun ls hl => ?_)
        refine lv_goto (tgt := 7) hx hb dX0_countValues_39 (by decide) ?_
        have hl := lv_sub (l' := [(0, .ref h0), (1, .int (nI h)), (2, .int set), (3, .int (nI (v + 1)))]) hl [1, 2, 3, 0] rfl
        have hl : lv_has ls 4 [(0, .ref h0), (1, .int (nI h)), (2, .int set), (3, .int (nI (v + 1)))] := xf_lv hl (by rfl)
        have hP : va_P (dC, dI) fmCl (fw h0 a1 a2 a3 a4 a5 a6 cI fg fk fu fc fb (fcCV h set fn (v + 1)) rc) H := xf_wP hP (by simp [fcCV, c10, c18])
        have hD : va_D A (fw h0 a1 a2 a3 a4 a5 a6 cI fg fk fu fc fb (fcCV h set fn (v + 1)) rc) := xf_wD hD rfl
        exact ih7 (v + 1) ls H locs (by show 32 - (v + 1) < 32 - v; omega) (by show (v + 1) ≤ 32; omega) hl hP hD hS
      ·
        refine lv_aload_n hx hb dX0_countValues_21 rfl (lv_at hl 0 rfl) ?_
        refine va_get (D := (dC, dI)) (ci := 0) (v := .ref a6) (C := RX0) (T := TX0) (N := 7) hx hb hts hin hown hK hP 0 rfl rfl 5 (by decide) hf_counts (fun _ h9 => h9) rfl dX0_countValues_22 ?_
        refine lv_iload_n hx hb dX0_countValues_25 rfl (lv_at hl 1 rfl) ?_
        refine lv_bipush (v := nI 32) hx hb dX0_countValues_26 (by decide) ?_
        refine lv_imul hx hb dX0_countValues_28 ?_
        refine xf_be (y := nI (h * 32)) (by exact pk_mul _ _) ?_
        refine lv_iload_n hx hb dX0_countValues_29 rfl (lv_at hl 3 rfl) ?_
        refine lv_iadd hx hb dX0_countValues_30 ?_
        refine xf_be (y := nI (h * 32 + v)) (by exact nI_add _ _) ?_
        refine lv_dup2_11 hx hb dX0_countValues_31 rfl rfl ?_
        refine xf_iald hx hb hK hP 6 0 rfl rfl (j := (h * 32 + v)) (by omega) (by decide) dX0_countValues_32 ?_
        refine lv_iconst (v := nI 1) hx hb dX0_countValues_33 (by decide) ?_
        refine lv_iadd hx hb dX0_countValues_34 ?_
        refine xf_iast hx hb hK hP hD hS 6 0 rfl rfl (j := (h * 32 + v)) (by omega) (by decide) dX0_countValues_35 (fun H locs hP hD hS => ?_)
        have hP : va_P (dC, dI) fmCl (fw h0 a1 a2 a3 a4 a5 a6 cI fg fk fu fc fb (upd (fcCV h set fn v) (h * 32 + v) (((fcCV h set fn v) (h * 32 + v)) + (nI 1))) rc) H := hP
        have hD : va_D A (fw h0 a1 a2 a3 a4 a5 a6 cI fg fk fu fc fb (upd (fcCV h set fn v) (h * 32 + v) (((fcCV h set fn v) (h * 32 + v)) + (nI 1))) rc) := hD
        refine lv_iinc (v := nI (v + 1)) (lv' := [(3, .int (nI (v + 1))), (0, .ref h0), (1, .int (nI h)), (2, .int set)]) hx hb dX0_countValues_36 hl (k := 3) rfl (by exact nI_1 v) (by decide) rfl (fun ls hl => ?_)
        refine lv_goto (tgt := 7) hx hb dX0_countValues_39 (by decide) ?_
        have hl := lv_sub (l' := [(0, .ref h0), (1, .int (nI h)), (2, .int set), (3, .int (nI (v + 1)))]) hl [1, 2, 3, 0] rfl
        have hl : lv_has ls 4 [(0, .ref h0), (1, .int (nI h)), (2, .int set), (3, .int (nI (v + 1)))] := xf_lv hl (by rfl)
        have hP : va_P (dC, dI) fmCl (fw h0 a1 a2 a3 a4 a5 a6 cI fg fk fu fc fb (fcCV h set fn (v + 1)) rc) H := xf_wP hP (by simp [fcCV, c10, c18])
        have hD : va_D A (fw h0 a1 a2 a3 a4 a5 a6 cI fg fk fu fc fb (fcCV h set fn (v + 1)) rc) := xf_wD hD rfl
        exact ih7 (v + 1) ls H locs (by show 32 - (v + 1) < 32 - v; omega) (by show (v + 1) ≤ 32; omega) hl hP hD hS
  ·
    exact W.vret hx hb hr (fun t9 ht9 hW9 => ⟨⟨(fg, fk, fu, fc, fb, fn, rc), rfl, by simp [fcCW, c1], xf_hP ht9 hP⟩, hS.F ht9⟩) hS.2.2 dX0_countValues_4
set_option maxHeartbeats 4000000 in
set_option maxRecDepth 100000 in
/-- countAll() -/
theorem k_countAll (l : Launch) (dC : Nat → ClassId) (dI : Nat → Nat → Nat) (h0 a1 a2 a3 a4 a5 a6 : Nat) (cI : ClassId) (fg fk fu fc fb fn : Nat → Int32) (rc : Int32) : Met l yX0_countAll wsX0_countAll ({ frames := 2, cells := 0, slots := 0, locals := 45 }) (va_Pc [.ref h0] (fun U => va_P (dC, dI) fmCl (fw h0 a1 a2 a3 a4 a5 a6 cI fg fk fu fc fb fn rc) U.heap ∧ va_K (dC, dI) fmCl [(cI, .int)] U ∧ va_D (fun _ => True) (fw h0 a1 a2 a3 a4 a5 a6 cI fg fk fu fc fb fn rc))) (va_Qv (fun u : FcS => u = (fg, fk, fu, fc, fb, fcAll fg fk fc fn, rc)) (fun u t => va_P (dC, dI) fmCl (fw h0 a1 a2 a3 a4 a5 a6 cI u.1 u.2.1 u.2.2.1 u.2.2.2.1 u.2.2.2.2.1 u.2.2.2.2.2.1 u.2.2.2.2.2.2) t.heap) (xf_A (fw h0 a1 a2 a3 a4 a5 a6 cI fg fk fu fc fb fn rc))) 0 0 (xf_A (fw h0 a1 a2 a3 a4 a5 a6 cI fg fk fu fc fb fn rc)) := by
  refine Met.ofW (cc := cX0_countAll) (maxL := 4) (ret := none) (by decide) rfl ?_
  intro p e s m args below meth c s₁ B hml hv
  obtain ⟨rfl, hP, hK, hD0⟩ := hv
  have hx := B.exec
  have hb := B.bytes
  have hr := B.returns
  have hts := atoms_spec (ws := wsX0_countAll) B.pre
  have hown : s.vm.findClass RX0 = some m.cls := findClass_of_methodNamed B.named
  have hlocks := B.notSynchronized
  have hin : ∀ w ∈ u_ws RX0 TX0 7, w ∈ wsX0_countAll := by decide +kernel
  have hf_counts := hts (.fieldLink RX0 25 "FacetCounts" "counts" "[I") (by decide +kernel)
  have hD := xf_A_self hD0
  generalize hAe : xf_A (fw h0 a1 a2 a3 a4 a5 a6 cI fg fk fu fc fb fn rc) = A at hD ⊢
  have hS : va_S A s.heap s.heap [] := va_S.rf
  have hP : va_P (dC, dI) fmCl (fw h0 a1 a2 a3 a4 a5 a6 cI fg fk fu fc fb fn rc) s.heap := hP
  have hl := lv_entry ([.ref h0]) (n := 4) (Nat.le_of_ble_eq_true rfl)
  rw [lg_entry_eq]
  generalize (lg_sl ([.ref h0]) ++ List.replicate (4 - (lg_sl ([.ref h0])).length) Slot.unset).toArray = ls at hl ⊢
  have hl : lv_has ls 4 [(0, .ref h0)] := hl
  refine lv_aload_n hx hb dX0_countAll_0 rfl (lv_at hl 0 rfl) ?_
  refine va_get (D := (dC, dI)) (ci := 0) (v := .ref a6) (C := RX0) (T := TX0) (N := 7) hx hb hts hin hown hK hP 0 rfl rfl 5 (by decide) hf_counts (fun _ h9 => h9) rfl dX0_countAll_1 ?_
  refine lv_iconst (v := nI 0) hx hb dX0_countAll_4 (by decide) ?_
  have hPf : va_P (dC, dI) fmCl ([(h0, .inr (0, [.ref a1, .ref a2, .ref a3, .ref a4, .ref a5, .ref a6, .int rc])), (a1, .inl (cI, 320, .inl fg)), (a2, .inl (cI, 40, .inl fk)), (a3, .inl (cI, 32, .inl fu)), (a4, .inl (cI, 8, .inl fc)), (a5, .inl (cI, 256, .inl fb))] ++ ([(a6, .inl (cI, 256, .inl fn))] ++ [])) _ := hP
  have hDf : va_D A ([(h0, .inr (0, [.ref a1, .ref a2, .ref a3, .ref a4, .ref a5, .ref a6, .int rc])), (a1, .inl (cI, 320, .inl fg)), (a2, .inl (cI, 40, .inl fk)), (a3, .inl (cI, 32, .inl fu)), (a4, .inl (cI, 8, .inl fc)), (a5, .inl (cI, 256, .inl fb))] ++ ([(a6, .inl (cI, 256, .inl fn))] ++ [])) := hD
  have hPc := xf_P_left (xf_P_right hPf)
  have hDc := xf_D_left (xf_D_right hDf)
  have hFc := xf_A_le hDc
  refine va_callv (va_runS (As := [.ref a6, .int (nI 0)]) (rest := []) ⟨hx, hb, hml, hown, hts⟩ (j_fill l dC dI a6 cI 256 fn (nI 0) (by decide)) (va_cwS 2 hts gX0_countAll_J7_fill_53178 rfl rfl rfl (by decide +kernel) ⟨Nat.le_of_ble_eq_true rfl, Nat.le_of_ble_eq_true rfl⟩) (xf_preSW hK hPc hDc) rfl rfl hl.1 rfl (lv_room (Nat.le_of_ble_eq_true rfl)) dX0_countAll_5 ⟨Nat.zero_le _, Nat.zero_le _⟩) hS (fun q _ h => hFc q h) hFc (fun u9 t9 H locs ht9 hvm9 hw9 hB9 hz9 hk9 hS => ?_)
  have hB9 := xf_hB ht9 hB9
  have hP : va_P (dC, dI) fmCl (fw h0 a1 a2 a3 a4 a5 a6 cI fg fk fu fc fb (xf_fill (nI 0) fn 256) rc) H := xf_join hPf hDf hB9 hk9
  have hD : va_D A (fw h0 a1 a2 a3 a4 a5 a6 cI fg fk fu fc fb (xf_fill (nI 0) fn 256) rc) := xf_wD hD rfl
  refine lv_iconst (v := nI 0) hx hb dX0_countAll_8 (by decide) ?_
  refine lv_istore_n (lv' := [(1, .int (nI 0)), (0, .ref h0)]) hx hb dX0_countAll_9 rfl hl (by decide) rfl (fun ls hl => ?_)
  refine xf_loopH (σ := Nat) (fun (z9 : Nat) => 40 - z9) (fun (z9 : Nat) => [(0, .ref h0), (1, .int (nI z9))]) (fun (z9 : Nat) => (fw h0 a1 a2 a3 a4 a5 a6 cI fg fk fu fc fb (fcCA fg fk fc (xf_fill (nI 0) fn 256) z9) rc)) (fun (z9 : Nat) => z9 ≤ 40) 0 (lv_sub hl [1, 0] rfl) (Nat.zero_le _) hP hD hS (fun z9 ls H locs hi hl hP hD hS ih10 => ?_)
  obtain ⟨t, hxe⟩ : ∃ z, z = z9 := ⟨_, rfl⟩
  subst hxe
  have hl : lv_has ls 4 [(0, .ref h0), (1, .int (nI t))] := hl
  have hP : va_P (dC, dI) fmCl (fw h0 a1 a2 a3 a4 a5 a6 cI fg fk fu fc fb (fcCA fg fk fc (xf_fill (nI 0) fn 256) t) rc) H := hP
  have hD : va_D A (fw h0 a1 a2 a3 a4 a5 a6 cI fg fk fu fc fb (fcCA fg fk fc (xf_fill (nI 0) fn 256) t) rc) := hD
  have hi : t ≤ 40 := hi
  refine lv_iload_n hx hb dX0_countAll_10 rfl (lv_at hl 1 rfl) ?_
  refine lv_bipush (v := nI 40) hx hb dX0_countAll_11 (by decide) ?_
  refine xf_ge (tgt := 63) hx hb dX0_countAll_13 (by decide) (by omega) (by omega) (fun c13 => ?_) (fun c13 => ?_)
  ·
    obtain rfl : t = 40 := by omega
    exact W.vret hx hb hr (fun t9 ht9 hW9 => ⟨⟨(fg, fk, fu, fc, fb, fcCA fg fk fc (xf_fill (nI 0) fn 256) 40, rc), rfl, rfl, xf_hP ht9 hP⟩, hS.F ht9⟩) hS.2.2 dX0_countAll_63
  ·
    refine lv_aload_n hx hb dX0_countAll_16 rfl (lv_at hl 0 rfl) ?_
    refine lv_iload_n hx hb dX0_countAll_17 rfl (lv_at hl 1 rfl) ?_
    refine vp_callSi (W.runV (As := [.int (nI t)]) (rest := []) ⟨hx, hb, hml, hown, hts⟩ (k_lackedHeads l dC dI h0 a1 a2 a3 a4 a5 a6 cI fg fk fu fc fb (fcCA fg fk fc (xf_fill (nI 0) fn 256) t) rc t (by omega)) (cwV 1 hts gX0_countAll_X0_lackedHeads rfl rfl rfl (by decide +kernel) ⟨Nat.le_of_ble_eq_true rfl, Nat.le_of_ble_eq_true rfl⟩) (xf_preV (ci := 0) (RX0, TX0, 7) hK hP rfl rfl) rfl rfl hl.1 rfl (lv_room (Nat.le_of_ble_eq_true rfl)) dX0_countAll_18 ⟨Nat.zero_le _, Nat.zero_le _⟩) (fun r hr9 => ?_)
    subst hr9
    refine lv_istore_n (lv' := [(2, .int (fcLk fg fk fc t)), (0, .ref h0), (1, .int (nI t))]) hx hb dX0_countAll_21 rfl hl (by decide) rfl (fun ls hl => ?_)
    refine lv_iconst (v := nI 0) hx hb dX0_countAll_22 (by decide) ?_
    refine lv_istore_n (lv' := [(3, .int (nI 0)), (2, .int (fcLk fg fk fc t)), (0, .ref h0), (1, .int (nI t))]) hx hb dX0_countAll_23 rfl hl (by decide) rfl (fun ls hl => ?_)
    refine xf_loopH (σ := Nat) (fun (z9 : Nat) => 8 - z9) (fun (z9 : Nat) => [(0, .ref h0), (1, .int (nI t)), (2, .int (fcLk fg fk fc t)), (3, .int (nI z9))]) (fun (z9 : Nat) => (fw h0 a1 a2 a3 a4 a5 a6 cI fg fk fu fc fb (fcCH (fcLk fg fk fc t) (fcV fg fk t) (fcCA fg fk fc (xf_fill (nI 0) fn 256) t) z9) rc)) (fun (z9 : Nat) => z9 ≤ 8) 0 (lv_sub hl [2, 3, 1, 0] rfl) (Nat.zero_le _) hP hD hS (fun z9 ls H locs hi hl hP hD hS ih24 => ?_)
    obtain ⟨h, hxe⟩ : ∃ z, z = z9 := ⟨_, rfl⟩
    subst hxe
    have hl : lv_has ls 4 [(0, .ref h0), (1, .int (nI t)), (2, .int (fcLk fg fk fc t)), (3, .int (nI h))] := hl
    have hP : va_P (dC, dI) fmCl (fw h0 a1 a2 a3 a4 a5 a6 cI fg fk fu fc fb (fcCH (fcLk fg fk fc t) (fcV fg fk t) (fcCA fg fk fc (xf_fill (nI 0) fn 256) t) h) rc) H := hP
    have hD : va_D A (fw h0 a1 a2 a3 a4 a5 a6 cI fg fk fu fc fb (fcCH (fcLk fg fk fc t) (fcV fg fk t) (fcCA fg fk fc (xf_fill (nI 0) fn 256) t) h) rc) := hD
    have hi : h ≤ 8 := hi
    refine lv_iload_n hx hb dX0_countAll_24 rfl (lv_at hl 3 rfl) ?_
    refine lv_bipush (v := nI 8) hx hb dX0_countAll_25 (by decide) ?_
    refine xf_ge (tgt := 57) hx hb dX0_countAll_27 (by decide) (by omega) (by omega) (fun c27 => ?_) (fun c27 => ?_)
    ·
      obtain rfl : h = 8 := by omega
      refine lv_iinc (v := nI (t + 1)) (lv' := [(1, .int (nI (t + 1))), (0, .ref h0), (2, .int (fcLk fg fk fc t)), (3, .int (nI 8))]) hx hb dX0_countAll_57 hl (k := 1) rfl (by exact nI_1 t) (by decide) rfl (fun ls hl => ?_)
      refine lv_goto (tgt := 10) hx hb dX0_countAll_60 (by decide) ?_
      have hl := lv_sub (l' := [(0, .ref h0), (1, .int (nI (t + 1)))]) hl [1, 0] rfl
      have hl : lv_has ls 4 [(0, .ref h0), (1, .int (nI (t + 1)))] := xf_lv hl (by rfl)
      have hP : va_P (dC, dI) fmCl (fw h0 a1 a2 a3 a4 a5 a6 cI fg fk fu fc fb (fcCA fg fk fc (xf_fill (nI 0) fn 256) (t + 1)) rc) H := xf_wP hP (by rfl)
      have hD : va_D A (fw h0 a1 a2 a3 a4 a5 a6 cI fg fk fu fc fb (fcCA fg fk fc (xf_fill (nI 0) fn 256) (t + 1)) rc) := xf_wD hD rfl
      exact ih10 (t + 1) ls H locs (by show 40 - (t + 1) < 40 - t; omega) (by show (t + 1) ≤ 40; omega) hl hP hD hS
    ·
      refine lv_iload_n hx hb dX0_countAll_30 rfl (lv_at hl 2 rfl) ?_
      refine lv_iconst (v := nI 1) hx hb dX0_countAll_31 (by decide) ?_
      refine lv_iload_n hx hb dX0_countAll_32 rfl (lv_at hl 3 rfl) ?_
      refine lv_ishl hx hb dX0_countAll_33 ?_
      refine xf_be (y := xf_bit h) (by rfl) ?_
      refine lv_iconst (v := (-1)) hx hb dX0_countAll_34 (by decide) ?_
      refine lv_ixor hx hb dX0_countAll_35 ?_
      refine xf_be (y := xf_not (xf_bit h)) (by rfl) ?_
      refine lv_iand hx hb dX0_countAll_36 ?_
      refine lv_if_ne (tgt := 51) hx hb dX0_countAll_37 (by decide) (fun c37 => ?_) (fun c37 => ?_)
      ·
        refine lv_iinc (v := nI (h + 1)) (lv' := [(3, .int (nI (h + 1))), (0, .ref h0), (1, .int (nI t)), (2, .int (fcLk fg fk fc t))]) hx hb dX0_countAll_51 hl (k := 3) rfl (by exact nI_1 h) (by decide) rfl (fun ls hl => ?_)
        refine lv_goto (tgt := 24) hx hb dX0_countAll_54 (by decide) ?_
        have hl := lv_sub (l' := [(0, .ref h0), (1, .int (nI t)), (2, .int (fcLk fg fk fc t)), (3, .int (nI (h + 1)))]) hl [1, 2, 3, 0] rfl
        have hl : lv_has ls 4 [(0, .ref h0), (1, .int (nI t)), (2, .int (fcLk fg fk fc t)), (3, .int (nI (h + 1)))] := xf_lv hl (by rfl)
        have hP : va_P (dC, dI) fmCl (fw h0 a1 a2 a3 a4 a5 a6 cI fg fk fu fc fb (fcCH (fcLk fg fk fc t) (fcV fg fk t) (fcCA fg fk fc (xf_fill (nI 0) fn 256) t) (h + 1)) rc) H := xf_wP hP (by simp [fcCH, c27, c37])
        have hD : va_D A (fw h0 a1 a2 a3 a4 a5 a6 cI fg fk fu fc fb (fcCH (fcLk fg fk fc t) (fcV fg fk t) (fcCA fg fk fc (xf_fill (nI 0) fn 256) t) (h + 1)) rc) := xf_wD hD rfl
        exact ih24 (h + 1) ls H locs (by show 8 - (h + 1) < 8 - h; omega) (by show (h + 1) ≤ 8; omega) hl hP hD hS
      ·
        refine lv_aload_n hx hb dX0_countAll_40 rfl (lv_at hl 0 rfl) ?_
        refine lv_iload_n hx hb dX0_countAll_41 rfl (lv_at hl 3 rfl) ?_
        refine lv_aload_n hx hb dX0_countAll_42 rfl (lv_at hl 0 rfl) ?_
        refine lv_iload_n hx hb dX0_countAll_43 rfl (lv_at hl 1 rfl) ?_
        refine lv_iload_n hx hb dX0_countAll_44 rfl (lv_at hl 3 rfl) ?_
        refine vp_callSi (W.runV (As := [.int (nI t), .int (nI h)]) (rest := [.int (nI h), .ref h0]) ⟨hx, hb, hml, hown, hts⟩ (k_valuesOf l dC dI h0 a1 a2 a3 a4 a5 a6 cI fg fk fu fc fb (fcCH (fcLk fg fk fc t) (fcV fg fk t) (fcCA fg fk fc (xf_fill (nI 0) fn 256) t) h) rc t h (by omega) (by omega)) (cwV 2 hts gX0_countAll_X0_valuesOf rfl rfl rfl (by decide +kernel) ⟨Nat.le_of_ble_eq_true rfl, Nat.le_of_ble_eq_true rfl⟩) (xf_preV (ci := 0) (RX0, TX0, 7) hK hP rfl rfl) rfl rfl hl.1 rfl (lv_room (Nat.le_of_ble_eq_true rfl)) dX0_countAll_45 ⟨Nat.zero_le _, Nat.zero_le _⟩) (fun r hr9 => ?_)
        subst hr9
        have hFc := xf_A_le hD
        refine va_callv (va_runV (As := [.int (nI h), .int (fcV fg fk t h)]) (rest := []) ⟨hx, hb, hml, hown, hts⟩ (k_countValues l dC dI h0 a1 a2 a3 a4 a5 a6 cI fg fk fu fc fb (fcCH (fcLk fg fk fc t) (fcV fg fk t) (fcCA fg fk fc (xf_fill (nI 0) fn 256) t) h) rc h (by omega) (fcV fg fk t h)) (cwV 2 hts gX0_countAll_X0_countValues rfl rfl rfl (by decide +kernel) ⟨Nat.le_of_ble_eq_true rfl, Nat.le_of_ble_eq_true rfl⟩) (xf_preW (ci := 0) (RX0, TX0, 7) hK hP hD rfl rfl) rfl rfl hl.1 rfl (lv_room (Nat.le_of_ble_eq_true rfl)) dX0_countAll_48 ⟨Nat.zero_le _, Nat.zero_le _⟩) hS (fun q _ h => hFc q h) hFc (fun u9 t9 H locs ht9 hvm9 hw9 hB9 hz9 hk9 hS => ?_)
        subst hw9
        have hB9 := xf_hB ht9 hB9
        have hP : va_P (dC, dI) fmCl (fw h0 a1 a2 a3 a4 a5 a6 cI fg fk fu fc fb (fcCW h (fcV fg fk t h) (fcCH (fcLk fg fk fc t) (fcV fg fk t) (fcCA fg fk fc (xf_fill (nI 0) fn 256) t) h)) rc) H := hB9
        have hD : va_D A (fw h0 a1 a2 a3 a4 a5 a6 cI fg fk fu fc fb (fcCW h (fcV fg fk t h) (fcCH (fcLk fg fk fc t) (fcV fg fk t) (fcCA fg fk fc (xf_fill (nI 0) fn 256) t) h)) rc) := xf_wD hD rfl
        refine lv_iinc (v := nI (h + 1)) (lv' := [(3, .int (nI (h + 1))), (0, .ref h0), (1, .int (nI t)), (2, .int (fcLk fg fk fc t))]) hx hb dX0_countAll_51 hl (k := 3) rfl (by exact nI_1 h) (by decide) rfl (fun ls hl => ?_)
        refine lv_goto (tgt := 24) hx hb dX0_countAll_54 (by decide) ?_
        have hl := lv_sub (l' := [(0, .ref h0), (1, .int (nI t)), (2, .int (fcLk fg fk fc t)), (3, .int (nI (h + 1)))]) hl [1, 2, 3, 0] rfl
        have hl : lv_has ls 4 [(0, .ref h0), (1, .int (nI t)), (2, .int (fcLk fg fk fc t)), (3, .int (nI (h + 1)))] := xf_lv hl (by rfl)
        have hP : va_P (dC, dI) fmCl (fw h0 a1 a2 a3 a4 a5 a6 cI fg fk fu fc fb (fcCH (fcLk fg fk fc t) (fcV fg fk t) (fcCA fg fk fc (xf_fill (nI 0) fn 256) t) (h + 1)) rc) H := xf_wP hP (by simp [fcCH, c27, c37])
        have hD : va_D A (fw h0 a1 a2 a3 a4 a5 a6 cI fg fk fu fc fb (fcCH (fcLk fg fk fc t) (fcV fg fk t) (fcCA fg fk fc (xf_fill (nI 0) fn 256) t) (h + 1)) rc) := xf_wD hD rfl
        exact ih24 (h + 1) ls H locs (by show 8 - (h + 1) < 8 - h; omega) (by show (h + 1) ≤ 8; omega) hl hP hD hS
end
section
set_option maxHeartbeats 4000000 in
set_option maxRecDepth 100000 in
/-- row(pt, ph, pv) -/
theorem k_row (l : Launch) (dC : Nat → ClassId) (dI : Nat → Nat → Nat) (h0 a1 a2 a3 a4 a5 a6 : Nat) (cI : ClassId) (fg fk fu fc fb fn : Nat → Int32) (rc : Int32) (pt ph pv : Int32) : Met l yX0_row wsX0_row ({ frames := 3, cells := 0, slots := 0, locals := 70 }) (va_Pc [.ref h0, .int pt, .int ph, .int pv] (fun U => va_P (dC, dI) fmCl (fw h0 a1 a2 a3 a4 a5 a6 cI fg fk fu fc fb fn rc) U.heap ∧ va_K (dC, dI) fmCl [(cI, .int)] U ∧ va_D (fun _ => True) (fw h0 a1 a2 a3 a4 a5 a6 cI fg fk fu fc fb fn rc))) (va_Qi (fun (r : Int32) (u : FcS) => (r, u) = fcRow fg fk fu fc fb fn rc pt ph pv) (fun u t => va_P (dC, dI) fmCl (fw h0 a1 a2 a3 a4 a5 a6 cI u.1 u.2.1 u.2.2.1 u.2.2.2.1 u.2.2.2.2.1 u.2.2.2.2.2.1 u.2.2.2.2.2.2) t.heap) (xf_A (fw h0 a1 a2 a3 a4 a5 a6 cI fg fk fu fc fb fn rc))) 0 0 (xf_A (fw h0 a1 a2 a3 a4 a5 a6 cI fg fk fu fc fb fn rc)) := by
  refine Met.ofW (cc := cX0_row) (maxL := 5) (ret := (some .int)) (by decide) rfl ?_
  intro p e s m args below meth c s₁ B hml hv
  obtain ⟨rfl, hP, hK, hD0⟩ := hv
  have hx := B.exec
  have hb := B.bytes
  have hr := B.returns
  have hts := atoms_spec (ws := wsX0_row) B.pre
  have hown : s.vm.findClass RX0 = some m.cls := findClass_of_methodNamed B.named
  have hlocks := B.notSynchronized
  have hin : ∀ w ∈ u_ws RX0 TX0 7, w ∈ wsX0_row := by decide +kernel
  have hf_given := hts (.fieldLink RX0 9 "FacetCounts" "given" "[I") (by decide +kernel)
  have hf_rowCount := hts (.fieldLink RX0 28 "FacetCounts" "rowCount" "I") (by decide +kernel)
  have hD := xf_A_self hD0
  generalize hAe : xf_A (fw h0 a1 a2 a3 a4 a5 a6 cI fg fk fu fc fb fn rc) = A at hD ⊢
  have hS : va_S A s.heap s.heap [] := va_S.rf
  have hP : va_P (dC, dI) fmCl (fw h0 a1 a2 a3 a4 a5 a6 cI fg fk fu fc fb fn rc) s.heap := hP
  have hl := lv_entry ([.ref h0, .int pt, .int ph, .int pv]) (n := 5) (Nat.le_of_ble_eq_true rfl)
  rw [lg_entry_eq]
  generalize (lg_sl ([.ref h0, .int pt, .int ph, .int pv]) ++ List.replicate (5 - (lg_sl ([.ref h0, .int pt, .int ph, .int pv])).length) Slot.unset).toArray = ls at hl ⊢
  have hl : lv_has ls 5 [(0, .ref h0), (1, .int pt), (2, .int ph), (3, .int pv)] := hl
  refine lv_iload_n hx hb dX0_row_0 rfl (lv_at hl 1 rfl) ?_
  refine vp_callSi (W.runS (As := [.int pt]) (rest := []) ⟨hx, hb, hml, hown, hts⟩ (k_isThing l pt) (va_cwS 1 hts gX0_row_X0_isThing rfl rfl rfl (by decide +kernel) ⟨Nat.le_of_ble_eq_true rfl, Nat.le_of_ble_eq_true rfl⟩) (xf_preS0) rfl rfl hl.1 rfl (lv_room (Nat.le_of_ble_eq_true rfl)) dX0_row_1 ⟨Nat.zero_le _, Nat.zero_le _⟩) (fun r hr9 => ?_)
  subst hr9
  refine xf_Beq (tgt := 21) hx hb dX0_row_4 (by decide) (fun c4 => ?_) (fun c4 => ?_)
  ·
    refine lv_iconst (v := (-1)) hx hb dX0_row_21 (by decide) ?_
    exact W.iret (v := (-1)) hx hb hr (fun t9 ht9 hW9 => ⟨⟨_, (fg, fk, fu, fc, fb, fn, rc), rfl, by simp [fcRow, c4], xf_hP ht9 hP⟩, hS.F ht9⟩) hS.2.2 dX0_row_22
  ·
    obtain ⟨t, ht, rfl⟩ := xf_in_of c4 (by decide)
    have et : (nI t).toNatClampNeg = t := nI_clamp (by omega)
    refine lv_iload_n hx hb dX0_row_7 rfl (lv_at hl 2 rfl) ?_
    refine vp_callSi (W.runS (As := [.int ph]) (rest := []) ⟨hx, hb, hml, hown, hts⟩ (k_isHead l ph) (va_cwS 1 hts gX0_row_X0_isHead rfl rfl rfl (by decide +kernel) ⟨Nat.le_of_ble_eq_true rfl, Nat.le_of_ble_eq_true rfl⟩) (xf_preS0) rfl rfl hl.1 rfl (lv_room (Nat.le_of_ble_eq_true rfl)) dX0_row_8 ⟨Nat.zero_le _, Nat.zero_le _⟩) (fun r hr9 => ?_)
    subst hr9
    refine xf_Beq (tgt := 21) hx hb dX0_row_11 (by decide) (fun c11 => ?_) (fun c11 => ?_)
    ·
      refine lv_iconst (v := (-1)) hx hb dX0_row_21 (by decide) ?_
      exact W.iret (v := (-1)) hx hb hr (fun t9 ht9 hW9 => ⟨⟨_, (fg, fk, fu, fc, fb, fn, rc), rfl, by simp [fcRow, c4, et, c11], xf_hP ht9 hP⟩, hS.F ht9⟩) hS.2.2 dX0_row_22
    ·
      obtain ⟨h, hh, rfl⟩ := xf_in_of c11 (by decide)
      have eh : (nI h).toNatClampNeg = h := nI_clamp (by omega)
      refine lv_iload_n hx hb dX0_row_14 rfl (lv_at hl 3 rfl) ?_
      refine vp_callSi (W.runS (As := [.int pv]) (rest := []) ⟨hx, hb, hml, hown, hts⟩ (k_isValue l pv) (va_cwS 1 hts gX0_row_X0_isValue rfl rfl rfl (by decide +kernel) ⟨Nat.le_of_ble_eq_true rfl, Nat.le_of_ble_eq_true rfl⟩) (xf_preS0) rfl rfl hl.1 rfl (lv_room (Nat.le_of_ble_eq_true rfl)) dX0_row_15 ⟨Nat.zero_le _, Nat.zero_le _⟩) (fun r hr9 => ?_)
      subst hr9
      refine xf_Bne (tgt := 23) hx hb dX0_row_18 (by decide) (fun c18 => ?_) (fun c18 => ?_)
      ·
        obtain ⟨v, hv, rfl⟩ := xf_in_of c18 (by decide)
        have ev : (nI v).toNatClampNeg = v := nI_clamp (by omega)
        refine lv_iload_n hx hb dX0_row_23 rfl (lv_at hl 1 rfl) ?_
        refine lv_bipush (v := nI 8) hx hb dX0_row_24 (by decide) ?_
        refine lv_imul hx hb dX0_row_26 ?_
        refine xf_be (y := nI (t * 8)) (by exact pk_mul _ _) ?_
        refine lv_iload_n hx hb dX0_row_27 rfl (lv_at hl 2 rfl) ?_
        refine lv_iadd hx hb dX0_row_28 ?_
        refine xf_be (y := nI (t * 8 + h)) (by exact nI_add _ _) ?_
        refine lv_istore (lv' := [(4, .int (nI (t * 8 + h))), (0, .ref h0), (1, .int (nI t)), (2, .int (nI h)), (3, .int (nI v))]) hx hb dX0_row_29 hl (by decide) rfl (fun ls hl => ?_)
        refine lv_aload_n hx hb dX0_row_31 rfl (lv_at hl 1 rfl) ?_
        refine va_get (D := (dC, dI)) (ci := 0) (v := .ref a1) (C := RX0) (T := TX0) (N := 7) hx hb hts hin hown hK hP 0 rfl rfl 0 (by decide) hf_given (fun _ h9 => h9) rfl dX0_row_32 ?_
        refine lv_iload hx hb dX0_row_35 (lv_at hl 0 rfl) ?_
        refine xf_iald hx hb hK hP 1 0 rfl rfl (j := (t * 8 + h)) (by omega) (by decide) dX0_row_37 ?_
        refine lv_iload_n hx hb dX0_row_38 rfl (lv_at hl 4 rfl) ?_
        refine vp_callSi (W.runS (As := [.int (fg (t * 8 + h)), .int (nI v)]) (rest := []) ⟨hx, hb, hml, hown, hts⟩ (k_holds l (fg (t * 8 + h)) v (by omega)) (va_cwS 2 hts gX0_row_X0_holds rfl rfl rfl (by decide +kernel) ⟨Nat.le_of_ble_eq_true rfl, Nat.le_of_ble_eq_true rfl⟩) (xf_preS0) rfl rfl hl.1 rfl (lv_room (Nat.le_of_ble_eq_true rfl)) dX0_row_39 ⟨Nat.zero_le _, Nat.zero_le _⟩) (fun r hr9 => ?_)
        subst hr9
        refine xf_Beq (tgt := 47) hx hb dX0_row_42 (by decide) (fun c42 => ?_) (fun c42 => ?_)
        ·
          refine lv_aload_n hx hb dX0_row_47 rfl (lv_at hl 1 rfl) ?_
          refine va_get (D := (dC, dI)) (ci := 0) (v := .int rc) (C := RX0) (T := TX0) (N := 7) hx hb hts hin hown hK hP 0 rfl rfl 6 (by decide) hf_rowCount (fun _ h9 => h9) rfl dX0_row_48 ?_
          refine lv_sipush (v := nI 300) hx hb dX0_row_51 (by decide) ?_
          refine lv_icmp_lt (tgt := 60) hx hb dX0_row_54 (by decide) (fun c54 => ?_) (fun c54 => ?_)
          ·
            refine lv_aload_n hx hb dX0_row_60 rfl (lv_at hl 1 rfl) ?_
            refine va_get (D := (dC, dI)) (ci := 0) (v := .ref a1) (C := RX0) (T := TX0) (N := 7) hx hb hts hin hown hK hP 0 rfl rfl 0 (by decide) hf_given (fun _ h9 => h9) rfl dX0_row_61 ?_
            refine lv_iload hx hb dX0_row_64 (lv_at hl 0 rfl) ?_
            refine lv_dup2_11 hx hb dX0_row_66 rfl rfl ?_
            refine xf_iald hx hb hK hP 1 0 rfl rfl (j := (t * 8 + h)) (by omega) (by decide) dX0_row_67 ?_
            refine lv_iconst (v := nI 1) hx hb dX0_row_68 (by decide) ?_
            refine lv_iload_n hx hb dX0_row_69 rfl (lv_at hl 4 rfl) ?_
            refine lv_ishl hx hb dX0_row_70 ?_
            refine xf_be (y := xf_bit v) (by rfl) ?_
            refine lv_ior hx hb dX0_row_71 ?_
            refine xf_iast hx hb hK hP hD hS 1 0 rfl rfl (j := (t * 8 + h)) (by omega) (by decide) dX0_row_72 (fun H locs hP hD hS => ?_)
            have hP : va_P (dC, dI) fmCl (fw h0 a1 a2 a3 a4 a5 a6 cI (upd fg (t * 8 + h) ((fg (t * 8 + h)) ||| (xf_bit v))) fk fu fc fb fn rc) H := hP
            have hD : va_D A (fw h0 a1 a2 a3 a4 a5 a6 cI (upd fg (t * 8 + h) ((fg (t * 8 + h)) ||| (xf_bit v))) fk fu fc fb fn rc) := hD
            refine lv_aload_n hx hb dX0_row_73 rfl (lv_at hl 1 rfl) ?_
            refine lv_dup hx hb dX0_row_74 rfl ?_
            refine va_get (D := (dC, dI)) (ci := 0) (v := .int rc) (C := RX0) (T := TX0) (N := 7) hx hb hts hin hown hK hP 0 rfl rfl 6 (by decide) hf_rowCount (fun _ h9 => h9) rfl dX0_row_75 ?_
            refine lv_iconst (v := nI 1) hx hb dX0_row_78 (by decide) ?_
            refine lv_iadd hx hb dX0_row_79 ?_
            refine va_put (D := (dC, dI)) (ci := 0) (v := .int (rc + (nI 1))) (ty := .int) (C := RX0) (T := TX0) (N := 7) hx hb hts hin tyX0 tyX0_ok nmX0 hown hK hP hD hS 0 rfl rfl 6 (by decide) hf_rowCount (fun _ h9 => h9) rfl (by decide +kernel) rfl rfl (Nat.le_of_ble_eq_true rfl) dX0_row_80 (fun H locs hP hD hS => ?_)
            have hP : va_P (dC, dI) fmCl (fw h0 a1 a2 a3 a4 a5 a6 cI (upd fg (t * 8 + h) ((fg (t * 8 + h)) ||| (xf_bit v))) fk fu fc fb fn (rc + (nI 1))) H := hP
            have hD : va_D A (fw h0 a1 a2 a3 a4 a5 a6 cI (upd fg (t * 8 + h) ((fg (t * 8 + h)) ||| (xf_bit v))) fk fu fc fb fn (rc + (nI 1))) := hD
            refine lv_aload_n hx hb dX0_row_83 rfl (lv_at hl 1 rfl) ?_
            refine lv_iload_n hx hb dX0_row_84 rfl (lv_at hl 2 rfl) ?_
            have hFc := xf_A_le hD
            refine va_callv (va_runV (As := [.int (nI t)]) (rest := []) ⟨hx, hb, hml, hown, hts⟩ (k_renewKinds l dC dI h0 a1 a2 a3 a4 a5 a6 cI (upd fg (t * 8 + h) ((fg (t * 8 + h)) ||| (xf_bit v))) fk fu fc fb fn (rc + (nI 1)) t (by omega)) (cwV 1 hts gX0_row_X0_renewKinds rfl rfl rfl (by decide +kernel) ⟨Nat.le_of_ble_eq_true rfl, Nat.le_of_ble_eq_true rfl⟩) (xf_preW (ci := 0) (RX0, TX0, 7) hK hP hD rfl rfl) rfl rfl hl.1 rfl (lv_room (Nat.le_of_ble_eq_true rfl)) dX0_row_85 ⟨Nat.zero_le _, Nat.zero_le _⟩) hS (fun q _ h => hFc q h) hFc (fun u9 t9 H locs ht9 hvm9 hw9 hB9 hz9 hk9 hS => ?_)
            subst hw9
            have hB9 := xf_hB ht9 hB9
            have hP : va_P (dC, dI) fmCl (fw h0 a1 a2 a3 a4 a5 a6 cI (upd fg (t * 8 + h) ((fg (t * 8 + h)) ||| (xf_bit v))) (upd fk t (fcRK fu ((upd fg (t * 8 + h) ((fg (t * 8 + h)) ||| (xf_bit v))) (t * 8)) 32)) fu fc fb fn (rc + (nI 1))) H := hB9
            have hD : va_D A (fw h0 a1 a2 a3 a4 a5 a6 cI (upd fg (t * 8 + h) ((fg (t * 8 + h)) ||| (xf_bit v))) (upd fk t (fcRK fu ((upd fg (t * 8 + h) ((fg (t * 8 + h)) ||| (xf_bit v))) (t * 8)) 32)) fu fc fb fn (rc + (nI 1))) := xf_wD hD rfl
            refine lv_iconst (v := nI 1) hx hb dX0_row_88 (by decide) ?_
            exact W.iret (v := nI 1) hx hb hr (fun t9 ht9 hW9 => ⟨⟨_, (upd fg (t * 8 + h) ((fg (t * 8 + h)) ||| (xf_bit v)), upd fk t (fcRK fu ((upd fg (t * 8 + h) ((fg (t * 8 + h)) ||| (xf_bit v))) (t * 8)) 32), fu, fc, fb, fn, rc + (nI 1)), rfl, by simp [fcRow, c4, et, c11, eh, c18, ev, c42, c54], xf_hP ht9 hP⟩, hS.F ht9⟩) hS.2.2 dX0_row_89
          ·
            refine lv_bipush (v := (-2)) hx hb dX0_row_57 (by decide) ?_
            exact W.iret (v := (-2)) hx hb hr (fun t9 ht9 hW9 => ⟨⟨_, (fg, fk, fu, fc, fb, fn, rc), rfl, by simp [fcRow, c4, et, c11, eh, c18, ev, c42, c54], xf_hP ht9 hP⟩, hS.F ht9⟩) hS.2.2 dX0_row_59
        ·
          refine lv_iconst (v := nI 0) hx hb dX0_row_45 (by decide) ?_
          exact W.iret (v := nI 0) hx hb hr (fun t9 ht9 hW9 => ⟨⟨_, (fg, fk, fu, fc, fb, fn, rc), rfl, by simp [fcRow, c4, et, c11, eh, c18, ev, c42], xf_hP ht9 hP⟩, hS.F ht9⟩) hS.2.2 dX0_row_46
      ·
        refine lv_iconst (v := (-1)) hx hb dX0_row_21 (by decide) ?_
        exact W.iret (v := (-1)) hx hb hr (fun t9 ht9 hW9 => ⟨⟨_, (fg, fk, fu, fc, fb, fn, rc), rfl, by simp [fcRow, c4, et, c11, eh, c18], xf_hP ht9 hP⟩, hS.F ht9⟩) hS.2.2 dX0_row_22
set_option maxHeartbeats 4000000 in
set_option maxRecDepth 100000 in
/-- drop(pt, ph, pv) -/
theorem k_drop (l : Launch) (dC : Nat → ClassId) (dI : Nat → Nat → Nat) (h0 a1 a2 a3 a4 a5 a6 : Nat) (cI : ClassId) (fg fk fu fc fb fn : Nat → Int32) (rc : Int32) (pt ph pv : Int32) : Met l yX0_drop wsX0_drop ({ frames := 3, cells := 0, slots := 0, locals := 70 }) (va_Pc [.ref h0, .int pt, .int ph, .int pv] (fun U => va_P (dC, dI) fmCl (fw h0 a1 a2 a3 a4 a5 a6 cI fg fk fu fc fb fn rc) U.heap ∧ va_K (dC, dI) fmCl [(cI, .int)] U ∧ va_D (fun _ => True) (fw h0 a1 a2 a3 a4 a5 a6 cI fg fk fu fc fb fn rc))) (va_Qi (fun (r : Int32) (u : FcS) => (r, u) = fcDrop fg fk fu fc fb fn rc pt ph pv) (fun u t => va_P (dC, dI) fmCl (fw h0 a1 a2 a3 a4 a5 a6 cI u.1 u.2.1 u.2.2.1 u.2.2.2.1 u.2.2.2.2.1 u.2.2.2.2.2.1 u.2.2.2.2.2.2) t.heap) (xf_A (fw h0 a1 a2 a3 a4 a5 a6 cI fg fk fu fc fb fn rc))) 0 0 (xf_A (fw h0 a1 a2 a3 a4 a5 a6 cI fg fk fu fc fb fn rc)) := by
  refine Met.ofW (cc := cX0_drop) (maxL := 5) (ret := (some .int)) (by decide) rfl ?_
  intro p e s m args below meth c s₁ B hml hv
  obtain ⟨rfl, hP, hK, hD0⟩ := hv
  have hx := B.exec
  have hb := B.bytes
  have hr := B.returns
  have hts := atoms_spec (ws := wsX0_drop) B.pre
  have hown : s.vm.findClass RX0 = some m.cls := findClass_of_methodNamed B.named
  have hlocks := B.notSynchronized
  have hin : ∀ w ∈ u_ws RX0 TX0 7, w ∈ wsX0_drop := by decide +kernel
  have hf_given := hts (.fieldLink RX0 9 "FacetCounts" "given" "[I") (by decide +kernel)
  have hf_rowCount := hts (.fieldLink RX0 28 "FacetCounts" "rowCount" "I") (by decide +kernel)
  have hD := xf_A_self hD0
  generalize hAe : xf_A (fw h0 a1 a2 a3 a4 a5 a6 cI fg fk fu fc fb fn rc) = A at hD ⊢
  have hS : va_S A s.heap s.heap [] := va_S.rf
  have hP : va_P (dC, dI) fmCl (fw h0 a1 a2 a3 a4 a5 a6 cI fg fk fu fc fb fn rc) s.heap := hP
  have hl := lv_entry ([.ref h0, .int pt, .int ph, .int pv]) (n := 5) (Nat.le_of_ble_eq_true rfl)
  rw [lg_entry_eq]
  generalize (lg_sl ([.ref h0, .int pt, .int ph, .int pv]) ++ List.replicate (5 - (lg_sl ([.ref h0, .int pt, .int ph, .int pv])).length) Slot.unset).toArray = ls at hl ⊢
  have hl : lv_has ls 5 [(0, .ref h0), (1, .int pt), (2, .int ph), (3, .int pv)] := hl
  refine lv_iload_n hx hb dX0_drop_0 rfl (lv_at hl 1 rfl) ?_
  refine vp_callSi (W.runS (As := [.int pt]) (rest := []) ⟨hx, hb, hml, hown, hts⟩ (k_isThing l pt) (va_cwS 1 hts gX0_drop_X0_isThing rfl rfl rfl (by decide +kernel) ⟨Nat.le_of_ble_eq_true rfl, Nat.le_of_ble_eq_true rfl⟩) (xf_preS0) rfl rfl hl.1 rfl (lv_room (Nat.le_of_ble_eq_true rfl)) dX0_drop_1 ⟨Nat.zero_le _, Nat.zero_le _⟩) (fun r hr9 => ?_)
  subst hr9
  refine xf_Beq (tgt := 21) hx hb dX0_drop_4 (by decide) (fun c4 => ?_) (fun c4 => ?_)
  ·
    refine lv_iconst (v := (-1)) hx hb dX0_drop_21 (by decide) ?_
    exact W.iret (v := (-1)) hx hb hr (fun t9 ht9 hW9 => ⟨⟨_, (fg, fk, fu, fc, fb, fn, rc), rfl, by simp [fcDrop, c4], xf_hP ht9 hP⟩, hS.F ht9⟩) hS.2.2 dX0_drop_22
  ·
    obtain ⟨t, ht, rfl⟩ := xf_in_of c4 (by decide)
    have et : (nI t).toNatClampNeg = t := nI_clamp (by omega)
    refine lv_iload_n hx hb dX0_drop_7 rfl (lv_at hl 2 rfl) ?_
    refine vp_callSi (W.runS (As := [.int ph]) (rest := []) ⟨hx, hb, hml, hown, hts⟩ (k_isHead l ph) (va_cwS 1 hts gX0_drop_X0_isHead rfl rfl rfl (by decide +kernel) ⟨Nat.le_of_ble_eq_true rfl, Nat.le_of_ble_eq_true rfl⟩) (xf_preS0) rfl rfl hl.1 rfl (lv_room (Nat.le_of_ble_eq_true rfl)) dX0_drop_8 ⟨Nat.zero_le _, Nat.zero_le _⟩) (fun r hr9 => ?_)
    subst hr9
    refine xf_Beq (tgt := 21) hx hb dX0_drop_11 (by decide) (fun c11 => ?_) (fun c11 => ?_)
    ·
      refine lv_iconst (v := (-1)) hx hb dX0_drop_21 (by decide) ?_
      exact W.iret (v := (-1)) hx hb hr (fun t9 ht9 hW9 => ⟨⟨_, (fg, fk, fu, fc, fb, fn, rc), rfl, by simp [fcDrop, c4, et, c11], xf_hP ht9 hP⟩, hS.F ht9⟩) hS.2.2 dX0_drop_22
    ·
      obtain ⟨h, hh, rfl⟩ := xf_in_of c11 (by decide)
      have eh : (nI h).toNatClampNeg = h := nI_clamp (by omega)
      refine lv_iload_n hx hb dX0_drop_14 rfl (lv_at hl 3 rfl) ?_
      refine vp_callSi (W.runS (As := [.int pv]) (rest := []) ⟨hx, hb, hml, hown, hts⟩ (k_isValue l pv) (va_cwS 1 hts gX0_drop_X0_isValue rfl rfl rfl (by decide +kernel) ⟨Nat.le_of_ble_eq_true rfl, Nat.le_of_ble_eq_true rfl⟩) (xf_preS0) rfl rfl hl.1 rfl (lv_room (Nat.le_of_ble_eq_true rfl)) dX0_drop_15 ⟨Nat.zero_le _, Nat.zero_le _⟩) (fun r hr9 => ?_)
      subst hr9
      refine xf_Bne (tgt := 23) hx hb dX0_drop_18 (by decide) (fun c18 => ?_) (fun c18 => ?_)
      ·
        obtain ⟨v, hv, rfl⟩ := xf_in_of c18 (by decide)
        have ev : (nI v).toNatClampNeg = v := nI_clamp (by omega)
        refine lv_iload_n hx hb dX0_drop_23 rfl (lv_at hl 1 rfl) ?_
        refine lv_bipush (v := nI 8) hx hb dX0_drop_24 (by decide) ?_
        refine lv_imul hx hb dX0_drop_26 ?_
        refine xf_be (y := nI (t * 8)) (by exact pk_mul _ _) ?_
        refine lv_iload_n hx hb dX0_drop_27 rfl (lv_at hl 2 rfl) ?_
        refine lv_iadd hx hb dX0_drop_28 ?_
        refine xf_be (y := nI (t * 8 + h)) (by exact nI_add _ _) ?_
        refine lv_istore (lv' := [(4, .int (nI (t * 8 + h))), (0, .ref h0), (1, .int (nI t)), (2, .int (nI h)), (3, .int (nI v))]) hx hb dX0_drop_29 hl (by decide) rfl (fun ls hl => ?_)
        refine lv_aload_n hx hb dX0_drop_31 rfl (lv_at hl 1 rfl) ?_
        refine va_get (D := (dC, dI)) (ci := 0) (v := .ref a1) (C := RX0) (T := TX0) (N := 7) hx hb hts hin hown hK hP 0 rfl rfl 0 (by decide) hf_given (fun _ h9 => h9) rfl dX0_drop_32 ?_
        refine lv_iload hx hb dX0_drop_35 (lv_at hl 0 rfl) ?_
        refine xf_iald hx hb hK hP 1 0 rfl rfl (j := (t * 8 + h)) (by omega) (by decide) dX0_drop_37 ?_
        refine lv_iload_n hx hb dX0_drop_38 rfl (lv_at hl 4 rfl) ?_
        refine vp_callSi (W.runS (As := [.int (fg (t * 8 + h)), .int (nI v)]) (rest := []) ⟨hx, hb, hml, hown, hts⟩ (k_holds l (fg (t * 8 + h)) v (by omega)) (va_cwS 2 hts gX0_drop_X0_holds rfl rfl rfl (by decide +kernel) ⟨Nat.le_of_ble_eq_true rfl, Nat.le_of_ble_eq_true rfl⟩) (xf_preS0) rfl rfl hl.1 rfl (lv_room (Nat.le_of_ble_eq_true rfl)) dX0_drop_39 ⟨Nat.zero_le _, Nat.zero_le _⟩) (fun r hr9 => ?_)
        subst hr9
        refine xf_Bne (tgt := 47) hx hb dX0_drop_42 (by decide) (fun c42 => ?_) (fun c42 => ?_)
        ·
          refine lv_aload_n hx hb dX0_drop_47 rfl (lv_at hl 1 rfl) ?_
          refine va_get (D := (dC, dI)) (ci := 0) (v := .ref a1) (C := RX0) (T := TX0) (N := 7) hx hb hts hin hown hK hP 0 rfl rfl 0 (by decide) hf_given (fun _ h9 => h9) rfl dX0_drop_48 ?_
          refine lv_iload hx hb dX0_drop_51 (lv_at hl 0 rfl) ?_
          refine lv_dup2_11 hx hb dX0_drop_53 rfl rfl ?_
          refine xf_iald hx hb hK hP 1 0 rfl rfl (j := (t * 8 + h)) (by omega) (by decide) dX0_drop_54 ?_
          refine lv_iconst (v := nI 1) hx hb dX0_drop_55 (by decide) ?_
          refine lv_iload_n hx hb dX0_drop_56 rfl (lv_at hl 4 rfl) ?_
          refine lv_ishl hx hb dX0_drop_57 ?_
          refine xf_be (y := xf_bit v) (by rfl) ?_
          refine lv_iconst (v := (-1)) hx hb dX0_drop_58 (by decide) ?_
          refine lv_ixor hx hb dX0_drop_59 ?_
          refine xf_be (y := xf_not (xf_bit v)) (by rfl) ?_
          refine lv_iand hx hb dX0_drop_60 ?_
          refine xf_iast hx hb hK hP hD hS 1 0 rfl rfl (j := (t * 8 + h)) (by omega) (by decide) dX0_drop_61 (fun H locs hP hD hS => ?_)
          have hP : va_P (dC, dI) fmCl (fw h0 a1 a2 a3 a4 a5 a6 cI (upd fg (t * 8 + h) ((fg (t * 8 + h)) &&& (xf_not (xf_bit v)))) fk fu fc fb fn rc) H := hP
          have hD : va_D A (fw h0 a1 a2 a3 a4 a5 a6 cI (upd fg (t * 8 + h) ((fg (t * 8 + h)) &&& (xf_not (xf_bit v)))) fk fu fc fb fn rc) := hD
          refine lv_aload_n hx hb dX0_drop_62 rfl (lv_at hl 1 rfl) ?_
          refine lv_dup hx hb dX0_drop_63 rfl ?_
          refine va_get (D := (dC, dI)) (ci := 0) (v := .int rc) (C := RX0) (T := TX0) (N := 7) hx hb hts hin hown hK hP 0 rfl rfl 6 (by decide) hf_rowCount (fun _ h9 => h9) rfl dX0_drop_64 ?_
          refine lv_iconst (v := nI 1) hx hb dX0_drop_67 (by decide) ?_
          refine lv_isub hx hb dX0_drop_68 ?_
          refine va_put (D := (dC, dI)) (ci := 0) (v := .int (rc - (nI 1))) (ty := .int) (C := RX0) (T := TX0) (N := 7) hx hb hts hin tyX0 tyX0_ok nmX0 hown hK hP hD hS 0 rfl rfl 6 (by decide) hf_rowCount (fun _ h9 => h9) rfl (by decide +kernel) rfl rfl (Nat.le_of_ble_eq_true rfl) dX0_drop_69 (fun H locs hP hD hS => ?_)
          have hP : va_P (dC, dI) fmCl (fw h0 a1 a2 a3 a4 a5 a6 cI (upd fg (t * 8 + h) ((fg (t * 8 + h)) &&& (xf_not (xf_bit v)))) fk fu fc fb fn (rc - (nI 1))) H := hP
          have hD : va_D A (fw h0 a1 a2 a3 a4 a5 a6 cI (upd fg (t * 8 + h) ((fg (t * 8 + h)) &&& (xf_not (xf_bit v)))) fk fu fc fb fn (rc - (nI 1))) := hD
          refine lv_aload_n hx hb dX0_drop_72 rfl (lv_at hl 1 rfl) ?_
          refine lv_iload_n hx hb dX0_drop_73 rfl (lv_at hl 2 rfl) ?_
          have hFc := xf_A_le hD
          refine va_callv (va_runV (As := [.int (nI t)]) (rest := []) ⟨hx, hb, hml, hown, hts⟩ (k_renewKinds l dC dI h0 a1 a2 a3 a4 a5 a6 cI (upd fg (t * 8 + h) ((fg (t * 8 + h)) &&& (xf_not (xf_bit v)))) fk fu fc fb fn (rc - (nI 1)) t (by omega)) (cwV 1 hts gX0_drop_X0_renewKinds rfl rfl rfl (by decide +kernel) ⟨Nat.le_of_ble_eq_true rfl, Nat.le_of_ble_eq_true rfl⟩) (xf_preW (ci := 0) (RX0, TX0, 7) hK hP hD rfl rfl) rfl rfl hl.1 rfl (lv_room (Nat.le_of_ble_eq_true rfl)) dX0_drop_74 ⟨Nat.zero_le _, Nat.zero_le _⟩) hS (fun q _ h => hFc q h) hFc (fun u9 t9 H locs ht9 hvm9 hw9 hB9 hz9 hk9 hS => ?_)
          subst hw9
          have hB9 := xf_hB ht9 hB9
          have hP : va_P (dC, dI) fmCl (fw h0 a1 a2 a3 a4 a5 a6 cI (upd fg (t * 8 + h) ((fg (t * 8 + h)) &&& (xf_not (xf_bit v)))) (upd fk t (fcRK fu ((upd fg (t * 8 + h) ((fg (t * 8 + h)) &&& (xf_not (xf_bit v)))) (t * 8)) 32)) fu fc fb fn (rc - (nI 1))) H := hB9
          have hD : va_D A (fw h0 a1 a2 a3 a4 a5 a6 cI (upd fg (t * 8 + h) ((fg (t * 8 + h)) &&& (xf_not (xf_bit v)))) (upd fk t (fcRK fu ((upd fg (t * 8 + h) ((fg (t * 8 + h)) &&& (xf_not (xf_bit v)))) (t * 8)) 32)) fu fc fb fn (rc - (nI 1))) := xf_wD hD rfl
          refine lv_iconst (v := nI 1) hx hb dX0_drop_77 (by decide) ?_
          exact W.iret (v := nI 1) hx hb hr (fun t9 ht9 hW9 => ⟨⟨_, (upd fg (t * 8 + h) ((fg (t * 8 + h)) &&& (xf_not (xf_bit v))), upd fk t (fcRK fu ((upd fg (t * 8 + h) ((fg (t * 8 + h)) &&& (xf_not (xf_bit v)))) (t * 8)) 32), fu, fc, fb, fn, rc - (nI 1)), rfl, by simp [fcDrop, c4, et, c11, eh, c18, ev, c42], xf_hP ht9 hP⟩, hS.F ht9⟩) hS.2.2 dX0_drop_78
        ·
          refine lv_iconst (v := nI 0) hx hb dX0_drop_45 (by decide) ?_
          exact W.iret (v := nI 0) hx hb hr (fun t9 ht9 hW9 => ⟨⟨_, (fg, fk, fu, fc, fb, fn, rc), rfl, by simp [fcDrop, c4, et, c11, eh, c18, ev, c42], xf_hP ht9 hP⟩, hS.F ht9⟩) hS.2.2 dX0_drop_46
      ·
        refine lv_iconst (v := (-1)) hx hb dX0_drop_21 (by decide) ?_
        exact W.iret (v := (-1)) hx hb hr (fun t9 ht9 hW9 => ⟨⟨_, (fg, fk, fu, fc, fb, fn, rc), rfl, by simp [fcDrop, c4, et, c11, eh, c18], xf_hP ht9 hP⟩, hS.F ht9⟩) hS.2.2 dX0_drop_22
set_option maxHeartbeats 4000000 in
set_option maxRecDepth 100000 in
/-- above(pk, pu) -/
theorem k_above (l : Launch) (dC : Nat → ClassId) (dI : Nat → Nat → Nat) (h0 a1 a2 a3 a4 a5 a6 : Nat) (cI : ClassId) (fg fk fu fc fb fn : Nat → Int32) (rc : Int32) (pk pu : Int32) : Met l yX0_above wsX0_above ({ frames := 3, cells := 0, slots := 0, locals := 70 }) (va_Pc [.ref h0, .int pk, .int pu] (fun U => va_P (dC, dI) fmCl (fw h0 a1 a2 a3 a4 a5 a6 cI fg fk fu fc fb fn rc) U.heap ∧ va_K (dC, dI) fmCl [(cI, .int)] U ∧ va_D (fun _ => True) (fw h0 a1 a2 a3 a4 a5 a6 cI fg fk fu fc fb fn rc))) (va_Qi (fun (r : Int32) (u : FcS) => (r, u) = fcAbove fg fk fu fc fb fn rc pk pu) (fun u t => va_P (dC, dI) fmCl (fw h0 a1 a2 a3 a4 a5 a6 cI u.1 u.2.1 u.2.2.1 u.2.2.2.1 u.2.2.2.2.1 u.2.2.2.2.2.1 u.2.2.2.2.2.2) t.heap) (xf_A (fw h0 a1 a2 a3 a4 a5 a6 cI fg fk fu fc fb fn rc))) 0 0 (xf_A (fw h0 a1 a2 a3 a4 a5 a6 cI fg fk fu fc fb fn rc)) := by
  refine Met.ofW (cc := cX0_above) (maxL := 4) (ret := (some .int)) (by decide) rfl ?_
  intro p e s m args below meth c s₁ B hml hv
  obtain ⟨rfl, hP, hK, hD0⟩ := hv
  have hx := B.exec
  have hb := B.bytes
  have hr := B.returns
  have hts := atoms_spec (ws := wsX0_above) B.pre
  have hown : s.vm.findClass RX0 = some m.cls := findClass_of_methodNamed B.named
  have hlocks := B.notSynchronized
  have hin : ∀ w ∈ u_ws RX0 TX0 7, w ∈ wsX0_above := by decide +kernel
  have hf_uppers := hts (.fieldLink RX0 16 "FacetCounts" "uppers" "[I") (by decide +kernel)
  have hD := xf_A_self hD0
  generalize hAe : xf_A (fw h0 a1 a2 a3 a4 a5 a6 cI fg fk fu fc fb fn rc) = A at hD ⊢
  have hS : va_S A s.heap s.heap [] := va_S.rf
  have hP : va_P (dC, dI) fmCl (fw h0 a1 a2 a3 a4 a5 a6 cI fg fk fu fc fb fn rc) s.heap := hP
  have hl := lv_entry ([.ref h0, .int pk, .int pu]) (n := 4) (Nat.le_of_ble_eq_true rfl)
  rw [lg_entry_eq]
  generalize (lg_sl ([.ref h0, .int pk, .int pu]) ++ List.replicate (4 - (lg_sl ([.ref h0, .int pk, .int pu])).length) Slot.unset).toArray = ls at hl ⊢
  have hl : lv_has ls 4 [(0, .ref h0), (1, .int pk), (2, .int pu)] := hl
  refine lv_iload_n hx hb dX0_above_0 rfl (lv_at hl 1 rfl) ?_
  refine vp_callSi (W.runS (As := [.int pk]) (rest := []) ⟨hx, hb, hml, hown, hts⟩ (k_isValue l pk) (va_cwS 1 hts gX0_above_X0_isValue rfl rfl rfl (by decide +kernel) ⟨Nat.le_of_ble_eq_true rfl, Nat.le_of_ble_eq_true rfl⟩) (xf_preS0) rfl rfl hl.1 rfl (lv_room (Nat.le_of_ble_eq_true rfl)) dX0_above_1 ⟨Nat.zero_le _, Nat.zero_le _⟩) (fun r hr9 => ?_)
  subst hr9
  refine xf_Beq (tgt := 19) hx hb dX0_above_4 (by decide) (fun c4 => ?_) (fun c4 => ?_)
  ·
    refine lv_iconst (v := (-1)) hx hb dX0_above_19 (by decide) ?_
    exact W.iret (v := (-1)) hx hb hr (fun t9 ht9 hW9 => ⟨⟨_, (fg, fk, fu, fc, fb, fn, rc), rfl, by simp [fcAbove, c4], xf_hP ht9 hP⟩, hS.F ht9⟩) hS.2.2 dX0_above_20
  ·
    obtain ⟨k, hk, rfl⟩ := xf_in_of c4 (by decide)
    have ek : (nI k).toNatClampNeg = k := nI_clamp (by omega)
    refine lv_iload_n hx hb dX0_above_7 rfl (lv_at hl 2 rfl) ?_
    refine lv_iconst (v := (-1)) hx hb dX0_above_8 (by decide) ?_
    refine lv_icmp_eq (tgt := 21) hx hb dX0_above_9 (by decide) (fun c9 => ?_) (fun c9 => ?_)
    ·
      refine lv_aload_n hx hb dX0_above_21 rfl (lv_at hl 0 rfl) ?_
      refine va_get (D := (dC, dI)) (ci := 0) (v := .ref a3) (C := RX0) (T := TX0) (N := 7) hx hb hts hin hown hK hP 0 rfl rfl 2 (by decide) hf_uppers (fun _ h9 => h9) rfl dX0_above_22 ?_
      refine lv_iload_n hx hb dX0_above_25 rfl (lv_at hl 1 rfl) ?_
      refine xf_iald hx hb hK hP 3 0 rfl rfl (j := k) (by omega) (by decide) dX0_above_26 ?_
      refine lv_iload_n hx hb dX0_above_27 rfl (lv_at hl 2 rfl) ?_
      refine lv_icmp_ne (tgt := 33) hx hb dX0_above_28 (by decide) (fun c28 => ?_) (fun c28 => ?_)
      ·
        refine lv_iload_n hx hb dX0_above_33 rfl (lv_at hl 2 rfl) ?_
        refine lv_iconst (v := (-1)) hx hb dX0_above_34 (by decide) ?_
        refine lv_icmp_eq (tgt := 54) hx hb dX0_above_35 (by decide) (fun c35 => ?_) (fun c35 => ?_)
        ·
          refine lv_aload_n hx hb dX0_above_54 rfl (lv_at hl 0 rfl) ?_
          refine va_get (D := (dC, dI)) (ci := 0) (v := .ref a3) (C := RX0) (T := TX0) (N := 7) hx hb hts hin hown hK hP 0 rfl rfl 2 (by decide) hf_uppers (fun _ h9 => h9) rfl dX0_above_55 ?_
          refine lv_iload_n hx hb dX0_above_58 rfl (lv_at hl 1 rfl) ?_
          refine lv_iload_n hx hb dX0_above_59 rfl (lv_at hl 2 rfl) ?_
          refine xf_iast hx hb hK hP hD hS 3 0 rfl rfl (j := k) (by omega) (by decide) dX0_above_60 (fun H locs hP hD hS => ?_)
          have hP : va_P (dC, dI) fmCl (fw h0 a1 a2 a3 a4 a5 a6 cI fg fk (upd fu k pu) fc fb fn rc) H := hP
          have hD : va_D A (fw h0 a1 a2 a3 a4 a5 a6 cI fg fk (upd fu k pu) fc fb fn rc) := hD
          refine lv_iconst (v := nI 0) hx hb dX0_above_61 (by decide) ?_
          refine lv_istore_n (lv' := [(3, .int (nI 0)), (0, .ref h0), (1, .int (nI k)), (2, .int pu)]) hx hb dX0_above_62 rfl hl (by decide) rfl (fun ls hl => ?_)
          refine xf_loopH (σ := Nat) (fun (z9 : Nat) => 40 - z9) (fun (z9 : Nat) => [(0, .ref h0), (1, .int (nI k)), (2, .int pu), (3, .int (nI z9))]) (fun (z9 : Nat) => (fw h0 a1 a2 a3 a4 a5 a6 cI fg (fcRA (upd fu k pu) fg fk z9) (upd fu k pu) fc fb fn rc)) (fun (z9 : Nat) => z9 ≤ 40) 0 (lv_sub hl [1, 2, 3, 0] rfl) (Nat.zero_le _) hP hD hS (fun z9 ls H locs hi hl hP hD hS ih63 => ?_)
          obtain ⟨t, hxe⟩ : ∃ z, z = z9 := ⟨_, rfl⟩
          subst hxe
          have hl : lv_has ls 4 [(0, .ref h0), (1, .int (nI k)), (2, .int pu), (3, .int (nI t))] := hl
          have hP : va_P (dC, dI) fmCl (fw h0 a1 a2 a3 a4 a5 a6 cI fg (fcRA (upd fu k pu) fg fk t) (upd fu k pu) fc fb fn rc) H := hP
          have hD : va_D A (fw h0 a1 a2 a3 a4 a5 a6 cI fg (fcRA (upd fu k pu) fg fk t) (upd fu k pu) fc fb fn rc) := hD
          have hi : t ≤ 40 := hi
          refine lv_iload_n hx hb dX0_above_63 rfl (lv_at hl 3 rfl) ?_
          refine lv_bipush (v := nI 40) hx hb dX0_above_64 (by decide) ?_
          refine xf_ge (tgt := 80) hx hb dX0_above_66 (by decide) (by omega) (by omega) (fun c66 => ?_) (fun c66 => ?_)
          ·
            obtain rfl : t = 40 := by omega
            refine lv_iconst (v := nI 1) hx hb dX0_above_80 (by decide) ?_
            exact W.iret (v := nI 1) hx hb hr (fun t9 ht9 hW9 => ⟨⟨_, (fg, fcRA (upd fu k pu) fg fk 40, upd fu k pu, fc, fb, fn, rc), rfl, by subst c9; simp [fcAbove, c4, ek, c28], xf_hP ht9 hP⟩, hS.F ht9⟩) hS.2.2 dX0_above_81
          ·
            refine lv_aload_n hx hb dX0_above_69 rfl (lv_at hl 0 rfl) ?_
            refine lv_iload_n hx hb dX0_above_70 rfl (lv_at hl 3 rfl) ?_
            have hFc := xf_A_le hD
            refine va_callv (va_runV (As := [.int (nI t)]) (rest := []) ⟨hx, hb, hml, hown, hts⟩ (k_renewKinds l dC dI h0 a1 a2 a3 a4 a5 a6 cI fg (fcRA (upd fu k pu) fg fk t) (upd fu k pu) fc fb fn rc t (by omega)) (cwV 1 hts gX0_above_X0_renewKinds rfl rfl rfl (by decide +kernel) ⟨Nat.le_of_ble_eq_true rfl, Nat.le_of_ble_eq_true rfl⟩) (xf_preW (ci := 0) (RX0, TX0, 7) hK hP hD rfl rfl) rfl rfl hl.1 rfl (lv_room (Nat.le_of_ble_eq_true rfl)) dX0_above_71 ⟨Nat.zero_le _, Nat.zero_le _⟩) hS (fun q _ h => hFc q h) hFc (fun u9 t9 H locs ht9 hvm9 hw9 hB9 hz9 hk9 hS => ?_)
            subst hw9
            have hB9 := xf_hB ht9 hB9
            have hP : va_P (dC, dI) fmCl (fw h0 a1 a2 a3 a4 a5 a6 cI fg (upd (fcRA (upd fu k pu) fg fk t) t (fcRK (upd fu k pu) (fg (t * 8)) 32)) (upd fu k pu) fc fb fn rc) H := hB9
            have hD : va_D A (fw h0 a1 a2 a3 a4 a5 a6 cI fg (upd (fcRA (upd fu k pu) fg fk t) t (fcRK (upd fu k pu) (fg (t * 8)) 32)) (upd fu k pu) fc fb fn rc) := xf_wD hD rfl
            refine lv_iinc (v := nI (t + 1)) (lv' := [(3, .int (nI (t + 1))), (0, .ref h0), (1, .int (nI k)), (2, .int pu)]) hx hb dX0_above_74 hl (k := 3) rfl (by exact nI_1 t) (by decide) rfl (fun ls hl => ?_)
            refine lv_goto (tgt := 63) hx hb dX0_above_77 (by decide) ?_
            have hl := lv_sub (l' := [(0, .ref h0), (1, .int (nI k)), (2, .int pu), (3, .int (nI (t + 1)))]) hl [1, 2, 3, 0] rfl
            have hl : lv_has ls 4 [(0, .ref h0), (1, .int (nI k)), (2, .int pu), (3, .int (nI (t + 1)))] := xf_lv hl (by rfl)
            have hP : va_P (dC, dI) fmCl (fw h0 a1 a2 a3 a4 a5 a6 cI fg (fcRA (upd fu k pu) fg fk (t + 1)) (upd fu k pu) fc fb fn rc) H := xf_wP hP (by rfl)
            have hD : va_D A (fw h0 a1 a2 a3 a4 a5 a6 cI fg (fcRA (upd fu k pu) fg fk (t + 1)) (upd fu k pu) fc fb fn rc) := xf_wD hD rfl
            exact ih63 (t + 1) ls H locs (by show 40 - (t + 1) < 40 - t; omega) (by show (t + 1) ≤ 40; omega) hl hP hD hS
        ·
          exact absurd c9 c35
      ·
        refine lv_iconst (v := nI 0) hx hb dX0_above_31 (by decide) ?_
        exact W.iret (v := nI 0) hx hb hr (fun t9 ht9 hW9 => ⟨⟨_, (fg, fk, fu, fc, fb, fn, rc), rfl, by subst c9; simp [fcAbove, c4, ek, c28], xf_hP ht9 hP⟩, hS.F ht9⟩) hS.2.2 dX0_above_32
    ·
      refine lv_iload_n hx hb dX0_above_12 rfl (lv_at hl 2 rfl) ?_
      refine vp_callSi (W.runS (As := [.int pu]) (rest := []) ⟨hx, hb, hml, hown, hts⟩ (k_isValue l pu) (va_cwS 1 hts gX0_above_X0_isValue rfl rfl rfl (by decide +kernel) ⟨Nat.le_of_ble_eq_true rfl, Nat.le_of_ble_eq_true rfl⟩) (xf_preS0) rfl rfl hl.1 rfl (lv_room (Nat.le_of_ble_eq_true rfl)) dX0_above_13 ⟨Nat.zero_le _, Nat.zero_le _⟩) (fun r hr9 => ?_)
      subst hr9
      refine xf_Bne (tgt := 21) hx hb dX0_above_16 (by decide) (fun c16 => ?_) (fun c16 => ?_)
      ·
        refine lv_aload_n hx hb dX0_above_21 rfl (lv_at hl 0 rfl) ?_
        refine va_get (D := (dC, dI)) (ci := 0) (v := .ref a3) (C := RX0) (T := TX0) (N := 7) hx hb hts hin hown hK hP 0 rfl rfl 2 (by decide) hf_uppers (fun _ h9 => h9) rfl dX0_above_22 ?_
        refine lv_iload_n hx hb dX0_above_25 rfl (lv_at hl 1 rfl) ?_
        refine xf_iald hx hb hK hP 3 0 rfl rfl (j := k) (by omega) (by decide) dX0_above_26 ?_
        refine lv_iload_n hx hb dX0_above_27 rfl (lv_at hl 2 rfl) ?_
        refine lv_icmp_ne (tgt := 33) hx hb dX0_above_28 (by decide) (fun c28 => ?_) (fun c28 => ?_)
        ·
          refine lv_iload_n hx hb dX0_above_33 rfl (lv_at hl 2 rfl) ?_
          refine lv_iconst (v := (-1)) hx hb dX0_above_34 (by decide) ?_
          refine lv_icmp_eq (tgt := 54) hx hb dX0_above_35 (by decide) (fun c35 => ?_) (fun c35 => ?_)
          ·
            exact absurd c35 c9
          ·
            refine lv_aload_n hx hb dX0_above_38 rfl (lv_at hl 0 rfl) ?_
            refine lv_iload_n hx hb dX0_above_39 rfl (lv_at hl 2 rfl) ?_
            refine lv_iconst (v := nI 0) hx hb dX0_above_40 (by decide) ?_
            refine vp_callSi (W.runV (As := [.int pu, .int (nI 0)]) (rest := []) ⟨hx, hb, hml, hown, hts⟩ (k_withUppers l dC dI h0 a1 a2 a3 a4 a5 a6 cI fg fk fu fc fb fn rc pu (nI 0)) (cwV 2 hts gX0_above_X0_withUppers rfl rfl rfl (by decide +kernel) ⟨Nat.le_of_ble_eq_true rfl, Nat.le_of_ble_eq_true rfl⟩) (xf_preV (ci := 0) (RX0, TX0, 7) hK hP rfl rfl) rfl rfl hl.1 rfl (lv_room (Nat.le_of_ble_eq_true rfl)) dX0_above_41 ⟨Nat.zero_le _, Nat.zero_le _⟩) (fun r hr9 => ?_)
            subst hr9
            refine lv_iload_n hx hb dX0_above_44 rfl (lv_at hl 1 rfl) ?_
            refine vp_callSi (W.runS (As := [.int (fcWU fu 32 pu (nI 0)), .int (nI k)]) (rest := []) ⟨hx, hb, hml, hown, hts⟩ (k_holds l (fcWU fu 32 pu (nI 0)) k (by omega)) (va_cwS 2 hts gX0_above_X0_holds rfl rfl rfl (by decide +kernel) ⟨Nat.le_of_ble_eq_true rfl, Nat.le_of_ble_eq_true rfl⟩) (xf_preS0) rfl rfl hl.1 rfl (lv_room (Nat.le_of_ble_eq_true rfl)) dX0_above_45 ⟨Nat.zero_le _, Nat.zero_le _⟩) (fun r hr9 => ?_)
            subst hr9
            refine xf_Beq (tgt := 54) hx hb dX0_above_48 (by decide) (fun c48 => ?_) (fun c48 => ?_)
            ·
              refine lv_aload_n hx hb dX0_above_54 rfl (lv_at hl 0 rfl) ?_
              refine va_get (D := (dC, dI)) (ci := 0) (v := .ref a3) (C := RX0) (T := TX0) (N := 7) hx hb hts hin hown hK hP 0 rfl rfl 2 (by decide) hf_uppers (fun _ h9 => h9) rfl dX0_above_55 ?_
              refine lv_iload_n hx hb dX0_above_58 rfl (lv_at hl 1 rfl) ?_
              refine lv_iload_n hx hb dX0_above_59 rfl (lv_at hl 2 rfl) ?_
              refine xf_iast hx hb hK hP hD hS 3 0 rfl rfl (j := k) (by omega) (by decide) dX0_above_60 (fun H locs hP hD hS => ?_)
              have hP : va_P (dC, dI) fmCl (fw h0 a1 a2 a3 a4 a5 a6 cI fg fk (upd fu k pu) fc fb fn rc) H := hP
              have hD : va_D A (fw h0 a1 a2 a3 a4 a5 a6 cI fg fk (upd fu k pu) fc fb fn rc) := hD
              refine lv_iconst (v := nI 0) hx hb dX0_above_61 (by decide) ?_
              refine lv_istore_n (lv' := [(3, .int (nI 0)), (0, .ref h0), (1, .int (nI k)), (2, .int pu)]) hx hb dX0_above_62 rfl hl (by decide) rfl (fun ls hl => ?_)
              refine xf_loopH (σ := Nat) (fun (z9 : Nat) => 40 - z9) (fun (z9 : Nat) => [(0, .ref h0), (1, .int (nI k)), (2, .int pu), (3, .int (nI z9))]) (fun (z9 : Nat) => (fw h0 a1 a2 a3 a4 a5 a6 cI fg (fcRA (upd fu k pu) fg fk z9) (upd fu k pu) fc fb fn rc)) (fun (z9 : Nat) => z9 ≤ 40) 0 (lv_sub hl [1, 2, 3, 0] rfl) (Nat.zero_le _) hP hD hS (fun z9 ls H locs hi hl hP hD hS ih63 => ?_)
              obtain ⟨t, hxe⟩ : ∃ z, z = z9 := ⟨_, rfl⟩
              subst hxe
              have hl : lv_has ls 4 [(0, .ref h0), (1, .int (nI k)), (2, .int pu), (3, .int (nI t))] := hl
              have hP : va_P (dC, dI) fmCl (fw h0 a1 a2 a3 a4 a5 a6 cI fg (fcRA (upd fu k pu) fg fk t) (upd fu k pu) fc fb fn rc) H := hP
              have hD : va_D A (fw h0 a1 a2 a3 a4 a5 a6 cI fg (fcRA (upd fu k pu) fg fk t) (upd fu k pu) fc fb fn rc) := hD
              have hi : t ≤ 40 := hi
              refine lv_iload_n hx hb dX0_above_63 rfl (lv_at hl 3 rfl) ?_
              refine lv_bipush (v := nI 40) hx hb dX0_above_64 (by decide) ?_
              refine xf_ge (tgt := 80) hx hb dX0_above_66 (by decide) (by omega) (by omega) (fun c66 => ?_) (fun c66 => ?_)
              ·
                obtain rfl : t = 40 := by omega
                refine lv_iconst (v := nI 1) hx hb dX0_above_80 (by decide) ?_
                exact W.iret (v := nI 1) hx hb hr (fun t9 ht9 hW9 => ⟨⟨_, (fg, fcRA (upd fu k pu) fg fk 40, upd fu k pu, fc, fb, fn, rc), rfl, by simp [fcAbove, c4, ek, c9, c16, c28, c48], xf_hP ht9 hP⟩, hS.F ht9⟩) hS.2.2 dX0_above_81
              ·
                refine lv_aload_n hx hb dX0_above_69 rfl (lv_at hl 0 rfl) ?_
                refine lv_iload_n hx hb dX0_above_70 rfl (lv_at hl 3 rfl) ?_
                have hFc := xf_A_le hD
                refine va_callv (va_runV (As := [.int (nI t)]) (rest := []) ⟨hx, hb, hml, hown, hts⟩ (k_renewKinds l dC dI h0 a1 a2 a3 a4 a5 a6 cI fg (fcRA (upd fu k pu) fg fk t) (upd fu k pu) fc fb fn rc t (by omega)) (cwV 1 hts gX0_above_X0_renewKinds rfl rfl rfl (by decide +kernel) ⟨Nat.le_of_ble_eq_true rfl, Nat.le_of_ble_eq_true rfl⟩) (xf_preW (ci := 0) (RX0, TX0, 7) hK hP hD rfl rfl) rfl rfl hl.1 rfl (lv_room (Nat.le_of_ble_eq_true rfl)) dX0_above_71 ⟨Nat.zero_le _, Nat.zero_le _⟩) hS (fun q _ h => hFc q h) hFc (fun u9 t9 H locs ht9 hvm9 hw9 hB9 hz9 hk9 hS => ?_)
                subst hw9
                have hB9 := xf_hB ht9 hB9
                have hP : va_P (dC, dI) fmCl (fw h0 a1 a2 a3 a4 a5 a6 cI fg (upd (fcRA (upd fu k pu) fg fk t) t (fcRK (upd fu k pu) (fg (t * 8)) 32)) (upd fu k pu) fc fb fn rc) H := hB9
                have hD : va_D A (fw h0 a1 a2 a3 a4 a5 a6 cI fg (upd (fcRA (upd fu k pu) fg fk t) t (fcRK (upd fu k pu) (fg (t * 8)) 32)) (upd fu k pu) fc fb fn rc) := xf_wD hD rfl
                refine lv_iinc (v := nI (t + 1)) (lv' := [(3, .int (nI (t + 1))), (0, .ref h0), (1, .int (nI k)), (2, .int pu)]) hx hb dX0_above_74 hl (k := 3) rfl (by exact nI_1 t) (by decide) rfl (fun ls hl => ?_)
                refine lv_goto (tgt := 63) hx hb dX0_above_77 (by decide) ?_
                have hl := lv_sub (l' := [(0, .ref h0), (1, .int (nI k)), (2, .int pu), (3, .int (nI (t + 1)))]) hl [1, 2, 3, 0] rfl
                have hl : lv_has ls 4 [(0, .ref h0), (1, .int (nI k)), (2, .int pu), (3, .int (nI (t + 1)))] := xf_lv hl (by rfl)
                have hP : va_P (dC, dI) fmCl (fw h0 a1 a2 a3 a4 a5 a6 cI fg (fcRA (upd fu k pu) fg fk (t + 1)) (upd fu k pu) fc fb fn rc) H := xf_wP hP (by rfl)
                have hD : va_D A (fw h0 a1 a2 a3 a4 a5 a6 cI fg (fcRA (upd fu k pu) fg fk (t + 1)) (upd fu k pu) fc fb fn rc) := xf_wD hD rfl
                exact ih63 (t + 1) ls H locs (by show 40 - (t + 1) < 40 - t; omega) (by show (t + 1) ≤ 40; omega) hl hP hD hS
            ·
              refine lv_bipush (v := (-3)) hx hb dX0_above_51 (by decide) ?_
              exact W.iret (v := (-3)) hx hb hr (fun t9 ht9 hW9 => ⟨⟨_, (fg, fk, fu, fc, fb, fn, rc), rfl, by simp [fcAbove, c4, ek, c9, c16, c28, c48], xf_hP ht9 hP⟩, hS.F ht9⟩) hS.2.2 dX0_above_53
        ·
          refine lv_iconst (v := nI 0) hx hb dX0_above_31 (by decide) ?_
          exact W.iret (v := nI 0) hx hb hr (fun t9 ht9 hW9 => ⟨⟨_, (fg, fk, fu, fc, fb, fn, rc), rfl, by simp [fcAbove, c4, ek, c9, c16, c28], xf_hP ht9 hP⟩, hS.F ht9⟩) hS.2.2 dX0_above_32
      ·
        refine lv_iconst (v := (-1)) hx hb dX0_above_19 (by decide) ?_
        exact W.iret (v := (-1)) hx hb hr (fun t9 ht9 hW9 => ⟨⟨_, (fg, fk, fu, fc, fb, fn, rc), rfl, by simp [fcAbove, c4, ek, c9, c16], xf_hP ht9 hP⟩, hS.F ht9⟩) hS.2.2 dX0_above_20
set_option maxHeartbeats 4000000 in
set_option maxRecDepth 100000 in
/-- choose(ph, pv, on) -/
theorem k_choose (l : Launch) (dC : Nat → ClassId) (dI : Nat → Nat → Nat) (h0 a1 a2 a3 a4 a5 a6 : Nat) (cI : ClassId) (fg fk fu fc fb fn : Nat → Int32) (rc : Int32) (ph pv on : Int32) : Met l yX0_choose wsX0_choose ({ frames := 3, cells := 0, slots := 0, locals := 67 }) (va_Pc [.ref h0, .int ph, .int pv, .int on] (fun U => va_P (dC, dI) fmCl (fw h0 a1 a2 a3 a4 a5 a6 cI fg fk fu fc fb fn rc) U.heap ∧ va_K (dC, dI) fmCl [(cI, .int)] U ∧ va_D (fun _ => True) (fw h0 a1 a2 a3 a4 a5 a6 cI fg fk fu fc fb fn rc))) (va_Qi (fun (r : Int32) (u : FcS) => (r, u) = fcChoose fg fk fu fc fb fn rc ph pv on) (fun u t => va_P (dC, dI) fmCl (fw h0 a1 a2 a3 a4 a5 a6 cI u.1 u.2.1 u.2.2.1 u.2.2.2.1 u.2.2.2.2.1 u.2.2.2.2.2.1 u.2.2.2.2.2.2) t.heap) (xf_A (fw h0 a1 a2 a3 a4 a5 a6 cI fg fk fu fc fb fn rc))) 0 0 (xf_A (fw h0 a1 a2 a3 a4 a5 a6 cI fg fk fu fc fb fn rc)) := by
  refine Met.ofW (cc := cX0_choose) (maxL := 4) (ret := (some .int)) (by decide) rfl ?_
  intro p e s m args below meth c s₁ B hml hv
  obtain ⟨rfl, hP, hK, hD0⟩ := hv
  have hx := B.exec
  have hb := B.bytes
  have hr := B.returns
  have hts := atoms_spec (ws := wsX0_choose) B.pre
  have hown : s.vm.findClass RX0 = some m.cls := findClass_of_methodNamed B.named
  have hlocks := B.notSynchronized
  have hin : ∀ w ∈ u_ws RX0 TX0 7, w ∈ wsX0_choose := by decide +kernel
  have hf_chosen := hts (.fieldLink RX0 19 "FacetCounts" "chosen" "[I") (by decide +kernel)
  have hD := xf_A_self hD0
  generalize hAe : xf_A (fw h0 a1 a2 a3 a4 a5 a6 cI fg fk fu fc fb fn rc) = A at hD ⊢
  have hS : va_S A s.heap s.heap [] := va_S.rf
  have hP : va_P (dC, dI) fmCl (fw h0 a1 a2 a3 a4 a5 a6 cI fg fk fu fc fb fn rc) s.heap := hP
  have hl := lv_entry ([.ref h0, .int ph, .int pv, .int on]) (n := 4) (Nat.le_of_ble_eq_true rfl)
  rw [lg_entry_eq]
  generalize (lg_sl ([.ref h0, .int ph, .int pv, .int on]) ++ List.replicate (4 - (lg_sl ([.ref h0, .int ph, .int pv, .int on])).length) Slot.unset).toArray = ls at hl ⊢
  have hl : lv_has ls 4 [(0, .ref h0), (1, .int ph), (2, .int pv), (3, .int on)] := hl
  refine lv_iload_n hx hb dX0_choose_0 rfl (lv_at hl 1 rfl) ?_
  refine vp_callSi (W.runS (As := [.int ph]) (rest := []) ⟨hx, hb, hml, hown, hts⟩ (k_isHead l ph) (va_cwS 1 hts gX0_choose_X0_isHead rfl rfl rfl (by decide +kernel) ⟨Nat.le_of_ble_eq_true rfl, Nat.le_of_ble_eq_true rfl⟩) (xf_preS0) rfl rfl hl.1 rfl (lv_room (Nat.le_of_ble_eq_true rfl)) dX0_choose_1 ⟨Nat.zero_le _, Nat.zero_le _⟩) (fun r hr9 => ?_)
  subst hr9
  refine xf_Beq (tgt := 14) hx hb dX0_choose_4 (by decide) (fun c4 => ?_) (fun c4 => ?_)
  ·
    refine lv_iconst (v := (-1)) hx hb dX0_choose_14 (by decide) ?_
    exact W.iret (v := (-1)) hx hb hr (fun t9 ht9 hW9 => ⟨⟨_, (fg, fk, fu, fc, fb, fn, rc), rfl, by simp [fcChoose, fcCh, c4], xf_hP ht9 hP⟩, hS.F ht9⟩) hS.2.2 dX0_choose_15
  ·
    obtain ⟨h, hh, rfl⟩ := xf_in_of c4 (by decide)
    have eh : (nI h).toNatClampNeg = h := nI_clamp (by omega)
    refine lv_iload_n hx hb dX0_choose_7 rfl (lv_at hl 2 rfl) ?_
    refine vp_callSi (W.runS (As := [.int pv]) (rest := []) ⟨hx, hb, hml, hown, hts⟩ (k_isValue l pv) (va_cwS 1 hts gX0_choose_X0_isValue rfl rfl rfl (by decide +kernel) ⟨Nat.le_of_ble_eq_true rfl, Nat.le_of_ble_eq_true rfl⟩) (xf_preS0) rfl rfl hl.1 rfl (lv_room (Nat.le_of_ble_eq_true rfl)) dX0_choose_8 ⟨Nat.zero_le _, Nat.zero_le _⟩) (fun r hr9 => ?_)
    subst hr9
    refine xf_Bne (tgt := 16) hx hb dX0_choose_11 (by decide) (fun c11 => ?_) (fun c11 => ?_)
    ·
      obtain ⟨v, hv, rfl⟩ := xf_in_of c11 (by decide)
      have ev : (nI v).toNatClampNeg = v := nI_clamp (by omega)
      refine lv_iload_n hx hb dX0_choose_16 rfl (lv_at hl 3 rfl) ?_
      refine lv_if_eq (tgt := 35) hx hb dX0_choose_17 (by decide) (fun c17 => ?_) (fun c17 => ?_)
      ·
        refine lv_aload_n hx hb dX0_choose_35 rfl (lv_at hl 0 rfl) ?_
        refine va_get (D := (dC, dI)) (ci := 0) (v := .ref a4) (C := RX0) (T := TX0) (N := 7) hx hb hts hin hown hK hP 0 rfl rfl 3 (by decide) hf_chosen (fun _ h9 => h9) rfl dX0_choose_36 ?_
        refine lv_iload_n hx hb dX0_choose_39 rfl (lv_at hl 1 rfl) ?_
        refine lv_dup2_11 hx hb dX0_choose_40 rfl rfl ?_
        refine xf_iald hx hb hK hP 4 0 rfl rfl (j := h) (by omega) (by decide) dX0_choose_41 ?_
        refine lv_iconst (v := nI 1) hx hb dX0_choose_42 (by decide) ?_
        refine lv_iload_n hx hb dX0_choose_43 rfl (lv_at hl 2 rfl) ?_
        refine lv_ishl hx hb dX0_choose_44 ?_
        refine xf_be (y := xf_bit v) (by rfl) ?_
        refine lv_iconst (v := (-1)) hx hb dX0_choose_45 (by decide) ?_
        refine lv_ixor hx hb dX0_choose_46 ?_
        refine xf_be (y := xf_not (xf_bit v)) (by rfl) ?_
        refine lv_iand hx hb dX0_choose_47 ?_
        refine xf_iast hx hb hK hP hD hS 4 0 rfl rfl (j := h) (by omega) (by decide) dX0_choose_48 (fun H locs hP hD hS => ?_)
        have hP : va_P (dC, dI) fmCl (fw h0 a1 a2 a3 a4 a5 a6 cI fg fk fu (upd fc h ((fc h) &&& (xf_not (xf_bit v)))) fb fn rc) H := hP
        have hD : va_D A (fw h0 a1 a2 a3 a4 a5 a6 cI fg fk fu (upd fc h ((fc h) &&& (xf_not (xf_bit v)))) fb fn rc) := hD
        refine lv_aload_n hx hb dX0_choose_49 rfl (lv_at hl 0 rfl) ?_
        refine vp_callSi (W.runV (As := []) (rest := []) ⟨hx, hb, hml, hown, hts⟩ (k_countKept l dC dI h0 a1 a2 a3 a4 a5 a6 cI fg fk fu (upd fc h ((fc h) &&& (xf_not (xf_bit v)))) fb fn rc) (cwV 0 hts gX0_choose_X0_countKept rfl rfl rfl (by decide +kernel) ⟨Nat.le_of_ble_eq_true rfl, Nat.le_of_ble_eq_true rfl⟩) (xf_preV (ci := 0) (RX0, TX0, 7) hK hP rfl rfl) rfl rfl hl.1 rfl (lv_room (Nat.le_of_ble_eq_true rfl)) dX0_choose_50 ⟨Nat.zero_le _, Nat.zero_le _⟩) (fun r hr9 => ?_)
        subst hr9
        exact W.iret (v := nI (xf_cnt (fcKp fg fk (upd fc h ((fc h) &&& (xf_not (xf_bit v))))) 40)) hx hb hr (fun t9 ht9 hW9 => ⟨⟨_, (fg, fk, fu, upd fc h ((fc h) &&& (xf_not (xf_bit v))), fb, fn, rc), rfl, by simp [fcChoose, fcCh, c4, eh, c11, ev, c17], xf_hP ht9 hP⟩, hS.F ht9⟩) hS.2.2 dX0_choose_53
      ·
        refine lv_aload_n hx hb dX0_choose_20 rfl (lv_at hl 0 rfl) ?_
        refine va_get (D := (dC, dI)) (ci := 0) (v := .ref a4) (C := RX0) (T := TX0) (N := 7) hx hb hts hin hown hK hP 0 rfl rfl 3 (by decide) hf_chosen (fun _ h9 => h9) rfl dX0_choose_21 ?_
        refine lv_iload_n hx hb dX0_choose_24 rfl (lv_at hl 1 rfl) ?_
        refine lv_dup2_11 hx hb dX0_choose_25 rfl rfl ?_
        refine xf_iald hx hb hK hP 4 0 rfl rfl (j := h) (by omega) (by decide) dX0_choose_26 ?_
        refine lv_iconst (v := nI 1) hx hb dX0_choose_27 (by decide) ?_
        refine lv_iload_n hx hb dX0_choose_28 rfl (lv_at hl 2 rfl) ?_
        refine lv_ishl hx hb dX0_choose_29 ?_
        refine xf_be (y := xf_bit v) (by rfl) ?_
        refine lv_ior hx hb dX0_choose_30 ?_
        refine xf_iast hx hb hK hP hD hS 4 0 rfl rfl (j := h) (by omega) (by decide) dX0_choose_31 (fun H locs hP hD hS => ?_)
        have hP : va_P (dC, dI) fmCl (fw h0 a1 a2 a3 a4 a5 a6 cI fg fk fu (upd fc h ((fc h) ||| (xf_bit v))) fb fn rc) H := hP
        have hD : va_D A (fw h0 a1 a2 a3 a4 a5 a6 cI fg fk fu (upd fc h ((fc h) ||| (xf_bit v))) fb fn rc) := hD
        refine lv_goto (tgt := 49) hx hb dX0_choose_32 (by decide) ?_
        refine lv_aload_n hx hb dX0_choose_49 rfl (lv_at hl 0 rfl) ?_
        refine vp_callSi (W.runV (As := []) (rest := []) ⟨hx, hb, hml, hown, hts⟩ (k_countKept l dC dI h0 a1 a2 a3 a4 a5 a6 cI fg fk fu (upd fc h ((fc h) ||| (xf_bit v))) fb fn rc) (cwV 0 hts gX0_choose_X0_countKept rfl rfl rfl (by decide +kernel) ⟨Nat.le_of_ble_eq_true rfl, Nat.le_of_ble_eq_true rfl⟩) (xf_preV (ci := 0) (RX0, TX0, 7) hK hP rfl rfl) rfl rfl hl.1 rfl (lv_room (Nat.le_of_ble_eq_true rfl)) dX0_choose_50 ⟨Nat.zero_le _, Nat.zero_le _⟩) (fun r hr9 => ?_)
        subst hr9
        exact W.iret (v := nI (xf_cnt (fcKp fg fk (upd fc h ((fc h) ||| (xf_bit v)))) 40)) hx hb hr (fun t9 ht9 hW9 => ⟨⟨_, (fg, fk, fu, upd fc h ((fc h) ||| (xf_bit v)), fb, fn, rc), rfl, by simp [fcChoose, fcCh, c4, eh, c11, ev, c17], xf_hP ht9 hP⟩, hS.F ht9⟩) hS.2.2 dX0_choose_53
    ·
      refine lv_iconst (v := (-1)) hx hb dX0_choose_14 (by decide) ?_
      exact W.iret (v := (-1)) hx hb hr (fun t9 ht9 hW9 => ⟨⟨_, (fg, fk, fu, fc, fb, fn, rc), rfl, by simp [fcChoose, fcCh, c4, eh, c11], xf_hP ht9 hP⟩, hS.F ht9⟩) hS.2.2 dX0_choose_15
set_option maxHeartbeats 4000000 in
set_option maxRecDepth 100000 in
/-- kept() -/
theorem k_kept (l : Launch) (dC : Nat → ClassId) (dI : Nat → Nat → Nat) (h0 a1 a2 a3 a4 a5 a6 : Nat) (cI : ClassId) (fg fk fu fc fb fn : Nat → Int32) (rc : Int32) : Met l yX0_kept wsX0_kept ({ frames := 3, cells := 0, slots := 0, locals := 67 }) (va_Pc [.ref h0] (fun U => va_P (dC, dI) fmCl (fw h0 a1 a2 a3 a4 a5 a6 cI fg fk fu fc fb fn rc) U.heap ∧ va_K (dC, dI) fmCl [(cI, .int)] U)) (vp_Si (fun r => r = nI (xf_cnt (fcKp fg fk fc) 40))) 0 0 (fun _ => False) := by
  refine Met.ofW (cc := cX0_kept) (maxL := 1) (ret := (some .int)) (by decide) rfl ?_
  intro p e s m args below meth c s₁ B hml hv
  obtain ⟨rfl, hP, hK⟩ := hv
  have hx := B.exec
  have hb := B.bytes
  have hr := B.returns
  have hts := atoms_spec (ws := wsX0_kept) B.pre
  have hown : s.vm.findClass RX0 = some m.cls := findClass_of_methodNamed B.named
  have hlocks := B.notSynchronized
  have hl := lv_entry ([.ref h0]) (n := 1) (Nat.le_of_ble_eq_true rfl)
  rw [lg_entry_eq]
  generalize (lg_sl ([.ref h0]) ++ List.replicate (1 - (lg_sl ([.ref h0])).length) Slot.unset).toArray = ls at hl ⊢
  have hl : lv_has ls 1 [(0, .ref h0)] := hl
  refine lv_aload_n hx hb dX0_kept_0 rfl (lv_at hl 0 rfl) ?_
  refine vp_callSi (W.runV (As := []) (rest := []) ⟨hx, hb, hml, hown, hts⟩ (k_countKept l dC dI h0 a1 a2 a3 a4 a5 a6 cI fg fk fu fc fb fn rc) (cwV 0 hts gX0_kept_X0_countKept rfl rfl rfl (by decide +kernel) ⟨Nat.le_of_ble_eq_true rfl, Nat.le_of_ble_eq_true rfl⟩) (xf_preV (ci := 0) (RX0, TX0, 7) hK hP rfl rfl) rfl rfl hl.1 rfl (lv_room (Nat.le_of_ble_eq_true rfl)) dX0_kept_1 ⟨Nat.zero_le _, Nat.zero_le _⟩) (fun r hr9 => ?_)
  subst hr9
  exact W.iret (v := nI (xf_cnt (fcKp fg fk fc) 40)) hx hb hr (fun t9 ht9 hW9 => ⟨_, rfl, rfl, ht9⟩) (fun q h => nomatch h) dX0_kept_4
set_option maxHeartbeats 4000000 in
set_option maxRecDepth 100000 in
/-- isKept(pt) -/
theorem k_isKept (l : Launch) (dC : Nat → ClassId) (dI : Nat → Nat → Nat) (h0 a1 a2 a3 a4 a5 a6 : Nat) (cI : ClassId) (fg fk fu fc fb fn : Nat → Int32) (rc : Int32) (pt : Int32) : Met l yX0_isKept wsX0_isKept ({ frames := 2, cells := 0, slots := 0, locals := 45 }) (va_Pc [.ref h0, .int pt] (fun U => va_P (dC, dI) fmCl (fw h0 a1 a2 a3 a4 a5 a6 cI fg fk fu fc fb fn rc) U.heap ∧ va_K (dC, dI) fmCl [(cI, .int)] U)) (vp_Si (fun r => r = fcIsKept fg fk fc pt)) 0 0 (fun _ => False) := by
  refine Met.ofW (cc := cX0_isKept) (maxL := 2) (ret := (some .int)) (by decide) rfl ?_
  intro p e s m args below meth c s₁ B hml hv
  obtain ⟨rfl, hP, hK⟩ := hv
  have hx := B.exec
  have hb := B.bytes
  have hr := B.returns
  have hts := atoms_spec (ws := wsX0_isKept) B.pre
  have hown : s.vm.findClass RX0 = some m.cls := findClass_of_methodNamed B.named
  have hlocks := B.notSynchronized
  have hl := lv_entry ([.ref h0, .int pt]) (n := 2) (Nat.le_of_ble_eq_true rfl)
  rw [lg_entry_eq]
  generalize (lg_sl ([.ref h0, .int pt]) ++ List.replicate (2 - (lg_sl ([.ref h0, .int pt])).length) Slot.unset).toArray = ls at hl ⊢
  have hl : lv_has ls 2 [(0, .ref h0), (1, .int pt)] := hl
  refine lv_iload_n hx hb dX0_isKept_0 rfl (lv_at hl 1 rfl) ?_
  refine vp_callSi (W.runS (As := [.int pt]) (rest := []) ⟨hx, hb, hml, hown, hts⟩ (k_isThing l pt) (va_cwS 1 hts gX0_isKept_X0_isThing rfl rfl rfl (by decide +kernel) ⟨Nat.le_of_ble_eq_true rfl, Nat.le_of_ble_eq_true rfl⟩) (xf_preS0) rfl rfl hl.1 rfl (lv_room (Nat.le_of_ble_eq_true rfl)) dX0_isKept_1 ⟨Nat.zero_le _, Nat.zero_le _⟩) (fun r hr9 => ?_)
  subst hr9
  refine xf_Bne (tgt := 9) hx hb dX0_isKept_4 (by decide) (fun c4 => ?_) (fun c4 => ?_)
  ·
    obtain ⟨t, ht, rfl⟩ := xf_in_of c4 (by decide)
    have et : (nI t).toNatClampNeg = t := nI_clamp (by omega)
    refine lv_aload_n hx hb dX0_isKept_9 rfl (lv_at hl 0 rfl) ?_
    refine lv_iload_n hx hb dX0_isKept_10 rfl (lv_at hl 1 rfl) ?_
    refine vp_callSi (W.runV (As := [.int (nI t)]) (rest := []) ⟨hx, hb, hml, hown, hts⟩ (k_lackedHeads l dC dI h0 a1 a2 a3 a4 a5 a6 cI fg fk fu fc fb fn rc t (by omega)) (cwV 1 hts gX0_isKept_X0_lackedHeads rfl rfl rfl (by decide +kernel) ⟨Nat.le_of_ble_eq_true rfl, Nat.le_of_ble_eq_true rfl⟩) (xf_preV (ci := 0) (RX0, TX0, 7) hK hP rfl rfl) rfl rfl hl.1 rfl (lv_room (Nat.le_of_ble_eq_true rfl)) dX0_isKept_11 ⟨Nat.zero_le _, Nat.zero_le _⟩) (fun r hr9 => ?_)
    subst hr9
    refine lv_if_ne (tgt := 21) hx hb dX0_isKept_14 (by decide) (fun c14 => ?_) (fun c14 => ?_)
    ·
      refine lv_iconst (v := nI 0) hx hb dX0_isKept_21 (by decide) ?_
      exact W.iret (v := nI 0) hx hb hr (fun t9 ht9 hW9 => ⟨_, rfl, by simp [fcIsKept, xf_B, fcKp, c4, et, c14], ht9⟩) (fun q h => nomatch h) dX0_isKept_22
    ·
      refine lv_iconst (v := nI 1) hx hb dX0_isKept_17 (by decide) ?_
      refine lv_goto (tgt := 22) hx hb dX0_isKept_18 (by decide) ?_
      exact W.iret (v := nI 1) hx hb hr (fun t9 ht9 hW9 => ⟨_, rfl, by simp [fcIsKept, xf_B, fcKp, c4, et, c14], ht9⟩) (fun q h => nomatch h) dX0_isKept_22
  ·
    refine lv_iconst (v := (-1)) hx hb dX0_isKept_7 (by decide) ?_
    exact W.iret (v := (-1)) hx hb hr (fun t9 ht9 hW9 => ⟨_, rfl, by simp [fcIsKept, xf_B, fcKp, c4], ht9⟩) (fun q h => nomatch h) dX0_isKept_8
set_option maxHeartbeats 4000000 in
set_option maxRecDepth 100000 in
/-- facet(ph, pv) -/
theorem k_facet (l : Launch) (dC : Nat → ClassId) (dI : Nat → Nat → Nat) (h0 a1 a2 a3 a4 a5 a6 : Nat) (cI : ClassId) (fg fk fu fc fb fn : Nat → Int32) (rc : Int32) (ph pv : Int32) : Met l yX0_facet wsX0_facet ({ frames := 4, cells := 0, slots := 0, locals := 91 }) (va_Pc [.ref h0, .int ph, .int pv] (fun U => va_P (dC, dI) fmCl (fw h0 a1 a2 a3 a4 a5 a6 cI fg fk fu fc fb fn rc) U.heap ∧ va_K (dC, dI) fmCl [(cI, .int)] U)) (vp_Si (fun r => r = fcFacet fg fk fc ph pv)) 0 0 (fun _ => False) := by
  refine Met.ofW (cc := cX0_facet) (maxL := 3) (ret := (some .int)) (by decide) rfl ?_
  intro p e s m args below meth c s₁ B hml hv
  obtain ⟨rfl, hP, hK⟩ := hv
  have hx := B.exec
  have hb := B.bytes
  have hr := B.returns
  have hts := atoms_spec (ws := wsX0_facet) B.pre
  have hown : s.vm.findClass RX0 = some m.cls := findClass_of_methodNamed B.named
  have hlocks := B.notSynchronized
  have hl := lv_entry ([.ref h0, .int ph, .int pv]) (n := 3) (Nat.le_of_ble_eq_true rfl)
  rw [lg_entry_eq]
  generalize (lg_sl ([.ref h0, .int ph, .int pv]) ++ List.replicate (3 - (lg_sl ([.ref h0, .int ph, .int pv])).length) Slot.unset).toArray = ls at hl ⊢
  have hl : lv_has ls 3 [(0, .ref h0), (1, .int ph), (2, .int pv)] := hl
  refine lv_iload_n hx hb dX0_facet_0 rfl (lv_at hl 1 rfl) ?_
  refine vp_callSi (W.runS (As := [.int ph]) (rest := []) ⟨hx, hb, hml, hown, hts⟩ (k_isHead l ph) (va_cwS 1 hts gX0_facet_X0_isHead rfl rfl rfl (by decide +kernel) ⟨Nat.le_of_ble_eq_true rfl, Nat.le_of_ble_eq_true rfl⟩) (xf_preS0) rfl rfl hl.1 rfl (lv_room (Nat.le_of_ble_eq_true rfl)) dX0_facet_1 ⟨Nat.zero_le _, Nat.zero_le _⟩) (fun r hr9 => ?_)
  subst hr9
  refine xf_Beq (tgt := 14) hx hb dX0_facet_4 (by decide) (fun c4 => ?_) (fun c4 => ?_)
  ·
    refine lv_iconst (v := (-1)) hx hb dX0_facet_14 (by decide) ?_
    exact W.iret (v := (-1)) hx hb hr (fun t9 ht9 hW9 => ⟨_, rfl, by simp [fcFacet, c4], ht9⟩) (fun q h => nomatch h) dX0_facet_15
  ·
    obtain ⟨h, hh, rfl⟩ := xf_in_of c4 (by decide)
    have eh : (nI h).toNatClampNeg = h := nI_clamp (by omega)
    refine lv_iload_n hx hb dX0_facet_7 rfl (lv_at hl 2 rfl) ?_
    refine vp_callSi (W.runS (As := [.int pv]) (rest := []) ⟨hx, hb, hml, hown, hts⟩ (k_isValue l pv) (va_cwS 1 hts gX0_facet_X0_isValue rfl rfl rfl (by decide +kernel) ⟨Nat.le_of_ble_eq_true rfl, Nat.le_of_ble_eq_true rfl⟩) (xf_preS0) rfl rfl hl.1 rfl (lv_room (Nat.le_of_ble_eq_true rfl)) dX0_facet_8 ⟨Nat.zero_le _, Nat.zero_le _⟩) (fun r hr9 => ?_)
    subst hr9
    refine xf_Bne (tgt := 16) hx hb dX0_facet_11 (by decide) (fun c11 => ?_) (fun c11 => ?_)
    ·
      obtain ⟨v, hv, rfl⟩ := xf_in_of c11 (by decide)
      have ev : (nI v).toNatClampNeg = v := nI_clamp (by omega)
      refine lv_aload_n hx hb dX0_facet_16 rfl (lv_at hl 0 rfl) ?_
      refine lv_iload_n hx hb dX0_facet_17 rfl (lv_at hl 1 rfl) ?_
      refine lv_iconst (v := nI 1) hx hb dX0_facet_18 (by decide) ?_
      refine lv_iload_n hx hb dX0_facet_19 rfl (lv_at hl 2 rfl) ?_
      refine lv_ishl hx hb dX0_facet_20 ?_
      refine xf_be (y := xf_bit v) (by rfl) ?_
      refine vp_callSi (W.runV (As := [.int (nI h), .int (xf_bit v)]) (rest := []) ⟨hx, hb, hml, hown, hts⟩ (k_countWithAny l dC dI h0 a1 a2 a3 a4 a5 a6 cI fg fk fu fc fb fn rc h (by omega) (xf_bit v)) (cwV 2 hts gX0_facet_X0_countWithAny rfl rfl rfl (by decide +kernel) ⟨Nat.le_of_ble_eq_true rfl, Nat.le_of_ble_eq_true rfl⟩) (xf_preV (ci := 0) (RX0, TX0, 7) hK hP rfl rfl) rfl rfl hl.1 rfl (lv_room (Nat.le_of_ble_eq_true rfl)) dX0_facet_21 ⟨Nat.zero_le _, Nat.zero_le _⟩) (fun r hr9 => ?_)
      subst hr9
      exact W.iret (v := nI (xf_cnt (fcWA fg fk fc h (xf_bit v)) 40)) hx hb hr (fun t9 ht9 hW9 => ⟨_, rfl, by simp [fcFacet, c4, eh, c11, ev], ht9⟩) (fun q h => nomatch h) dX0_facet_24
    ·
      refine lv_iconst (v := (-1)) hx hb dX0_facet_14 (by decide) ?_
      exact W.iret (v := (-1)) hx hb hr (fun t9 ht9 hW9 => ⟨_, rfl, by simp [fcFacet, c4, eh, c11], ht9⟩) (fun q h => nomatch h) dX0_facet_15
set_option maxHeartbeats 4000000 in
set_option maxRecDepth 100000 in
/-- range(ph, pa, pb) -/
theorem k_range (l : Launch) (dC : Nat → ClassId) (dI : Nat → Nat → Nat) (h0 a1 a2 a3 a4 a5 a6 : Nat) (cI : ClassId) (fg fk fu fc fb fn : Nat → Int32) (rc : Int32) (ph pa pb : Int32) : Met l yX0_range wsX0_range ({ frames := 4, cells := 0, slots := 0, locals := 91 }) (va_Pc [.ref h0, .int ph, .int pa, .int pb] (fun U => va_P (dC, dI) fmCl (fw h0 a1 a2 a3 a4 a5 a6 cI fg fk fu fc fb fn rc) U.heap ∧ va_K (dC, dI) fmCl [(cI, .int)] U)) (vp_Si (fun r => r = fcRange fg fk fc ph pa pb)) 0 0 (fun _ => False) := by
  refine Met.ofW (cc := cX0_range) (maxL := 4) (ret := (some .int)) (by decide) rfl ?_
  intro p e s m args below meth c s₁ B hml hv
  obtain ⟨rfl, hP, hK⟩ := hv
  have hx := B.exec
  have hb := B.bytes
  have hr := B.returns
  have hts := atoms_spec (ws := wsX0_range) B.pre
  have hown : s.vm.findClass RX0 = some m.cls := findClass_of_methodNamed B.named
  have hlocks := B.notSynchronized
  have hl := lv_entry ([.ref h0, .int ph, .int pa, .int pb]) (n := 4) (Nat.le_of_ble_eq_true rfl)
  rw [lg_entry_eq]
  generalize (lg_sl ([.ref h0, .int ph, .int pa, .int pb]) ++ List.replicate (4 - (lg_sl ([.ref h0, .int ph, .int pa, .int pb])).length) Slot.unset).toArray = ls at hl ⊢
  have hl : lv_has ls 4 [(0, .ref h0), (1, .int ph), (2, .int pa), (3, .int pb)] := hl
  refine lv_iload_n hx hb dX0_range_0 rfl (lv_at hl 1 rfl) ?_
  refine vp_callSi (W.runS (As := [.int ph]) (rest := []) ⟨hx, hb, hml, hown, hts⟩ (k_isHead l ph) (va_cwS 1 hts gX0_range_X0_isHead rfl rfl rfl (by decide +kernel) ⟨Nat.le_of_ble_eq_true rfl, Nat.le_of_ble_eq_true rfl⟩) (xf_preS0) rfl rfl hl.1 rfl (lv_room (Nat.le_of_ble_eq_true rfl)) dX0_range_1 ⟨Nat.zero_le _, Nat.zero_le _⟩) (fun r hr9 => ?_)
  subst hr9
  refine xf_Bne (tgt := 9) hx hb dX0_range_4 (by decide) (fun c4 => ?_) (fun c4 => ?_)
  ·
    obtain ⟨h, hh, rfl⟩ := xf_in_of c4 (by decide)
    have eh : (nI h).toNatClampNeg = h := nI_clamp (by omega)
    refine lv_aload_n hx hb dX0_range_9 rfl (lv_at hl 0 rfl) ?_
    refine lv_iload_n hx hb dX0_range_10 rfl (lv_at hl 1 rfl) ?_
    refine lv_iload_n hx hb dX0_range_11 rfl (lv_at hl 2 rfl) ?_
    refine lv_iload_n hx hb dX0_range_12 rfl (lv_at hl 3 rfl) ?_
    refine vp_callSi (W.runS (As := [.int pa, .int pb]) (rest := [.int (nI h), .ref h0]) ⟨hx, hb, hml, hown, hts⟩ (k_span l pa pb) (va_cwS 2 hts gX0_range_X0_span rfl rfl rfl (by decide +kernel) ⟨Nat.le_of_ble_eq_true rfl, Nat.le_of_ble_eq_true rfl⟩) (xf_preS0) rfl rfl hl.1 rfl (lv_room (Nat.le_of_ble_eq_true rfl)) dX0_range_13 ⟨Nat.zero_le _, Nat.zero_le _⟩) (fun r hr9 => ?_)
    subst hr9
    refine vp_callSi (W.runV (As := [.int (nI h), .int (xf_mk (fcSpP pa pb) 32)]) (rest := []) ⟨hx, hb, hml, hown, hts⟩ (k_countWithAny l dC dI h0 a1 a2 a3 a4 a5 a6 cI fg fk fu fc fb fn rc h (by omega) (xf_mk (fcSpP pa pb) 32)) (cwV 2 hts gX0_range_X0_countWithAny rfl rfl rfl (by decide +kernel) ⟨Nat.le_of_ble_eq_true rfl, Nat.le_of_ble_eq_true rfl⟩) (xf_preV (ci := 0) (RX0, TX0, 7) hK hP rfl rfl) rfl rfl hl.1 rfl (lv_room (Nat.le_of_ble_eq_true rfl)) dX0_range_16 ⟨Nat.zero_le _, Nat.zero_le _⟩) (fun r hr9 => ?_)
    subst hr9
    exact W.iret (v := nI (xf_cnt (fcWA fg fk fc h (xf_mk (fcSpP pa pb) 32)) 40)) hx hb hr (fun t9 ht9 hW9 => ⟨_, rfl, by simp [fcRange, c4, eh], ht9⟩) (fun q h => nomatch h) dX0_range_19
  ·
    refine lv_iconst (v := (-1)) hx hb dX0_range_7 (by decide) ?_
    exact W.iret (v := (-1)) hx hb hr (fun t9 ht9 hW9 => ⟨_, rfl, by simp [fcRange, c4], ht9⟩) (fun q h => nomatch h) dX0_range_8
set_option maxHeartbeats 4000000 in
set_option maxRecDepth 100000 in
/-- sum(ph, pv, po) -/
theorem k_sum (l : Launch) (dC : Nat → ClassId) (dI : Nat → Nat → Nat) (h0 a1 a2 a3 a4 a5 a6 : Nat) (cI : ClassId) (fg fk fu fc fb fn : Nat → Int32) (rc : Int32) (ph pv po : Int32) : Met l yX0_sum wsX0_sum ({ frames := 2, cells := 0, slots := 0, locals := 45 }) (va_Pc [.ref h0, .int ph, .int pv, .int po] (fun U => va_P (dC, dI) fmCl (fw h0 a1 a2 a3 a4 a5 a6 cI fg fk fu fc fb fn rc) U.heap ∧ va_K (dC, dI) fmCl [(cI, .int)] U)) (vp_Si (fun r => r = fcSum fg fk fc ph pv po)) 0 0 (fun _ => False) := by
  refine Met.ofW (cc := cX0_sum) (maxL := 6) (ret := (some .int)) (by decide) rfl ?_
  intro p e s m args below meth c s₁ B hml hv
  obtain ⟨rfl, hP, hK⟩ := hv
  have hx := B.exec
  have hb := B.bytes
  have hr := B.returns
  have hts := atoms_spec (ws := wsX0_sum) B.pre
  have hown : s.vm.findClass RX0 = some m.cls := findClass_of_methodNamed B.named
  have hlocks := B.notSynchronized
  have hl := lv_entry ([.ref h0, .int ph, .int pv, .int po]) (n := 6) (Nat.le_of_ble_eq_true rfl)
  rw [lg_entry_eq]
  generalize (lg_sl ([.ref h0, .int ph, .int pv, .int po]) ++ List.replicate (6 - (lg_sl ([.ref h0, .int ph, .int pv, .int po])).length) Slot.unset).toArray = ls at hl ⊢
  have hl : lv_has ls 6 [(0, .ref h0), (1, .int ph), (2, .int pv), (3, .int po)] := hl
  refine lv_iload_n hx hb dX0_sum_0 rfl (lv_at hl 1 rfl) ?_
  refine vp_callSi (W.runS (As := [.int ph]) (rest := []) ⟨hx, hb, hml, hown, hts⟩ (k_isHead l ph) (va_cwS 1 hts gX0_sum_X0_isHead rfl rfl rfl (by decide +kernel) ⟨Nat.le_of_ble_eq_true rfl, Nat.le_of_ble_eq_true rfl⟩) (xf_preS0) rfl rfl hl.1 rfl (lv_room (Nat.le_of_ble_eq_true rfl)) dX0_sum_1 ⟨Nat.zero_le _, Nat.zero_le _⟩) (fun r hr9 => ?_)
  subst hr9
  refine xf_Beq (tgt := 21) hx hb dX0_sum_4 (by decide) (fun c4 => ?_) (fun c4 => ?_)
  ·
    refine lv_iconst (v := (-1)) hx hb dX0_sum_21 (by decide) ?_
    exact W.iret (v := (-1)) hx hb hr (fun t9 ht9 hW9 => ⟨_, rfl, by simp [fcSum, c4], ht9⟩) (fun q h => nomatch h) dX0_sum_22
  ·
    obtain ⟨h, hh, rfl⟩ := xf_in_of c4 (by decide)
    have eh : (nI h).toNatClampNeg = h := nI_clamp (by omega)
    refine lv_iload_n hx hb dX0_sum_7 rfl (lv_at hl 2 rfl) ?_
    refine vp_callSi (W.runS (As := [.int pv]) (rest := []) ⟨hx, hb, hml, hown, hts⟩ (k_isValue l pv) (va_cwS 1 hts gX0_sum_X0_isValue rfl rfl rfl (by decide +kernel) ⟨Nat.le_of_ble_eq_true rfl, Nat.le_of_ble_eq_true rfl⟩) (xf_preS0) rfl rfl hl.1 rfl (lv_room (Nat.le_of_ble_eq_true rfl)) dX0_sum_8 ⟨Nat.zero_le _, Nat.zero_le _⟩) (fun r hr9 => ?_)
    subst hr9
    refine xf_Beq (tgt := 21) hx hb dX0_sum_11 (by decide) (fun c11 => ?_) (fun c11 => ?_)
    ·
      refine lv_iconst (v := (-1)) hx hb dX0_sum_21 (by decide) ?_
      exact W.iret (v := (-1)) hx hb hr (fun t9 ht9 hW9 => ⟨_, rfl, by simp [fcSum, c4, eh, c11], ht9⟩) (fun q h => nomatch h) dX0_sum_22
    ·
      obtain ⟨v, hv, rfl⟩ := xf_in_of c11 (by decide)
      have ev : (nI v).toNatClampNeg = v := nI_clamp (by omega)
      refine lv_iload_n hx hb dX0_sum_14 rfl (lv_at hl 3 rfl) ?_
      refine vp_callSi (W.runS (As := [.int po]) (rest := []) ⟨hx, hb, hml, hown, hts⟩ (k_isHead l po) (va_cwS 1 hts gX0_sum_X0_isHead rfl rfl rfl (by decide +kernel) ⟨Nat.le_of_ble_eq_true rfl, Nat.le_of_ble_eq_true rfl⟩) (xf_preS0) rfl rfl hl.1 rfl (lv_room (Nat.le_of_ble_eq_true rfl)) dX0_sum_15 ⟨Nat.zero_le _, Nat.zero_le _⟩) (fun r hr9 => ?_)
      subst hr9
      refine xf_Bne (tgt := 23) hx hb dX0_sum_18 (by decide) (fun c18 => ?_) (fun c18 => ?_)
      ·
        obtain ⟨o, ho, rfl⟩ := xf_in_of c18 (by decide)
        have eo : (nI o).toNatClampNeg = o := nI_clamp (by omega)
        refine lv_iconst (v := nI 0) hx hb dX0_sum_23 (by decide) ?_
        refine lv_istore (lv' := [(4, .int (nI 0)), (0, .ref h0), (1, .int (nI h)), (2, .int (nI v)), (3, .int (nI o))]) hx hb dX0_sum_24 hl (by decide) rfl (fun ls hl => ?_)
        refine lv_iconst (v := nI 0) hx hb dX0_sum_26 (by decide) ?_
        refine lv_istore (lv' := [(5, .int (nI 0)), (4, .int (nI 0)), (0, .ref h0), (1, .int (nI h)), (2, .int (nI v)), (3, .int (nI o))]) hx hb dX0_sum_27 hl (by decide) rfl (fun ls hl => ?_)
        refine xf_loopS (σ := Nat) (fun (z9 : Nat) => 40 - z9) (fun (z9 : Nat) => [(0, .ref h0), (1, .int (nI h)), (2, .int (nI v)), (3, .int (nI o)), (4, .int (nI (fcSm fg fk fc h v o z9))), (5, .int (nI z9))]) (fun (z9 : Nat) => z9 ≤ 40) 0 (lv_sub hl [2, 3, 4, 5, 1, 0] rfl) (Nat.zero_le _) (fun z9 ls hi hl ih29 => ?_)
        obtain ⟨t, hxe⟩ : ∃ z, z = z9 := ⟨_, rfl⟩
        subst hxe
        have hl : lv_has ls 6 [(0, .ref h0), (1, .int (nI h)), (2, .int (nI v)), (3, .int (nI o)), (4, .int (nI (fcSm fg fk fc h v o t))), (5, .int (nI t))] := hl
        have hi : t ≤ 40 := hi
        refine lv_iload hx hb dX0_sum_29 (lv_at hl 5 rfl) ?_
        refine lv_bipush (v := nI 40) hx hb dX0_sum_31 (by decide) ?_
        refine xf_ge (tgt := 80) hx hb dX0_sum_33 (by decide) (by omega) (by omega) (fun c33 => ?_) (fun c33 => ?_)
        ·
          obtain rfl : t = 40 := by omega
          refine lv_iload hx hb dX0_sum_80 (lv_at hl 4 rfl) ?_
          exact W.iret (v := nI (fcSm fg fk fc h v o 40)) hx hb hr (fun t9 ht9 hW9 => ⟨_, rfl, by simp [fcSum, c4, eh, c11, ev, c18, eo], ht9⟩) (fun q h => nomatch h) dX0_sum_82
        ·
          refine lv_aload_n hx hb dX0_sum_36 rfl (lv_at hl 0 rfl) ?_
          refine lv_iload hx hb dX0_sum_37 (lv_at hl 5 rfl) ?_
          refine lv_iload_n hx hb dX0_sum_39 rfl (lv_at hl 1 rfl) ?_
          refine vp_callSi (W.runV (As := [.int (nI t), .int (nI h)]) (rest := []) ⟨hx, hb, hml, hown, hts⟩ (k_valuesOf l dC dI h0 a1 a2 a3 a4 a5 a6 cI fg fk fu fc fb fn rc t h (by omega) (by omega)) (cwV 2 hts gX0_sum_X0_valuesOf rfl rfl rfl (by decide +kernel) ⟨Nat.le_of_ble_eq_true rfl, Nat.le_of_ble_eq_true rfl⟩) (xf_preV (ci := 0) (RX0, TX0, 7) hK hP rfl rfl) rfl rfl hl.1 rfl (lv_room (Nat.le_of_ble_eq_true rfl)) dX0_sum_40 ⟨Nat.zero_le _, Nat.zero_le _⟩) (fun r hr9 => ?_)
          subst hr9
          refine lv_iload_n hx hb dX0_sum_43 rfl (lv_at hl 2 rfl) ?_
          refine vp_callSi (W.runS (As := [.int (fcV fg fk t h), .int (nI v)]) (rest := []) ⟨hx, hb, hml, hown, hts⟩ (k_holds l (fcV fg fk t h) v (by omega)) (va_cwS 2 hts gX0_sum_X0_holds rfl rfl rfl (by decide +kernel) ⟨Nat.le_of_ble_eq_true rfl, Nat.le_of_ble_eq_true rfl⟩) (xf_preS0) rfl rfl hl.1 rfl (lv_room (Nat.le_of_ble_eq_true rfl)) dX0_sum_44 ⟨Nat.zero_le _, Nat.zero_le _⟩) (fun r hr9 => ?_)
          subst hr9
          refine xf_Beq (tgt := 74) hx hb dX0_sum_47 (by decide) (fun c47 => ?_) (fun c47 => ?_)
          ·
            refine lv_iinc (v := nI (t + 1)) (lv' := [(5, .int (nI (t + 1))), (0, .ref h0), (1, .int (nI h)), (2, .int (nI v)), (3, .int (nI o)), (4, .int (nI (fcSm fg fk fc h v o t)))]) hx hb dX0_sum_74 hl (k := 5) rfl (by exact nI_1 t) (by decide) rfl (fun ls hl => ?_)
            refine lv_goto (tgt := 29) hx hb dX0_sum_77 (by decide) ?_
            have hl := lv_sub (l' := [(0, .ref h0), (1, .int (nI h)), (2, .int (nI v)), (3, .int (nI o)), (4, .int (nI (fcSm fg fk fc h v o t))), (5, .int (nI (t + 1)))]) hl [1, 2, 3, 4, 5, 0] rfl
            have hl : lv_has ls 6 [(0, .ref h0), (1, .int (nI h)), (2, .int (nI v)), (3, .int (nI o)), (4, .int (nI (fcSm fg fk fc h v o (t + 1)))), (5, .int (nI (t + 1)))] := xf_lv hl (by simp [fcSm, fcKp, c33, c47])
            exact ih29 (t + 1) ls (by show 40 - (t + 1) < 40 - t; omega) (by show (t + 1) ≤ 40; omega) hl
          ·
            refine lv_aload_n hx hb dX0_sum_50 rfl (lv_at hl 0 rfl) ?_
            refine lv_iload hx hb dX0_sum_51 (lv_at hl 5 rfl) ?_
            refine vp_callSi (W.runV (As := [.int (nI t)]) (rest := []) ⟨hx, hb, hml, hown, hts⟩ (k_lackedHeads l dC dI h0 a1 a2 a3 a4 a5 a6 cI fg fk fu fc fb fn rc t (by omega)) (cwV 1 hts gX0_sum_X0_lackedHeads rfl rfl rfl (by decide +kernel) ⟨Nat.le_of_ble_eq_true rfl, Nat.le_of_ble_eq_true rfl⟩) (xf_preV (ci := 0) (RX0, TX0, 7) hK hP rfl rfl) rfl rfl hl.1 rfl (lv_room (Nat.le_of_ble_eq_true rfl)) dX0_sum_53 ⟨Nat.zero_le _, Nat.zero_le _⟩) (fun r hr9 => ?_)
            subst hr9
            refine lv_if_ne (tgt := 74) hx hb dX0_sum_56 (by decide) (fun c56 => ?_) (fun c56 => ?_)
            ·
              refine lv_iinc (v := nI (t + 1)) (lv' := [(5, .int (nI (t + 1))), (0, .ref h0), (1, .int (nI h)), (2, .int (nI v)), (3, .int (nI o)), (4, .int (nI (fcSm fg fk fc h v o t)))]) hx hb dX0_sum_74 hl (k := 5) rfl (by exact nI_1 t) (by decide) rfl (fun ls hl => ?_)
              refine lv_goto (tgt := 29) hx hb dX0_sum_77 (by decide) ?_
              have hl := lv_sub (l' := [(0, .ref h0), (1, .int (nI h)), (2, .int (nI v)), (3, .int (nI o)), (4, .int (nI (fcSm fg fk fc h v o t))), (5, .int (nI (t + 1)))]) hl [1, 2, 3, 4, 5, 0] rfl
              have hl : lv_has ls 6 [(0, .ref h0), (1, .int (nI h)), (2, .int (nI v)), (3, .int (nI o)), (4, .int (nI (fcSm fg fk fc h v o (t + 1)))), (5, .int (nI (t + 1)))] := xf_lv hl (by simp [fcSm, fcKp, c33, c47, c56])
              exact ih29 (t + 1) ls (by show 40 - (t + 1) < 40 - t; omega) (by show (t + 1) ≤ 40; omega) hl
            ·
              refine lv_iload hx hb dX0_sum_59 (lv_at hl 4 rfl) ?_
              refine lv_aload_n hx hb dX0_sum_61 rfl (lv_at hl 0 rfl) ?_
              refine lv_iload hx hb dX0_sum_62 (lv_at hl 5 rfl) ?_
              refine lv_iload_n hx hb dX0_sum_64 rfl (lv_at hl 3 rfl) ?_
              refine vp_callSi (W.runV (As := [.int (nI t), .int (nI o)]) (rest := [.int (nI (fcSm fg fk fc h v o t))]) ⟨hx, hb, hml, hown, hts⟩ (k_valuesOf l dC dI h0 a1 a2 a3 a4 a5 a6 cI fg fk fu fc fb fn rc t o (by omega) (by omega)) (cwV 2 hts gX0_sum_X0_valuesOf rfl rfl rfl (by decide +kernel) ⟨Nat.le_of_ble_eq_true rfl, Nat.le_of_ble_eq_true rfl⟩) (xf_preV (ci := 0) (RX0, TX0, 7) hK hP rfl rfl) rfl rfl hl.1 rfl (lv_room (Nat.le_of_ble_eq_true rfl)) dX0_sum_65 ⟨Nat.zero_le _, Nat.zero_le _⟩) (fun r hr9 => ?_)
              subst hr9
              refine vp_callSi (W.runS (As := [.int (fcV fg fk t o)]) (rest := [.int (nI (fcSm fg fk fc h v o t))]) ⟨hx, hb, hml, hown, hts⟩ (k_sumOf l (fcV fg fk t o)) (va_cwS 1 hts gX0_sum_X0_sumOf rfl rfl rfl (by decide +kernel) ⟨Nat.le_of_ble_eq_true rfl, Nat.le_of_ble_eq_true rfl⟩) (xf_preS0) rfl rfl hl.1 rfl (lv_room (Nat.le_of_ble_eq_true rfl)) dX0_sum_68 ⟨Nat.zero_le _, Nat.zero_le _⟩) (fun r hr9 => ?_)
              subst hr9
              refine lv_iadd hx hb dX0_sum_71 ?_
              refine xf_be (y := nI (fcSm fg fk fc h v o t + fcSO (fcV fg fk t o) 32)) (by exact nI_add _ _) ?_
              refine lv_istore (lv' := [(4, .int (nI (fcSm fg fk fc h v o t + fcSO (fcV fg fk t o) 32))), (0, .ref h0), (1, .int (nI h)), (2, .int (nI v)), (3, .int (nI o)), (5, .int (nI t))]) hx hb dX0_sum_72 hl (by decide) rfl (fun ls hl => ?_)
              refine lv_iinc (v := nI (t + 1)) (lv' := [(5, .int (nI (t + 1))), (4, .int (nI (fcSm fg fk fc h v o t + fcSO (fcV fg fk t o) 32))), (0, .ref h0), (1, .int (nI h)), (2, .int (nI v)), (3, .int (nI o))]) hx hb dX0_sum_74 hl (k := 5) rfl (by exact nI_1 t) (by decide) rfl (fun ls hl => ?_)
              refine lv_goto (tgt := 29) hx hb dX0_sum_77 (by decide) ?_
              have hl := lv_sub (l' := [(0, .ref h0), (1, .int (nI h)), (2, .int (nI v)), (3, .int (nI o)), (4, .int (nI (fcSm fg fk fc h v o t + fcSO (fcV fg fk t o) 32))), (5, .int (nI (t + 1)))]) hl [2, 3, 4, 5, 1, 0] rfl
              have hl : lv_has ls 6 [(0, .ref h0), (1, .int (nI h)), (2, .int (nI v)), (3, .int (nI o)), (4, .int (nI (fcSm fg fk fc h v o (t + 1)))), (5, .int (nI (t + 1)))] := xf_lv hl (by simp [fcSm, fcKp, c33, c47, c56])
              exact ih29 (t + 1) ls (by show 40 - (t + 1) < 40 - t; omega) (by show (t + 1) ≤ 40; omega) hl
      ·
        refine lv_iconst (v := (-1)) hx hb dX0_sum_21 (by decide) ?_
        exact W.iret (v := (-1)) hx hb hr (fun t9 ht9 hW9 => ⟨_, rfl, by simp [fcSum, c4, eh, c11, ev, c18], ht9⟩) (fun q h => nomatch h) dX0_sum_22
set_option maxHeartbeats 4000000 in
set_option maxRecDepth 100000 in
/-- rows() -/
theorem k_rows (l : Launch) (dC : Nat → ClassId) (dI : Nat → Nat → Nat) (h0 a1 a2 a3 a4 a5 a6 : Nat) (cI : ClassId) (fg fk fu fc fb fn : Nat → Int32) (rc : Int32) : Met l yX0_rows wsX0_rows ({ frames := 0, cells := 0, slots := 0, locals := 0 }) (va_Pc [.ref h0] (fun U => va_P (dC, dI) fmCl (fw h0 a1 a2 a3 a4 a5 a6 cI fg fk fu fc fb fn rc) U.heap ∧ va_K (dC, dI) fmCl [(cI, .int)] U)) (vp_Si (fun r => r = rc)) 0 0 (fun _ => False) := by
  refine Met.ofW (cc := cX0_rows) (maxL := 1) (ret := (some .int)) (by decide) rfl ?_
  intro p e s m args below meth c s₁ B hml hv
  obtain ⟨rfl, hP, hK⟩ := hv
  have hx := B.exec
  have hb := B.bytes
  have hr := B.returns
  have hts := atoms_spec (ws := wsX0_rows) B.pre
  have hown : s.vm.findClass RX0 = some m.cls := findClass_of_methodNamed B.named
  have hlocks := B.notSynchronized
  have hin : ∀ w ∈ u_ws RX0 TX0 7, w ∈ wsX0_rows := by decide +kernel
  have hf_rowCount := hts (.fieldLink RX0 28 "FacetCounts" "rowCount" "I") (by decide +kernel)
  have hl := lv_entry ([.ref h0]) (n := 1) (Nat.le_of_ble_eq_true rfl)
  rw [lg_entry_eq]
  generalize (lg_sl ([.ref h0]) ++ List.replicate (1 - (lg_sl ([.ref h0])).length) Slot.unset).toArray = ls at hl ⊢
  have hl : lv_has ls 1 [(0, .ref h0)] := hl
  refine lv_aload_n hx hb dX0_rows_0 rfl (lv_at hl 0 rfl) ?_
  refine va_get (D := (dC, dI)) (ci := 0) (v := .int rc) (C := RX0) (T := TX0) (N := 7) hx hb hts hin hown hK hP 0 rfl rfl 6 (by decide) hf_rowCount (fun _ h9 => h9) rfl dX0_rows_1 ?_
  exact W.iret (v := rc) hx hb hr (fun t9 ht9 hW9 => ⟨_, rfl, rfl, ht9⟩) (fun q h => nomatch h) dX0_rows_4
set_option maxHeartbeats 4000000 in
set_option maxRecDepth 100000 in
/-- top(ph, pr) -/
theorem k_top (l : Launch) (dC : Nat → ClassId) (dI : Nat → Nat → Nat) (h0 a1 a2 a3 a4 a5 a6 : Nat) (cI : ClassId) (fg fk fu fc fb fn : Nat → Int32) (rc : Int32) (ph pr : Int32) : Met l yX0_top wsX0_top ({ frames := 3, cells := 0, slots := 0, locals := 68 }) (va_Pc [.ref h0, .int ph, .int pr] (fun U => va_P (dC, dI) fmCl (fw h0 a1 a2 a3 a4 a5 a6 cI fg fk fu fc fb fn rc) U.heap ∧ va_K (dC, dI) fmCl [(cI, .int)] U ∧ va_D (fun _ => True) (fw h0 a1 a2 a3 a4 a5 a6 cI fg fk fu fc fb fn rc))) (va_Qi (fun (r : Int32) (u : FcS) => (r, u) = fcTop fg fk fu fc fb fn rc ph pr) (fun u t => va_P (dC, dI) fmCl (fw h0 a1 a2 a3 a4 a5 a6 cI u.1 u.2.1 u.2.2.1 u.2.2.2.1 u.2.2.2.2.1 u.2.2.2.2.2.1 u.2.2.2.2.2.2) t.heap) (xf_A (fw h0 a1 a2 a3 a4 a5 a6 cI fg fk fu fc fb fn rc))) 0 0 (xf_A (fw h0 a1 a2 a3 a4 a5 a6 cI fg fk fu fc fb fn rc)) := by
  refine Met.ofW (cc := cX0_top) (maxL := 4) (ret := (some .int)) (by decide) rfl ?_
  intro p e s m args below meth c s₁ B hml hv
  obtain ⟨rfl, hP, hK, hD0⟩ := hv
  have hx := B.exec
  have hb := B.bytes
  have hr := B.returns
  have hts := atoms_spec (ws := wsX0_top) B.pre
  have hown : s.vm.findClass RX0 = some m.cls := findClass_of_methodNamed B.named
  have hlocks := B.notSynchronized
  have hin : ∀ w ∈ u_ws RX0 TX0 7, w ∈ wsX0_top := by decide +kernel
  have hf_counts := hts (.fieldLink RX0 25 "FacetCounts" "counts" "[I") (by decide +kernel)
  have hD := xf_A_self hD0
  generalize hAe : xf_A (fw h0 a1 a2 a3 a4 a5 a6 cI fg fk fu fc fb fn rc) = A at hD ⊢
  have hS : va_S A s.heap s.heap [] := va_S.rf
  have hP : va_P (dC, dI) fmCl (fw h0 a1 a2 a3 a4 a5 a6 cI fg fk fu fc fb fn rc) s.heap := hP
  have hl := lv_entry ([.ref h0, .int ph, .int pr]) (n := 4) (Nat.le_of_ble_eq_true rfl)
  rw [lg_entry_eq]
  generalize (lg_sl ([.ref h0, .int ph, .int pr]) ++ List.replicate (4 - (lg_sl ([.ref h0, .int ph, .int pr])).length) Slot.unset).toArray = ls at hl ⊢
  have hl : lv_has ls 4 [(0, .ref h0), (1, .int ph), (2, .int pr)] := hl
  refine lv_iload_n hx hb dX0_top_0 rfl (lv_at hl 1 rfl) ?_
  refine vp_callSi (W.runS (As := [.int ph]) (rest := []) ⟨hx, hb, hml, hown, hts⟩ (k_isHead l ph) (va_cwS 1 hts gX0_top_X0_isHead rfl rfl rfl (by decide +kernel) ⟨Nat.le_of_ble_eq_true rfl, Nat.le_of_ble_eq_true rfl⟩) (xf_preS0) rfl rfl hl.1 rfl (lv_room (Nat.le_of_ble_eq_true rfl)) dX0_top_1 ⟨Nat.zero_le _, Nat.zero_le _⟩) (fun r hr9 => ?_)
  subst hr9
  refine xf_Beq (tgt := 17) hx hb dX0_top_4 (by decide) (fun c4 => ?_) (fun c4 => ?_)
  ·
    refine lv_iconst (v := (-1)) hx hb dX0_top_17 (by decide) ?_
    exact W.iret (v := (-1)) hx hb hr (fun t9 ht9 hW9 => ⟨⟨_, (fg, fk, fu, fc, fb, fn, rc), rfl, by simp [fcTop, c4], xf_hP ht9 hP⟩, hS.F ht9⟩) hS.2.2 dX0_top_18
  ·
    obtain ⟨h, hh, rfl⟩ := xf_in_of c4 (by decide)
    have eh : (nI h).toNatClampNeg = h := nI_clamp (by omega)
    refine lv_iload_n hx hb dX0_top_7 rfl (lv_at hl 2 rfl) ?_
    refine lv_if_lt (tgt := 17) hx hb dX0_top_8 (by decide) (fun c8 => ?_) (fun c8 => ?_)
    ·
      refine lv_iconst (v := (-1)) hx hb dX0_top_17 (by decide) ?_
      exact W.iret (v := (-1)) hx hb hr (fun t9 ht9 hW9 => ⟨⟨_, (fg, fk, fu, fc, fb, fn, rc), rfl, by rw [fcTop, if_neg (by rw [xf_in_split pr (by decide), decide_eq_true c8]; simp)], xf_hP ht9 hP⟩, hS.F ht9⟩) hS.2.2 dX0_top_18
    ·
      refine lv_iload_n hx hb dX0_top_11 rfl (lv_at hl 2 rfl) ?_
      refine lv_bipush (v := nI 32) hx hb dX0_top_12 (by decide) ?_
      refine lv_icmp_lt (tgt := 19) hx hb dX0_top_14 (by decide) (fun c14 => ?_) (fun c14 => ?_)
      ·
        have ein : (xf_in (nI h) 8 && xf_in pr 32) = true := by rw [c4, xf_in_split pr (by decide), decide_eq_false c8, decide_eq_true c14]; rfl
        refine lv_aload_n hx hb dX0_top_19 rfl (lv_at hl 0 rfl) ?_
        have hFc := xf_A_le hD
        refine va_callv (va_runV (As := []) (rest := []) ⟨hx, hb, hml, hown, hts⟩ (k_countAll l dC dI h0 a1 a2 a3 a4 a5 a6 cI fg fk fu fc fb fn rc) (cwV 0 hts gX0_top_X0_countAll rfl rfl rfl (by decide +kernel) ⟨Nat.le_of_ble_eq_true rfl, Nat.le_of_ble_eq_true rfl⟩) (xf_preW (ci := 0) (RX0, TX0, 7) hK hP hD rfl rfl) rfl rfl hl.1 rfl (lv_room (Nat.le_of_ble_eq_true rfl)) dX0_top_20 ⟨Nat.zero_le _, Nat.zero_le _⟩) hS (fun q _ h => hFc q h) hFc (fun u9 t9 H locs ht9 hvm9 hw9 hB9 hz9 hk9 hS => ?_)
        subst hw9
        have hB9 := xf_hB ht9 hB9
        have hP : va_P (dC, dI) fmCl (fw h0 a1 a2 a3 a4 a5 a6 cI fg fk fu fc fb (fcAll fg fk fc fn) rc) H := hB9
        have hD : va_D A (fw h0 a1 a2 a3 a4 a5 a6 cI fg fk fu fc fb (fcAll fg fk fc fn) rc) := xf_wD hD rfl
        refine lv_iconst (v := nI 0) hx hb dX0_top_23 (by decide) ?_
        refine lv_istore_n (lv' := [(3, .int (nI 0)), (0, .ref h0), (1, .int (nI h)), (2, .int pr)]) hx hb dX0_top_24 rfl hl (by decide) rfl (fun ls hl => ?_)
        refine xf_loopS (σ := Nat) (fun (z9 : Nat) => 32 - z9) (fun (z9 : Nat) => [(0, .ref h0), (1, .int (nI h)), (2, .int pr), (3, .int (nI z9))]) (fun (z9 : Nat) => z9 ≤ 32 ∧ xf_find (fcTP (fcAll fg fk fc fn) h pr) 32 0 = xf_find (fcTP (fcAll fg fk fc fn) h pr) (32 - z9) z9) 0 (lv_sub hl [1, 2, 3, 0] rfl) ⟨Nat.zero_le _, rfl⟩ (fun z9 ls hi hl ih25 => ?_)
        obtain ⟨v, hxe⟩ : ∃ z, z = z9 := ⟨_, rfl⟩
        subst hxe
        have hl : lv_has ls 4 [(0, .ref h0), (1, .int (nI h)), (2, .int pr), (3, .int (nI v))] := hl
        obtain ⟨hi, hR⟩ := hi
        have hi : v ≤ 32 := hi
        have hR : xf_find (fcTP (fcAll fg fk fc fn) h pr) 32 0 = xf_find (fcTP (fcAll fg fk fc fn) h pr) (32 - v) v := hR
        refine lv_iload_n hx hb dX0_top_25 rfl (lv_at hl 3 rfl) ?_
        refine lv_bipush (v := nI 32) hx hb dX0_top_26 (by decide) ?_
        refine xf_ge (tgt := 63) hx hb dX0_top_28 (by decide) (by omega) (by omega) (fun c28 => ?_) (fun c28 => ?_)
        ·
          refine lv_iconst (v := (-1)) hx hb dX0_top_63 (by decide) ?_
          exact W.iret (v := (-1)) hx hb hr (fun t9 ht9 hW9 => ⟨⟨_, (fg, fk, fu, fc, fb, fcAll fg fk fc fn, rc), rfl, by rw [fcTop, if_pos ein, eh, show xf_find (fcTP (fcAll fg fk fc fn) h pr) 32 0 = -1 from by rw [hR, show v = 32 by omega]; rfl], xf_hP ht9 hP⟩, hS.F ht9⟩) hS.2.2 dX0_top_64
        ·
          refine lv_aload_n hx hb dX0_top_31 rfl (lv_at hl 0 rfl) ?_
          refine va_get (D := (dC, dI)) (ci := 0) (v := .ref a6) (C := RX0) (T := TX0) (N := 7) hx hb hts hin hown hK hP 0 rfl rfl 5 (by decide) hf_counts (fun _ h9 => h9) rfl dX0_top_32 ?_
          refine lv_iload_n hx hb dX0_top_35 rfl (lv_at hl 1 rfl) ?_
          refine lv_bipush (v := nI 32) hx hb dX0_top_36 (by decide) ?_
          refine lv_imul hx hb dX0_top_38 ?_
          refine xf_be (y := nI (h * 32)) (by exact pk_mul _ _) ?_
          refine lv_iload_n hx hb dX0_top_39 rfl (lv_at hl 3 rfl) ?_
          refine lv_iadd hx hb dX0_top_40 ?_
          refine xf_be (y := nI (h * 32 + v)) (by exact nI_add _ _) ?_
          refine xf_iald hx hb hK hP 6 0 rfl rfl (j := (h * 32 + v)) (by omega) (by decide) dX0_top_41 ?_
          refine lv_if_eq (tgt := 57) hx hb dX0_top_42 (by decide) (fun c42 => ?_) (fun c42 => ?_)
          ·
            refine lv_iinc (v := nI (v + 1)) (lv' := [(3, .int (nI (v + 1))), (0, .ref h0), (1, .int (nI h)), (2, .int pr)]) hx hb dX0_top_57 hl (k := 3) rfl (by exact nI_1 v) (by decide) rfl (fun ls hl => ?_)
            refine lv_goto (tgt := 25) hx hb dX0_top_60 (by decide) ?_
            have e9 : fcTP (fcAll fg fk fc fn) h pr v = false := by unfold fcTP; rw [decide_eq_false (not_not_intro c42), Bool.false_and]
            have hl := lv_sub (l' := [(0, .ref h0), (1, .int (nI h)), (2, .int pr), (3, .int (nI (v + 1)))]) hl [1, 2, 3, 0] rfl
            have hl : lv_has ls 4 [(0, .ref h0), (1, .int (nI h)), (2, .int pr), (3, .int (nI (v + 1)))] := xf_lv hl (by rfl)
            exact ih25 (v + 1) ls (by show 32 - (v + 1) < 32 - v; omega) (by refine ⟨by omega, ?_⟩; rw [hR, show 32 - v = (32 - (v + 1)) + 1 by omega, xf_find, if_neg (by rw [e9]; decide)]) hl
          ·
            refine lv_aload_n hx hb dX0_top_45 rfl (lv_at hl 0 rfl) ?_
            refine lv_iload_n hx hb dX0_top_46 rfl (lv_at hl 1 rfl) ?_
            refine lv_iload_n hx hb dX0_top_47 rfl (lv_at hl 3 rfl) ?_
            refine vp_callSi (W.runV (As := [.int (nI h), .int (nI v)]) (rest := []) ⟨hx, hb, hml, hown, hts⟩ (k_rankOf l dC dI h0 a1 a2 a3 a4 a5 a6 cI fg fk fu fc fb (fcAll fg fk fc fn) rc h v (by omega) (by omega)) (cwV 2 hts gX0_top_X0_rankOf rfl rfl rfl (by decide +kernel) ⟨Nat.le_of_ble_eq_true rfl, Nat.le_of_ble_eq_true rfl⟩) (xf_preV (ci := 0) (RX0, TX0, 7) hK hP rfl rfl) rfl rfl hl.1 rfl (lv_room (Nat.le_of_ble_eq_true rfl)) dX0_top_48 ⟨Nat.zero_le _, Nat.zero_le _⟩) (fun r hr9 => ?_)
            subst hr9
            refine lv_iload_n hx hb dX0_top_51 rfl (lv_at hl 2 rfl) ?_
            refine lv_icmp_ne (tgt := 57) hx hb dX0_top_52 (by decide) (fun c52 => ?_) (fun c52 => ?_)
            ·
              refine lv_iinc (v := nI (v + 1)) (lv' := [(3, .int (nI (v + 1))), (0, .ref h0), (1, .int (nI h)), (2, .int pr)]) hx hb dX0_top_57 hl (k := 3) rfl (by exact nI_1 v) (by decide) rfl (fun ls hl => ?_)
              refine lv_goto (tgt := 25) hx hb dX0_top_60 (by decide) ?_
              have e9 : fcTP (fcAll fg fk fc fn) h pr v = false := by unfold fcTP; rw [decide_eq_false c52, Bool.and_false]
              have hl := lv_sub (l' := [(0, .ref h0), (1, .int (nI h)), (2, .int pr), (3, .int (nI (v + 1)))]) hl [1, 2, 3, 0] rfl
              have hl : lv_has ls 4 [(0, .ref h0), (1, .int (nI h)), (2, .int pr), (3, .int (nI (v + 1)))] := xf_lv hl (by rfl)
              exact ih25 (v + 1) ls (by show 32 - (v + 1) < 32 - v; omega) (by refine ⟨by omega, ?_⟩; rw [hR, show 32 - v = (32 - (v + 1)) + 1 by omega, xf_find, if_neg (by rw [e9]; decide)]) hl
            ·
              refine lv_iload_n hx hb dX0_top_55 rfl (lv_at hl 3 rfl) ?_
              exact W.iret (v := nI v) hx hb hr (fun t9 ht9 hW9 => ⟨⟨_, (fg, fk, fu, fc, fb, fcAll fg fk fc fn, rc), rfl, by rw [fcTop, if_pos ein, eh, show xf_find (fcTP (fcAll fg fk fc fn) h pr) 32 0 = nI v from by rw [hR, show 32 - v = (31 - v) + 1 by omega, xf_find, if_pos (by unfold fcTP; rw [decide_eq_true c42, decide_eq_true c52]; rfl)]], xf_hP ht9 hP⟩, hS.F ht9⟩) hS.2.2 dX0_top_56
      ·
        refine lv_iconst (v := (-1)) hx hb dX0_top_17 (by decide) ?_
        exact W.iret (v := (-1)) hx hb hr (fun t9 ht9 hW9 => ⟨⟨_, (fg, fk, fu, fc, fb, fn, rc), rfl, by rw [fcTop, if_neg (by rw [xf_in_split pr (by decide), decide_eq_false c14]; simp)], xf_hP ht9 hP⟩, hS.F ht9⟩) hS.2.2 dX0_top_18
set_option maxHeartbeats 4000000 in
set_option maxRecDepth 100000 in
/-- changed() -/
theorem k_changed (l : Launch) (dC : Nat → ClassId) (dI : Nat → Nat → Nat) (h0 a1 a2 a3 a4 a5 a6 : Nat) (cI : ClassId) (fg fk fu fc fb fn : Nat → Int32) (rc : Int32) : Met l yX0_changed wsX0_changed ({ frames := 3, cells := 0, slots := 0, locals := 68 }) (va_Pc [.ref h0] (fun U => va_P (dC, dI) fmCl (fw h0 a1 a2 a3 a4 a5 a6 cI fg fk fu fc fb fn rc) U.heap ∧ va_K (dC, dI) fmCl [(cI, .int)] U ∧ va_D (fun _ => True) (fw h0 a1 a2 a3 a4 a5 a6 cI fg fk fu fc fb fn rc))) (va_Qi (fun (r : Int32) (u : FcS) => (r, u) = fcChanged fg fk fu fc fb fn rc) (fun u t => va_P (dC, dI) fmCl (fw h0 a1 a2 a3 a4 a5 a6 cI u.1 u.2.1 u.2.2.1 u.2.2.2.1 u.2.2.2.2.1 u.2.2.2.2.2.1 u.2.2.2.2.2.2) t.heap) (xf_A (fw h0 a1 a2 a3 a4 a5 a6 cI fg fk fu fc fb fn rc))) 0 0 (xf_A (fw h0 a1 a2 a3 a4 a5 a6 cI fg fk fu fc fb fn rc)) := by
  refine Met.ofW (cc := cX0_changed) (maxL := 3) (ret := (some .int)) (by decide) rfl ?_
  intro p e s m args below meth c s₁ B hml hv
  obtain ⟨rfl, hP, hK, hD0⟩ := hv
  have hx := B.exec
  have hb := B.bytes
  have hr := B.returns
  have hts := atoms_spec (ws := wsX0_changed) B.pre
  have hown : s.vm.findClass RX0 = some m.cls := findClass_of_methodNamed B.named
  have hlocks := B.notSynchronized
  have hin : ∀ w ∈ u_ws RX0 TX0 7, w ∈ wsX0_changed := by decide +kernel
  have hf_counts := hts (.fieldLink RX0 25 "FacetCounts" "counts" "[I") (by decide +kernel)
  have hf_before := hts (.fieldLink RX0 22 "FacetCounts" "before" "[I") (by decide +kernel)
  have hD := xf_A_self hD0
  generalize hAe : xf_A (fw h0 a1 a2 a3 a4 a5 a6 cI fg fk fu fc fb fn rc) = A at hD ⊢
  have hS : va_S A s.heap s.heap [] := va_S.rf
  have hP : va_P (dC, dI) fmCl (fw h0 a1 a2 a3 a4 a5 a6 cI fg fk fu fc fb fn rc) s.heap := hP
  have hl := lv_entry ([.ref h0]) (n := 3) (Nat.le_of_ble_eq_true rfl)
  rw [lg_entry_eq]
  generalize (lg_sl ([.ref h0]) ++ List.replicate (3 - (lg_sl ([.ref h0])).length) Slot.unset).toArray = ls at hl ⊢
  have hl : lv_has ls 3 [(0, .ref h0)] := hl
  refine lv_aload_n hx hb dX0_changed_0 rfl (lv_at hl 0 rfl) ?_
  have hFc := xf_A_le hD
  refine va_callv (va_runV (As := []) (rest := []) ⟨hx, hb, hml, hown, hts⟩ (k_countAll l dC dI h0 a1 a2 a3 a4 a5 a6 cI fg fk fu fc fb fn rc) (cwV 0 hts gX0_changed_X0_countAll rfl rfl rfl (by decide +kernel) ⟨Nat.le_of_ble_eq_true rfl, Nat.le_of_ble_eq_true rfl⟩) (xf_preW (ci := 0) (RX0, TX0, 7) hK hP hD rfl rfl) rfl rfl hl.1 rfl (lv_room (Nat.le_of_ble_eq_true rfl)) dX0_changed_1 ⟨Nat.zero_le _, Nat.zero_le _⟩) hS (fun q _ h => hFc q h) hFc (fun u9 t9 H locs ht9 hvm9 hw9 hB9 hz9 hk9 hS => ?_)
  subst hw9
  have hB9 := xf_hB ht9 hB9
  have hP : va_P (dC, dI) fmCl (fw h0 a1 a2 a3 a4 a5 a6 cI fg fk fu fc fb (fcAll fg fk fc fn) rc) H := hB9
  have hD : va_D A (fw h0 a1 a2 a3 a4 a5 a6 cI fg fk fu fc fb (fcAll fg fk fc fn) rc) := xf_wD hD rfl
  refine lv_iconst (v := nI 0) hx hb dX0_changed_4 (by decide) ?_
  refine lv_istore_n (lv' := [(1, .int (nI 0)), (0, .ref h0)]) hx hb dX0_changed_5 rfl hl (by decide) rfl (fun ls hl => ?_)
  refine lv_iconst (v := nI 0) hx hb dX0_changed_6 (by decide) ?_
  refine lv_istore_n (lv' := [(2, .int (nI 0)), (1, .int (nI 0)), (0, .ref h0)]) hx hb dX0_changed_7 rfl hl (by decide) rfl (fun ls hl => ?_)
  refine xf_loopH (σ := Nat) (fun (z9 : Nat) => 256 - z9) (fun (z9 : Nat) => [(0, .ref h0), (1, .int (nI (xf_cnt (fcDf fb (fcAll fg fk fc fn)) z9))), (2, .int (nI z9))]) (fun (z9 : Nat) => (fw h0 a1 a2 a3 a4 a5 a6 cI fg fk fu fc (fcCp fb (fcAll fg fk fc fn) z9) (fcAll fg fk fc fn) rc)) (fun (z9 : Nat) => z9 ≤ 256) 0 (lv_sub hl [2, 1, 0] rfl) (Nat.zero_le _) hP hD hS (fun z9 ls H locs hi hl hP hD hS ih8 => ?_)
  obtain ⟨i, hxe⟩ : ∃ z, z = z9 := ⟨_, rfl⟩
  subst hxe
  have hl : lv_has ls 3 [(0, .ref h0), (1, .int (nI (xf_cnt (fcDf fb (fcAll fg fk fc fn)) i))), (2, .int (nI i))] := hl
  have hP : va_P (dC, dI) fmCl (fw h0 a1 a2 a3 a4 a5 a6 cI fg fk fu fc (fcCp fb (fcAll fg fk fc fn) i) (fcAll fg fk fc fn) rc) H := hP
  have hD : va_D A (fw h0 a1 a2 a3 a4 a5 a6 cI fg fk fu fc (fcCp fb (fcAll fg fk fc fn) i) (fcAll fg fk fc fn) rc) := hD
  have hi : i ≤ 256 := hi
  refine lv_iload_n hx hb dX0_changed_8 rfl (lv_at hl 2 rfl) ?_
  refine lv_sipush (v := nI 256) hx hb dX0_changed_9 (by decide) ?_
  refine xf_ge (tgt := 51) hx hb dX0_changed_12 (by decide) (by omega) (by omega) (fun c12 => ?_) (fun c12 => ?_)
  ·
    obtain rfl : i = 256 := by omega
    refine lv_iload_n hx hb dX0_changed_51 rfl (lv_at hl 1 rfl) ?_
    exact W.iret (v := nI (xf_cnt (fcDf fb (fcAll fg fk fc fn)) 256)) hx hb hr (fun t9 ht9 hW9 => ⟨⟨_, (fg, fk, fu, fc, fcCp fb (fcAll fg fk fc fn) 256, fcAll fg fk fc fn, rc), rfl, rfl, xf_hP ht9 hP⟩, hS.F ht9⟩) hS.2.2 dX0_changed_52
  ·
    refine lv_aload_n hx hb dX0_changed_15 rfl (lv_at hl 0 rfl) ?_
    refine va_get (D := (dC, dI)) (ci := 0) (v := .ref a6) (C := RX0) (T := TX0) (N := 7) hx hb hts hin hown hK hP 0 rfl rfl 5 (by decide) hf_counts (fun _ h9 => h9) rfl dX0_changed_16 ?_
    refine lv_iload_n hx hb dX0_changed_19 rfl (lv_at hl 2 rfl) ?_
    refine xf_iald hx hb hK hP 6 0 rfl rfl (j := i) (by omega) (by decide) dX0_changed_20 ?_
    refine lv_aload_n hx hb dX0_changed_21 rfl (lv_at hl 0 rfl) ?_
    refine va_get (D := (dC, dI)) (ci := 0) (v := .ref a5) (C := RX0) (T := TX0) (N := 7) hx hb hts hin hown hK hP 0 rfl rfl 4 (by decide) hf_before (fun _ h9 => h9) rfl dX0_changed_22 ?_
    refine lv_iload_n hx hb dX0_changed_25 rfl (lv_at hl 2 rfl) ?_
    refine xf_iald hx hb hK hP 5 0 rfl rfl (j := i) (by omega) (by decide) dX0_changed_26 ?_
    refine xf_be (y := fb i) (fcCp_ge _ _ i i (Nat.le_refl _)) ?_
    refine lv_icmp_eq (tgt := 33) hx hb dX0_changed_27 (by decide) (fun c27 => ?_) (fun c27 => ?_)
    ·
      refine lv_aload_n hx hb dX0_changed_33 rfl (lv_at hl 0 rfl) ?_
      refine va_get (D := (dC, dI)) (ci := 0) (v := .ref a5) (C := RX0) (T := TX0) (N := 7) hx hb hts hin hown hK hP 0 rfl rfl 4 (by decide) hf_before (fun _ h9 => h9) rfl dX0_changed_34 ?_
      refine lv_iload_n hx hb dX0_changed_37 rfl (lv_at hl 2 rfl) ?_
      refine lv_aload_n hx hb dX0_changed_38 rfl (lv_at hl 0 rfl) ?_
      refine va_get (D := (dC, dI)) (ci := 0) (v := .ref a6) (C := RX0) (T := TX0) (N := 7) hx hb hts hin hown hK hP 0 rfl rfl 5 (by decide) hf_counts (fun _ h9 => h9) rfl dX0_changed_39 ?_
      refine lv_iload_n hx hb dX0_changed_42 rfl (lv_at hl 2 rfl) ?_
      refine xf_iald hx hb hK hP 6 0 rfl rfl (j := i) (by omega) (by decide) dX0_changed_43 ?_
      refine xf_iast hx hb hK hP hD hS 5 0 rfl rfl (j := i) (by omega) (by decide) dX0_changed_44 (fun H locs hP hD hS => ?_)
      have hP : va_P (dC, dI) fmCl (fw h0 a1 a2 a3 a4 a5 a6 cI fg fk fu fc (upd (fcCp fb (fcAll fg fk fc fn) i) i ((fcAll fg fk fc fn) i)) (fcAll fg fk fc fn) rc) H := hP
      have hD : va_D A (fw h0 a1 a2 a3 a4 a5 a6 cI fg fk fu fc (upd (fcCp fb (fcAll fg fk fc fn) i) i ((fcAll fg fk fc fn) i)) (fcAll fg fk fc fn) rc) := hD
      refine lv_iinc (v := nI (i + 1)) (lv' := [(2, .int (nI (i + 1))), (0, .ref h0), (1, .int (nI (xf_cnt (fcDf fb (fcAll fg fk fc fn)) i)))]) hx hb dX0_changed_45 hl (k := 2) rfl (by exact nI_1 i) (by decide) rfl (fun ls hl => ?_)
      refine lv_goto (tgt := 8) hx hb dX0_changed_48 (by decide) ?_
      have hl := lv_sub (l' := [(0, .ref h0), (1, .int (nI (xf_cnt (fcDf fb (fcAll fg fk fc fn)) i))), (2, .int (nI (i + 1)))]) hl [1, 2, 0] rfl
      have hl : lv_has ls 3 [(0, .ref h0), (1, .int (nI (xf_cnt (fcDf fb (fcAll fg fk fc fn)) (i + 1)))), (2, .int (nI (i + 1)))] := xf_lv hl (by simp [xf_cnt, fcDf, c12, c27])
      have hP : va_P (dC, dI) fmCl (fw h0 a1 a2 a3 a4 a5 a6 cI fg fk fu fc (fcCp fb (fcAll fg fk fc fn) (i + 1)) (fcAll fg fk fc fn) rc) H := xf_wP hP (by rfl)
      have hD : va_D A (fw h0 a1 a2 a3 a4 a5 a6 cI fg fk fu fc (fcCp fb (fcAll fg fk fc fn) (i + 1)) (fcAll fg fk fc fn) rc) := xf_wD hD rfl
      exact ih8 (i + 1) ls H locs (by show 256 - (i + 1) < 256 - i; omega) (by show (i + 1) ≤ 256; omega) hl hP hD hS
    ·
      refine lv_iinc (v := nI (xf_cnt (fcDf fb (fcAll fg fk fc fn)) i + 1)) (lv' := [(1, .int (nI (xf_cnt (fcDf fb (fcAll fg fk fc fn)) i + 1))), (0, .ref h0), (2, .int (nI i))]) hx hb dX0_changed_30 hl (k := 1) rfl (by exact nI_1 (xf_cnt (fcDf fb (fcAll fg fk fc fn)) i)) (by decide) rfl (fun ls hl => ?_)
      refine lv_aload_n hx hb dX0_changed_33 rfl (lv_at hl 1 rfl) ?_
      refine va_get (D := (dC, dI)) (ci := 0) (v := .ref a5) (C := RX0) (T := TX0) (N := 7) hx hb hts hin hown hK hP 0 rfl rfl 4 (by decide) hf_before (fun _ h9 => h9) rfl dX0_changed_34 ?_
      refine lv_iload_n hx hb dX0_changed_37 rfl (lv_at hl 2 rfl) ?_
      refine lv_aload_n hx hb dX0_changed_38 rfl (lv_at hl 1 rfl) ?_
      refine va_get (D := (dC, dI)) (ci := 0) (v := .ref a6) (C := RX0) (T := TX0) (N := 7) hx hb hts hin hown hK hP 0 rfl rfl 5 (by decide) hf_counts (fun _ h9 => h9) rfl dX0_changed_39 ?_
      refine lv_iload_n hx hb dX0_changed_42 rfl (lv_at hl 2 rfl) ?_
      refine xf_iald hx hb hK hP 6 0 rfl rfl (j := i) (by omega) (by decide) dX0_changed_43 ?_
      refine xf_iast hx hb hK hP hD hS 5 0 rfl rfl (j := i) (by omega) (by decide) dX0_changed_44 (fun H locs hP hD hS => ?_)
      have hP : va_P (dC, dI) fmCl (fw h0 a1 a2 a3 a4 a5 a6 cI fg fk fu fc (upd (fcCp fb (fcAll fg fk fc fn) i) i ((fcAll fg fk fc fn) i)) (fcAll fg fk fc fn) rc) H := hP
      have hD : va_D A (fw h0 a1 a2 a3 a4 a5 a6 cI fg fk fu fc (upd (fcCp fb (fcAll fg fk fc fn) i) i ((fcAll fg fk fc fn) i)) (fcAll fg fk fc fn) rc) := hD
      refine lv_iinc (v := nI (i + 1)) (lv' := [(2, .int (nI (i + 1))), (1, .int (nI (xf_cnt (fcDf fb (fcAll fg fk fc fn)) i + 1))), (0, .ref h0)]) hx hb dX0_changed_45 hl (k := 2) rfl (by exact nI_1 i) (by decide) rfl (fun ls hl => ?_)
      refine lv_goto (tgt := 8) hx hb dX0_changed_48 (by decide) ?_
      have hl := lv_sub (l' := [(0, .ref h0), (1, .int (nI (xf_cnt (fcDf fb (fcAll fg fk fc fn)) i + 1))), (2, .int (nI (i + 1)))]) hl [2, 1, 0] rfl
      have hl : lv_has ls 3 [(0, .ref h0), (1, .int (nI (xf_cnt (fcDf fb (fcAll fg fk fc fn)) (i + 1)))), (2, .int (nI (i + 1)))] := xf_lv hl (by simp [xf_cnt, fcDf, c12, c27])
      have hP : va_P (dC, dI) fmCl (fw h0 a1 a2 a3 a4 a5 a6 cI fg fk fu fc (fcCp fb (fcAll fg fk fc fn) (i + 1)) (fcAll fg fk fc fn) rc) H := xf_wP hP (by rfl)
      have hD : va_D A (fw h0 a1 a2 a3 a4 a5 a6 cI fg fk fu fc (fcCp fb (fcAll fg fk fc fn) (i + 1)) (fcAll fg fk fc fn) rc) := xf_wD hD rfl
      exact ih8 (i + 1) ls H locs (by show 256 - (i + 1) < 256 - i; omega) (by show (i + 1) ≤ 256; omega) hl hP hD hS
end
section
set_option maxHeartbeats 1000000 in
set_option maxRecDepth 100000 in
/-- FacetCounts() -/
theorem k_init (l : Launch) (dC : Nat → ClassId) (dI : Nat → Nat → Nat) (h0 sz : Nat) : Met l yX0_init wsX0_init ({ frames := 2, cells := 6, slots := 912, locals := 40 }) (va_Pc [.ref h0] (fun U => U.heap.size = sz ∧ va_P (dC, dI) fmCl [(h0, .inr (0, [.null, .null, .null, .null, .null, .null, .int 0]))] U.heap ∧ va_K (dC, dI) fmCl [] U ∧ va_D (fun _ => True) [(h0, .inr (0, [.null, .null, .null, .null, .null, .null, .int 0]))])) (va_Qv (fun _ : Unit => True) (fun _ t => ∃ (cI : ClassId) (a1 a2 a3 a4 a5 a6 : Nat), va_P (dC, dI) fmCl (fw h0 a1 a2 a3 a4 a5 a6 cI ((fun _ => 0)) ((fun _ => 0)) (xf_fill (-1) (fun _ => 0) 32) ((fun _ => 0)) ((fun _ => 0)) ((fun _ => 0)) (nI 0)) t.heap ∧ va_K (dC, dI) fmCl [(cI, .int)] t ∧ va_D (va_A [(h0, .inr (0, [.null, .null, .null, .null, .null, .null, .int 0]))] sz) (fw h0 a1 a2 a3 a4 a5 a6 cI ((fun _ => 0)) ((fun _ => 0)) (xf_fill (-1) (fun _ => 0) 32) ((fun _ => 0)) ((fun _ => 0)) ((fun _ => 0)) (nI 0))) (va_A [(h0, .inr (0, [.null, .null, .null, .null, .null, .null, .int 0]))] sz)) 6 912 (va_A [(h0, .inr (0, [.null, .null, .null, .null, .null, .null, .int 0]))] sz) := by
  refine Met.ofW (cc := cX0_init) (maxL := 1) (ret := none) (by decide) rfl ?_
  intro p e s m args below meth c s₁ B hml hv
  obtain ⟨rfl, hsz, hP, hK, hD0⟩ := hv
  have hx := B.exec
  have hb := B.bytes
  have hr := B.returns
  have hts := atoms_spec (ws := wsX0_init) B.pre
  have hown : s.vm.findClass RX0 = some m.cls := findClass_of_methodNamed B.named
  have hlocks := B.notSynchronized
  have hin0 : meth.name = "<init>" := (name_of_methodNamed B.named B.method).1
  subst hsz
  have hD := hD0.self (sz := s.heap.size)
  generalize hAe : va_A [(h0, .inr (0, [.null, .null, .null, .null, .null, .null, .int 0]))] s.heap.size = A at hD ⊢
  have hA : ∀ q : Nat, s.heap.size ≤ q → A q := fun q h => by rw [← hAe]; exact Or.inr h
  have hS : va_S A s.heap s.heap [] := va_S.rf
  have hin : ∀ w ∈ u_ws RX0 TX0 7, w ∈ wsX0_init := by decide +kernel
  have hP : va_P (dC, dI) fmCl [(h0, .inr (0, [.null, .null, .null, .null, .null, .null, .int 0]))] s.heap := hP
  have hl := lv_entry ([.ref h0]) (n := 1) (Nat.le_of_ble_eq_true rfl)
  rw [lg_entry_eq]
  generalize (lg_sl ([.ref h0]) ++ List.replicate (1 - (lg_sl ([.ref h0])).length) Slot.unset).toArray = ls at hl ⊢
  have hl : lv_has ls 1 [(0, .ref h0)] := hl
  refine lv_aload_n hx hb dX0_init_0 rfl (lv_at hl 0 rfl) ?_
  refine W.objInit hx hb hown (hts (.methodLink RX0 1 objectInit) (by decide +kernel)) (hts (.instanceMethod objectInit) (by decide +kernel)) (hts (.code objectInit ⟨#[0xb1]⟩ 1 none) (by decide +kernel)) rfl (by rw [hml]; exact hl.1) rfl dX0_init_1 (Nat.le_of_ble_eq_true rfl) (Nat.le_of_ble_eq_true rfl) ?_
  refine W.eq (g2 := F0 m 4 ls []) rfl ?_
  refine lv_aload_n hx hb dX0_init_4 rfl (lv_at hl 0 rfl) ?_
  refine lv_sipush (v := nI 320) hx hb dX0_init_5 (by decide) ?_
  refine va_newa (n := nI 320) (N' := 320) (atype := .int) (a0 := (320, .inl (fun _ => 0))) (ty := .int) hx hb (hts (.arrayClass .int) (by decide +kernel)) rfl hK hP hD hS hA (fun _ => vp_cell_i _ _ _) (nI_pos (by decide)) (@nI_clamp 320 (by decide)) (show 320 * 4 ≤ 536870912 from by omega) (show 0 + 1 ≤ 6 from by omega) (show 0 + 320 ≤ 912 from by omega) dX0_init_8 (fun a1 cI H hK hP hD hS => ?_)
  have hK := hK.sub (tys' := [(cI, .int)]) [0] rfl
  have hP : va_P (dC, dI) fmCl [(h0, .inr (0, [.null, .null, .null, .null, .null, .null, .int 0])), (a1, .inl (cI, 320, .inl (fun _ => 0)))] H := hP
  have hD : va_D A [(h0, .inr (0, [.null, .null, .null, .null, .null, .null, .int 0])), (a1, .inl (cI, 320, .inl (fun _ => 0)))] := hD
  refine W.widen (k := 1) (n := 320) (by omega) (by omega) ?_
  have hf_given := hts (.fieldLink RX0 9 "FacetCounts" "given" "[I") (by decide +kernel)
  refine va_putF (D := (dC, dI)) (ci := 0) (v := .ref a1) (ty := .array .int) (C := RX0) (T := TX0) (N := 7) hx hb hts hin tyX0 tyX0_ok nmX0 hown hK hP hD hS 0 rfl rfl 0 (by decide) hf_given (fun _ h9 => h9) rfl hin0 rfl (by decide +kernel) rfl rfl (Nat.le_of_ble_eq_true rfl) dX0_init_10 (fun H locs hP hD hS => ?_)
  have hP : va_P (dC, dI) fmCl [(h0, .inr (0, [.ref a1, .null, .null, .null, .null, .null, .int 0])), (a1, .inl (cI, 320, .inl (fun _ => 0)))] H := hP
  have hD : va_D A [(h0, .inr (0, [.ref a1, .null, .null, .null, .null, .null, .int 0])), (a1, .inl (cI, 320, .inl (fun _ => 0)))] := hD
  refine lv_aload_n hx hb dX0_init_13 rfl (lv_at hl 0 rfl) ?_
  refine lv_bipush (v := nI 40) hx hb dX0_init_14 (by decide) ?_
  refine va_newa (n := nI 40) (N' := 40) (atype := .int) (a0 := (40, .inl (fun _ => 0))) (ty := .int) hx hb (hts (.arrayClass .int) (by decide +kernel)) rfl hK hP hD hS hA (fun _ => vp_cell_i _ _ _) (nI_pos (by decide)) (@nI_clamp 40 (by decide)) (show 40 * 4 ≤ 536870912 from by omega) (show 1 + 1 ≤ 6 from by omega) (show 320 + 40 ≤ 912 from by omega) dX0_init_16 (fun a2 cI9 H hK hP hD hS => ?_)
  obtain rfl : cI = cI9 := xf_oneI hK (i := 0) (j := 1) rfl rfl
  have hK := hK.sub (tys' := [(cI, .int)]) [0] rfl
  have hP : va_P (dC, dI) fmCl [(h0, .inr (0, [.ref a1, .null, .null, .null, .null, .null, .int 0])), (a1, .inl (cI, 320, .inl (fun _ => 0))), (a2, .inl (cI, 40, .inl (fun _ => 0)))] H := hP
  have hD : va_D A [(h0, .inr (0, [.ref a1, .null, .null, .null, .null, .null, .int 0])), (a1, .inl (cI, 320, .inl (fun _ => 0))), (a2, .inl (cI, 40, .inl (fun _ => 0)))] := hD
  refine W.widen (k := 2) (n := 360) (by omega) (by omega) ?_
  have hf_kinds := hts (.fieldLink RX0 13 "FacetCounts" "kinds" "[I") (by decide +kernel)
  refine va_putF (D := (dC, dI)) (ci := 0) (v := .ref a2) (ty := .array .int) (C := RX0) (T := TX0) (N := 7) hx hb hts hin tyX0 tyX0_ok nmX0 hown hK hP hD hS 0 rfl rfl 1 (by decide) hf_kinds (fun _ h9 => h9) rfl hin0 rfl (by decide +kernel) rfl rfl (Nat.le_of_ble_eq_true rfl) dX0_init_18 (fun H locs hP hD hS => ?_)
  have hP : va_P (dC, dI) fmCl [(h0, .inr (0, [.ref a1, .ref a2, .null, .null, .null, .null, .int 0])), (a1, .inl (cI, 320, .inl (fun _ => 0))), (a2, .inl (cI, 40, .inl (fun _ => 0)))] H := hP
  have hD : va_D A [(h0, .inr (0, [.ref a1, .ref a2, .null, .null, .null, .null, .int 0])), (a1, .inl (cI, 320, .inl (fun _ => 0))), (a2, .inl (cI, 40, .inl (fun _ => 0)))] := hD
  refine lv_aload_n hx hb dX0_init_21 rfl (lv_at hl 0 rfl) ?_
  refine lv_bipush (v := nI 32) hx hb dX0_init_22 (by decide) ?_
  refine va_newa (n := nI 32) (N' := 32) (atype := .int) (a0 := (32, .inl (fun _ => 0))) (ty := .int) hx hb (hts (.arrayClass .int) (by decide +kernel)) rfl hK hP hD hS hA (fun _ => vp_cell_i _ _ _) (nI_pos (by decide)) (@nI_clamp 32 (by decide)) (show 32 * 4 ≤ 536870912 from by omega) (show 2 + 1 ≤ 6 from by omega) (show 360 + 32 ≤ 912 from by omega) dX0_init_24 (fun a3 cI9 H hK hP hD hS => ?_)
  obtain rfl : cI = cI9 := xf_oneI hK (i := 0) (j := 1) rfl rfl
  have hK := hK.sub (tys' := [(cI, .int)]) [0] rfl
  have hP : va_P (dC, dI) fmCl [(h0, .inr (0, [.ref a1, .ref a2, .null, .null, .null, .null, .int 0])), (a1, .inl (cI, 320, .inl (fun _ => 0))), (a2, .inl (cI, 40, .inl (fun _ => 0))), (a3, .inl (cI, 32, .inl (fun _ => 0)))] H := hP
  have hD : va_D A [(h0, .inr (0, [.ref a1, .ref a2, .null, .null, .null, .null, .int 0])), (a1, .inl (cI, 320, .inl (fun _ => 0))), (a2, .inl (cI, 40, .inl (fun _ => 0))), (a3, .inl (cI, 32, .inl (fun _ => 0)))] := hD
  refine W.widen (k := 3) (n := 392) (by omega) (by omega) ?_
  have hf_uppers := hts (.fieldLink RX0 16 "FacetCounts" "uppers" "[I") (by decide +kernel)
  refine va_putF (D := (dC, dI)) (ci := 0) (v := .ref a3) (ty := .array .int) (C := RX0) (T := TX0) (N := 7) hx hb hts hin tyX0 tyX0_ok nmX0 hown hK hP hD hS 0 rfl rfl 2 (by decide) hf_uppers (fun _ h9 => h9) rfl hin0 rfl (by decide +kernel) rfl rfl (Nat.le_of_ble_eq_true rfl) dX0_init_26 (fun H locs hP hD hS => ?_)
  have hP : va_P (dC, dI) fmCl [(h0, .inr (0, [.ref a1, .ref a2, .ref a3, .null, .null, .null, .int 0])), (a1, .inl (cI, 320, .inl (fun _ => 0))), (a2, .inl (cI, 40, .inl (fun _ => 0))), (a3, .inl (cI, 32, .inl (fun _ => 0)))] H := hP
  have hD : va_D A [(h0, .inr (0, [.ref a1, .ref a2, .ref a3, .null, .null, .null, .int 0])), (a1, .inl (cI, 320, .inl (fun _ => 0))), (a2, .inl (cI, 40, .inl (fun _ => 0))), (a3, .inl (cI, 32, .inl (fun _ => 0)))] := hD
  refine lv_aload_n hx hb dX0_init_29 rfl (lv_at hl 0 rfl) ?_
  refine lv_bipush (v := nI 8) hx hb dX0_init_30 (by decide) ?_
  refine va_newa (n := nI 8) (N' := 8) (atype := .int) (a0 := (8, .inl (fun _ => 0))) (ty := .int) hx hb (hts (.arrayClass .int) (by decide +kernel)) rfl hK hP hD hS hA (fun _ => vp_cell_i _ _ _) (nI_pos (by decide)) (@nI_clamp 8 (by decide)) (show 8 * 4 ≤ 536870912 from by omega) (show 3 + 1 ≤ 6 from by omega) (show 392 + 8 ≤ 912 from by omega) dX0_init_32 (fun a4 cI9 H hK hP hD hS => ?_)
  obtain rfl : cI = cI9 := xf_oneI hK (i := 0) (j := 1) rfl rfl
  have hK := hK.sub (tys' := [(cI, .int)]) [0] rfl
  have hP : va_P (dC, dI) fmCl [(h0, .inr (0, [.ref a1, .ref a2, .ref a3, .null, .null, .null, .int 0])), (a1, .inl (cI, 320, .inl (fun _ => 0))), (a2, .inl (cI, 40, .inl (fun _ => 0))), (a3, .inl (cI, 32, .inl (fun _ => 0))), (a4, .inl (cI, 8, .inl (fun _ => 0)))] H := hP
  have hD : va_D A [(h0, .inr (0, [.ref a1, .ref a2, .ref a3, .null, .null, .null, .int 0])), (a1, .inl (cI, 320, .inl (fun _ => 0))), (a2, .inl (cI, 40, .inl (fun _ => 0))), (a3, .inl (cI, 32, .inl (fun _ => 0))), (a4, .inl (cI, 8, .inl (fun _ => 0)))] := hD
  refine W.widen (k := 4) (n := 400) (by omega) (by omega) ?_
  have hf_chosen := hts (.fieldLink RX0 19 "FacetCounts" "chosen" "[I") (by decide +kernel)
  refine va_putF (D := (dC, dI)) (ci := 0) (v := .ref a4) (ty := .array .int) (C := RX0) (T := TX0) (N := 7) hx hb hts hin tyX0 tyX0_ok nmX0 hown hK hP hD hS 0 rfl rfl 3 (by decide) hf_chosen (fun _ h9 => h9) rfl hin0 rfl (by decide +kernel) rfl rfl (Nat.le_of_ble_eq_true rfl) dX0_init_34 (fun H locs hP hD hS => ?_)
  have hP : va_P (dC, dI) fmCl [(h0, .inr (0, [.ref a1, .ref a2, .ref a3, .ref a4, .null, .null, .int 0])), (a1, .inl (cI, 320, .inl (fun _ => 0))), (a2, .inl (cI, 40, .inl (fun _ => 0))), (a3, .inl (cI, 32, .inl (fun _ => 0))), (a4, .inl (cI, 8, .inl (fun _ => 0)))] H := hP
  have hD : va_D A [(h0, .inr (0, [.ref a1, .ref a2, .ref a3, .ref a4, .null, .null, .int 0])), (a1, .inl (cI, 320, .inl (fun _ => 0))), (a2, .inl (cI, 40, .inl (fun _ => 0))), (a3, .inl (cI, 32, .inl (fun _ => 0))), (a4, .inl (cI, 8, .inl (fun _ => 0)))] := hD
  refine lv_aload_n hx hb dX0_init_37 rfl (lv_at hl 0 rfl) ?_
  refine lv_sipush (v := nI 256) hx hb dX0_init_38 (by decide) ?_
  refine va_newa (n := nI 256) (N' := 256) (atype := .int) (a0 := (256, .inl (fun _ => 0))) (ty := .int) hx hb (hts (.arrayClass .int) (by decide +kernel)) rfl hK hP hD hS hA (fun _ => vp_cell_i _ _ _) (nI_pos (by decide)) (@nI_clamp 256 (by decide)) (show 256 * 4 ≤ 536870912 from by omega) (show 4 + 1 ≤ 6 from by omega) (show 400 + 256 ≤ 912 from by omega) dX0_init_41 (fun a5 cI9 H hK hP hD hS => ?_)
  obtain rfl : cI = cI9 := xf_oneI hK (i := 0) (j := 1) rfl rfl
  have hK := hK.sub (tys' := [(cI, .int)]) [0] rfl
  have hP : va_P (dC, dI) fmCl [(h0, .inr (0, [.ref a1, .ref a2, .ref a3, .ref a4, .null, .null, .int 0])), (a1, .inl (cI, 320, .inl (fun _ => 0))), (a2, .inl (cI, 40, .inl (fun _ => 0))), (a3, .inl (cI, 32, .inl (fun _ => 0))), (a4, .inl (cI, 8, .inl (fun _ => 0))), (a5, .inl (cI, 256, .inl (fun _ => 0)))] H := hP
  have hD : va_D A [(h0, .inr (0, [.ref a1, .ref a2, .ref a3, .ref a4, .null, .null, .int 0])), (a1, .inl (cI, 320, .inl (fun _ => 0))), (a2, .inl (cI, 40, .inl (fun _ => 0))), (a3, .inl (cI, 32, .inl (fun _ => 0))), (a4, .inl (cI, 8, .inl (fun _ => 0))), (a5, .inl (cI, 256, .inl (fun _ => 0)))] := hD
  refine W.widen (k := 5) (n := 656) (by omega) (by omega) ?_
  have hf_before := hts (.fieldLink RX0 22 "FacetCounts" "before" "[I") (by decide +kernel)
  refine va_putF (D := (dC, dI)) (ci := 0) (v := .ref a5) (ty := .array .int) (C := RX0) (T := TX0) (N := 7) hx hb hts hin tyX0 tyX0_ok nmX0 hown hK hP hD hS 0 rfl rfl 4 (by decide) hf_before (fun _ h9 => h9) rfl hin0 rfl (by decide +kernel) rfl rfl (Nat.le_of_ble_eq_true rfl) dX0_init_43 (fun H locs hP hD hS => ?_)
  have hP : va_P (dC, dI) fmCl [(h0, .inr (0, [.ref a1, .ref a2, .ref a3, .ref a4, .ref a5, .null, .int 0])), (a1, .inl (cI, 320, .inl (fun _ => 0))), (a2, .inl (cI, 40, .inl (fun _ => 0))), (a3, .inl (cI, 32, .inl (fun _ => 0))), (a4, .inl (cI, 8, .inl (fun _ => 0))), (a5, .inl (cI, 256, .inl (fun _ => 0)))] H := hP
  have hD : va_D A [(h0, .inr (0, [.ref a1, .ref a2, .ref a3, .ref a4, .ref a5, .null, .int 0])), (a1, .inl (cI, 320, .inl (fun _ => 0))), (a2, .inl (cI, 40, .inl (fun _ => 0))), (a3, .inl (cI, 32, .inl (fun _ => 0))), (a4, .inl (cI, 8, .inl (fun _ => 0))), (a5, .inl (cI, 256, .inl (fun _ => 0)))] := hD
  refine lv_aload_n hx hb dX0_init_46 rfl (lv_at hl 0 rfl) ?_
  refine lv_sipush (v := nI 256) hx hb dX0_init_47 (by decide) ?_
  refine va_newa (n := nI 256) (N' := 256) (atype := .int) (a0 := (256, .inl (fun _ => 0))) (ty := .int) hx hb (hts (.arrayClass .int) (by decide +kernel)) rfl hK hP hD hS hA (fun _ => vp_cell_i _ _ _) (nI_pos (by decide)) (@nI_clamp 256 (by decide)) (show 256 * 4 ≤ 536870912 from by omega) (show 5 + 1 ≤ 6 from by omega) (show 656 + 256 ≤ 912 from by omega) dX0_init_50 (fun a6 cI9 H hK hP hD hS => ?_)
  obtain rfl : cI = cI9 := xf_oneI hK (i := 0) (j := 1) rfl rfl
  have hK := hK.sub (tys' := [(cI, .int)]) [0] rfl
  have hP : va_P (dC, dI) fmCl [(h0, .inr (0, [.ref a1, .ref a2, .ref a3, .ref a4, .ref a5, .null, .int 0])), (a1, .inl (cI, 320, .inl (fun _ => 0))), (a2, .inl (cI, 40, .inl (fun _ => 0))), (a3, .inl (cI, 32, .inl (fun _ => 0))), (a4, .inl (cI, 8, .inl (fun _ => 0))), (a5, .inl (cI, 256, .inl (fun _ => 0))), (a6, .inl (cI, 256, .inl (fun _ => 0)))] H := hP
  have hD : va_D A [(h0, .inr (0, [.ref a1, .ref a2, .ref a3, .ref a4, .ref a5, .null, .int 0])), (a1, .inl (cI, 320, .inl (fun _ => 0))), (a2, .inl (cI, 40, .inl (fun _ => 0))), (a3, .inl (cI, 32, .inl (fun _ => 0))), (a4, .inl (cI, 8, .inl (fun _ => 0))), (a5, .inl (cI, 256, .inl (fun _ => 0))), (a6, .inl (cI, 256, .inl (fun _ => 0)))] := hD
  refine W.widen (k := 6) (n := 912) (by omega) (by omega) ?_
  have hf_counts := hts (.fieldLink RX0 25 "FacetCounts" "counts" "[I") (by decide +kernel)
  refine va_putF (D := (dC, dI)) (ci := 0) (v := .ref a6) (ty := .array .int) (C := RX0) (T := TX0) (N := 7) hx hb hts hin tyX0 tyX0_ok nmX0 hown hK hP hD hS 0 rfl rfl 5 (by decide) hf_counts (fun _ h9 => h9) rfl hin0 rfl (by decide +kernel) rfl rfl (Nat.le_of_ble_eq_true rfl) dX0_init_52 (fun H locs hP hD hS => ?_)
  have hP : va_P (dC, dI) fmCl [(h0, .inr (0, [.ref a1, .ref a2, .ref a3, .ref a4, .ref a5, .ref a6, .int 0])), (a1, .inl (cI, 320, .inl (fun _ => 0))), (a2, .inl (cI, 40, .inl (fun _ => 0))), (a3, .inl (cI, 32, .inl (fun _ => 0))), (a4, .inl (cI, 8, .inl (fun _ => 0))), (a5, .inl (cI, 256, .inl (fun _ => 0))), (a6, .inl (cI, 256, .inl (fun _ => 0)))] H := hP
  have hD : va_D A [(h0, .inr (0, [.ref a1, .ref a2, .ref a3, .ref a4, .ref a5, .ref a6, .int 0])), (a1, .inl (cI, 320, .inl (fun _ => 0))), (a2, .inl (cI, 40, .inl (fun _ => 0))), (a3, .inl (cI, 32, .inl (fun _ => 0))), (a4, .inl (cI, 8, .inl (fun _ => 0))), (a5, .inl (cI, 256, .inl (fun _ => 0))), (a6, .inl (cI, 256, .inl (fun _ => 0)))] := hD
  refine lv_aload_n hx hb dX0_init_55 rfl (lv_at hl 0 rfl) ?_
  refine lv_iconst (v := nI 0) hx hb dX0_init_56 (by decide) ?_
  have hf_rowCount := hts (.fieldLink RX0 28 "FacetCounts" "rowCount" "I") (by decide +kernel)
  refine va_put (D := (dC, dI)) (ci := 0) (v := .int (nI 0)) (ty := .int) (C := RX0) (T := TX0) (N := 7) hx hb hts hin tyX0 tyX0_ok nmX0 hown hK hP hD hS 0 rfl rfl 6 (by decide) hf_rowCount (fun _ h9 => h9) rfl (by decide +kernel) rfl rfl (Nat.le_of_ble_eq_true rfl) dX0_init_57 (fun H locs hP hD hS => ?_)
  have hP : va_P (dC, dI) fmCl [(h0, .inr (0, [.ref a1, .ref a2, .ref a3, .ref a4, .ref a5, .ref a6, .int (nI 0)])), (a1, .inl (cI, 320, .inl (fun _ => 0))), (a2, .inl (cI, 40, .inl (fun _ => 0))), (a3, .inl (cI, 32, .inl (fun _ => 0))), (a4, .inl (cI, 8, .inl (fun _ => 0))), (a5, .inl (cI, 256, .inl (fun _ => 0))), (a6, .inl (cI, 256, .inl (fun _ => 0)))] H := hP
  have hD : va_D A [(h0, .inr (0, [.ref a1, .ref a2, .ref a3, .ref a4, .ref a5, .ref a6, .int (nI 0)])), (a1, .inl (cI, 320, .inl (fun _ => 0))), (a2, .inl (cI, 40, .inl (fun _ => 0))), (a3, .inl (cI, 32, .inl (fun _ => 0))), (a4, .inl (cI, 8, .inl (fun _ => 0))), (a5, .inl (cI, 256, .inl (fun _ => 0))), (a6, .inl (cI, 256, .inl (fun _ => 0)))] := hD
  refine lv_aload_n hx hb dX0_init_60 rfl (lv_at hl 0 rfl) ?_
  refine va_get (D := (dC, dI)) (ci := 0) (v := .ref a3) (C := RX0) (T := TX0) (N := 7) hx hb hts hin hown hK hP 0 rfl rfl 2 (by decide) hf_uppers (fun _ h9 => h9) rfl dX0_init_61 ?_
  refine lv_iconst (v := (-1)) hx hb dX0_init_64 (by decide) ?_
  have hPf : va_P (dC, dI) fmCl ([(h0, .inr (0, [.ref a1, .ref a2, .ref a3, .ref a4, .ref a5, .ref a6, .int (nI 0)])), (a1, .inl (cI, 320, .inl (fun _ => 0))), (a2, .inl (cI, 40, .inl (fun _ => 0)))] ++ ([(a3, .inl (cI, 32, .inl (fun _ => 0)))] ++ [(a4, .inl (cI, 8, .inl (fun _ => 0))), (a5, .inl (cI, 256, .inl (fun _ => 0))), (a6, .inl (cI, 256, .inl (fun _ => 0)))])) _ := hP
  have hDf : va_D A ([(h0, .inr (0, [.ref a1, .ref a2, .ref a3, .ref a4, .ref a5, .ref a6, .int (nI 0)])), (a1, .inl (cI, 320, .inl (fun _ => 0))), (a2, .inl (cI, 40, .inl (fun _ => 0)))] ++ ([(a3, .inl (cI, 32, .inl (fun _ => 0)))] ++ [(a4, .inl (cI, 8, .inl (fun _ => 0))), (a5, .inl (cI, 256, .inl (fun _ => 0))), (a6, .inl (cI, 256, .inl (fun _ => 0)))])) := hD
  have hPc := xf_P_left (xf_P_right hPf)
  have hDc := xf_D_left (xf_D_right hDf)
  have hFc := xf_A_le hDc
  refine va_callv (va_runS (As := [.ref a3, .int (-1)]) (rest := []) ⟨hx, hb, hml, hown, hts⟩ (j_fill l dC dI a3 cI 32 (fun _ => 0) (-1) (by decide)) (va_cwS 2 hts gX0_init_J7_fill_53178 rfl rfl rfl (by decide +kernel) ⟨Nat.le_of_ble_eq_true rfl, Nat.le_of_ble_eq_true rfl⟩) (xf_preSW hK hPc hDc) rfl rfl hl.1 rfl (lv_room (Nat.le_of_ble_eq_true rfl)) dX0_init_65 ⟨show 6 + 0 ≤ 6 from by omega, show 912 + 0 ≤ 912 from by omega⟩) hS (fun q _ h => hFc q h) hFc (fun u9 t9 H locs ht9 hvm9 hw9 hB9 hz9 hk9 hS => ?_)
  have hB9 := xf_hB ht9 hB9
  have hP : va_P (dC, dI) fmCl (fw h0 a1 a2 a3 a4 a5 a6 cI ((fun _ => 0)) ((fun _ => 0)) (xf_fill (-1) (fun _ => 0) 32) ((fun _ => 0)) ((fun _ => 0)) ((fun _ => 0)) (nI 0)) H := xf_join hPf hDf hB9 hk9
  have hD : va_D A (fw h0 a1 a2 a3 a4 a5 a6 cI ((fun _ => 0)) ((fun _ => 0)) (xf_fill (-1) (fun _ => 0) 32) ((fun _ => 0)) ((fun _ => 0)) ((fun _ => 0)) (nI 0)) := xf_wD hD rfl
  exact W.vret hx hb hr (fun t9 ht9 hW9 => ⟨⟨(), rfl, trivial, cI, a1, a2, a3, a4, a5, a6, xf_hP ht9 hP, va_K.moved hW9.alike hK, hD⟩, hS.F ht9⟩) hS.2.2 dX0_init_68
end
section
set_option maxHeartbeats 4000000 in
set_option maxRecDepth 100000 in
/-- isThing(x) -/
theorem m_isThing (l : Launch) (x : Int32) : Met l yM_isThing wsM_isThing ({ frames := 0, cells := 0, slots := 0, locals := 0 }) (va_Pc [.int x] (fun _ => True)) (vp_Si (fun r => r = xf_B (xf_in x 40))) 0 0 (fun _ => False) := by
  refine Met.ofW (cc := cM_isThing) (maxL := 1) (ret := (some .boolean)) (by decide) rfl ?_
  intro p e s m args below meth c s₁ B hml hv
  obtain ⟨rfl, -⟩ := hv
  have hx := B.exec
  have hb := B.bytes
  have hr := B.returns
  have hts := atoms_spec (ws := wsM_isThing) B.pre
  have hown : s.vm.findClass RX1 = some m.cls := findClass_of_methodNamed B.named
  have hlocks := B.notSynchronized
  have hl := lv_entry ([.int x]) (n := 1) (Nat.le_of_ble_eq_true rfl)
  rw [lg_entry_eq]
  generalize (lg_sl ([.int x]) ++ List.replicate (1 - (lg_sl ([.int x])).length) Slot.unset).toArray = ls at hl ⊢
  have hl : lv_has ls 1 [(0, .int x)] := hl
  refine lv_iload_n hx hb dM_isThing_0 rfl (lv_at hl 0 rfl) ?_
  refine lv_if_lt (tgt := 14) hx hb dM_isThing_1 (by decide) (fun c1 => ?_) (fun c1 => ?_)
  ·
    refine lv_iconst (v := nI 0) hx hb dM_isThing_14 (by decide) ?_
    exact W.zret (v := nI 0) hx hb hr (by first | rfl | exact xf_B_narrow _) (fun t9 ht9 hW9 => ⟨_, rfl, by rw [xf_in_split x (by decide), decide_eq_true c1]; rfl, ht9⟩) (fun q h => nomatch h) dM_isThing_15
  ·
    refine lv_iload_n hx hb dM_isThing_4 rfl (lv_at hl 0 rfl) ?_
    refine lv_bipush (v := nI 40) hx hb dM_isThing_5 (by decide) ?_
    refine lv_icmp_ge (tgt := 14) hx hb dM_isThing_7 (by decide) (fun c7 => ?_) (fun c7 => ?_)
    ·
      refine lv_iconst (v := nI 0) hx hb dM_isThing_14 (by decide) ?_
      exact W.zret (v := nI 0) hx hb hr (by first | rfl | exact xf_B_narrow _) (fun t9 ht9 hW9 => ⟨_, rfl, by rw [xf_in_split x (by decide), decide_eq_false (Int32.not_lt.mpr c7), Bool.and_false]; rfl, ht9⟩) (fun q h => nomatch h) dM_isThing_15
    ·
      refine lv_iconst (v := nI 1) hx hb dM_isThing_10 (by decide) ?_
      refine lv_goto (tgt := 15) hx hb dM_isThing_11 (by decide) ?_
      exact W.zret (v := nI 1) hx hb hr (by first | rfl | exact xf_B_narrow _) (fun t9 ht9 hW9 => ⟨_, rfl, by rw [xf_in_split x (by decide), decide_eq_false c1, decide_eq_true (Int32.not_le.mp c7)]; rfl, ht9⟩) (fun q h => nomatch h) dM_isThing_15
set_option maxHeartbeats 4000000 in
set_option maxRecDepth 100000 in
/-- isHead(x) -/
theorem m_isHead (l : Launch) (x : Int32) : Met l yM_isHead wsM_isHead ({ frames := 0, cells := 0, slots := 0, locals := 0 }) (va_Pc [.int x] (fun _ => True)) (vp_Si (fun r => r = xf_B (xf_in x 8))) 0 0 (fun _ => False) := by
  refine Met.ofW (cc := cM_isHead) (maxL := 1) (ret := (some .boolean)) (by decide) rfl ?_
  intro p e s m args below meth c s₁ B hml hv
  obtain ⟨rfl, -⟩ := hv
  have hx := B.exec
  have hb := B.bytes
  have hr := B.returns
  have hts := atoms_spec (ws := wsM_isHead) B.pre
  have hown : s.vm.findClass RX1 = some m.cls := findClass_of_methodNamed B.named
  have hlocks := B.notSynchronized
  have hl := lv_entry ([.int x]) (n := 1) (Nat.le_of_ble_eq_true rfl)
  rw [lg_entry_eq]
  generalize (lg_sl ([.int x]) ++ List.replicate (1 - (lg_sl ([.int x])).length) Slot.unset).toArray = ls at hl ⊢
  have hl : lv_has ls 1 [(0, .int x)] := hl
  refine lv_iload_n hx hb dM_isHead_0 rfl (lv_at hl 0 rfl) ?_
  refine lv_if_lt (tgt := 14) hx hb dM_isHead_1 (by decide) (fun c1 => ?_) (fun c1 => ?_)
  ·
    refine lv_iconst (v := nI 0) hx hb dM_isHead_14 (by decide) ?_
    exact W.zret (v := nI 0) hx hb hr (by first | rfl | exact xf_B_narrow _) (fun t9 ht9 hW9 => ⟨_, rfl, by rw [xf_in_split x (by decide), decide_eq_true c1]; rfl, ht9⟩) (fun q h => nomatch h) dM_isHead_15
  ·
    refine lv_iload_n hx hb dM_isHead_4 rfl (lv_at hl 0 rfl) ?_
    refine lv_bipush (v := nI 8) hx hb dM_isHead_5 (by decide) ?_
    refine lv_icmp_ge (tgt := 14) hx hb dM_isHead_7 (by decide) (fun c7 => ?_) (fun c7 => ?_)
    ·
      refine lv_iconst (v := nI 0) hx hb dM_isHead_14 (by decide) ?_
      exact W.zret (v := nI 0) hx hb hr (by first | rfl | exact xf_B_narrow _) (fun t9 ht9 hW9 => ⟨_, rfl, by rw [xf_in_split x (by decide), decide_eq_false (Int32.not_lt.mpr c7), Bool.and_false]; rfl, ht9⟩) (fun q h => nomatch h) dM_isHead_15
    ·
      refine lv_iconst (v := nI 1) hx hb dM_isHead_10 (by decide) ?_
      refine lv_goto (tgt := 15) hx hb dM_isHead_11 (by decide) ?_
      exact W.zret (v := nI 1) hx hb hr (by first | rfl | exact xf_B_narrow _) (fun t9 ht9 hW9 => ⟨_, rfl, by rw [xf_in_split x (by decide), decide_eq_false c1, decide_eq_true (Int32.not_le.mp c7)]; rfl, ht9⟩) (fun q h => nomatch h) dM_isHead_15
set_option maxHeartbeats 4000000 in
set_option maxRecDepth 100000 in
/-- isValue(x) -/
theorem m_isValue (l : Launch) (x : Int32) : Met l yM_isValue wsM_isValue ({ frames := 0, cells := 0, slots := 0, locals := 0 }) (va_Pc [.int x] (fun _ => True)) (vp_Si (fun r => r = xf_B (xf_in x 32))) 0 0 (fun _ => False) := by
  refine Met.ofW (cc := cM_isValue) (maxL := 1) (ret := (some .boolean)) (by decide) rfl ?_
  intro p e s m args below meth c s₁ B hml hv
  obtain ⟨rfl, -⟩ := hv
  have hx := B.exec
  have hb := B.bytes
  have hr := B.returns
  have hts := atoms_spec (ws := wsM_isValue) B.pre
  have hown : s.vm.findClass RX1 = some m.cls := findClass_of_methodNamed B.named
  have hlocks := B.notSynchronized
  have hl := lv_entry ([.int x]) (n := 1) (Nat.le_of_ble_eq_true rfl)
  rw [lg_entry_eq]
  generalize (lg_sl ([.int x]) ++ List.replicate (1 - (lg_sl ([.int x])).length) Slot.unset).toArray = ls at hl ⊢
  have hl : lv_has ls 1 [(0, .int x)] := hl
  refine lv_iload_n hx hb dM_isValue_0 rfl (lv_at hl 0 rfl) ?_
  refine lv_if_lt (tgt := 14) hx hb dM_isValue_1 (by decide) (fun c1 => ?_) (fun c1 => ?_)
  ·
    refine lv_iconst (v := nI 0) hx hb dM_isValue_14 (by decide) ?_
    exact W.zret (v := nI 0) hx hb hr (by first | rfl | exact xf_B_narrow _) (fun t9 ht9 hW9 => ⟨_, rfl, by rw [xf_in_split x (by decide), decide_eq_true c1]; rfl, ht9⟩) (fun q h => nomatch h) dM_isValue_15
  ·
    refine lv_iload_n hx hb dM_isValue_4 rfl (lv_at hl 0 rfl) ?_
    refine lv_bipush (v := nI 32) hx hb dM_isValue_5 (by decide) ?_
    refine lv_icmp_ge (tgt := 14) hx hb dM_isValue_7 (by decide) (fun c7 => ?_) (fun c7 => ?_)
    ·
      refine lv_iconst (v := nI 0) hx hb dM_isValue_14 (by decide) ?_
      exact W.zret (v := nI 0) hx hb hr (by first | rfl | exact xf_B_narrow _) (fun t9 ht9 hW9 => ⟨_, rfl, by rw [xf_in_split x (by decide), decide_eq_false (Int32.not_lt.mpr c7), Bool.and_false]; rfl, ht9⟩) (fun q h => nomatch h) dM_isValue_15
    ·
      refine lv_iconst (v := nI 1) hx hb dM_isValue_10 (by decide) ?_
      refine lv_goto (tgt := 15) hx hb dM_isValue_11 (by decide) ?_
      exact W.zret (v := nI 1) hx hb hr (by first | rfl | exact xf_B_narrow _) (fun t9 ht9 hW9 => ⟨_, rfl, by rw [xf_in_split x (by decide), decide_eq_false c1, decide_eq_true (Int32.not_le.mp c7)]; rfl, ht9⟩) (fun q h => nomatch h) dM_isValue_15
set_option maxHeartbeats 4000000 in
set_option maxRecDepth 100000 in
/-- at(x1, x2, x3) -/
theorem m_at (l : Launch) (x1 x2 x3 : Nat) : Met l yM_at wsM_at ({ frames := 0, cells := 0, slots := 0, locals := 0 }) (va_Pc [.int (nI x1), .int (nI x2), .int (nI x3)] (fun _ => True)) (vp_Si (fun r => r = nI ((x1 * 8 + x2) * 32 + x3))) 0 0 (fun _ => False) := by
  refine Met.ofW (cc := cM_at) (maxL := 3) (ret := (some .int)) (by decide) rfl ?_
  intro p e s m args below meth c s₁ B hml hv
  obtain ⟨rfl, -⟩ := hv
  have hx := B.exec
  have hb := B.bytes
  have hr := B.returns
  have hts := atoms_spec (ws := wsM_at) B.pre
  have hown : s.vm.findClass RX1 = some m.cls := findClass_of_methodNamed B.named
  have hlocks := B.notSynchronized
  have hl := lv_entry ([.int (nI x1), .int (nI x2), .int (nI x3)]) (n := 3) (Nat.le_of_ble_eq_true rfl)
  rw [lg_entry_eq]
  generalize (lg_sl ([.int (nI x1), .int (nI x2), .int (nI x3)]) ++ List.replicate (3 - (lg_sl ([.int (nI x1), .int (nI x2), .int (nI x3)])).length) Slot.unset).toArray = ls at hl ⊢
  have hl : lv_has ls 3 [(0, .int (nI x1)), (1, .int (nI x2)), (2, .int (nI x3))] := hl
  refine lv_iload_n hx hb dM_at_0 rfl (lv_at hl 0 rfl) ?_
  refine lv_bipush (v := nI 8) hx hb dM_at_1 (by decide) ?_
  refine lv_imul hx hb dM_at_3 ?_
  refine xf_be (y := nI (x1 * 8)) (by exact pk_mul _ _) ?_
  refine lv_iload_n hx hb dM_at_4 rfl (lv_at hl 1 rfl) ?_
  refine lv_iadd hx hb dM_at_5 ?_
  refine xf_be (y := nI (x1 * 8 + x2)) (by exact nI_add _ _) ?_
  refine lv_bipush (v := nI 32) hx hb dM_at_6 (by decide) ?_
  refine lv_imul hx hb dM_at_8 ?_
  refine xf_be (y := nI ((x1 * 8 + x2) * 32)) (by exact pk_mul _ _) ?_
  refine lv_iload_n hx hb dM_at_9 rfl (lv_at hl 2 rfl) ?_
  refine lv_iadd hx hb dM_at_10 ?_
  refine xf_be (y := nI ((x1 * 8 + x2) * 32 + x3)) (by exact nI_add _ _) ?_
  exact W.iret (v := nI ((x1 * 8 + x2) * 32 + x3)) hx hb hr (fun t9 ht9 hW9 => ⟨_, rfl, rfl, ht9⟩) (fun q h => nomatch h) dM_at_11
set_option maxHeartbeats 4000000 in
set_option maxRecDepth 100000 in
/-- isUnder(k, u) -/
theorem m_isUnder (l : Launch) (dC : Nat → ClassId) (dI : Nat → Nat → Nat) (h0 b1 b2 b3 b4 b5 : Nat) (cI cZ : ClassId) (mh : Nat → Bool) (ma : Nat → Int32) (mc : Nat → Bool) (mt mn : Nat → Int32) (cd ro : Int32) (k u : Nat) (hk : k < 32) (hu : u < 32) (hOk : mdOk ma) (hAc : mdAc ma) : Met l yM_isUnder wsM_isUnder ({ frames := 0, cells := 0, slots := 0, locals := 0 }) (va_Pc [.ref h0, .int (nI k), .int (nI u)] (fun U => va_P (dC, dI) fmCl (mw h0 b1 b2 b3 b4 b5 cI cZ mh ma mc mt mn cd ro) U.heap ∧ va_K (dC, dI) fmCl [(cI, .int), (cZ, .boolean)] U)) (vp_Si (fun r => r = xf_B (mdU ma k u))) 0 0 (fun _ => False) := by
  refine Met.ofW (cc := cM_isUnder) (maxL := 4) (ret := (some .boolean)) (by decide) rfl ?_
  intro p e s m args below meth c s₁ B hml hv
  obtain ⟨rfl, hP, hK⟩ := hv
  have hx := B.exec
  have hb := B.bytes
  have hr := B.returns
  have hts := atoms_spec (ws := wsM_isUnder) B.pre
  have hown : s.vm.findClass RX1 = some m.cls := findClass_of_methodNamed B.named
  have hlocks := B.notSynchronized
  have hin : ∀ w ∈ u_ws RX1 TM 7, w ∈ wsM_isUnder := by decide +kernel
  have hf_above := hts (.fieldLink RX1 13 "FacetCountsModel" "above" "[I") (by decide +kernel)
  have hl := lv_entry ([.ref h0, .int (nI k), .int (nI u)]) (n := 4) (Nat.le_of_ble_eq_true rfl)
  rw [lg_entry_eq]
  generalize (lg_sl ([.ref h0, .int (nI k), .int (nI u)]) ++ List.replicate (4 - (lg_sl ([.ref h0, .int (nI k), .int (nI u)])).length) Slot.unset).toArray = ls at hl ⊢
  have hl : lv_has ls 4 [(0, .ref h0), (1, .int (nI k)), (2, .int (nI u))] := hl
  obtain ⟨n0, hn0⟩ := hAc k hk
  refine lv_iload_n hx hb dM_isUnder_0 rfl (lv_at hl 1 rfl) ?_
  refine lv_istore_n (lv' := [(3, .int (nI k)), (0, .ref h0), (1, .int (nI k)), (2, .int (nI u))]) hx hb dM_isUnder_1 rfl hl (by decide) rfl (fun ls hl => ?_)
  refine xf_loopS (σ := Nat × Int32) (fun (z9 : Nat × Int32) => z9.1) (fun (z9 : Nat × Int32) => [(0, .ref h0), (1, .int (nI k)), (2, .int (nI u)), (3, .int z9.2)]) (fun (z9 : Nat × Int32) => (z9.2 = -1 ∨ ∃ j, j < 32 ∧ z9.2 = nI j) ∧ mdIt ma z9.1 z9.2 = -1 ∧ (mdU ma k u = true ↔ ∃ q, mdIt ma q z9.2 = nI u)) (n0, nI k) (lv_sub hl [1, 2, 3, 0] rfl) ⟨Or.inr ⟨k, hk, rfl⟩, hn0, mdU_iff⟩ (fun z9 ls hi hl ih2 => ?_)
  obtain ⟨n, a⟩ := z9
  have hl : lv_has ls 4 [(0, .ref h0), (1, .int (nI k)), (2, .int (nI u)), (3, .int a)] := hl
  obtain ⟨h1, h2, h3⟩ := hi
  have h1 : (a = -1 ∨ ∃ j, j < 32 ∧ a = nI j) := h1
  have h2 : mdIt ma n a = -1 := h2
  have h3 : (mdU ma k u = true ↔ ∃ q, mdIt ma q a = nI u) := h3
  refine lv_iload_n hx hb dM_isUnder_2 rfl (lv_at hl 3 rfl) ?_
  refine lv_iconst (v := (-1)) hx hb dM_isUnder_3 (by decide) ?_
  refine lv_icmp_eq (tgt := 22) hx hb dM_isUnder_4 (by decide) (fun c4 => ?_) (fun c4 => ?_)
  ·
    refine lv_iload_n hx hb dM_isUnder_22 rfl (lv_at hl 3 rfl) ?_
    refine lv_iconst (v := (-1)) hx hb dM_isUnder_23 (by decide) ?_
    refine lv_icmp_eq (tgt := 31) hx hb dM_isUnder_24 (by decide) (fun c24 => ?_) (fun c24 => ?_)
    ·
      refine lv_iconst (v := nI 0) hx hb dM_isUnder_31 (by decide) ?_
      exact W.zret (v := nI 0) hx hb hr (by first | rfl | exact xf_B_narrow _) (fun t9 ht9 hW9 => ⟨_, rfl, by rw [mdU_f (fun z => by obtain ⟨q, hq⟩ := h3.mp (mdU_iff.mpr z); rw [c4, mdIt_m1] at hq; exact xf_m1 (by omega) hq.symm)]; rfl, ht9⟩) (fun q h => nomatch h) dM_isUnder_32
    ·
      exact absurd c4 c24
  ·
    refine lv_iload_n hx hb dM_isUnder_7 rfl (lv_at hl 3 rfl) ?_
    refine lv_iload_n hx hb dM_isUnder_8 rfl (lv_at hl 2 rfl) ?_
    refine lv_icmp_eq (tgt := 22) hx hb dM_isUnder_9 (by decide) (fun c9 => ?_) (fun c9 => ?_)
    ·
      refine lv_iload_n hx hb dM_isUnder_22 rfl (lv_at hl 3 rfl) ?_
      refine lv_iconst (v := (-1)) hx hb dM_isUnder_23 (by decide) ?_
      refine lv_icmp_eq (tgt := 31) hx hb dM_isUnder_24 (by decide) (fun c24 => ?_) (fun c24 => ?_)
      ·
        exact absurd c24 c4
      ·
        refine lv_iconst (v := nI 1) hx hb dM_isUnder_27 (by decide) ?_
        refine lv_goto (tgt := 32) hx hb dM_isUnder_28 (by decide) ?_
        exact W.zret (v := nI 1) hx hb hr (by first | rfl | exact xf_B_narrow _) (fun t9 ht9 hW9 => ⟨_, rfl, by rw [h3.mpr ⟨0, c9⟩]; rfl, ht9⟩) (fun q h => nomatch h) dM_isUnder_32
    ·
      obtain ⟨j, hj, rfl⟩ := h1.resolve_left c4
      refine lv_aload_n hx hb dM_isUnder_12 rfl (lv_at hl 0 rfl) ?_
      refine va_get (D := (dC, dI)) (ci := 1) (v := .ref b2) (C := RX1) (T := TM) (N := 7) hx hb hts hin hown hK hP 0 rfl rfl 2 (by decide) hf_above (fun _ h9 => h9) rfl dM_isUnder_13 ?_
      refine lv_iload_n hx hb dM_isUnder_16 rfl (lv_at hl 3 rfl) ?_
      refine xf_iald hx hb hK hP 2 0 rfl rfl (j := j) (by omega) (by decide) dM_isUnder_17 ?_
      refine lv_istore_n (lv' := [(3, .int (ma j)), (0, .ref h0), (1, .int (nI k)), (2, .int (nI u))]) hx hb dM_isUnder_18 rfl hl (by decide) rfl (fun ls hl => ?_)
      refine lv_goto (tgt := 2) hx hb dM_isUnder_19 (by decide) ?_
      obtain ⟨n9, hn9⟩ : ∃ q, n = q + 1 := by
        cases n with
        | zero => exact absurd h2 c4
        | succ q => exact ⟨q, rfl⟩
      rw [hn9, mdIt_s ma hj] at h2
      have hl := lv_sub (l' := [(0, .ref h0), (1, .int (nI k)), (2, .int (nI u)), (3, .int (ma j))]) hl [1, 2, 3, 0] rfl
      have hl : lv_has ls 4 [(0, .ref h0), (1, .int (nI k)), (2, .int (nI u)), (3, .int ((ma j)))] := xf_lv hl (by rfl)
      exact ih2 (n - 1, ma j) ls (by show n - 1 < n; omega) (by exact ⟨hOk j hj, by rw [hn9]; exact h2, h3.trans (mdIt_e ma hj c9)⟩) hl
set_option maxHeartbeats 4000000 in
set_option maxRecDepth 100000 in
/-- owns(t, h, v) -/
theorem m_owns (l : Launch) (dC : Nat → ClassId) (dI : Nat → Nat → Nat) (h0 b1 b2 b3 b4 b5 : Nat) (cI cZ : ClassId) (mh : Nat → Bool) (ma : Nat → Int32) (mc : Nat → Bool) (mt mn : Nat → Int32) (cd ro : Int32) (t h v : Nat) (ht : t < 40) (hh : h < 8) (hv9 : v < 32) (hOk : mdOk ma) (hAc : mdAc ma) : Met l yM_owns wsM_owns ({ frames := 1, cells := 0, slots := 0, locals := 23 }) (va_Pc [.ref h0, .int (nI t), .int (nI h), .int (nI v)] (fun U => va_P (dC, dI) fmCl (mw h0 b1 b2 b3 b4 b5 cI cZ mh ma mc mt mn cd ro) U.heap ∧ va_K (dC, dI) fmCl [(cI, .int), (cZ, .boolean)] U)) (vp_Si (fun r => r = xf_B (mdO mh ma t h v))) 0 0 (fun _ => False) := by
  refine Met.ofW (cc := cM_owns) (maxL := 6) (ret := (some .boolean)) (by decide) rfl ?_
  intro p e s m args below meth c s₁ B hml hv
  obtain ⟨rfl, hP, hK⟩ := hv
  have hx := B.exec
  have hb := B.bytes
  have hr := B.returns
  have hts := atoms_spec (ws := wsM_owns) B.pre
  have hown : s.vm.findClass RX1 = some m.cls := findClass_of_methodNamed B.named
  have hlocks := B.notSynchronized
  have hin : ∀ w ∈ u_ws RX1 TM 7, w ∈ wsM_owns := by decide +kernel
  have hf_has := hts (.fieldLink RX1 7 "FacetCountsModel" "has" "[Z") (by decide +kernel)
  have hl := lv_entry ([.ref h0, .int (nI t), .int (nI h), .int (nI v)]) (n := 6) (Nat.le_of_ble_eq_true rfl)
  rw [lg_entry_eq]
  generalize (lg_sl ([.ref h0, .int (nI t), .int (nI h), .int (nI v)]) ++ List.replicate (6 - (lg_sl ([.ref h0, .int (nI t), .int (nI h), .int (nI v)])).length) Slot.unset).toArray = ls at hl ⊢
  have hl : lv_has ls 6 [(0, .ref h0), (1, .int (nI t)), (2, .int (nI h)), (3, .int (nI v))] := hl
  refine lv_iload_n hx hb dM_owns_0 rfl (lv_at hl 2 rfl) ?_
  refine xf_zle (tgt := 16) hx hb dM_owns_1 (by decide) (by omega) (fun c1 => ?_) (fun c1 => ?_)
  ·
    refine lv_iconst (v := nI 0) hx hb dM_owns_16 (by decide) ?_
    refine lv_istore (lv' := [(4, .int (nI 0)), (0, .ref h0), (1, .int (nI t)), (2, .int (nI h)), (3, .int (nI v))]) hx hb dM_owns_17 hl (by decide) rfl (fun ls hl => ?_)
    refine lv_iconst (v := nI 0) hx hb dM_owns_19 (by decide) ?_
    refine lv_istore (lv' := [(5, .int (nI 0)), (4, .int (nI 0)), (0, .ref h0), (1, .int (nI t)), (2, .int (nI h)), (3, .int (nI v))]) hx hb dM_owns_20 hl (by decide) rfl (fun ls hl => ?_)
    refine xf_loopS (σ := Nat) (fun (z9 : Nat) => 32 - z9) (fun (z9 : Nat) => [(0, .ref h0), (1, .int (nI t)), (2, .int (nI h)), (3, .int (nI v)), (4, .int (xf_B (xf_any (mdOP mh ma t v) z9))), (5, .int (nI z9))]) (fun (z9 : Nat) => z9 ≤ 32) 0 (lv_sub hl [2, 3, 4, 5, 1, 0] rfl) (Nat.zero_le _) (fun z9 ls hi hl ih22 => ?_)
    obtain ⟨k, hxe⟩ : ∃ z, z = z9 := ⟨_, rfl⟩
    subst hxe
    have hl : lv_has ls 6 [(0, .ref h0), (1, .int (nI t)), (2, .int (nI h)), (3, .int (nI v)), (4, .int (xf_B (xf_any (mdOP mh ma t v) k))), (5, .int (nI k))] := hl
    have hi : k ≤ 32 := hi
    refine lv_iload hx hb dM_owns_22 (lv_at hl 5 rfl) ?_
    refine lv_bipush (v := nI 32) hx hb dM_owns_24 (by decide) ?_
    refine xf_ge (tgt := 72) hx hb dM_owns_26 (by decide) (by omega) (by omega) (fun c26 => ?_) (fun c26 => ?_)
    ·
      obtain rfl : k = 32 := by omega
      refine lv_iload hx hb dM_owns_72 (lv_at hl 4 rfl) ?_
      exact W.zret (v := xf_B (xf_any (mdOP mh ma t v) 32)) hx hb hr (by first | rfl | exact xf_B_narrow _) (fun t9 ht9 hW9 => ⟨_, rfl, by rw [mdO, if_neg (by omega)], ht9⟩) (fun q h => nomatch h) dM_owns_74
    ·
      refine lv_iload hx hb dM_owns_29 (lv_at hl 4 rfl) ?_
      refine xf_Bne (tgt := 59) hx hb dM_owns_31 (by decide) (fun c31 => ?_) (fun c31 => ?_)
      ·
        refine lv_iconst (v := nI 1) hx hb dM_owns_59 (by decide) ?_
        refine lv_goto (tgt := 64) hx hb dM_owns_60 (by decide) ?_
        refine lv_istore (lv' := [(4, .int (nI 1)), (0, .ref h0), (1, .int (nI t)), (2, .int (nI h)), (3, .int (nI v)), (5, .int (nI k))]) hx hb dM_owns_64 hl (by decide) rfl (fun ls hl => ?_)
        refine lv_iinc (v := nI (k + 1)) (lv' := [(5, .int (nI (k + 1))), (4, .int (nI 1)), (0, .ref h0), (1, .int (nI t)), (2, .int (nI h)), (3, .int (nI v))]) hx hb dM_owns_66 hl (k := 5) rfl (by exact nI_1 k) (by decide) rfl (fun ls hl => ?_)
        refine lv_goto (tgt := 22) hx hb dM_owns_69 (by decide) ?_
        have hl := lv_sub (l' := [(0, .ref h0), (1, .int (nI t)), (2, .int (nI h)), (3, .int (nI v)), (4, .int (nI 1)), (5, .int (nI (k + 1)))]) hl [2, 3, 4, 5, 1, 0] rfl
        have hl : lv_has ls 6 [(0, .ref h0), (1, .int (nI t)), (2, .int (nI h)), (3, .int (nI v)), (4, .int (xf_B (xf_any (mdOP mh ma t v) (k + 1)))), (5, .int (nI (k + 1)))] := xf_lv hl (by simp [xf_any, mdOP, xf_B, c26, c31])
        exact ih22 (k + 1) ls (by show 32 - (k + 1) < 32 - k; omega) (by show (k + 1) ≤ 32; omega) hl
      ·
        refine lv_aload_n hx hb dM_owns_34 rfl (lv_at hl 0 rfl) ?_
        refine va_get (D := (dC, dI)) (ci := 1) (v := .ref b1) (C := RX1) (T := TM) (N := 7) hx hb hts hin hown hK hP 0 rfl rfl 1 (by decide) hf_has (fun _ h9 => h9) rfl dM_owns_35 ?_
        refine lv_iload_n hx hb dM_owns_38 rfl (lv_at hl 1 rfl) ?_
        refine lv_iconst (v := nI 0) hx hb dM_owns_39 (by decide) ?_
        refine lv_iload hx hb dM_owns_40 (lv_at hl 5 rfl) ?_
        refine vp_callSi (W.runS (As := [.int (nI t), .int (nI 0), .int (nI k)]) (rest := [.ref b1]) ⟨hx, hb, hml, hown, hts⟩ (m_at l t 0 k) (va_cwS 3 hts gM_owns_at rfl rfl rfl (by decide +kernel) ⟨Nat.le_of_ble_eq_true rfl, Nat.le_of_ble_eq_true rfl⟩) (xf_preS0) rfl rfl hl.1 rfl (lv_room (Nat.le_of_ble_eq_true rfl)) dM_owns_42 ⟨Nat.zero_le _, Nat.zero_le _⟩) (fun r hr9 => ?_)
        subst hr9
        refine xf_be (y := nI (t * 8 * 32 + k)) (rfl) ?_
        refine xf_zald hx hb hK hP 1 1 rfl rfl (j := (t * 8 * 32 + k)) (by omega) (by decide) dM_owns_45 ?_
        refine xf_Beq (tgt := 63) hx hb dM_owns_46 (by decide) (fun c46 => ?_) (fun c46 => ?_)
        ·
          refine lv_iconst (v := nI 0) hx hb dM_owns_63 (by decide) ?_
          refine lv_istore (lv' := [(4, .int (nI 0)), (0, .ref h0), (1, .int (nI t)), (2, .int (nI h)), (3, .int (nI v)), (5, .int (nI k))]) hx hb dM_owns_64 hl (by decide) rfl (fun ls hl => ?_)
          refine lv_iinc (v := nI (k + 1)) (lv' := [(5, .int (nI (k + 1))), (4, .int (nI 0)), (0, .ref h0), (1, .int (nI t)), (2, .int (nI h)), (3, .int (nI v))]) hx hb dM_owns_66 hl (k := 5) rfl (by exact nI_1 k) (by decide) rfl (fun ls hl => ?_)
          refine lv_goto (tgt := 22) hx hb dM_owns_69 (by decide) ?_
          have hl := lv_sub (l' := [(0, .ref h0), (1, .int (nI t)), (2, .int (nI h)), (3, .int (nI v)), (4, .int (nI 0)), (5, .int (nI (k + 1)))]) hl [2, 3, 4, 5, 1, 0] rfl
          have hl : lv_has ls 6 [(0, .ref h0), (1, .int (nI t)), (2, .int (nI h)), (3, .int (nI v)), (4, .int (xf_B (xf_any (mdOP mh ma t v) (k + 1)))), (5, .int (nI (k + 1)))] := xf_lv hl (by simp [xf_any, mdOP, xf_B, c26, c31, c46])
          exact ih22 (k + 1) ls (by show 32 - (k + 1) < 32 - k; omega) (by show (k + 1) ≤ 32; omega) hl
        ·
          refine lv_aload_n hx hb dM_owns_49 rfl (lv_at hl 0 rfl) ?_
          refine lv_iload hx hb dM_owns_50 (lv_at hl 5 rfl) ?_
          refine lv_iload_n hx hb dM_owns_52 rfl (lv_at hl 3 rfl) ?_
          refine vp_callSi (W.runV (As := [.int (nI k), .int (nI v)]) (rest := []) ⟨hx, hb, hml, hown, hts⟩ (m_isUnder l dC dI h0 b1 b2 b3 b4 b5 cI cZ mh ma mc mt mn cd ro k v (by omega) (by omega) hOk hAc) (cwV 2 hts gM_owns_isUnder rfl rfl rfl (by decide +kernel) ⟨Nat.le_of_ble_eq_true rfl, Nat.le_of_ble_eq_true rfl⟩) (xf_preV (ci := 1) (RX1, TM, 7) hK hP rfl rfl) rfl rfl hl.1 rfl (lv_room (Nat.le_of_ble_eq_true rfl)) dM_owns_53 ⟨Nat.zero_le _, Nat.zero_le _⟩) (fun r hr9 => ?_)
          subst hr9
          refine xf_Beq (tgt := 63) hx hb dM_owns_56 (by decide) (fun c56 => ?_) (fun c56 => ?_)
          ·
            refine lv_iconst (v := nI 0) hx hb dM_owns_63 (by decide) ?_
            refine lv_istore (lv' := [(4, .int (nI 0)), (0, .ref h0), (1, .int (nI t)), (2, .int (nI h)), (3, .int (nI v)), (5, .int (nI k))]) hx hb dM_owns_64 hl (by decide) rfl (fun ls hl => ?_)
            refine lv_iinc (v := nI (k + 1)) (lv' := [(5, .int (nI (k + 1))), (4, .int (nI 0)), (0, .ref h0), (1, .int (nI t)), (2, .int (nI h)), (3, .int (nI v))]) hx hb dM_owns_66 hl (k := 5) rfl (by exact nI_1 k) (by decide) rfl (fun ls hl => ?_)
            refine lv_goto (tgt := 22) hx hb dM_owns_69 (by decide) ?_
            have hl := lv_sub (l' := [(0, .ref h0), (1, .int (nI t)), (2, .int (nI h)), (3, .int (nI v)), (4, .int (nI 0)), (5, .int (nI (k + 1)))]) hl [2, 3, 4, 5, 1, 0] rfl
            have hl : lv_has ls 6 [(0, .ref h0), (1, .int (nI t)), (2, .int (nI h)), (3, .int (nI v)), (4, .int (xf_B (xf_any (mdOP mh ma t v) (k + 1)))), (5, .int (nI (k + 1)))] := xf_lv hl (by simp [xf_any, mdOP, xf_B, c26, c31, c46, c56])
            exact ih22 (k + 1) ls (by show 32 - (k + 1) < 32 - k; omega) (by show (k + 1) ≤ 32; omega) hl
          ·
            refine lv_iconst (v := nI 1) hx hb dM_owns_59 (by decide) ?_
            refine lv_goto (tgt := 64) hx hb dM_owns_60 (by decide) ?_
            refine lv_istore (lv' := [(4, .int (nI 1)), (0, .ref h0), (1, .int (nI t)), (2, .int (nI h)), (3, .int (nI v)), (5, .int (nI k))]) hx hb dM_owns_64 hl (by decide) rfl (fun ls hl => ?_)
            refine lv_iinc (v := nI (k + 1)) (lv' := [(5, .int (nI (k + 1))), (4, .int (nI 1)), (0, .ref h0), (1, .int (nI t)), (2, .int (nI h)), (3, .int (nI v))]) hx hb dM_owns_66 hl (k := 5) rfl (by exact nI_1 k) (by decide) rfl (fun ls hl => ?_)
            refine lv_goto (tgt := 22) hx hb dM_owns_69 (by decide) ?_
            have hl := lv_sub (l' := [(0, .ref h0), (1, .int (nI t)), (2, .int (nI h)), (3, .int (nI v)), (4, .int (nI 1)), (5, .int (nI (k + 1)))]) hl [2, 3, 4, 5, 1, 0] rfl
            have hl : lv_has ls 6 [(0, .ref h0), (1, .int (nI t)), (2, .int (nI h)), (3, .int (nI v)), (4, .int (xf_B (xf_any (mdOP mh ma t v) (k + 1)))), (5, .int (nI (k + 1)))] := xf_lv hl (by simp [xf_any, mdOP, xf_B, c26, c31, c46, c56])
            exact ih22 (k + 1) ls (by show 32 - (k + 1) < 32 - k; omega) (by show (k + 1) ≤ 32; omega) hl
  ·
    refine lv_aload_n hx hb dM_owns_4 rfl (lv_at hl 0 rfl) ?_
    refine va_get (D := (dC, dI)) (ci := 1) (v := .ref b1) (C := RX1) (T := TM) (N := 7) hx hb hts hin hown hK hP 0 rfl rfl 1 (by decide) hf_has (fun _ h9 => h9) rfl dM_owns_5 ?_
    refine lv_iload_n hx hb dM_owns_8 rfl (lv_at hl 1 rfl) ?_
    refine lv_iload_n hx hb dM_owns_9 rfl (lv_at hl 2 rfl) ?_
    refine lv_iload_n hx hb dM_owns_10 rfl (lv_at hl 3 rfl) ?_
    refine vp_callSi (W.runS (As := [.int (nI t), .int (nI h), .int (nI v)]) (rest := [.ref b1]) ⟨hx, hb, hml, hown, hts⟩ (m_at l t h v) (va_cwS 3 hts gM_owns_at rfl rfl rfl (by decide +kernel) ⟨Nat.le_of_ble_eq_true rfl, Nat.le_of_ble_eq_true rfl⟩) (xf_preS0) rfl rfl hl.1 rfl (lv_room (Nat.le_of_ble_eq_true rfl)) dM_owns_11 ⟨Nat.zero_le _, Nat.zero_le _⟩) (fun r hr9 => ?_)
    subst hr9
    refine xf_zald hx hb hK hP 1 1 rfl rfl (j := ((t * 8 + h) * 32 + v)) (by omega) (by decide) dM_owns_14 ?_
    exact W.zret (v := xf_B (mh ((t * 8 + h) * 32 + v))) hx hb hr (by first | rfl | exact xf_B_narrow _) (fun t9 ht9 hW9 => ⟨_, rfl, by rw [mdO, if_pos c1], ht9⟩) (fun q h => nomatch h) dM_owns_15
set_option maxHeartbeats 4000000 in
set_option maxRecDepth 100000 in
/-- isMet(t, h) -/
theorem m_isMet (l : Launch) (dC : Nat → ClassId) (dI : Nat → Nat → Nat) (h0 b1 b2 b3 b4 b5 : Nat) (cI cZ : ClassId) (mh : Nat → Bool) (ma : Nat → Int32) (mc : Nat → Bool) (mt mn : Nat → Int32) (cd ro : Int32) (t h : Nat) (ht : t < 40) (hh : h < 8) (hOk : mdOk ma) (hAc : mdAc ma) : Met l yM_isMet wsM_isMet ({ frames := 2, cells := 0, slots := 0, locals := 48 }) (va_Pc [.ref h0, .int (nI t), .int (nI h)] (fun U => va_P (dC, dI) fmCl (mw h0 b1 b2 b3 b4 b5 cI cZ mh ma mc mt mn cd ro) U.heap ∧ va_K (dC, dI) fmCl [(cI, .int), (cZ, .boolean)] U)) (vp_Si (fun r => r = xf_B (mdM mh ma mc t h))) 0 0 (fun _ => False) := by
  refine Met.ofW (cc := cM_isMet) (maxL := 6) (ret := (some .boolean)) (by decide) rfl ?_
  intro p e s m args below meth c s₁ B hml hv
  obtain ⟨rfl, hP, hK⟩ := hv
  have hx := B.exec
  have hb := B.bytes
  have hr := B.returns
  have hts := atoms_spec (ws := wsM_isMet) B.pre
  have hown : s.vm.findClass RX1 = some m.cls := findClass_of_methodNamed B.named
  have hlocks := B.notSynchronized
  have hin : ∀ w ∈ u_ws RX1 TM 7, w ∈ wsM_isMet := by decide +kernel
  have hf_chosen := hts (.fieldLink RX1 17 "FacetCountsModel" "chosen" "[Z") (by decide +kernel)
  have hl := lv_entry ([.ref h0, .int (nI t), .int (nI h)]) (n := 6) (Nat.le_of_ble_eq_true rfl)
  rw [lg_entry_eq]
  generalize (lg_sl ([.ref h0, .int (nI t), .int (nI h)]) ++ List.replicate (6 - (lg_sl ([.ref h0, .int (nI t), .int (nI h)])).length) Slot.unset).toArray = ls at hl ⊢
  have hl : lv_has ls 6 [(0, .ref h0), (1, .int (nI t)), (2, .int (nI h))] := hl
  refine lv_iconst (v := nI 0) hx hb dM_isMet_0 (by decide) ?_
  refine lv_istore_n (lv' := [(3, .int (nI 0)), (0, .ref h0), (1, .int (nI t)), (2, .int (nI h))]) hx hb dM_isMet_1 rfl hl (by decide) rfl (fun ls hl => ?_)
  refine lv_iconst (v := nI 0) hx hb dM_isMet_2 (by decide) ?_
  refine lv_istore (lv' := [(4, .int (nI 0)), (3, .int (nI 0)), (0, .ref h0), (1, .int (nI t)), (2, .int (nI h))]) hx hb dM_isMet_3 hl (by decide) rfl (fun ls hl => ?_)
  refine lv_iconst (v := nI 0) hx hb dM_isMet_5 (by decide) ?_
  refine lv_istore (lv' := [(5, .int (nI 0)), (4, .int (nI 0)), (3, .int (nI 0)), (0, .ref h0), (1, .int (nI t)), (2, .int (nI h))]) hx hb dM_isMet_6 hl (by decide) rfl (fun ls hl => ?_)
  refine xf_loopS (σ := Nat) (fun (z9 : Nat) => 32 - z9) (fun (z9 : Nat) => [(0, .ref h0), (1, .int (nI t)), (2, .int (nI h)), (3, .int (xf_B (xf_any (mdCh mc h) z9))), (4, .int (xf_B (xf_any (mdMP mh ma mc t h) z9))), (5, .int (nI z9))]) (fun (z9 : Nat) => z9 ≤ 32) 0 (lv_sub hl [3, 4, 5, 2, 1, 0] rfl) (Nat.zero_le _) (fun z9 ls hi hl ih8 => ?_)
  obtain ⟨v, hxe⟩ : ∃ z, z = z9 := ⟨_, rfl⟩
  subst hxe
  have hl : lv_has ls 6 [(0, .ref h0), (1, .int (nI t)), (2, .int (nI h)), (3, .int (xf_B (xf_any (mdCh mc h) v))), (4, .int (xf_B (xf_any (mdMP mh ma mc t h) v))), (5, .int (nI v))] := hl
  have hi : v ≤ 32 := hi
  refine lv_iload hx hb dM_isMet_8 (lv_at hl 5 rfl) ?_
  refine lv_bipush (v := nI 32) hx hb dM_isMet_10 (by decide) ?_
  refine xf_ge (tgt := 61) hx hb dM_isMet_12 (by decide) (by omega) (by omega) (fun c12 => ?_) (fun c12 => ?_)
  ·
    obtain rfl : v = 32 := by omega
    refine lv_iload hx hb dM_isMet_61 (lv_at hl 4 rfl) ?_
    refine xf_Bne (tgt := 70) hx hb dM_isMet_63 (by decide) (fun c63 => ?_) (fun c63 => ?_)
    ·
      refine lv_iconst (v := nI 1) hx hb dM_isMet_70 (by decide) ?_
      refine lv_goto (tgt := 75) hx hb dM_isMet_71 (by decide) ?_
      exact W.zret (v := nI 1) hx hb hr (by first | rfl | exact xf_B_narrow _) (fun t9 ht9 hW9 => ⟨_, rfl, by simp [mdM, xf_B, c63], ht9⟩) (fun q h => nomatch h) dM_isMet_75
    ·
      refine lv_iload_n hx hb dM_isMet_66 rfl (lv_at hl 3 rfl) ?_
      refine xf_Bne (tgt := 74) hx hb dM_isMet_67 (by decide) (fun c67 => ?_) (fun c67 => ?_)
      ·
        refine lv_iconst (v := nI 0) hx hb dM_isMet_74 (by decide) ?_
        exact W.zret (v := nI 0) hx hb hr (by first | rfl | exact xf_B_narrow _) (fun t9 ht9 hW9 => ⟨_, rfl, by simp [mdM, xf_B, c63, c67], ht9⟩) (fun q h => nomatch h) dM_isMet_75
      ·
        refine lv_iconst (v := nI 1) hx hb dM_isMet_70 (by decide) ?_
        refine lv_goto (tgt := 75) hx hb dM_isMet_71 (by decide) ?_
        exact W.zret (v := nI 1) hx hb hr (by first | rfl | exact xf_B_narrow _) (fun t9 ht9 hW9 => ⟨_, rfl, by simp [mdM, xf_B, c63, c67], ht9⟩) (fun q h => nomatch h) dM_isMet_75
  ·
    refine lv_aload_n hx hb dM_isMet_15 rfl (lv_at hl 0 rfl) ?_
    refine va_get (D := (dC, dI)) (ci := 1) (v := .ref b3) (C := RX1) (T := TM) (N := 7) hx hb hts hin hown hK hP 0 rfl rfl 3 (by decide) hf_chosen (fun _ h9 => h9) rfl dM_isMet_16 ?_
    refine lv_bipush (v := nI 32) hx hb dM_isMet_19 (by decide) ?_
    refine lv_iload_n hx hb dM_isMet_21 rfl (lv_at hl 2 rfl) ?_
    refine lv_imul hx hb dM_isMet_22 ?_
    refine xf_be (y := nI (32 * h)) (by exact pk_mul _ _) ?_
    refine lv_iload hx hb dM_isMet_23 (lv_at hl 5 rfl) ?_
    refine lv_iadd hx hb dM_isMet_25 ?_
    refine xf_be (y := nI (32 * h + v)) (by exact nI_add _ _) ?_
    refine xf_zald hx hb hK hP 3 1 rfl rfl (j := (32 * h + v)) (by omega) (by decide) dM_isMet_26 ?_
    refine xf_Beq (tgt := 55) hx hb dM_isMet_27 (by decide) (fun c27 => ?_) (fun c27 => ?_)
    ·
      refine lv_iinc (v := nI (v + 1)) (lv' := [(5, .int (nI (v + 1))), (0, .ref h0), (1, .int (nI t)), (2, .int (nI h)), (3, .int (xf_B (xf_any (mdCh mc h) v))), (4, .int (xf_B (xf_any (mdMP mh ma mc t h) v)))]) hx hb dM_isMet_55 hl (k := 5) rfl (by exact nI_1 v) (by decide) rfl (fun ls hl => ?_)
      refine lv_goto (tgt := 8) hx hb dM_isMet_58 (by decide) ?_
      have hl := lv_sub (l' := [(0, .ref h0), (1, .int (nI t)), (2, .int (nI h)), (3, .int (xf_B (xf_any (mdCh mc h) v))), (4, .int (xf_B (xf_any (mdMP mh ma mc t h) v))), (5, .int (nI (v + 1)))]) hl [1, 2, 3, 4, 5, 0] rfl
      have hl : lv_has ls 6 [(0, .ref h0), (1, .int (nI t)), (2, .int (nI h)), (3, .int (xf_B (xf_any (mdCh mc h) (v + 1)))), (4, .int (xf_B (xf_any (mdMP mh ma mc t h) (v + 1)))), (5, .int (nI (v + 1)))] := xf_lv hl (by simp [xf_any, mdCh, mdMP, xf_B, c12, c27])
      exact ih8 (v + 1) ls (by show 32 - (v + 1) < 32 - v; omega) (by show (v + 1) ≤ 32; omega) hl
    ·
      refine lv_iconst (v := nI 1) hx hb dM_isMet_30 (by decide) ?_
      refine lv_istore_n (lv' := [(3, .int (nI 1)), (0, .ref h0), (1, .int (nI t)), (2, .int (nI h)), (4, .int (xf_B (xf_any (mdMP mh ma mc t h) v))), (5, .int (nI v))]) hx hb dM_isMet_31 rfl hl (by decide) rfl (fun ls hl => ?_)
      refine lv_iload hx hb dM_isMet_32 (lv_at hl 4 rfl) ?_
      refine xf_Bne (tgt := 48) hx hb dM_isMet_34 (by decide) (fun c34 => ?_) (fun c34 => ?_)
      ·
        refine lv_iconst (v := nI 1) hx hb dM_isMet_48 (by decide) ?_
        refine lv_goto (tgt := 53) hx hb dM_isMet_49 (by decide) ?_
        refine lv_istore (lv' := [(4, .int (nI 1)), (3, .int (nI 1)), (0, .ref h0), (1, .int (nI t)), (2, .int (nI h)), (5, .int (nI v))]) hx hb dM_isMet_53 hl (by decide) rfl (fun ls hl => ?_)
        refine lv_iinc (v := nI (v + 1)) (lv' := [(5, .int (nI (v + 1))), (4, .int (nI 1)), (3, .int (nI 1)), (0, .ref h0), (1, .int (nI t)), (2, .int (nI h))]) hx hb dM_isMet_55 hl (k := 5) rfl (by exact nI_1 v) (by decide) rfl (fun ls hl => ?_)
        refine lv_goto (tgt := 8) hx hb dM_isMet_58 (by decide) ?_
        have hl := lv_sub (l' := [(0, .ref h0), (1, .int (nI t)), (2, .int (nI h)), (3, .int (nI 1)), (4, .int (nI 1)), (5, .int (nI (v + 1)))]) hl [3, 4, 5, 2, 1, 0] rfl
        have hl : lv_has ls 6 [(0, .ref h0), (1, .int (nI t)), (2, .int (nI h)), (3, .int (xf_B (xf_any (mdCh mc h) (v + 1)))), (4, .int (xf_B (xf_any (mdMP mh ma mc t h) (v + 1)))), (5, .int (nI (v + 1)))] := xf_lv hl (by simp [xf_any, mdCh, mdMP, xf_B, c12, c27, c34])
        exact ih8 (v + 1) ls (by show 32 - (v + 1) < 32 - v; omega) (by show (v + 1) ≤ 32; omega) hl
      ·
        refine lv_aload_n hx hb dM_isMet_37 rfl (lv_at hl 1 rfl) ?_
        refine lv_iload_n hx hb dM_isMet_38 rfl (lv_at hl 2 rfl) ?_
        refine lv_iload_n hx hb dM_isMet_39 rfl (lv_at hl 3 rfl) ?_
        refine lv_iload hx hb dM_isMet_40 (lv_at hl 5 rfl) ?_
        refine vp_callSi (W.runV (As := [.int (nI t), .int (nI h), .int (nI v)]) (rest := []) ⟨hx, hb, hml, hown, hts⟩ (m_owns l dC dI h0 b1 b2 b3 b4 b5 cI cZ mh ma mc mt mn cd ro t h v (by omega) (by omega) (by omega) hOk hAc) (cwV 3 hts gM_isMet_owns rfl rfl rfl (by decide +kernel) ⟨Nat.le_of_ble_eq_true rfl, Nat.le_of_ble_eq_true rfl⟩) (xf_preV (ci := 1) (RX1, TM, 7) hK hP rfl rfl) rfl rfl hl.1 rfl (lv_room (Nat.le_of_ble_eq_true rfl)) dM_isMet_42 ⟨Nat.zero_le _, Nat.zero_le _⟩) (fun r hr9 => ?_)
        subst hr9
        refine xf_Beq (tgt := 52) hx hb dM_isMet_45 (by decide) (fun c45 => ?_) (fun c45 => ?_)
        ·
          refine lv_iconst (v := nI 0) hx hb dM_isMet_52 (by decide) ?_
          refine lv_istore (lv' := [(4, .int (nI 0)), (3, .int (nI 1)), (0, .ref h0), (1, .int (nI t)), (2, .int (nI h)), (5, .int (nI v))]) hx hb dM_isMet_53 hl (by decide) rfl (fun ls hl => ?_)
          refine lv_iinc (v := nI (v + 1)) (lv' := [(5, .int (nI (v + 1))), (4, .int (nI 0)), (3, .int (nI 1)), (0, .ref h0), (1, .int (nI t)), (2, .int (nI h))]) hx hb dM_isMet_55 hl (k := 5) rfl (by exact nI_1 v) (by decide) rfl (fun ls hl => ?_)
          refine lv_goto (tgt := 8) hx hb dM_isMet_58 (by decide) ?_
          have hl := lv_sub (l' := [(0, .ref h0), (1, .int (nI t)), (2, .int (nI h)), (3, .int (nI 1)), (4, .int (nI 0)), (5, .int (nI (v + 1)))]) hl [3, 4, 5, 2, 1, 0] rfl
          have hl : lv_has ls 6 [(0, .ref h0), (1, .int (nI t)), (2, .int (nI h)), (3, .int (xf_B (xf_any (mdCh mc h) (v + 1)))), (4, .int (xf_B (xf_any (mdMP mh ma mc t h) (v + 1)))), (5, .int (nI (v + 1)))] := xf_lv hl (by simp [xf_any, mdCh, mdMP, xf_B, c12, c27, c34, c45])
          exact ih8 (v + 1) ls (by show 32 - (v + 1) < 32 - v; omega) (by show (v + 1) ≤ 32; omega) hl
        ·
          refine lv_iconst (v := nI 1) hx hb dM_isMet_48 (by decide) ?_
          refine lv_goto (tgt := 53) hx hb dM_isMet_49 (by decide) ?_
          refine lv_istore (lv' := [(4, .int (nI 1)), (3, .int (nI 1)), (0, .ref h0), (1, .int (nI t)), (2, .int (nI h)), (5, .int (nI v))]) hx hb dM_isMet_53 hl (by decide) rfl (fun ls hl => ?_)
          refine lv_iinc (v := nI (v + 1)) (lv' := [(5, .int (nI (v + 1))), (4, .int (nI 1)), (3, .int (nI 1)), (0, .ref h0), (1, .int (nI t)), (2, .int (nI h))]) hx hb dM_isMet_55 hl (k := 5) rfl (by exact nI_1 v) (by decide) rfl (fun ls hl => ?_)
          refine lv_goto (tgt := 8) hx hb dM_isMet_58 (by decide) ?_
          have hl := lv_sub (l' := [(0, .ref h0), (1, .int (nI t)), (2, .int (nI h)), (3, .int (nI 1)), (4, .int (nI 1)), (5, .int (nI (v + 1)))]) hl [3, 4, 5, 2, 1, 0] rfl
          have hl : lv_has ls 6 [(0, .ref h0), (1, .int (nI t)), (2, .int (nI h)), (3, .int (xf_B (xf_any (mdCh mc h) (v + 1)))), (4, .int (xf_B (xf_any (mdMP mh ma mc t h) (v + 1)))), (5, .int (nI (v + 1)))] := xf_lv hl (by simp [xf_any, mdCh, mdMP, xf_B, c12, c27, c34, c45])
          exact ih8 (v + 1) ls (by show 32 - (v + 1) < 32 - v; omega) (by show (v + 1) ≤ 32; omega) hl
set_option maxHeartbeats 4000000 in
set_option maxRecDepth 100000 in
/-- isKeptBut(t, hd) -/
theorem m_isKeptBut (l : Launch) (dC : Nat → ClassId) (dI : Nat → Nat → Nat) (h0 b1 b2 b3 b4 b5 : Nat) (cI cZ : ClassId) (mh : Nat → Bool) (ma : Nat → Int32) (mc : Nat → Bool) (mt mn : Nat → Int32) (cd ro : Int32) (t : Nat) (hd : Int32) (ht : t < 40) (hOk : mdOk ma) (hAc : mdAc ma) : Met l yM_isKeptBut wsM_isKeptBut ({ frames := 3, cells := 0, slots := 0, locals := 73 }) (va_Pc [.ref h0, .int (nI t), .int hd] (fun U => va_P (dC, dI) fmCl (mw h0 b1 b2 b3 b4 b5 cI cZ mh ma mc mt mn cd ro) U.heap ∧ va_K (dC, dI) fmCl [(cI, .int), (cZ, .boolean)] U)) (vp_Si (fun r => r = xf_B (mdK mh ma mc t hd))) 0 0 (fun _ => False) := by
  refine Met.ofW (cc := cM_isKeptBut) (maxL := 5) (ret := (some .boolean)) (by decide) rfl ?_
  intro p e s m args below meth c s₁ B hml hv
  obtain ⟨rfl, hP, hK⟩ := hv
  have hx := B.exec
  have hb := B.bytes
  have hr := B.returns
  have hts := atoms_spec (ws := wsM_isKeptBut) B.pre
  have hown : s.vm.findClass RX1 = some m.cls := findClass_of_methodNamed B.named
  have hlocks := B.notSynchronized
  have hl := lv_entry ([.ref h0, .int (nI t), .int hd]) (n := 5) (Nat.le_of_ble_eq_true rfl)
  rw [lg_entry_eq]
  generalize (lg_sl ([.ref h0, .int (nI t), .int hd]) ++ List.replicate (5 - (lg_sl ([.ref h0, .int (nI t), .int hd])).length) Slot.unset).toArray = ls at hl ⊢
  have hl : lv_has ls 5 [(0, .ref h0), (1, .int (nI t)), (2, .int hd)] := hl
  refine lv_iconst (v := nI 1) hx hb dM_isKeptBut_0 (by decide) ?_
  refine lv_istore_n (lv' := [(3, .int (nI 1)), (0, .ref h0), (1, .int (nI t)), (2, .int hd)]) hx hb dM_isKeptBut_1 rfl hl (by decide) rfl (fun ls hl => ?_)
  refine lv_iconst (v := nI 0) hx hb dM_isKeptBut_2 (by decide) ?_
  refine lv_istore (lv' := [(4, .int (nI 0)), (3, .int (nI 1)), (0, .ref h0), (1, .int (nI t)), (2, .int hd)]) hx hb dM_isKeptBut_3 hl (by decide) rfl (fun ls hl => ?_)
  refine xf_loopS (σ := Nat) (fun (z9 : Nat) => 8 - z9) (fun (z9 : Nat) => [(0, .ref h0), (1, .int (nI t)), (2, .int hd), (3, .int (xf_B (xf_all (mdKP mh ma mc t hd) z9))), (4, .int (nI z9))]) (fun (z9 : Nat) => z9 ≤ 8) 0 (lv_sub hl [2, 3, 4, 1, 0] rfl) (Nat.zero_le _) (fun z9 ls hi hl ih5 => ?_)
  obtain ⟨h, hxe⟩ : ∃ z, z = z9 := ⟨_, rfl⟩
  subst hxe
  have hl : lv_has ls 5 [(0, .ref h0), (1, .int (nI t)), (2, .int hd), (3, .int (xf_B (xf_all (mdKP mh ma mc t hd) h))), (4, .int (nI h))] := hl
  have hi : h ≤ 8 := hi
  refine lv_iload hx hb dM_isKeptBut_5 (lv_at hl 4 rfl) ?_
  refine lv_bipush (v := nI 8) hx hb dM_isKeptBut_7 (by decide) ?_
  refine xf_ge (tgt := 44) hx hb dM_isKeptBut_9 (by decide) (by omega) (by omega) (fun c9 => ?_) (fun c9 => ?_)
  ·
    obtain rfl : h = 8 := by omega
    refine lv_iload_n hx hb dM_isKeptBut_44 rfl (lv_at hl 3 rfl) ?_
    exact W.zret (v := xf_B (xf_all (mdKP mh ma mc t hd) 8)) hx hb hr (by first | rfl | exact xf_B_narrow _) (fun t9 ht9 hW9 => ⟨_, rfl, rfl, ht9⟩) (fun q h => nomatch h) dM_isKeptBut_45
  ·
    refine lv_iload_n hx hb dM_isKeptBut_12 rfl (lv_at hl 3 rfl) ?_
    refine xf_Beq (tgt := 36) hx hb dM_isKeptBut_13 (by decide) (fun c13 => ?_) (fun c13 => ?_)
    ·
      refine lv_iconst (v := nI 0) hx hb dM_isKeptBut_36 (by decide) ?_
      refine lv_istore_n (lv' := [(3, .int (nI 0)), (0, .ref h0), (1, .int (nI t)), (2, .int hd), (4, .int (nI h))]) hx hb dM_isKeptBut_37 rfl hl (by decide) rfl (fun ls hl => ?_)
      refine lv_iinc (v := nI (h + 1)) (lv' := [(4, .int (nI (h + 1))), (3, .int (nI 0)), (0, .ref h0), (1, .int (nI t)), (2, .int hd)]) hx hb dM_isKeptBut_38 hl (k := 4) rfl (by exact nI_1 h) (by decide) rfl (fun ls hl => ?_)
      refine lv_goto (tgt := 5) hx hb dM_isKeptBut_41 (by decide) ?_
      have hl := lv_sub (l' := [(0, .ref h0), (1, .int (nI t)), (2, .int hd), (3, .int (nI 0)), (4, .int (nI (h + 1)))]) hl [2, 3, 4, 1, 0] rfl
      have hl : lv_has ls 5 [(0, .ref h0), (1, .int (nI t)), (2, .int hd), (3, .int (xf_B (xf_all (mdKP mh ma mc t hd) (h + 1)))), (4, .int (nI (h + 1)))] := xf_lv hl (by simp [xf_all, mdKP, xf_B, c9, c13])
      exact ih5 (h + 1) ls (by show 8 - (h + 1) < 8 - h; omega) (by show (h + 1) ≤ 8; omega) hl
    ·
      refine lv_iload hx hb dM_isKeptBut_16 (lv_at hl 4 rfl) ?_
      refine lv_iload_n hx hb dM_isKeptBut_18 rfl (lv_at hl 2 rfl) ?_
      refine lv_icmp_eq (tgt := 32) hx hb dM_isKeptBut_19 (by decide) (fun c19 => ?_) (fun c19 => ?_)
      ·
        refine lv_iconst (v := nI 1) hx hb dM_isKeptBut_32 (by decide) ?_
        refine lv_goto (tgt := 37) hx hb dM_isKeptBut_33 (by decide) ?_
        refine lv_istore_n (lv' := [(3, .int (nI 1)), (0, .ref h0), (1, .int (nI t)), (2, .int hd), (4, .int (nI h))]) hx hb dM_isKeptBut_37 rfl hl (by decide) rfl (fun ls hl => ?_)
        refine lv_iinc (v := nI (h + 1)) (lv' := [(4, .int (nI (h + 1))), (3, .int (nI 1)), (0, .ref h0), (1, .int (nI t)), (2, .int hd)]) hx hb dM_isKeptBut_38 hl (k := 4) rfl (by exact nI_1 h) (by decide) rfl (fun ls hl => ?_)
        refine lv_goto (tgt := 5) hx hb dM_isKeptBut_41 (by decide) ?_
        have hl := lv_sub (l' := [(0, .ref h0), (1, .int (nI t)), (2, .int hd), (3, .int (nI 1)), (4, .int (nI (h + 1)))]) hl [2, 3, 4, 1, 0] rfl
        have hl : lv_has ls 5 [(0, .ref h0), (1, .int (nI t)), (2, .int hd), (3, .int (xf_B (xf_all (mdKP mh ma mc t hd) (h + 1)))), (4, .int (nI (h + 1)))] := xf_lv hl (by simp [xf_all, mdKP, xf_B, c9, c13, c19])
        exact ih5 (h + 1) ls (by show 8 - (h + 1) < 8 - h; omega) (by show (h + 1) ≤ 8; omega) hl
      ·
        refine lv_aload_n hx hb dM_isKeptBut_22 rfl (lv_at hl 0 rfl) ?_
        refine lv_iload_n hx hb dM_isKeptBut_23 rfl (lv_at hl 1 rfl) ?_
        refine lv_iload hx hb dM_isKeptBut_24 (lv_at hl 4 rfl) ?_
        refine vp_callSi (W.runV (As := [.int (nI t), .int (nI h)]) (rest := []) ⟨hx, hb, hml, hown, hts⟩ (m_isMet l dC dI h0 b1 b2 b3 b4 b5 cI cZ mh ma mc mt mn cd ro t h (by omega) (by omega) hOk hAc) (cwV 2 hts gM_isKeptBut_isMet rfl rfl rfl (by decide +kernel) ⟨Nat.le_of_ble_eq_true rfl, Nat.le_of_ble_eq_true rfl⟩) (xf_preV (ci := 1) (RX1, TM, 7) hK hP rfl rfl) rfl rfl hl.1 rfl (lv_room (Nat.le_of_ble_eq_true rfl)) dM_isKeptBut_26 ⟨Nat.zero_le _, Nat.zero_le _⟩) (fun r hr9 => ?_)
        subst hr9
        refine xf_Beq (tgt := 36) hx hb dM_isKeptBut_29 (by decide) (fun c29 => ?_) (fun c29 => ?_)
        ·
          refine lv_iconst (v := nI 0) hx hb dM_isKeptBut_36 (by decide) ?_
          refine lv_istore_n (lv' := [(3, .int (nI 0)), (0, .ref h0), (1, .int (nI t)), (2, .int hd), (4, .int (nI h))]) hx hb dM_isKeptBut_37 rfl hl (by decide) rfl (fun ls hl => ?_)
          refine lv_iinc (v := nI (h + 1)) (lv' := [(4, .int (nI (h + 1))), (3, .int (nI 0)), (0, .ref h0), (1, .int (nI t)), (2, .int hd)]) hx hb dM_isKeptBut_38 hl (k := 4) rfl (by exact nI_1 h) (by decide) rfl (fun ls hl => ?_)
          refine lv_goto (tgt := 5) hx hb dM_isKeptBut_41 (by decide) ?_
          have hl := lv_sub (l' := [(0, .ref h0), (1, .int (nI t)), (2, .int hd), (3, .int (nI 0)), (4, .int (nI (h + 1)))]) hl [2, 3, 4, 1, 0] rfl
          have hl : lv_has ls 5 [(0, .ref h0), (1, .int (nI t)), (2, .int hd), (3, .int (xf_B (xf_all (mdKP mh ma mc t hd) (h + 1)))), (4, .int (nI (h + 1)))] := xf_lv hl (by simp [xf_all, mdKP, xf_B, c9, c13, c19, c29])
          exact ih5 (h + 1) ls (by show 8 - (h + 1) < 8 - h; omega) (by show (h + 1) ≤ 8; omega) hl
        ·
          refine lv_iconst (v := nI 1) hx hb dM_isKeptBut_32 (by decide) ?_
          refine lv_goto (tgt := 37) hx hb dM_isKeptBut_33 (by decide) ?_
          refine lv_istore_n (lv' := [(3, .int (nI 1)), (0, .ref h0), (1, .int (nI t)), (2, .int hd), (4, .int (nI h))]) hx hb dM_isKeptBut_37 rfl hl (by decide) rfl (fun ls hl => ?_)
          refine lv_iinc (v := nI (h + 1)) (lv' := [(4, .int (nI (h + 1))), (3, .int (nI 1)), (0, .ref h0), (1, .int (nI t)), (2, .int hd)]) hx hb dM_isKeptBut_38 hl (k := 4) rfl (by exact nI_1 h) (by decide) rfl (fun ls hl => ?_)
          refine lv_goto (tgt := 5) hx hb dM_isKeptBut_41 (by decide) ?_
          have hl := lv_sub (l' := [(0, .ref h0), (1, .int (nI t)), (2, .int hd), (3, .int (nI 1)), (4, .int (nI (h + 1)))]) hl [2, 3, 4, 1, 0] rfl
          have hl : lv_has ls 5 [(0, .ref h0), (1, .int (nI t)), (2, .int hd), (3, .int (xf_B (xf_all (mdKP mh ma mc t hd) (h + 1)))), (4, .int (nI (h + 1)))] := xf_lv hl (by simp [xf_all, mdKP, xf_B, c9, c13, c19, c29])
          exact ih5 (h + 1) ls (by show 8 - (h + 1) < 8 - h; omega) (by show (h + 1) ≤ 8; omega) hl
set_option maxHeartbeats 4000000 in
set_option maxRecDepth 100000 in
/-- count(h, v) -/
theorem m_count (l : Launch) (dC : Nat → ClassId) (dI : Nat → Nat → Nat) (h0 b1 b2 b3 b4 b5 : Nat) (cI cZ : ClassId) (mh : Nat → Bool) (ma : Nat → Int32) (mc : Nat → Bool) (mt mn : Nat → Int32) (cd ro : Int32) (h v : Nat) (hh : h < 8) (hv9 : v < 32) (hOk : mdOk ma) (hAc : mdAc ma) : Met l yM_count wsM_count ({ frames := 4, cells := 0, slots := 0, locals := 97 }) (va_Pc [.ref h0, .int (nI h), .int (nI v)] (fun U => va_P (dC, dI) fmCl (mw h0 b1 b2 b3 b4 b5 cI cZ mh ma mc mt mn cd ro) U.heap ∧ va_K (dC, dI) fmCl [(cI, .int), (cZ, .boolean)] U)) (vp_Si (fun r => r = nI (mdN mh ma mc h v))) 0 0 (fun _ => False) := by
  refine Met.ofW (cc := cM_count) (maxL := 5) (ret := (some .int)) (by decide) rfl ?_
  intro p e s m args below meth c s₁ B hml hv
  obtain ⟨rfl, hP, hK⟩ := hv
  have hx := B.exec
  have hb := B.bytes
  have hr := B.returns
  have hts := atoms_spec (ws := wsM_count) B.pre
  have hown : s.vm.findClass RX1 = some m.cls := findClass_of_methodNamed B.named
  have hlocks := B.notSynchronized
  have hl := lv_entry ([.ref h0, .int (nI h), .int (nI v)]) (n := 5) (Nat.le_of_ble_eq_true rfl)
  rw [lg_entry_eq]
  generalize (lg_sl ([.ref h0, .int (nI h), .int (nI v)]) ++ List.replicate (5 - (lg_sl ([.ref h0, .int (nI h), .int (nI v)])).length) Slot.unset).toArray = ls at hl ⊢
  have hl : lv_has ls 5 [(0, .ref h0), (1, .int (nI h)), (2, .int (nI v))] := hl
  refine lv_iconst (v := nI 0) hx hb dM_count_0 (by decide) ?_
  refine lv_istore_n (lv' := [(3, .int (nI 0)), (0, .ref h0), (1, .int (nI h)), (2, .int (nI v))]) hx hb dM_count_1 rfl hl (by decide) rfl (fun ls hl => ?_)
  refine lv_iconst (v := nI 0) hx hb dM_count_2 (by decide) ?_
  refine lv_istore (lv' := [(4, .int (nI 0)), (3, .int (nI 0)), (0, .ref h0), (1, .int (nI h)), (2, .int (nI v))]) hx hb dM_count_3 hl (by decide) rfl (fun ls hl => ?_)
  refine xf_loopS (σ := Nat) (fun (z9 : Nat) => 40 - z9) (fun (z9 : Nat) => [(0, .ref h0), (1, .int (nI h)), (2, .int (nI v)), (3, .int (nI (xf_cnt (mdNP mh ma mc h v) z9))), (4, .int (nI z9))]) (fun (z9 : Nat) => z9 ≤ 40) 0 (lv_sub hl [2, 3, 4, 1, 0] rfl) (Nat.zero_le _) (fun z9 ls hi hl ih5 => ?_)
  obtain ⟨t, hxe⟩ : ∃ z, z = z9 := ⟨_, rfl⟩
  subst hxe
  have hl : lv_has ls 5 [(0, .ref h0), (1, .int (nI h)), (2, .int (nI v)), (3, .int (nI (xf_cnt (mdNP mh ma mc h v) t))), (4, .int (nI t))] := hl
  have hi : t ≤ 40 := hi
  refine lv_iload hx hb dM_count_5 (lv_at hl 4 rfl) ?_
  refine lv_bipush (v := nI 40) hx hb dM_count_7 (by decide) ?_
  refine xf_ge (tgt := 47) hx hb dM_count_9 (by decide) (by omega) (by omega) (fun c9 => ?_) (fun c9 => ?_)
  ·
    obtain rfl : t = 40 := by omega
    refine lv_iload_n hx hb dM_count_47 rfl (lv_at hl 3 rfl) ?_
    exact W.iret (v := nI (xf_cnt (mdNP mh ma mc h v) 40)) hx hb hr (fun t9 ht9 hW9 => ⟨_, rfl, rfl, ht9⟩) (fun q h => nomatch h) dM_count_48
  ·
    refine lv_iload_n hx hb dM_count_12 rfl (lv_at hl 3 rfl) ?_
    refine lv_aload_n hx hb dM_count_13 rfl (lv_at hl 0 rfl) ?_
    refine lv_iload hx hb dM_count_14 (lv_at hl 4 rfl) ?_
    refine lv_iload_n hx hb dM_count_16 rfl (lv_at hl 1 rfl) ?_
    refine lv_iload_n hx hb dM_count_17 rfl (lv_at hl 2 rfl) ?_
    refine vp_callSi (W.runV (As := [.int (nI t), .int (nI h), .int (nI v)]) (rest := [.int (nI (xf_cnt (mdNP mh ma mc h v) t))]) ⟨hx, hb, hml, hown, hts⟩ (m_owns l dC dI h0 b1 b2 b3 b4 b5 cI cZ mh ma mc mt mn cd ro t h v (by omega) (by omega) (by omega) hOk hAc) (cwV 3 hts gM_count_owns rfl rfl rfl (by decide +kernel) ⟨Nat.le_of_ble_eq_true rfl, Nat.le_of_ble_eq_true rfl⟩) (xf_preV (ci := 1) (RX1, TM, 7) hK hP rfl rfl) rfl rfl hl.1 rfl (lv_room (Nat.le_of_ble_eq_true rfl)) dM_count_18 ⟨Nat.zero_le _, Nat.zero_le _⟩) (fun r hr9 => ?_)
    subst hr9
    refine xf_Beq (tgt := 38) hx hb dM_count_21 (by decide) (fun c21 => ?_) (fun c21 => ?_)
    ·
      refine lv_iconst (v := nI 0) hx hb dM_count_38 (by decide) ?_
      refine lv_iadd hx hb dM_count_39 ?_
      refine xf_be (y := nI (xf_cnt (mdNP mh ma mc h v) t + 0)) (by exact nI_add _ _) ?_
      refine lv_istore_n (lv' := [(3, .int (nI (xf_cnt (mdNP mh ma mc h v) t + 0))), (0, .ref h0), (1, .int (nI h)), (2, .int (nI v)), (4, .int (nI t))]) hx hb dM_count_40 rfl hl (by decide) rfl (fun ls hl => ?_)
      refine lv_iinc (v := nI (t + 1)) (lv' := [(4, .int (nI (t + 1))), (3, .int (nI (xf_cnt (mdNP mh ma mc h v) t + 0))), (0, .ref h0), (1, .int (nI h)), (2, .int (nI v))]) hx hb dM_count_41 hl (k := 4) rfl (by exact nI_1 t) (by decide) rfl (fun ls hl => ?_)
      refine lv_goto (tgt := 5) hx hb dM_count_44 (by decide) ?_
      have hl := lv_sub (l' := [(0, .ref h0), (1, .int (nI h)), (2, .int (nI v)), (3, .int (nI (xf_cnt (mdNP mh ma mc h v) t + 0))), (4, .int (nI (t + 1)))]) hl [2, 3, 4, 1, 0] rfl
      have hl : lv_has ls 5 [(0, .ref h0), (1, .int (nI h)), (2, .int (nI v)), (3, .int (nI (xf_cnt (mdNP mh ma mc h v) (t + 1)))), (4, .int (nI (t + 1)))] := xf_lv hl (by simp [xf_cnt, mdNP, c9, c21])
      exact ih5 (t + 1) ls (by show 40 - (t + 1) < 40 - t; omega) (by show (t + 1) ≤ 40; omega) hl
    ·
      refine lv_aload_n hx hb dM_count_24 rfl (lv_at hl 0 rfl) ?_
      refine lv_iload hx hb dM_count_25 (lv_at hl 4 rfl) ?_
      refine lv_iload_n hx hb dM_count_27 rfl (lv_at hl 1 rfl) ?_
      refine vp_callSi (W.runV (As := [.int (nI t), .int (nI h)]) (rest := [.int (nI (xf_cnt (mdNP mh ma mc h v) t))]) ⟨hx, hb, hml, hown, hts⟩ (m_isKeptBut l dC dI h0 b1 b2 b3 b4 b5 cI cZ mh ma mc mt mn cd ro t (nI h) (by omega) hOk hAc) (cwV 2 hts gM_count_isKeptBut rfl rfl rfl (by decide +kernel) ⟨Nat.le_of_ble_eq_true rfl, Nat.le_of_ble_eq_true rfl⟩) (xf_preV (ci := 1) (RX1, TM, 7) hK hP rfl rfl) rfl rfl hl.1 rfl (lv_room (Nat.le_of_ble_eq_true rfl)) dM_count_28 ⟨Nat.zero_le _, Nat.zero_le _⟩) (fun r hr9 => ?_)
      subst hr9
      refine xf_Beq (tgt := 38) hx hb dM_count_31 (by decide) (fun c31 => ?_) (fun c31 => ?_)
      ·
        refine lv_iconst (v := nI 0) hx hb dM_count_38 (by decide) ?_
        refine lv_iadd hx hb dM_count_39 ?_
        refine xf_be (y := nI (xf_cnt (mdNP mh ma mc h v) t + 0)) (by exact nI_add _ _) ?_
        refine lv_istore_n (lv' := [(3, .int (nI (xf_cnt (mdNP mh ma mc h v) t + 0))), (0, .ref h0), (1, .int (nI h)), (2, .int (nI v)), (4, .int (nI t))]) hx hb dM_count_40 rfl hl (by decide) rfl (fun ls hl => ?_)
        refine lv_iinc (v := nI (t + 1)) (lv' := [(4, .int (nI (t + 1))), (3, .int (nI (xf_cnt (mdNP mh ma mc h v) t + 0))), (0, .ref h0), (1, .int (nI h)), (2, .int (nI v))]) hx hb dM_count_41 hl (k := 4) rfl (by exact nI_1 t) (by decide) rfl (fun ls hl => ?_)
        refine lv_goto (tgt := 5) hx hb dM_count_44 (by decide) ?_
        have hl := lv_sub (l' := [(0, .ref h0), (1, .int (nI h)), (2, .int (nI v)), (3, .int (nI (xf_cnt (mdNP mh ma mc h v) t + 0))), (4, .int (nI (t + 1)))]) hl [2, 3, 4, 1, 0] rfl
        have hl : lv_has ls 5 [(0, .ref h0), (1, .int (nI h)), (2, .int (nI v)), (3, .int (nI (xf_cnt (mdNP mh ma mc h v) (t + 1)))), (4, .int (nI (t + 1)))] := xf_lv hl (by simp [xf_cnt, mdNP, c9, c21, c31])
        exact ih5 (t + 1) ls (by show 40 - (t + 1) < 40 - t; omega) (by show (t + 1) ≤ 40; omega) hl
      ·
        refine lv_iconst (v := nI 1) hx hb dM_count_34 (by decide) ?_
        refine lv_goto (tgt := 39) hx hb dM_count_35 (by decide) ?_
        refine lv_iadd hx hb dM_count_39 ?_
        refine xf_be (y := nI (xf_cnt (mdNP mh ma mc h v) t + 1)) (by exact nI_add _ _) ?_
        refine lv_istore_n (lv' := [(3, .int (nI (xf_cnt (mdNP mh ma mc h v) t + 1))), (0, .ref h0), (1, .int (nI h)), (2, .int (nI v)), (4, .int (nI t))]) hx hb dM_count_40 rfl hl (by decide) rfl (fun ls hl => ?_)
        refine lv_iinc (v := nI (t + 1)) (lv' := [(4, .int (nI (t + 1))), (3, .int (nI (xf_cnt (mdNP mh ma mc h v) t + 1))), (0, .ref h0), (1, .int (nI h)), (2, .int (nI v))]) hx hb dM_count_41 hl (k := 4) rfl (by exact nI_1 t) (by decide) rfl (fun ls hl => ?_)
        refine lv_goto (tgt := 5) hx hb dM_count_44 (by decide) ?_
        have hl := lv_sub (l' := [(0, .ref h0), (1, .int (nI h)), (2, .int (nI v)), (3, .int (nI (xf_cnt (mdNP mh ma mc h v) t + 1))), (4, .int (nI (t + 1)))]) hl [2, 3, 4, 1, 0] rfl
        have hl : lv_has ls 5 [(0, .ref h0), (1, .int (nI h)), (2, .int (nI v)), (3, .int (nI (xf_cnt (mdNP mh ma mc h v) (t + 1)))), (4, .int (nI (t + 1)))] := xf_lv hl (by simp [xf_cnt, mdNP, c9, c21, c31])
        exact ih5 (t + 1) ls (by show 40 - (t + 1) < 40 - t; omega) (by show (t + 1) ≤ 40; omega) hl
set_option maxHeartbeats 4000000 in
set_option maxRecDepth 100000 in
/-- all(hd) -/
theorem m_all (l : Launch) (dC : Nat → ClassId) (dI : Nat → Nat → Nat) (h0 b1 b2 b3 b4 b5 : Nat) (cI cZ : ClassId) (mh : Nat → Bool) (ma : Nat → Int32) (mc : Nat → Bool) (mt mn : Nat → Int32) (cd ro : Int32) (hd : Int32) (hOk : mdOk ma) (hAc : mdAc ma) : Met l yM_all wsM_all ({ frames := 4, cells := 0, slots := 0, locals := 97 }) (va_Pc [.ref h0, .int hd] (fun U => va_P (dC, dI) fmCl (mw h0 b1 b2 b3 b4 b5 cI cZ mh ma mc mt mn cd ro) U.heap ∧ va_K (dC, dI) fmCl [(cI, .int), (cZ, .boolean)] U)) (vp_Si (fun r => r = nI (xf_cnt (mdAP mh ma mc hd) 40))) 0 0 (fun _ => False) := by
  refine Met.ofW (cc := cM_all) (maxL := 4) (ret := (some .int)) (by decide) rfl ?_
  intro p e s m args below meth c s₁ B hml hv
  obtain ⟨rfl, hP, hK⟩ := hv
  have hx := B.exec
  have hb := B.bytes
  have hr := B.returns
  have hts := atoms_spec (ws := wsM_all) B.pre
  have hown : s.vm.findClass RX1 = some m.cls := findClass_of_methodNamed B.named
  have hlocks := B.notSynchronized
  have hl := lv_entry ([.ref h0, .int hd]) (n := 4) (Nat.le_of_ble_eq_true rfl)
  rw [lg_entry_eq]
  generalize (lg_sl ([.ref h0, .int hd]) ++ List.replicate (4 - (lg_sl ([.ref h0, .int hd])).length) Slot.unset).toArray = ls at hl ⊢
  have hl : lv_has ls 4 [(0, .ref h0), (1, .int hd)] := hl
  refine lv_iconst (v := nI 0) hx hb dM_all_0 (by decide) ?_
  refine lv_istore_n (lv' := [(2, .int (nI 0)), (0, .ref h0), (1, .int hd)]) hx hb dM_all_1 rfl hl (by decide) rfl (fun ls hl => ?_)
  refine lv_iconst (v := nI 0) hx hb dM_all_2 (by decide) ?_
  refine lv_istore_n (lv' := [(3, .int (nI 0)), (2, .int (nI 0)), (0, .ref h0), (1, .int hd)]) hx hb dM_all_3 rfl hl (by decide) rfl (fun ls hl => ?_)
  refine xf_loopS (σ := Nat) (fun (z9 : Nat) => 40 - z9) (fun (z9 : Nat) => [(0, .ref h0), (1, .int hd), (2, .int (nI (xf_cnt (mdAP mh ma mc hd) z9))), (3, .int (nI z9))]) (fun (z9 : Nat) => z9 ≤ 40) 0 (lv_sub hl [2, 3, 1, 0] rfl) (Nat.zero_le _) (fun z9 ls hi hl ih4 => ?_)
  obtain ⟨t, hxe⟩ : ∃ z, z = z9 := ⟨_, rfl⟩
  subst hxe
  have hl : lv_has ls 4 [(0, .ref h0), (1, .int hd), (2, .int (nI (xf_cnt (mdAP mh ma mc hd) t))), (3, .int (nI t))] := hl
  have hi : t ≤ 40 := hi
  refine lv_iload_n hx hb dM_all_4 rfl (lv_at hl 3 rfl) ?_
  refine lv_bipush (v := nI 40) hx hb dM_all_5 (by decide) ?_
  refine xf_ge (tgt := 33) hx hb dM_all_7 (by decide) (by omega) (by omega) (fun c7 => ?_) (fun c7 => ?_)
  ·
    obtain rfl : t = 40 := by omega
    refine lv_iload_n hx hb dM_all_33 rfl (lv_at hl 2 rfl) ?_
    exact W.iret (v := nI (xf_cnt (mdAP mh ma mc hd) 40)) hx hb hr (fun t9 ht9 hW9 => ⟨_, rfl, rfl, ht9⟩) (fun q h => nomatch h) dM_all_34
  ·
    refine lv_iload_n hx hb dM_all_10 rfl (lv_at hl 2 rfl) ?_
    refine lv_aload_n hx hb dM_all_11 rfl (lv_at hl 0 rfl) ?_
    refine lv_iload_n hx hb dM_all_12 rfl (lv_at hl 3 rfl) ?_
    refine lv_iload_n hx hb dM_all_13 rfl (lv_at hl 1 rfl) ?_
    refine vp_callSi (W.runV (As := [.int (nI t), .int hd]) (rest := [.int (nI (xf_cnt (mdAP mh ma mc hd) t))]) ⟨hx, hb, hml, hown, hts⟩ (m_isKeptBut l dC dI h0 b1 b2 b3 b4 b5 cI cZ mh ma mc mt mn cd ro t hd (by omega) hOk hAc) (cwV 2 hts gM_all_isKeptBut rfl rfl rfl (by decide +kernel) ⟨Nat.le_of_ble_eq_true rfl, Nat.le_of_ble_eq_true rfl⟩) (xf_preV (ci := 1) (RX1, TM, 7) hK hP rfl rfl) rfl rfl hl.1 rfl (lv_room (Nat.le_of_ble_eq_true rfl)) dM_all_14 ⟨Nat.zero_le _, Nat.zero_le _⟩) (fun r hr9 => ?_)
    subst hr9
    refine xf_Beq (tgt := 24) hx hb dM_all_17 (by decide) (fun c17 => ?_) (fun c17 => ?_)
    ·
      refine lv_iconst (v := nI 0) hx hb dM_all_24 (by decide) ?_
      refine lv_iadd hx hb dM_all_25 ?_
      refine xf_be (y := nI (xf_cnt (mdAP mh ma mc hd) t + 0)) (by exact nI_add _ _) ?_
      refine lv_istore_n (lv' := [(2, .int (nI (xf_cnt (mdAP mh ma mc hd) t + 0))), (0, .ref h0), (1, .int hd), (3, .int (nI t))]) hx hb dM_all_26 rfl hl (by decide) rfl (fun ls hl => ?_)
      refine lv_iinc (v := nI (t + 1)) (lv' := [(3, .int (nI (t + 1))), (2, .int (nI (xf_cnt (mdAP mh ma mc hd) t + 0))), (0, .ref h0), (1, .int hd)]) hx hb dM_all_27 hl (k := 3) rfl (by exact nI_1 t) (by decide) rfl (fun ls hl => ?_)
      refine lv_goto (tgt := 4) hx hb dM_all_30 (by decide) ?_
      have hl := lv_sub (l' := [(0, .ref h0), (1, .int hd), (2, .int (nI (xf_cnt (mdAP mh ma mc hd) t + 0))), (3, .int (nI (t + 1)))]) hl [2, 3, 1, 0] rfl
      have hl : lv_has ls 4 [(0, .ref h0), (1, .int hd), (2, .int (nI (xf_cnt (mdAP mh ma mc hd) (t + 1)))), (3, .int (nI (t + 1)))] := xf_lv hl (by simp [xf_cnt, mdAP, c7, c17])
      exact ih4 (t + 1) ls (by show 40 - (t + 1) < 40 - t; omega) (by show (t + 1) ≤ 40; omega) hl
    ·
      refine lv_iconst (v := nI 1) hx hb dM_all_20 (by decide) ?_
      refine lv_goto (tgt := 25) hx hb dM_all_21 (by decide) ?_
      refine lv_iadd hx hb dM_all_25 ?_
      refine xf_be (y := nI (xf_cnt (mdAP mh ma mc hd) t + 1)) (by exact nI_add _ _) ?_
      refine lv_istore_n (lv' := [(2, .int (nI (xf_cnt (mdAP mh ma mc hd) t + 1))), (0, .ref h0), (1, .int hd), (3, .int (nI t))]) hx hb dM_all_26 rfl hl (by decide) rfl (fun ls hl => ?_)
      refine lv_iinc (v := nI (t + 1)) (lv' := [(3, .int (nI (t + 1))), (2, .int (nI (xf_cnt (mdAP mh ma mc hd) t + 1))), (0, .ref h0), (1, .int hd)]) hx hb dM_all_27 hl (k := 3) rfl (by exact nI_1 t) (by decide) rfl (fun ls hl => ?_)
      refine lv_goto (tgt := 4) hx hb dM_all_30 (by decide) ?_
      have hl := lv_sub (l' := [(0, .ref h0), (1, .int hd), (2, .int (nI (xf_cnt (mdAP mh ma mc hd) t + 1))), (3, .int (nI (t + 1)))]) hl [2, 3, 1, 0] rfl
      have hl : lv_has ls 4 [(0, .ref h0), (1, .int hd), (2, .int (nI (xf_cnt (mdAP mh ma mc hd) (t + 1)))), (3, .int (nI (t + 1)))] := xf_lv hl (by simp [xf_cnt, mdAP, c7, c17])
      exact ih4 (t + 1) ls (by show 40 - (t + 1) < 40 - t; omega) (by show (t + 1) ≤ 40; omega) hl
end
section
set_option maxHeartbeats 4000000 in
set_option maxRecDepth 100000 in
/-- thrown() -/
theorem m_thrown (l : Launch) (dC : Nat → ClassId) (dI : Nat → Nat → Nat) (h0 b1 b2 b3 b4 b5 : Nat) (cI cZ : ClassId) (mh : Nat → Bool) (ma : Nat → Int32) (mc : Nat → Bool) (mt mn : Nat → Int32) (cd ro : Int32) : Met l yM_thrown wsM_thrown ({ frames := 0, cells := 0, slots := 0, locals := 0 }) (va_Pc [.ref h0] (fun U => va_P (dC, dI) fmCl (mw h0 b1 b2 b3 b4 b5 cI cZ mh ma mc mt mn cd ro) U.heap ∧ va_K (dC, dI) fmCl [(cI, .int), (cZ, .boolean)] U)) (vp_Si (fun r => r = cd)) 0 0 (fun _ => False) := by
  refine Met.ofW (cc := cM_thrown) (maxL := 1) (ret := (some .int)) (by decide) rfl ?_
  intro p e s m args below meth c s₁ B hml hv
  obtain ⟨rfl, hP, hK⟩ := hv
  have hx := B.exec
  have hb := B.bytes
  have hr := B.returns
  have hts := atoms_spec (ws := wsM_thrown) B.pre
  have hown : s.vm.findClass RX1 = some m.cls := findClass_of_methodNamed B.named
  have hlocks := B.notSynchronized
  have hin : ∀ w ∈ u_ws RX1 TM 7, w ∈ wsM_thrown := by decide +kernel
  have hf_code := hts (.fieldLink RX1 26 "FacetCountsModel" "code" "I") (by decide +kernel)
  have hl := lv_entry ([.ref h0]) (n := 1) (Nat.le_of_ble_eq_true rfl)
  rw [lg_entry_eq]
  generalize (lg_sl ([.ref h0]) ++ List.replicate (1 - (lg_sl ([.ref h0])).length) Slot.unset).toArray = ls at hl ⊢
  have hl : lv_has ls 1 [(0, .ref h0)] := hl
  refine lv_aload_n hx hb dM_thrown_0 rfl (lv_at hl 0 rfl) ?_
  refine va_get (D := (dC, dI)) (ci := 1) (v := .int cd) (C := RX1) (T := TM) (N := 7) hx hb hts hin hown hK hP 0 rfl rfl 0 (by decide) hf_code (fun _ h9 => h9) rfl dM_thrown_1 ?_
  exact W.iret (v := cd) hx hb hr (fun t9 ht9 hW9 => ⟨_, rfl, rfl, ht9⟩) (fun q h => nomatch h) dM_thrown_4
set_option maxHeartbeats 4000000 in
set_option maxRecDepth 100000 in
/-- row(pt, ph, pv) -/
theorem m_row (l : Launch) (dC : Nat → ClassId) (dI : Nat → Nat → Nat) (h0 b1 b2 b3 b4 b5 : Nat) (cI cZ : ClassId) (mh : Nat → Bool) (ma : Nat → Int32) (mc : Nat → Bool) (mt mn : Nat → Int32) (cd ro : Int32) (pt ph pv : Int32) : Met l yM_row wsM_row ({ frames := 1, cells := 0, slots := 0, locals := 22 }) (va_Pc [.ref h0, .int pt, .int ph, .int pv] (fun U => va_P (dC, dI) fmCl (mw h0 b1 b2 b3 b4 b5 cI cZ mh ma mc mt mn cd ro) U.heap ∧ va_K (dC, dI) fmCl [(cI, .int), (cZ, .boolean)] U ∧ va_D (fun _ => True) (mw h0 b1 b2 b3 b4 b5 cI cZ mh ma mc mt mn cd ro))) (va_Qi (fun (r : Int32) (u : MdS) => (r, u) = mdRow mh ma mc mt mn ro pt ph pv) (fun u t => va_P (dC, dI) fmCl (mw h0 b1 b2 b3 b4 b5 cI cZ u.1 u.2.1 u.2.2.1 u.2.2.2.1 u.2.2.2.2.1 u.2.2.2.2.2.1 u.2.2.2.2.2.2) t.heap) (xf_A (mw h0 b1 b2 b3 b4 b5 cI cZ mh ma mc mt mn cd ro))) 0 0 (xf_A (mw h0 b1 b2 b3 b4 b5 cI cZ mh ma mc mt mn cd ro)) := by
  refine Met.ofW (cc := cM_row) (maxL := 4) (ret := (some .int)) (by decide) rfl ?_
  intro p e s m args below meth c s₁ B hml hv
  obtain ⟨rfl, hP, hK, hD0⟩ := hv
  have hx := B.exec
  have hb := B.bytes
  have hr := B.returns
  have hts := atoms_spec (ws := wsM_row) B.pre
  have hown : s.vm.findClass RX1 = some m.cls := findClass_of_methodNamed B.named
  have hlocks := B.notSynchronized
  have hin : ∀ w ∈ u_ws RX1 TM 7, w ∈ wsM_row := by decide +kernel
  have hf_code := hts (.fieldLink RX1 26 "FacetCountsModel" "code" "I") (by decide +kernel)
  have hf_has := hts (.fieldLink RX1 7 "FacetCountsModel" "has" "[Z") (by decide +kernel)
  have hf_rows := hts (.fieldLink RX1 44 "FacetCountsModel" "rows" "I") (by decide +kernel)
  have hD := xf_A_self hD0
  generalize hAe : xf_A (mw h0 b1 b2 b3 b4 b5 cI cZ mh ma mc mt mn cd ro) = A at hD ⊢
  have hS : va_S A s.heap s.heap [] := va_S.rf
  have hP : va_P (dC, dI) fmCl (mw h0 b1 b2 b3 b4 b5 cI cZ mh ma mc mt mn cd ro) s.heap := hP
  have hl := lv_entry ([.ref h0, .int pt, .int ph, .int pv]) (n := 4) (Nat.le_of_ble_eq_true rfl)
  rw [lg_entry_eq]
  generalize (lg_sl ([.ref h0, .int pt, .int ph, .int pv]) ++ List.replicate (4 - (lg_sl ([.ref h0, .int pt, .int ph, .int pv])).length) Slot.unset).toArray = ls at hl ⊢
  have hl : lv_has ls 4 [(0, .ref h0), (1, .int pt), (2, .int ph), (3, .int pv)] := hl
  refine lv_aload_n hx hb dM_row_0 rfl (lv_at hl 0 rfl) ?_
  refine lv_iconst (v := nI 0) hx hb dM_row_1 (by decide) ?_
  refine va_put (D := (dC, dI)) (ci := 1) (v := .int (nI 0)) (ty := .int) (C := RX1) (T := TM) (N := 7) hx hb hts hin tyM tyM_ok nmM hown hK hP hD hS 0 rfl rfl 0 (by decide) hf_code (fun _ h9 => h9) rfl (by decide +kernel) rfl rfl (Nat.le_of_ble_eq_true rfl) dM_row_2 (fun H locs hP hD hS => ?_)
  have hP : va_P (dC, dI) fmCl (mw h0 b1 b2 b3 b4 b5 cI cZ mh ma mc mt mn (nI 0) ro) H := hP
  have hD : va_D A (mw h0 b1 b2 b3 b4 b5 cI cZ mh ma mc mt mn (nI 0) ro) := hD
  refine lv_iload_n hx hb dM_row_5 rfl (lv_at hl 1 rfl) ?_
  refine vp_callSi (W.runS (As := [.int pt]) (rest := []) ⟨hx, hb, hml, hown, hts⟩ (m_isThing l pt) (va_cwS 1 hts gM_row_isThing rfl rfl rfl (by decide +kernel) ⟨Nat.le_of_ble_eq_true rfl, Nat.le_of_ble_eq_true rfl⟩) (xf_preS0) rfl rfl hl.1 rfl (lv_room (Nat.le_of_ble_eq_true rfl)) dM_row_6 ⟨Nat.zero_le _, Nat.zero_le _⟩) (fun r hr9 => ?_)
  subst hr9
  refine xf_Beq (tgt := 26) hx hb dM_row_9 (by decide) (fun c9 => ?_) (fun c9 => ?_)
  ·
    refine lv_iconst (v := (-1)) hx hb dM_row_26 (by decide) ?_
    exact W.iret (v := (-1)) hx hb hr (fun t9 ht9 hW9 => ⟨⟨_, (mh, ma, mc, mt, mn, nI 0, ro), rfl, by simp [mdRow, c9], xf_hP ht9 hP⟩, hS.F ht9⟩) hS.2.2 dM_row_27
  ·
    obtain ⟨t, ht, rfl⟩ := xf_in_of c9 (by decide)
    have et : (nI t).toNatClampNeg = t := nI_clamp (by omega)
    refine lv_iload_n hx hb dM_row_12 rfl (lv_at hl 2 rfl) ?_
    refine vp_callSi (W.runS (As := [.int ph]) (rest := []) ⟨hx, hb, hml, hown, hts⟩ (m_isHead l ph) (va_cwS 1 hts gM_row_isHead rfl rfl rfl (by decide +kernel) ⟨Nat.le_of_ble_eq_true rfl, Nat.le_of_ble_eq_true rfl⟩) (xf_preS0) rfl rfl hl.1 rfl (lv_room (Nat.le_of_ble_eq_true rfl)) dM_row_13 ⟨Nat.zero_le _, Nat.zero_le _⟩) (fun r hr9 => ?_)
    subst hr9
    refine xf_Beq (tgt := 26) hx hb dM_row_16 (by decide) (fun c16 => ?_) (fun c16 => ?_)
    ·
      refine lv_iconst (v := (-1)) hx hb dM_row_26 (by decide) ?_
      exact W.iret (v := (-1)) hx hb hr (fun t9 ht9 hW9 => ⟨⟨_, (mh, ma, mc, mt, mn, nI 0, ro), rfl, by simp [mdRow, c9, et, c16], xf_hP ht9 hP⟩, hS.F ht9⟩) hS.2.2 dM_row_27
    ·
      obtain ⟨h, hh, rfl⟩ := xf_in_of c16 (by decide)
      have eh : (nI h).toNatClampNeg = h := nI_clamp (by omega)
      refine lv_iload_n hx hb dM_row_19 rfl (lv_at hl 3 rfl) ?_
      refine vp_callSi (W.runS (As := [.int pv]) (rest := []) ⟨hx, hb, hml, hown, hts⟩ (m_isValue l pv) (va_cwS 1 hts gM_row_isValue rfl rfl rfl (by decide +kernel) ⟨Nat.le_of_ble_eq_true rfl, Nat.le_of_ble_eq_true rfl⟩) (xf_preS0) rfl rfl hl.1 rfl (lv_room (Nat.le_of_ble_eq_true rfl)) dM_row_20 ⟨Nat.zero_le _, Nat.zero_le _⟩) (fun r hr9 => ?_)
      subst hr9
      refine xf_Bne (tgt := 28) hx hb dM_row_23 (by decide) (fun c23 => ?_) (fun c23 => ?_)
      ·
        obtain ⟨v, hv, rfl⟩ := xf_in_of c23 (by decide)
        have ev : (nI v).toNatClampNeg = v := nI_clamp (by omega)
        refine lv_aload_n hx hb dM_row_28 rfl (lv_at hl 0 rfl) ?_
        refine va_get (D := (dC, dI)) (ci := 1) (v := .ref b1) (C := RX1) (T := TM) (N := 7) hx hb hts hin hown hK hP 0 rfl rfl 1 (by decide) hf_has (fun _ h9 => h9) rfl dM_row_29 ?_
        refine lv_iload_n hx hb dM_row_32 rfl (lv_at hl 1 rfl) ?_
        refine lv_iload_n hx hb dM_row_33 rfl (lv_at hl 2 rfl) ?_
        refine lv_iload_n hx hb dM_row_34 rfl (lv_at hl 3 rfl) ?_
        refine vp_callSi (W.runS (As := [.int (nI t), .int (nI h), .int (nI v)]) (rest := [.ref b1]) ⟨hx, hb, hml, hown, hts⟩ (m_at l t h v) (va_cwS 3 hts gM_row_at rfl rfl rfl (by decide +kernel) ⟨Nat.le_of_ble_eq_true rfl, Nat.le_of_ble_eq_true rfl⟩) (xf_preS0) rfl rfl hl.1 rfl (lv_room (Nat.le_of_ble_eq_true rfl)) dM_row_35 ⟨Nat.zero_le _, Nat.zero_le _⟩) (fun r hr9 => ?_)
        subst hr9
        refine xf_zald hx hb hK hP 1 1 rfl rfl (j := ((t * 8 + h) * 32 + v)) (by omega) (by decide) dM_row_38 ?_
        refine xf_Beq (tgt := 44) hx hb dM_row_39 (by decide) (fun c39 => ?_) (fun c39 => ?_)
        ·
          refine lv_aload_n hx hb dM_row_44 rfl (lv_at hl 0 rfl) ?_
          refine va_get (D := (dC, dI)) (ci := 1) (v := .int ro) (C := RX1) (T := TM) (N := 7) hx hb hts hin hown hK hP 0 rfl rfl 6 (by decide) hf_rows (fun _ h9 => h9) rfl dM_row_45 ?_
          refine lv_sipush (v := nI 300) hx hb dM_row_48 (by decide) ?_
          refine lv_icmp_ne (tgt := 57) hx hb dM_row_51 (by decide) (fun c51 => ?_) (fun c51 => ?_)
          ·
            refine lv_aload_n hx hb dM_row_57 rfl (lv_at hl 0 rfl) ?_
            refine va_get (D := (dC, dI)) (ci := 1) (v := .ref b1) (C := RX1) (T := TM) (N := 7) hx hb hts hin hown hK hP 0 rfl rfl 1 (by decide) hf_has (fun _ h9 => h9) rfl dM_row_58 ?_
            refine lv_iload_n hx hb dM_row_61 rfl (lv_at hl 1 rfl) ?_
            refine lv_iload_n hx hb dM_row_62 rfl (lv_at hl 2 rfl) ?_
            refine lv_iload_n hx hb dM_row_63 rfl (lv_at hl 3 rfl) ?_
            refine vp_callSi (W.runS (As := [.int (nI t), .int (nI h), .int (nI v)]) (rest := [.ref b1]) ⟨hx, hb, hml, hown, hts⟩ (m_at l t h v) (va_cwS 3 hts gM_row_at rfl rfl rfl (by decide +kernel) ⟨Nat.le_of_ble_eq_true rfl, Nat.le_of_ble_eq_true rfl⟩) (xf_preS0) rfl rfl hl.1 rfl (lv_room (Nat.le_of_ble_eq_true rfl)) dM_row_64 ⟨Nat.zero_le _, Nat.zero_le _⟩) (fun r hr9 => ?_)
            subst hr9
            refine lv_iconst (v := nI 1) hx hb dM_row_67 (by decide) ?_
            refine xf_zast (b := true) hx hb hK hP hD hS 1 1 rfl rfl rfl (j := ((t * 8 + h) * 32 + v)) (by omega) (by decide) dM_row_68 (fun H locs hP hD hS => ?_)
            have hP : va_P (dC, dI) fmCl (mw h0 b1 b2 b3 b4 b5 cI cZ (va_up mh ((t * 8 + h) * 32 + v) true) ma mc mt mn (nI 0) ro) H := hP
            have hD : va_D A (mw h0 b1 b2 b3 b4 b5 cI cZ (va_up mh ((t * 8 + h) * 32 + v) true) ma mc mt mn (nI 0) ro) := hD
            refine lv_aload_n hx hb dM_row_69 rfl (lv_at hl 0 rfl) ?_
            refine lv_dup hx hb dM_row_70 rfl ?_
            refine va_get (D := (dC, dI)) (ci := 1) (v := .int ro) (C := RX1) (T := TM) (N := 7) hx hb hts hin hown hK hP 0 rfl rfl 6 (by decide) hf_rows (fun _ h9 => h9) rfl dM_row_71 ?_
            refine lv_iconst (v := nI 1) hx hb dM_row_74 (by decide) ?_
            refine lv_iadd hx hb dM_row_75 ?_
            refine va_put (D := (dC, dI)) (ci := 1) (v := .int (ro + (nI 1))) (ty := .int) (C := RX1) (T := TM) (N := 7) hx hb hts hin tyM tyM_ok nmM hown hK hP hD hS 0 rfl rfl 6 (by decide) hf_rows (fun _ h9 => h9) rfl (by decide +kernel) rfl rfl (Nat.le_of_ble_eq_true rfl) dM_row_76 (fun H locs hP hD hS => ?_)
            have hP : va_P (dC, dI) fmCl (mw h0 b1 b2 b3 b4 b5 cI cZ (va_up mh ((t * 8 + h) * 32 + v) true) ma mc mt mn (nI 0) (ro + (nI 1))) H := hP
            have hD : va_D A (mw h0 b1 b2 b3 b4 b5 cI cZ (va_up mh ((t * 8 + h) * 32 + v) true) ma mc mt mn (nI 0) (ro + (nI 1))) := hD
            refine lv_iconst (v := nI 1) hx hb dM_row_79 (by decide) ?_
            exact W.iret (v := nI 1) hx hb hr (fun t9 ht9 hW9 => ⟨⟨_, (va_up mh ((t * 8 + h) * 32 + v) true, ma, mc, mt, mn, nI 0, ro + (nI 1)), rfl, by simp [mdRow, c9, et, c16, eh, c23, ev, c39, c51], xf_hP ht9 hP⟩, hS.F ht9⟩) hS.2.2 dM_row_80
          ·
            refine lv_bipush (v := (-2)) hx hb dM_row_54 (by decide) ?_
            exact W.iret (v := (-2)) hx hb hr (fun t9 ht9 hW9 => ⟨⟨_, (mh, ma, mc, mt, mn, nI 0, ro), rfl, by simp [mdRow, c9, et, c16, eh, c23, ev, c39, c51], xf_hP ht9 hP⟩, hS.F ht9⟩) hS.2.2 dM_row_56
        ·
          refine lv_iconst (v := nI 0) hx hb dM_row_42 (by decide) ?_
          exact W.iret (v := nI 0) hx hb hr (fun t9 ht9 hW9 => ⟨⟨_, (mh, ma, mc, mt, mn, nI 0, ro), rfl, by simp [mdRow, c9, et, c16, eh, c23, ev, c39], xf_hP ht9 hP⟩, hS.F ht9⟩) hS.2.2 dM_row_43
      ·
        refine lv_iconst (v := (-1)) hx hb dM_row_26 (by decide) ?_
        exact W.iret (v := (-1)) hx hb hr (fun t9 ht9 hW9 => ⟨⟨_, (mh, ma, mc, mt, mn, nI 0, ro), rfl, by simp [mdRow, c9, et, c16, eh, c23], xf_hP ht9 hP⟩, hS.F ht9⟩) hS.2.2 dM_row_27
set_option maxHeartbeats 4000000 in
set_option maxRecDepth 100000 in
/-- drop(pt, ph, pv) -/
theorem m_drop (l : Launch) (dC : Nat → ClassId) (dI : Nat → Nat → Nat) (h0 b1 b2 b3 b4 b5 : Nat) (cI cZ : ClassId) (mh : Nat → Bool) (ma : Nat → Int32) (mc : Nat → Bool) (mt mn : Nat → Int32) (cd ro : Int32) (pt ph pv : Int32) : Met l yM_drop wsM_drop ({ frames := 1, cells := 0, slots := 0, locals := 22 }) (va_Pc [.ref h0, .int pt, .int ph, .int pv] (fun U => va_P (dC, dI) fmCl (mw h0 b1 b2 b3 b4 b5 cI cZ mh ma mc mt mn cd ro) U.heap ∧ va_K (dC, dI) fmCl [(cI, .int), (cZ, .boolean)] U ∧ va_D (fun _ => True) (mw h0 b1 b2 b3 b4 b5 cI cZ mh ma mc mt mn cd ro))) (va_Qi (fun (r : Int32) (u : MdS) => (r, u) = mdDrop mh ma mc mt mn ro pt ph pv) (fun u t => va_P (dC, dI) fmCl (mw h0 b1 b2 b3 b4 b5 cI cZ u.1 u.2.1 u.2.2.1 u.2.2.2.1 u.2.2.2.2.1 u.2.2.2.2.2.1 u.2.2.2.2.2.2) t.heap) (xf_A (mw h0 b1 b2 b3 b4 b5 cI cZ mh ma mc mt mn cd ro))) 0 0 (xf_A (mw h0 b1 b2 b3 b4 b5 cI cZ mh ma mc mt mn cd ro)) := by
  refine Met.ofW (cc := cM_drop) (maxL := 4) (ret := (some .int)) (by decide) rfl ?_
  intro p e s m args below meth c s₁ B hml hv
  obtain ⟨rfl, hP, hK, hD0⟩ := hv
  have hx := B.exec
  have hb := B.bytes
  have hr := B.returns
  have hts := atoms_spec (ws := wsM_drop) B.pre
  have hown : s.vm.findClass RX1 = some m.cls := findClass_of_methodNamed B.named
  have hlocks := B.notSynchronized
  have hin : ∀ w ∈ u_ws RX1 TM 7, w ∈ wsM_drop := by decide +kernel
  have hf_code := hts (.fieldLink RX1 26 "FacetCountsModel" "code" "I") (by decide +kernel)
  have hf_has := hts (.fieldLink RX1 7 "FacetCountsModel" "has" "[Z") (by decide +kernel)
  have hf_rows := hts (.fieldLink RX1 44 "FacetCountsModel" "rows" "I") (by decide +kernel)
  have hD := xf_A_self hD0
  generalize hAe : xf_A (mw h0 b1 b2 b3 b4 b5 cI cZ mh ma mc mt mn cd ro) = A at hD ⊢
  have hS : va_S A s.heap s.heap [] := va_S.rf
  have hP : va_P (dC, dI) fmCl (mw h0 b1 b2 b3 b4 b5 cI cZ mh ma mc mt mn cd ro) s.heap := hP
  have hl := lv_entry ([.ref h0, .int pt, .int ph, .int pv]) (n := 4) (Nat.le_of_ble_eq_true rfl)
  rw [lg_entry_eq]
  generalize (lg_sl ([.ref h0, .int pt, .int ph, .int pv]) ++ List.replicate (4 - (lg_sl ([.ref h0, .int pt, .int ph, .int pv])).length) Slot.unset).toArray = ls at hl ⊢
  have hl : lv_has ls 4 [(0, .ref h0), (1, .int pt), (2, .int ph), (3, .int pv)] := hl
  refine lv_aload_n hx hb dM_drop_0 rfl (lv_at hl 0 rfl) ?_
  refine lv_iconst (v := nI 0) hx hb dM_drop_1 (by decide) ?_
  refine va_put (D := (dC, dI)) (ci := 1) (v := .int (nI 0)) (ty := .int) (C := RX1) (T := TM) (N := 7) hx hb hts hin tyM tyM_ok nmM hown hK hP hD hS 0 rfl rfl 0 (by decide) hf_code (fun _ h9 => h9) rfl (by decide +kernel) rfl rfl (Nat.le_of_ble_eq_true rfl) dM_drop_2 (fun H locs hP hD hS => ?_)
  have hP : va_P (dC, dI) fmCl (mw h0 b1 b2 b3 b4 b5 cI cZ mh ma mc mt mn (nI 0) ro) H := hP
  have hD : va_D A (mw h0 b1 b2 b3 b4 b5 cI cZ mh ma mc mt mn (nI 0) ro) := hD
  refine lv_iload_n hx hb dM_drop_5 rfl (lv_at hl 1 rfl) ?_
  refine vp_callSi (W.runS (As := [.int pt]) (rest := []) ⟨hx, hb, hml, hown, hts⟩ (m_isThing l pt) (va_cwS 1 hts gM_drop_isThing rfl rfl rfl (by decide +kernel) ⟨Nat.le_of_ble_eq_true rfl, Nat.le_of_ble_eq_true rfl⟩) (xf_preS0) rfl rfl hl.1 rfl (lv_room (Nat.le_of_ble_eq_true rfl)) dM_drop_6 ⟨Nat.zero_le _, Nat.zero_le _⟩) (fun r hr9 => ?_)
  subst hr9
  refine xf_Beq (tgt := 26) hx hb dM_drop_9 (by decide) (fun c9 => ?_) (fun c9 => ?_)
  ·
    refine lv_iconst (v := (-1)) hx hb dM_drop_26 (by decide) ?_
    exact W.iret (v := (-1)) hx hb hr (fun t9 ht9 hW9 => ⟨⟨_, (mh, ma, mc, mt, mn, nI 0, ro), rfl, by simp [mdDrop, c9], xf_hP ht9 hP⟩, hS.F ht9⟩) hS.2.2 dM_drop_27
  ·
    obtain ⟨t, ht, rfl⟩ := xf_in_of c9 (by decide)
    have et : (nI t).toNatClampNeg = t := nI_clamp (by omega)
    refine lv_iload_n hx hb dM_drop_12 rfl (lv_at hl 2 rfl) ?_
    refine vp_callSi (W.runS (As := [.int ph]) (rest := []) ⟨hx, hb, hml, hown, hts⟩ (m_isHead l ph) (va_cwS 1 hts gM_drop_isHead rfl rfl rfl (by decide +kernel) ⟨Nat.le_of_ble_eq_true rfl, Nat.le_of_ble_eq_true rfl⟩) (xf_preS0) rfl rfl hl.1 rfl (lv_room (Nat.le_of_ble_eq_true rfl)) dM_drop_13 ⟨Nat.zero_le _, Nat.zero_le _⟩) (fun r hr9 => ?_)
    subst hr9
    refine xf_Beq (tgt := 26) hx hb dM_drop_16 (by decide) (fun c16 => ?_) (fun c16 => ?_)
    ·
      refine lv_iconst (v := (-1)) hx hb dM_drop_26 (by decide) ?_
      exact W.iret (v := (-1)) hx hb hr (fun t9 ht9 hW9 => ⟨⟨_, (mh, ma, mc, mt, mn, nI 0, ro), rfl, by simp [mdDrop, c9, et, c16], xf_hP ht9 hP⟩, hS.F ht9⟩) hS.2.2 dM_drop_27
    ·
      obtain ⟨h, hh, rfl⟩ := xf_in_of c16 (by decide)
      have eh : (nI h).toNatClampNeg = h := nI_clamp (by omega)
      refine lv_iload_n hx hb dM_drop_19 rfl (lv_at hl 3 rfl) ?_
      refine vp_callSi (W.runS (As := [.int pv]) (rest := []) ⟨hx, hb, hml, hown, hts⟩ (m_isValue l pv) (va_cwS 1 hts gM_drop_isValue rfl rfl rfl (by decide +kernel) ⟨Nat.le_of_ble_eq_true rfl, Nat.le_of_ble_eq_true rfl⟩) (xf_preS0) rfl rfl hl.1 rfl (lv_room (Nat.le_of_ble_eq_true rfl)) dM_drop_20 ⟨Nat.zero_le _, Nat.zero_le _⟩) (fun r hr9 => ?_)
      subst hr9
      refine xf_Bne (tgt := 28) hx hb dM_drop_23 (by decide) (fun c23 => ?_) (fun c23 => ?_)
      ·
        obtain ⟨v, hv, rfl⟩ := xf_in_of c23 (by decide)
        have ev : (nI v).toNatClampNeg = v := nI_clamp (by omega)
        refine lv_aload_n hx hb dM_drop_28 rfl (lv_at hl 0 rfl) ?_
        refine va_get (D := (dC, dI)) (ci := 1) (v := .ref b1) (C := RX1) (T := TM) (N := 7) hx hb hts hin hown hK hP 0 rfl rfl 1 (by decide) hf_has (fun _ h9 => h9) rfl dM_drop_29 ?_
        refine lv_iload_n hx hb dM_drop_32 rfl (lv_at hl 1 rfl) ?_
        refine lv_iload_n hx hb dM_drop_33 rfl (lv_at hl 2 rfl) ?_
        refine lv_iload_n hx hb dM_drop_34 rfl (lv_at hl 3 rfl) ?_
        refine vp_callSi (W.runS (As := [.int (nI t), .int (nI h), .int (nI v)]) (rest := [.ref b1]) ⟨hx, hb, hml, hown, hts⟩ (m_at l t h v) (va_cwS 3 hts gM_drop_at rfl rfl rfl (by decide +kernel) ⟨Nat.le_of_ble_eq_true rfl, Nat.le_of_ble_eq_true rfl⟩) (xf_preS0) rfl rfl hl.1 rfl (lv_room (Nat.le_of_ble_eq_true rfl)) dM_drop_35 ⟨Nat.zero_le _, Nat.zero_le _⟩) (fun r hr9 => ?_)
        subst hr9
        refine xf_zald hx hb hK hP 1 1 rfl rfl (j := ((t * 8 + h) * 32 + v)) (by omega) (by decide) dM_drop_38 ?_
        refine xf_Bne (tgt := 44) hx hb dM_drop_39 (by decide) (fun c39 => ?_) (fun c39 => ?_)
        ·
          refine lv_aload_n hx hb dM_drop_44 rfl (lv_at hl 0 rfl) ?_
          refine va_get (D := (dC, dI)) (ci := 1) (v := .ref b1) (C := RX1) (T := TM) (N := 7) hx hb hts hin hown hK hP 0 rfl rfl 1 (by decide) hf_has (fun _ h9 => h9) rfl dM_drop_45 ?_
          refine lv_iload_n hx hb dM_drop_48 rfl (lv_at hl 1 rfl) ?_
          refine lv_iload_n hx hb dM_drop_49 rfl (lv_at hl 2 rfl) ?_
          refine lv_iload_n hx hb dM_drop_50 rfl (lv_at hl 3 rfl) ?_
          refine vp_callSi (W.runS (As := [.int (nI t), .int (nI h), .int (nI v)]) (rest := [.ref b1]) ⟨hx, hb, hml, hown, hts⟩ (m_at l t h v) (va_cwS 3 hts gM_drop_at rfl rfl rfl (by decide +kernel) ⟨Nat.le_of_ble_eq_true rfl, Nat.le_of_ble_eq_true rfl⟩) (xf_preS0) rfl rfl hl.1 rfl (lv_room (Nat.le_of_ble_eq_true rfl)) dM_drop_51 ⟨Nat.zero_le _, Nat.zero_le _⟩) (fun r hr9 => ?_)
          subst hr9
          refine lv_iconst (v := nI 0) hx hb dM_drop_54 (by decide) ?_
          refine xf_zast (b := false) hx hb hK hP hD hS 1 1 rfl rfl rfl (j := ((t * 8 + h) * 32 + v)) (by omega) (by decide) dM_drop_55 (fun H locs hP hD hS => ?_)
          have hP : va_P (dC, dI) fmCl (mw h0 b1 b2 b3 b4 b5 cI cZ (va_up mh ((t * 8 + h) * 32 + v) false) ma mc mt mn (nI 0) ro) H := hP
          have hD : va_D A (mw h0 b1 b2 b3 b4 b5 cI cZ (va_up mh ((t * 8 + h) * 32 + v) false) ma mc mt mn (nI 0) ro) := hD
          refine lv_aload_n hx hb dM_drop_56 rfl (lv_at hl 0 rfl) ?_
          refine lv_dup hx hb dM_drop_57 rfl ?_
          refine va_get (D := (dC, dI)) (ci := 1) (v := .int ro) (C := RX1) (T := TM) (N := 7) hx hb hts hin hown hK hP 0 rfl rfl 6 (by decide) hf_rows (fun _ h9 => h9) rfl dM_drop_58 ?_
          refine lv_iconst (v := nI 1) hx hb dM_drop_61 (by decide) ?_
          refine lv_isub hx hb dM_drop_62 ?_
          refine va_put (D := (dC, dI)) (ci := 1) (v := .int (ro - (nI 1))) (ty := .int) (C := RX1) (T := TM) (N := 7) hx hb hts hin tyM tyM_ok nmM hown hK hP hD hS 0 rfl rfl 6 (by decide) hf_rows (fun _ h9 => h9) rfl (by decide +kernel) rfl rfl (Nat.le_of_ble_eq_true rfl) dM_drop_63 (fun H locs hP hD hS => ?_)
          have hP : va_P (dC, dI) fmCl (mw h0 b1 b2 b3 b4 b5 cI cZ (va_up mh ((t * 8 + h) * 32 + v) false) ma mc mt mn (nI 0) (ro - (nI 1))) H := hP
          have hD : va_D A (mw h0 b1 b2 b3 b4 b5 cI cZ (va_up mh ((t * 8 + h) * 32 + v) false) ma mc mt mn (nI 0) (ro - (nI 1))) := hD
          refine lv_iconst (v := nI 1) hx hb dM_drop_66 (by decide) ?_
          exact W.iret (v := nI 1) hx hb hr (fun t9 ht9 hW9 => ⟨⟨_, (va_up mh ((t * 8 + h) * 32 + v) false, ma, mc, mt, mn, nI 0, ro - (nI 1)), rfl, by simp [mdDrop, c9, et, c16, eh, c23, ev, c39], xf_hP ht9 hP⟩, hS.F ht9⟩) hS.2.2 dM_drop_67
        ·
          refine lv_iconst (v := nI 0) hx hb dM_drop_42 (by decide) ?_
          exact W.iret (v := nI 0) hx hb hr (fun t9 ht9 hW9 => ⟨⟨_, (mh, ma, mc, mt, mn, nI 0, ro), rfl, by simp [mdDrop, c9, et, c16, eh, c23, ev, c39], xf_hP ht9 hP⟩, hS.F ht9⟩) hS.2.2 dM_drop_43
      ·
        refine lv_iconst (v := (-1)) hx hb dM_drop_26 (by decide) ?_
        exact W.iret (v := (-1)) hx hb hr (fun t9 ht9 hW9 => ⟨⟨_, (mh, ma, mc, mt, mn, nI 0, ro), rfl, by simp [mdDrop, c9, et, c16, eh, c23], xf_hP ht9 hP⟩, hS.F ht9⟩) hS.2.2 dM_drop_27
set_option maxHeartbeats 4000000 in
set_option maxRecDepth 100000 in
/-- above(pk, pu) -/
theorem m_above (l : Launch) (dC : Nat → ClassId) (dI : Nat → Nat → Nat) (h0 b1 b2 b3 b4 b5 : Nat) (cI cZ : ClassId) (mh : Nat → Bool) (ma : Nat → Int32) (mc : Nat → Bool) (mt mn : Nat → Int32) (cd ro : Int32) (pk pu : Int32) (hOk : mdOk ma) (hAc : mdAc ma) : Met l yM_above wsM_above ({ frames := 1, cells := 0, slots := 0, locals := 23 }) (va_Pc [.ref h0, .int pk, .int pu] (fun U => va_P (dC, dI) fmCl (mw h0 b1 b2 b3 b4 b5 cI cZ mh ma mc mt mn cd ro) U.heap ∧ va_K (dC, dI) fmCl [(cI, .int), (cZ, .boolean)] U ∧ va_D (fun _ => True) (mw h0 b1 b2 b3 b4 b5 cI cZ mh ma mc mt mn cd ro))) (va_Qi (fun (r : Int32) (u : MdS) => (r, u) = mdAbove mh ma mc mt mn ro pk pu) (fun u t => va_P (dC, dI) fmCl (mw h0 b1 b2 b3 b4 b5 cI cZ u.1 u.2.1 u.2.2.1 u.2.2.2.1 u.2.2.2.2.1 u.2.2.2.2.2.1 u.2.2.2.2.2.2) t.heap) (xf_A (mw h0 b1 b2 b3 b4 b5 cI cZ mh ma mc mt mn cd ro))) 0 0 (xf_A (mw h0 b1 b2 b3 b4 b5 cI cZ mh ma mc mt mn cd ro)) := by
  refine Met.ofW (cc := cM_above) (maxL := 3) (ret := (some .int)) (by decide) rfl ?_
  intro p e s m args below meth c s₁ B hml hv
  obtain ⟨rfl, hP, hK, hD0⟩ := hv
  have hx := B.exec
  have hb := B.bytes
  have hr := B.returns
  have hts := atoms_spec (ws := wsM_above) B.pre
  have hown : s.vm.findClass RX1 = some m.cls := findClass_of_methodNamed B.named
  have hlocks := B.notSynchronized
  have hin : ∀ w ∈ u_ws RX1 TM 7, w ∈ wsM_above := by decide +kernel
  have hf_code := hts (.fieldLink RX1 26 "FacetCountsModel" "code" "I") (by decide +kernel)
  have hf_above := hts (.fieldLink RX1 13 "FacetCountsModel" "above" "[I") (by decide +kernel)
  have hD := xf_A_self hD0
  generalize hAe : xf_A (mw h0 b1 b2 b3 b4 b5 cI cZ mh ma mc mt mn cd ro) = A at hD ⊢
  have hS : va_S A s.heap s.heap [] := va_S.rf
  have hP : va_P (dC, dI) fmCl (mw h0 b1 b2 b3 b4 b5 cI cZ mh ma mc mt mn cd ro) s.heap := hP
  have hl := lv_entry ([.ref h0, .int pk, .int pu]) (n := 3) (Nat.le_of_ble_eq_true rfl)
  rw [lg_entry_eq]
  generalize (lg_sl ([.ref h0, .int pk, .int pu]) ++ List.replicate (3 - (lg_sl ([.ref h0, .int pk, .int pu])).length) Slot.unset).toArray = ls at hl ⊢
  have hl : lv_has ls 3 [(0, .ref h0), (1, .int pk), (2, .int pu)] := hl
  refine lv_aload_n hx hb dM_above_0 rfl (lv_at hl 0 rfl) ?_
  refine lv_iconst (v := nI 0) hx hb dM_above_1 (by decide) ?_
  refine va_put (D := (dC, dI)) (ci := 1) (v := .int (nI 0)) (ty := .int) (C := RX1) (T := TM) (N := 7) hx hb hts hin tyM tyM_ok nmM hown hK hP hD hS 0 rfl rfl 0 (by decide) hf_code (fun _ h9 => h9) rfl (by decide +kernel) rfl rfl (Nat.le_of_ble_eq_true rfl) dM_above_2 (fun H locs hP hD hS => ?_)
  have hP : va_P (dC, dI) fmCl (mw h0 b1 b2 b3 b4 b5 cI cZ mh ma mc mt mn (nI 0) ro) H := hP
  have hD : va_D A (mw h0 b1 b2 b3 b4 b5 cI cZ mh ma mc mt mn (nI 0) ro) := hD
  refine lv_iload_n hx hb dM_above_5 rfl (lv_at hl 1 rfl) ?_
  refine vp_callSi (W.runS (As := [.int pk]) (rest := []) ⟨hx, hb, hml, hown, hts⟩ (m_isValue l pk) (va_cwS 1 hts gM_above_isValue rfl rfl rfl (by decide +kernel) ⟨Nat.le_of_ble_eq_true rfl, Nat.le_of_ble_eq_true rfl⟩) (xf_preS0) rfl rfl hl.1 rfl (lv_room (Nat.le_of_ble_eq_true rfl)) dM_above_6 ⟨Nat.zero_le _, Nat.zero_le _⟩) (fun r hr9 => ?_)
  subst hr9
  refine xf_Beq (tgt := 24) hx hb dM_above_9 (by decide) (fun c9 => ?_) (fun c9 => ?_)
  ·
    refine lv_iconst (v := (-1)) hx hb dM_above_24 (by decide) ?_
    exact W.iret (v := (-1)) hx hb hr (fun t9 ht9 hW9 => ⟨⟨_, (mh, ma, mc, mt, mn, nI 0, ro), rfl, by simp [mdAbove, c9], xf_hP ht9 hP⟩, hS.F ht9⟩) hS.2.2 dM_above_25
  ·
    obtain ⟨k, hk, rfl⟩ := xf_in_of c9 (by decide)
    have ek : (nI k).toNatClampNeg = k := nI_clamp (by omega)
    refine lv_iload_n hx hb dM_above_12 rfl (lv_at hl 2 rfl) ?_
    refine lv_iconst (v := (-1)) hx hb dM_above_13 (by decide) ?_
    refine lv_icmp_eq (tgt := 26) hx hb dM_above_14 (by decide) (fun c14 => ?_) (fun c14 => ?_)
    ·
      refine lv_aload_n hx hb dM_above_26 rfl (lv_at hl 0 rfl) ?_
      refine va_get (D := (dC, dI)) (ci := 1) (v := .ref b2) (C := RX1) (T := TM) (N := 7) hx hb hts hin hown hK hP 0 rfl rfl 2 (by decide) hf_above (fun _ h9 => h9) rfl dM_above_27 ?_
      refine lv_iload_n hx hb dM_above_30 rfl (lv_at hl 1 rfl) ?_
      refine xf_iald hx hb hK hP 2 0 rfl rfl (j := k) (by omega) (by decide) dM_above_31 ?_
      refine lv_iload_n hx hb dM_above_32 rfl (lv_at hl 2 rfl) ?_
      refine lv_icmp_ne (tgt := 38) hx hb dM_above_33 (by decide) (fun c33 => ?_) (fun c33 => ?_)
      ·
        refine lv_iload_n hx hb dM_above_38 rfl (lv_at hl 2 rfl) ?_
        refine lv_iconst (v := (-1)) hx hb dM_above_39 (by decide) ?_
        refine lv_icmp_eq (tgt := 55) hx hb dM_above_40 (by decide) (fun c40 => ?_) (fun c40 => ?_)
        ·
          refine lv_aload_n hx hb dM_above_55 rfl (lv_at hl 0 rfl) ?_
          refine va_get (D := (dC, dI)) (ci := 1) (v := .ref b2) (C := RX1) (T := TM) (N := 7) hx hb hts hin hown hK hP 0 rfl rfl 2 (by decide) hf_above (fun _ h9 => h9) rfl dM_above_56 ?_
          refine lv_iload_n hx hb dM_above_59 rfl (lv_at hl 1 rfl) ?_
          refine lv_iload_n hx hb dM_above_60 rfl (lv_at hl 2 rfl) ?_
          refine xf_iast hx hb hK hP hD hS 2 0 rfl rfl (j := k) (by omega) (by decide) dM_above_61 (fun H locs hP hD hS => ?_)
          have hP : va_P (dC, dI) fmCl (mw h0 b1 b2 b3 b4 b5 cI cZ mh (upd ma k pu) mc mt mn (nI 0) ro) H := hP
          have hD : va_D A (mw h0 b1 b2 b3 b4 b5 cI cZ mh (upd ma k pu) mc mt mn (nI 0) ro) := hD
          refine lv_iconst (v := nI 1) hx hb dM_above_62 (by decide) ?_
          exact W.iret (v := nI 1) hx hb hr (fun t9 ht9 hW9 => ⟨⟨_, (mh, upd ma k pu, mc, mt, mn, nI 0, ro), rfl, by subst c14; simp [mdAbove, c9, ek, c33], xf_hP ht9 hP⟩, hS.F ht9⟩) hS.2.2 dM_above_63
        ·
          exact absurd c14 c40
      ·
        refine lv_iconst (v := nI 0) hx hb dM_above_36 (by decide) ?_
        exact W.iret (v := nI 0) hx hb hr (fun t9 ht9 hW9 => ⟨⟨_, (mh, ma, mc, mt, mn, nI 0, ro), rfl, by subst c14; simp [mdAbove, c9, ek, c33], xf_hP ht9 hP⟩, hS.F ht9⟩) hS.2.2 dM_above_37
    ·
      refine lv_iload_n hx hb dM_above_17 rfl (lv_at hl 2 rfl) ?_
      refine vp_callSi (W.runS (As := [.int pu]) (rest := []) ⟨hx, hb, hml, hown, hts⟩ (m_isValue l pu) (va_cwS 1 hts gM_above_isValue rfl rfl rfl (by decide +kernel) ⟨Nat.le_of_ble_eq_true rfl, Nat.le_of_ble_eq_true rfl⟩) (xf_preS0) rfl rfl hl.1 rfl (lv_room (Nat.le_of_ble_eq_true rfl)) dM_above_18 ⟨Nat.zero_le _, Nat.zero_le _⟩) (fun r hr9 => ?_)
      subst hr9
      refine xf_Bne (tgt := 26) hx hb dM_above_21 (by decide) (fun c21 => ?_) (fun c21 => ?_)
      ·
        obtain ⟨u, hu, rfl⟩ := xf_in_of c21 (by decide)
        have eu : (nI u).toNatClampNeg = u := nI_clamp (by omega)
        refine lv_aload_n hx hb dM_above_26 rfl (lv_at hl 0 rfl) ?_
        refine va_get (D := (dC, dI)) (ci := 1) (v := .ref b2) (C := RX1) (T := TM) (N := 7) hx hb hts hin hown hK hP 0 rfl rfl 2 (by decide) hf_above (fun _ h9 => h9) rfl dM_above_27 ?_
        refine lv_iload_n hx hb dM_above_30 rfl (lv_at hl 1 rfl) ?_
        refine xf_iald hx hb hK hP 2 0 rfl rfl (j := k) (by omega) (by decide) dM_above_31 ?_
        refine lv_iload_n hx hb dM_above_32 rfl (lv_at hl 2 rfl) ?_
        refine lv_icmp_ne (tgt := 38) hx hb dM_above_33 (by decide) (fun c33 => ?_) (fun c33 => ?_)
        ·
          refine lv_iload_n hx hb dM_above_38 rfl (lv_at hl 2 rfl) ?_
          refine lv_iconst (v := (-1)) hx hb dM_above_39 (by decide) ?_
          refine lv_icmp_eq (tgt := 55) hx hb dM_above_40 (by decide) (fun c40 => ?_) (fun c40 => ?_)
          ·
            exact absurd c40 c14
          ·
            refine lv_aload_n hx hb dM_above_43 rfl (lv_at hl 0 rfl) ?_
            refine lv_iload_n hx hb dM_above_44 rfl (lv_at hl 2 rfl) ?_
            refine lv_iload_n hx hb dM_above_45 rfl (lv_at hl 1 rfl) ?_
            refine vp_callSi (W.runV (As := [.int (nI u), .int (nI k)]) (rest := []) ⟨hx, hb, hml, hown, hts⟩ (m_isUnder l dC dI h0 b1 b2 b3 b4 b5 cI cZ mh ma mc mt mn (nI 0) ro u k (by omega) (by omega) hOk hAc) (cwV 2 hts gM_above_isUnder rfl rfl rfl (by decide +kernel) ⟨Nat.le_of_ble_eq_true rfl, Nat.le_of_ble_eq_true rfl⟩) (xf_preV (ci := 1) (RX1, TM, 7) hK hP rfl rfl) rfl rfl hl.1 rfl (lv_room (Nat.le_of_ble_eq_true rfl)) dM_above_46 ⟨Nat.zero_le _, Nat.zero_le _⟩) (fun r hr9 => ?_)
            subst hr9
            refine xf_Beq (tgt := 55) hx hb dM_above_49 (by decide) (fun c49 => ?_) (fun c49 => ?_)
            ·
              refine lv_aload_n hx hb dM_above_55 rfl (lv_at hl 0 rfl) ?_
              refine va_get (D := (dC, dI)) (ci := 1) (v := .ref b2) (C := RX1) (T := TM) (N := 7) hx hb hts hin hown hK hP 0 rfl rfl 2 (by decide) hf_above (fun _ h9 => h9) rfl dM_above_56 ?_
              refine lv_iload_n hx hb dM_above_59 rfl (lv_at hl 1 rfl) ?_
              refine lv_iload_n hx hb dM_above_60 rfl (lv_at hl 2 rfl) ?_
              refine xf_iast hx hb hK hP hD hS 2 0 rfl rfl (j := k) (by omega) (by decide) dM_above_61 (fun H locs hP hD hS => ?_)
              have hP : va_P (dC, dI) fmCl (mw h0 b1 b2 b3 b4 b5 cI cZ mh (upd ma k (nI u)) mc mt mn (nI 0) ro) H := hP
              have hD : va_D A (mw h0 b1 b2 b3 b4 b5 cI cZ mh (upd ma k (nI u)) mc mt mn (nI 0) ro) := hD
              refine lv_iconst (v := nI 1) hx hb dM_above_62 (by decide) ?_
              exact W.iret (v := nI 1) hx hb hr (fun t9 ht9 hW9 => ⟨⟨_, (mh, upd ma k (nI u), mc, mt, mn, nI 0, ro), rfl, by simp [mdAbove, c9, ek, c14, c21, eu, c33, c49], xf_hP ht9 hP⟩, hS.F ht9⟩) hS.2.2 dM_above_63
            ·
              refine lv_bipush (v := (-3)) hx hb dM_above_52 (by decide) ?_
              exact W.iret (v := (-3)) hx hb hr (fun t9 ht9 hW9 => ⟨⟨_, (mh, ma, mc, mt, mn, nI 0, ro), rfl, by simp [mdAbove, c9, ek, c14, c21, eu, c33, c49], xf_hP ht9 hP⟩, hS.F ht9⟩) hS.2.2 dM_above_54
        ·
          refine lv_iconst (v := nI 0) hx hb dM_above_36 (by decide) ?_
          exact W.iret (v := nI 0) hx hb hr (fun t9 ht9 hW9 => ⟨⟨_, (mh, ma, mc, mt, mn, nI 0, ro), rfl, by simp [mdAbove, c9, ek, c14, c21, eu, c33], xf_hP ht9 hP⟩, hS.F ht9⟩) hS.2.2 dM_above_37
      ·
        refine lv_iconst (v := (-1)) hx hb dM_above_24 (by decide) ?_
        exact W.iret (v := (-1)) hx hb hr (fun t9 ht9 hW9 => ⟨⟨_, (mh, ma, mc, mt, mn, nI 0, ro), rfl, by simp [mdAbove, c9, ek, c14, c21], xf_hP ht9 hP⟩, hS.F ht9⟩) hS.2.2 dM_above_25
set_option maxHeartbeats 4000000 in
set_option maxRecDepth 100000 in
/-- choose(ph, pv, on) -/
theorem m_choose (l : Launch) (dC : Nat → ClassId) (dI : Nat → Nat → Nat) (h0 b1 b2 b3 b4 b5 : Nat) (cI cZ : ClassId) (mh : Nat → Bool) (ma : Nat → Int32) (mc : Nat → Bool) (mt mn : Nat → Int32) (cd ro : Int32) (ph pv : Int32) (on : Bool) (hOk : mdOk ma) (hAc : mdAc ma) : Met l yM_choose wsM_choose ({ frames := 5, cells := 0, slots := 0, locals := 120 }) (va_Pc [.ref h0, .int ph, .int pv, .int (xf_B on)] (fun U => va_P (dC, dI) fmCl (mw h0 b1 b2 b3 b4 b5 cI cZ mh ma mc mt mn cd ro) U.heap ∧ va_K (dC, dI) fmCl [(cI, .int), (cZ, .boolean)] U ∧ va_D (fun _ => True) (mw h0 b1 b2 b3 b4 b5 cI cZ mh ma mc mt mn cd ro))) (va_Qi (fun (r : Int32) (u : MdS) => (r, u) = mdChoose mh ma mc mt mn ro ph pv on) (fun u t => va_P (dC, dI) fmCl (mw h0 b1 b2 b3 b4 b5 cI cZ u.1 u.2.1 u.2.2.1 u.2.2.2.1 u.2.2.2.2.1 u.2.2.2.2.2.1 u.2.2.2.2.2.2) t.heap) (xf_A (mw h0 b1 b2 b3 b4 b5 cI cZ mh ma mc mt mn cd ro))) 0 0 (xf_A (mw h0 b1 b2 b3 b4 b5 cI cZ mh ma mc mt mn cd ro)) := by
  refine Met.ofW (cc := cM_choose) (maxL := 4) (ret := (some .int)) (by decide) rfl ?_
  intro p e s m args below meth c s₁ B hml hv
  obtain ⟨rfl, hP, hK, hD0⟩ := hv
  have hx := B.exec
  have hb := B.bytes
  have hr := B.returns
  have hts := atoms_spec (ws := wsM_choose) B.pre
  have hown : s.vm.findClass RX1 = some m.cls := findClass_of_methodNamed B.named
  have hlocks := B.notSynchronized
  have hin : ∀ w ∈ u_ws RX1 TM 7, w ∈ wsM_choose := by decide +kernel
  have hf_code := hts (.fieldLink RX1 26 "FacetCountsModel" "code" "I") (by decide +kernel)
  have hf_chosen := hts (.fieldLink RX1 17 "FacetCountsModel" "chosen" "[Z") (by decide +kernel)
  have hD := xf_A_self hD0
  generalize hAe : xf_A (mw h0 b1 b2 b3 b4 b5 cI cZ mh ma mc mt mn cd ro) = A at hD ⊢
  have hS : va_S A s.heap s.heap [] := va_S.rf
  have hP : va_P (dC, dI) fmCl (mw h0 b1 b2 b3 b4 b5 cI cZ mh ma mc mt mn cd ro) s.heap := hP
  have hl := lv_entry ([.ref h0, .int ph, .int pv, .int (xf_B on)]) (n := 4) (Nat.le_of_ble_eq_true rfl)
  rw [lg_entry_eq]
  generalize (lg_sl ([.ref h0, .int ph, .int pv, .int (xf_B on)]) ++ List.replicate (4 - (lg_sl ([.ref h0, .int ph, .int pv, .int (xf_B on)])).length) Slot.unset).toArray = ls at hl ⊢
  have hl : lv_has ls 4 [(0, .ref h0), (1, .int ph), (2, .int pv), (3, .int (xf_B on))] := hl
  refine lv_aload_n hx hb dM_choose_0 rfl (lv_at hl 0 rfl) ?_
  refine lv_iconst (v := nI 0) hx hb dM_choose_1 (by decide) ?_
  refine va_put (D := (dC, dI)) (ci := 1) (v := .int (nI 0)) (ty := .int) (C := RX1) (T := TM) (N := 7) hx hb hts hin tyM tyM_ok nmM hown hK hP hD hS 0 rfl rfl 0 (by decide) hf_code (fun _ h9 => h9) rfl (by decide +kernel) rfl rfl (Nat.le_of_ble_eq_true rfl) dM_choose_2 (fun H locs hP hD hS => ?_)
  have hP : va_P (dC, dI) fmCl (mw h0 b1 b2 b3 b4 b5 cI cZ mh ma mc mt mn (nI 0) ro) H := hP
  have hD : va_D A (mw h0 b1 b2 b3 b4 b5 cI cZ mh ma mc mt mn (nI 0) ro) := hD
  refine lv_iload_n hx hb dM_choose_5 rfl (lv_at hl 1 rfl) ?_
  refine vp_callSi (W.runS (As := [.int ph]) (rest := []) ⟨hx, hb, hml, hown, hts⟩ (m_isHead l ph) (va_cwS 1 hts gM_choose_isHead rfl rfl rfl (by decide +kernel) ⟨Nat.le_of_ble_eq_true rfl, Nat.le_of_ble_eq_true rfl⟩) (xf_preS0) rfl rfl hl.1 rfl (lv_room (Nat.le_of_ble_eq_true rfl)) dM_choose_6 ⟨Nat.zero_le _, Nat.zero_le _⟩) (fun r hr9 => ?_)
  subst hr9
  refine xf_Beq (tgt := 19) hx hb dM_choose_9 (by decide) (fun c9 => ?_) (fun c9 => ?_)
  ·
    refine lv_iconst (v := (-1)) hx hb dM_choose_19 (by decide) ?_
    exact W.iret (v := (-1)) hx hb hr (fun t9 ht9 hW9 => ⟨⟨_, (mh, ma, mc, mt, mn, nI 0, ro), rfl, by simp [mdChoose, c9], xf_hP ht9 hP⟩, hS.F ht9⟩) hS.2.2 dM_choose_20
  ·
    obtain ⟨h, hh, rfl⟩ := xf_in_of c9 (by decide)
    have eh : (nI h).toNatClampNeg = h := nI_clamp (by omega)
    refine lv_iload_n hx hb dM_choose_12 rfl (lv_at hl 2 rfl) ?_
    refine vp_callSi (W.runS (As := [.int pv]) (rest := []) ⟨hx, hb, hml, hown, hts⟩ (m_isValue l pv) (va_cwS 1 hts gM_choose_isValue rfl rfl rfl (by decide +kernel) ⟨Nat.le_of_ble_eq_true rfl, Nat.le_of_ble_eq_true rfl⟩) (xf_preS0) rfl rfl hl.1 rfl (lv_room (Nat.le_of_ble_eq_true rfl)) dM_choose_13 ⟨Nat.zero_le _, Nat.zero_le _⟩) (fun r hr9 => ?_)
    subst hr9
    refine xf_Bne (tgt := 21) hx hb dM_choose_16 (by decide) (fun c16 => ?_) (fun c16 => ?_)
    ·
      obtain ⟨v, hv, rfl⟩ := xf_in_of c16 (by decide)
      have ev : (nI v).toNatClampNeg = v := nI_clamp (by omega)
      refine lv_aload_n hx hb dM_choose_21 rfl (lv_at hl 0 rfl) ?_
      refine va_get (D := (dC, dI)) (ci := 1) (v := .ref b3) (C := RX1) (T := TM) (N := 7) hx hb hts hin hown hK hP 0 rfl rfl 3 (by decide) hf_chosen (fun _ h9 => h9) rfl dM_choose_22 ?_
      refine lv_bipush (v := nI 32) hx hb dM_choose_25 (by decide) ?_
      refine lv_iload_n hx hb dM_choose_27 rfl (lv_at hl 1 rfl) ?_
      refine lv_imul hx hb dM_choose_28 ?_
      refine xf_be (y := nI (32 * h)) (by exact pk_mul _ _) ?_
      refine lv_iload_n hx hb dM_choose_29 rfl (lv_at hl 2 rfl) ?_
      refine lv_iadd hx hb dM_choose_30 ?_
      refine xf_be (y := nI (32 * h + v)) (by exact nI_add _ _) ?_
      refine lv_iload_n hx hb dM_choose_31 rfl (lv_at hl 3 rfl) ?_
      refine xf_zast (b := on) hx hb hK hP hD hS 3 1 rfl rfl rfl (j := (32 * h + v)) (by omega) (by decide) dM_choose_32 (fun H locs hP hD hS => ?_)
      have hP : va_P (dC, dI) fmCl (mw h0 b1 b2 b3 b4 b5 cI cZ mh ma (va_up mc (32 * h + v) on) mt mn (nI 0) ro) H := hP
      have hD : va_D A (mw h0 b1 b2 b3 b4 b5 cI cZ mh ma (va_up mc (32 * h + v) on) mt mn (nI 0) ro) := hD
      refine lv_aload_n hx hb dM_choose_33 rfl (lv_at hl 0 rfl) ?_
      refine lv_iconst (v := (-1)) hx hb dM_choose_34 (by decide) ?_
      refine vp_callSi (W.runV (As := [.int ((-1))]) (rest := []) ⟨hx, hb, hml, hown, hts⟩ (m_all l dC dI h0 b1 b2 b3 b4 b5 cI cZ mh ma (va_up mc (32 * h + v) on) mt mn (nI 0) ro ((-1)) hOk hAc) (cwV 1 hts gM_choose_all rfl rfl rfl (by decide +kernel) ⟨Nat.le_of_ble_eq_true rfl, Nat.le_of_ble_eq_true rfl⟩) (xf_preV (ci := 1) (RX1, TM, 7) hK hP rfl rfl) rfl rfl hl.1 rfl (lv_room (Nat.le_of_ble_eq_true rfl)) dM_choose_35 ⟨Nat.zero_le _, Nat.zero_le _⟩) (fun r hr9 => ?_)
      subst hr9
      exact W.iret (v := nI (xf_cnt (mdAP mh ma (va_up mc (32 * h + v) on) ((-1))) 40)) hx hb hr (fun t9 ht9 hW9 => ⟨⟨_, (mh, ma, va_up mc (32 * h + v) on, mt, mn, nI 0, ro), rfl, by simp [mdChoose, c9, eh, c16, ev], xf_hP ht9 hP⟩, hS.F ht9⟩) hS.2.2 dM_choose_38
    ·
      refine lv_iconst (v := (-1)) hx hb dM_choose_19 (by decide) ?_
      exact W.iret (v := (-1)) hx hb hr (fun t9 ht9 hW9 => ⟨⟨_, (mh, ma, mc, mt, mn, nI 0, ro), rfl, by simp [mdChoose, c9, eh, c16], xf_hP ht9 hP⟩, hS.F ht9⟩) hS.2.2 dM_choose_20
set_option maxHeartbeats 4000000 in
set_option maxRecDepth 100000 in
/-- kept() -/
theorem m_kept (l : Launch) (dC : Nat → ClassId) (dI : Nat → Nat → Nat) (h0 b1 b2 b3 b4 b5 : Nat) (cI cZ : ClassId) (mh : Nat → Bool) (ma : Nat → Int32) (mc : Nat → Bool) (mt mn : Nat → Int32) (cd ro : Int32) (hOk : mdOk ma) (hAc : mdAc ma) : Met l yM_kept wsM_kept ({ frames := 5, cells := 0, slots := 0, locals := 120 }) (va_Pc [.ref h0] (fun U => va_P (dC, dI) fmCl (mw h0 b1 b2 b3 b4 b5 cI cZ mh ma mc mt mn cd ro) U.heap ∧ va_K (dC, dI) fmCl [(cI, .int), (cZ, .boolean)] U ∧ va_D (fun _ => True) (mw h0 b1 b2 b3 b4 b5 cI cZ mh ma mc mt mn cd ro))) (va_Qi (fun (r : Int32) (u : MdS) => (r, u) = (nI (xf_cnt (mdAP mh ma mc (-1)) 40), mh, ma, mc, mt, mn, nI 0, ro)) (fun u t => va_P (dC, dI) fmCl (mw h0 b1 b2 b3 b4 b5 cI cZ u.1 u.2.1 u.2.2.1 u.2.2.2.1 u.2.2.2.2.1 u.2.2.2.2.2.1 u.2.2.2.2.2.2) t.heap) (xf_A (mw h0 b1 b2 b3 b4 b5 cI cZ mh ma mc mt mn cd ro))) 0 0 (xf_A (mw h0 b1 b2 b3 b4 b5 cI cZ mh ma mc mt mn cd ro)) := by
  refine Met.ofW (cc := cM_kept) (maxL := 1) (ret := (some .int)) (by decide) rfl ?_
  intro p e s m args below meth c s₁ B hml hv
  obtain ⟨rfl, hP, hK, hD0⟩ := hv
  have hx := B.exec
  have hb := B.bytes
  have hr := B.returns
  have hts := atoms_spec (ws := wsM_kept) B.pre
  have hown : s.vm.findClass RX1 = some m.cls := findClass_of_methodNamed B.named
  have hlocks := B.notSynchronized
  have hin : ∀ w ∈ u_ws RX1 TM 7, w ∈ wsM_kept := by decide +kernel
  have hf_code := hts (.fieldLink RX1 26 "FacetCountsModel" "code" "I") (by decide +kernel)
  have hD := xf_A_self hD0
  generalize hAe : xf_A (mw h0 b1 b2 b3 b4 b5 cI cZ mh ma mc mt mn cd ro) = A at hD ⊢
  have hS : va_S A s.heap s.heap [] := va_S.rf
  have hP : va_P (dC, dI) fmCl (mw h0 b1 b2 b3 b4 b5 cI cZ mh ma mc mt mn cd ro) s.heap := hP
  have hl := lv_entry ([.ref h0]) (n := 1) (Nat.le_of_ble_eq_true rfl)
  rw [lg_entry_eq]
  generalize (lg_sl ([.ref h0]) ++ List.replicate (1 - (lg_sl ([.ref h0])).length) Slot.unset).toArray = ls at hl ⊢
  have hl : lv_has ls 1 [(0, .ref h0)] := hl
  refine lv_aload_n hx hb dM_kept_0 rfl (lv_at hl 0 rfl) ?_
  refine lv_iconst (v := nI 0) hx hb dM_kept_1 (by decide) ?_
  refine va_put (D := (dC, dI)) (ci := 1) (v := .int (nI 0)) (ty := .int) (C := RX1) (T := TM) (N := 7) hx hb hts hin tyM tyM_ok nmM hown hK hP hD hS 0 rfl rfl 0 (by decide) hf_code (fun _ h9 => h9) rfl (by decide +kernel) rfl rfl (Nat.le_of_ble_eq_true rfl) dM_kept_2 (fun H locs hP hD hS => ?_)
  have hP : va_P (dC, dI) fmCl (mw h0 b1 b2 b3 b4 b5 cI cZ mh ma mc mt mn (nI 0) ro) H := hP
  have hD : va_D A (mw h0 b1 b2 b3 b4 b5 cI cZ mh ma mc mt mn (nI 0) ro) := hD
  refine lv_aload_n hx hb dM_kept_5 rfl (lv_at hl 0 rfl) ?_
  refine lv_iconst (v := (-1)) hx hb dM_kept_6 (by decide) ?_
  refine vp_callSi (W.runV (As := [.int ((-1))]) (rest := []) ⟨hx, hb, hml, hown, hts⟩ (m_all l dC dI h0 b1 b2 b3 b4 b5 cI cZ mh ma mc mt mn (nI 0) ro ((-1)) hOk hAc) (cwV 1 hts gM_kept_all rfl rfl rfl (by decide +kernel) ⟨Nat.le_of_ble_eq_true rfl, Nat.le_of_ble_eq_true rfl⟩) (xf_preV (ci := 1) (RX1, TM, 7) hK hP rfl rfl) rfl rfl hl.1 rfl (lv_room (Nat.le_of_ble_eq_true rfl)) dM_kept_7 ⟨Nat.zero_le _, Nat.zero_le _⟩) (fun r hr9 => ?_)
  subst hr9
  exact W.iret (v := nI (xf_cnt (mdAP mh ma mc ((-1))) 40)) hx hb hr (fun t9 ht9 hW9 => ⟨⟨_, (mh, ma, mc, mt, mn, nI 0, ro), rfl, rfl, xf_hP ht9 hP⟩, hS.F ht9⟩) hS.2.2 dM_kept_10
set_option maxHeartbeats 4000000 in
set_option maxRecDepth 100000 in
/-- isKept(pt) -/
theorem m_isKept (l : Launch) (dC : Nat → ClassId) (dI : Nat → Nat → Nat) (h0 b1 b2 b3 b4 b5 : Nat) (cI cZ : ClassId) (mh : Nat → Bool) (ma : Nat → Int32) (mc : Nat → Bool) (mt mn : Nat → Int32) (cd ro : Int32) (pt : Int32) (hOk : mdOk ma) (hAc : mdAc ma) : Met l yM_isKept wsM_isKept ({ frames := 4, cells := 0, slots := 0, locals := 97 }) (va_Pc [.ref h0, .int pt] (fun U => va_P (dC, dI) fmCl (mw h0 b1 b2 b3 b4 b5 cI cZ mh ma mc mt mn cd ro) U.heap ∧ va_K (dC, dI) fmCl [(cI, .int), (cZ, .boolean)] U ∧ va_D (fun _ => True) (mw h0 b1 b2 b3 b4 b5 cI cZ mh ma mc mt mn cd ro))) (va_Qi (fun (r : Int32) (u : MdS) => (r, u) = (mdIsKept mh ma mc pt, mh, ma, mc, mt, mn, nI 0, ro)) (fun u t => va_P (dC, dI) fmCl (mw h0 b1 b2 b3 b4 b5 cI cZ u.1 u.2.1 u.2.2.1 u.2.2.2.1 u.2.2.2.2.1 u.2.2.2.2.2.1 u.2.2.2.2.2.2) t.heap) (xf_A (mw h0 b1 b2 b3 b4 b5 cI cZ mh ma mc mt mn cd ro))) 0 0 (xf_A (mw h0 b1 b2 b3 b4 b5 cI cZ mh ma mc mt mn cd ro)) := by
  refine Met.ofW (cc := cM_isKept) (maxL := 2) (ret := (some .int)) (by decide) rfl ?_
  intro p e s m args below meth c s₁ B hml hv
  obtain ⟨rfl, hP, hK, hD0⟩ := hv
  have hx := B.exec
  have hb := B.bytes
  have hr := B.returns
  have hts := atoms_spec (ws := wsM_isKept) B.pre
  have hown : s.vm.findClass RX1 = some m.cls := findClass_of_methodNamed B.named
  have hlocks := B.notSynchronized
  have hin : ∀ w ∈ u_ws RX1 TM 7, w ∈ wsM_isKept := by decide +kernel
  have hf_code := hts (.fieldLink RX1 26 "FacetCountsModel" "code" "I") (by decide +kernel)
  have hD := xf_A_self hD0
  generalize hAe : xf_A (mw h0 b1 b2 b3 b4 b5 cI cZ mh ma mc mt mn cd ro) = A at hD ⊢
  have hS : va_S A s.heap s.heap [] := va_S.rf
  have hP : va_P (dC, dI) fmCl (mw h0 b1 b2 b3 b4 b5 cI cZ mh ma mc mt mn cd ro) s.heap := hP
  have hl := lv_entry ([.ref h0, .int pt]) (n := 2) (Nat.le_of_ble_eq_true rfl)
  rw [lg_entry_eq]
  generalize (lg_sl ([.ref h0, .int pt]) ++ List.replicate (2 - (lg_sl ([.ref h0, .int pt])).length) Slot.unset).toArray = ls at hl ⊢
  have hl : lv_has ls 2 [(0, .ref h0), (1, .int pt)] := hl
  refine lv_aload_n hx hb dM_isKept_0 rfl (lv_at hl 0 rfl) ?_
  refine lv_iconst (v := nI 0) hx hb dM_isKept_1 (by decide) ?_
  refine va_put (D := (dC, dI)) (ci := 1) (v := .int (nI 0)) (ty := .int) (C := RX1) (T := TM) (N := 7) hx hb hts hin tyM tyM_ok nmM hown hK hP hD hS 0 rfl rfl 0 (by decide) hf_code (fun _ h9 => h9) rfl (by decide +kernel) rfl rfl (Nat.le_of_ble_eq_true rfl) dM_isKept_2 (fun H locs hP hD hS => ?_)
  have hP : va_P (dC, dI) fmCl (mw h0 b1 b2 b3 b4 b5 cI cZ mh ma mc mt mn (nI 0) ro) H := hP
  have hD : va_D A (mw h0 b1 b2 b3 b4 b5 cI cZ mh ma mc mt mn (nI 0) ro) := hD
  refine lv_iload_n hx hb dM_isKept_5 rfl (lv_at hl 1 rfl) ?_
  refine vp_callSi (W.runS (As := [.int pt]) (rest := []) ⟨hx, hb, hml, hown, hts⟩ (m_isThing l pt) (va_cwS 1 hts gM_isKept_isThing rfl rfl rfl (by decide +kernel) ⟨Nat.le_of_ble_eq_true rfl, Nat.le_of_ble_eq_true rfl⟩) (xf_preS0) rfl rfl hl.1 rfl (lv_room (Nat.le_of_ble_eq_true rfl)) dM_isKept_6 ⟨Nat.zero_le _, Nat.zero_le _⟩) (fun r hr9 => ?_)
  subst hr9
  refine xf_Bne (tgt := 16) hx hb dM_isKept_9 (by decide) (fun c9 => ?_) (fun c9 => ?_)
  ·
    obtain ⟨t, ht, rfl⟩ := xf_in_of c9 (by decide)
    have et : (nI t).toNatClampNeg = t := nI_clamp (by omega)
    refine lv_aload_n hx hb dM_isKept_16 rfl (lv_at hl 0 rfl) ?_
    refine lv_iload_n hx hb dM_isKept_17 rfl (lv_at hl 1 rfl) ?_
    refine lv_iconst (v := (-1)) hx hb dM_isKept_18 (by decide) ?_
    refine vp_callSi (W.runV (As := [.int (nI t), .int ((-1))]) (rest := []) ⟨hx, hb, hml, hown, hts⟩ (m_isKeptBut l dC dI h0 b1 b2 b3 b4 b5 cI cZ mh ma mc mt mn (nI 0) ro t ((-1)) (by omega) hOk hAc) (cwV 2 hts gM_isKept_isKeptBut rfl rfl rfl (by decide +kernel) ⟨Nat.le_of_ble_eq_true rfl, Nat.le_of_ble_eq_true rfl⟩) (xf_preV (ci := 1) (RX1, TM, 7) hK hP rfl rfl) rfl rfl hl.1 rfl (lv_room (Nat.le_of_ble_eq_true rfl)) dM_isKept_19 ⟨Nat.zero_le _, Nat.zero_le _⟩) (fun r hr9 => ?_)
    subst hr9
    refine xf_Beq (tgt := 29) hx hb dM_isKept_22 (by decide) (fun c22 => ?_) (fun c22 => ?_)
    ·
      refine lv_iconst (v := nI 0) hx hb dM_isKept_29 (by decide) ?_
      exact W.iret (v := nI 0) hx hb hr (fun t9 ht9 hW9 => ⟨⟨_, (mh, ma, mc, mt, mn, nI 0, ro), rfl, by simp [mdIsKept, xf_B, c9, et, c22], xf_hP ht9 hP⟩, hS.F ht9⟩) hS.2.2 dM_isKept_30
    ·
      refine lv_iconst (v := nI 1) hx hb dM_isKept_25 (by decide) ?_
      refine lv_goto (tgt := 30) hx hb dM_isKept_26 (by decide) ?_
      exact W.iret (v := nI 1) hx hb hr (fun t9 ht9 hW9 => ⟨⟨_, (mh, ma, mc, mt, mn, nI 0, ro), rfl, by simp [mdIsKept, xf_B, c9, et, c22], xf_hP ht9 hP⟩, hS.F ht9⟩) hS.2.2 dM_isKept_30
  ·
    refine lv_iconst (v := (-1)) hx hb dM_isKept_12 (by decide) ?_
    refine lv_goto (tgt := 30) hx hb dM_isKept_13 (by decide) ?_
    exact W.iret (v := (-1)) hx hb hr (fun t9 ht9 hW9 => ⟨⟨_, (mh, ma, mc, mt, mn, nI 0, ro), rfl, by simp [mdIsKept, xf_B, c9], xf_hP ht9 hP⟩, hS.F ht9⟩) hS.2.2 dM_isKept_30
set_option maxHeartbeats 4000000 in
set_option maxRecDepth 100000 in
/-- facet(ph, pv) -/
theorem m_facet (l : Launch) (dC : Nat → ClassId) (dI : Nat → Nat → Nat) (h0 b1 b2 b3 b4 b5 : Nat) (cI cZ : ClassId) (mh : Nat → Bool) (ma : Nat → Int32) (mc : Nat → Bool) (mt mn : Nat → Int32) (cd ro : Int32) (ph pv : Int32) (hOk : mdOk ma) (hAc : mdAc ma) : Met l yM_facet wsM_facet ({ frames := 5, cells := 0, slots := 0, locals := 121 }) (va_Pc [.ref h0, .int ph, .int pv] (fun U => va_P (dC, dI) fmCl (mw h0 b1 b2 b3 b4 b5 cI cZ mh ma mc mt mn cd ro) U.heap ∧ va_K (dC, dI) fmCl [(cI, .int), (cZ, .boolean)] U ∧ va_D (fun _ => True) (mw h0 b1 b2 b3 b4 b5 cI cZ mh ma mc mt mn cd ro))) (va_Qi (fun (r : Int32) (u : MdS) => (r, u) = (mdFacet mh ma mc ph pv, mh, ma, mc, mt, mn, nI 0, ro)) (fun u t => va_P (dC, dI) fmCl (mw h0 b1 b2 b3 b4 b5 cI cZ u.1 u.2.1 u.2.2.1 u.2.2.2.1 u.2.2.2.2.1 u.2.2.2.2.2.1 u.2.2.2.2.2.2) t.heap) (xf_A (mw h0 b1 b2 b3 b4 b5 cI cZ mh ma mc mt mn cd ro))) 0 0 (xf_A (mw h0 b1 b2 b3 b4 b5 cI cZ mh ma mc mt mn cd ro)) := by
  refine Met.ofW (cc := cM_facet) (maxL := 3) (ret := (some .int)) (by decide) rfl ?_
  intro p e s m args below meth c s₁ B hml hv
  obtain ⟨rfl, hP, hK, hD0⟩ := hv
  have hx := B.exec
  have hb := B.bytes
  have hr := B.returns
  have hts := atoms_spec (ws := wsM_facet) B.pre
  have hown : s.vm.findClass RX1 = some m.cls := findClass_of_methodNamed B.named
  have hlocks := B.notSynchronized
  have hin : ∀ w ∈ u_ws RX1 TM 7, w ∈ wsM_facet := by decide +kernel
  have hf_code := hts (.fieldLink RX1 26 "FacetCountsModel" "code" "I") (by decide +kernel)
  have hD := xf_A_self hD0
  generalize hAe : xf_A (mw h0 b1 b2 b3 b4 b5 cI cZ mh ma mc mt mn cd ro) = A at hD ⊢
  have hS : va_S A s.heap s.heap [] := va_S.rf
  have hP : va_P (dC, dI) fmCl (mw h0 b1 b2 b3 b4 b5 cI cZ mh ma mc mt mn cd ro) s.heap := hP
  have hl := lv_entry ([.ref h0, .int ph, .int pv]) (n := 3) (Nat.le_of_ble_eq_true rfl)
  rw [lg_entry_eq]
  generalize (lg_sl ([.ref h0, .int ph, .int pv]) ++ List.replicate (3 - (lg_sl ([.ref h0, .int ph, .int pv])).length) Slot.unset).toArray = ls at hl ⊢
  have hl : lv_has ls 3 [(0, .ref h0), (1, .int ph), (2, .int pv)] := hl
  refine lv_aload_n hx hb dM_facet_0 rfl (lv_at hl 0 rfl) ?_
  refine lv_iconst (v := nI 0) hx hb dM_facet_1 (by decide) ?_
  refine va_put (D := (dC, dI)) (ci := 1) (v := .int (nI 0)) (ty := .int) (C := RX1) (T := TM) (N := 7) hx hb hts hin tyM tyM_ok nmM hown hK hP hD hS 0 rfl rfl 0 (by decide) hf_code (fun _ h9 => h9) rfl (by decide +kernel) rfl rfl (Nat.le_of_ble_eq_true rfl) dM_facet_2 (fun H locs hP hD hS => ?_)
  have hP : va_P (dC, dI) fmCl (mw h0 b1 b2 b3 b4 b5 cI cZ mh ma mc mt mn (nI 0) ro) H := hP
  have hD : va_D A (mw h0 b1 b2 b3 b4 b5 cI cZ mh ma mc mt mn (nI 0) ro) := hD
  refine lv_iload_n hx hb dM_facet_5 rfl (lv_at hl 1 rfl) ?_
  refine vp_callSi (W.runS (As := [.int ph]) (rest := []) ⟨hx, hb, hml, hown, hts⟩ (m_isHead l ph) (va_cwS 1 hts gM_facet_isHead rfl rfl rfl (by decide +kernel) ⟨Nat.le_of_ble_eq_true rfl, Nat.le_of_ble_eq_true rfl⟩) (xf_preS0) rfl rfl hl.1 rfl (lv_room (Nat.le_of_ble_eq_true rfl)) dM_facet_6 ⟨Nat.zero_le _, Nat.zero_le _⟩) (fun r hr9 => ?_)
  subst hr9
  refine xf_Beq (tgt := 28) hx hb dM_facet_9 (by decide) (fun c9 => ?_) (fun c9 => ?_)
  ·
    refine lv_iconst (v := (-1)) hx hb dM_facet_28 (by decide) ?_
    exact W.iret (v := (-1)) hx hb hr (fun t9 ht9 hW9 => ⟨⟨_, (mh, ma, mc, mt, mn, nI 0, ro), rfl, by simp [mdFacet, c9], xf_hP ht9 hP⟩, hS.F ht9⟩) hS.2.2 dM_facet_29
  ·
    obtain ⟨h, hh, rfl⟩ := xf_in_of c9 (by decide)
    have eh : (nI h).toNatClampNeg = h := nI_clamp (by omega)
    refine lv_iload_n hx hb dM_facet_12 rfl (lv_at hl 2 rfl) ?_
    refine vp_callSi (W.runS (As := [.int pv]) (rest := []) ⟨hx, hb, hml, hown, hts⟩ (m_isValue l pv) (va_cwS 1 hts gM_facet_isValue rfl rfl rfl (by decide +kernel) ⟨Nat.le_of_ble_eq_true rfl, Nat.le_of_ble_eq_true rfl⟩) (xf_preS0) rfl rfl hl.1 rfl (lv_room (Nat.le_of_ble_eq_true rfl)) dM_facet_13 ⟨Nat.zero_le _, Nat.zero_le _⟩) (fun r hr9 => ?_)
    subst hr9
    refine xf_Beq (tgt := 28) hx hb dM_facet_16 (by decide) (fun c16 => ?_) (fun c16 => ?_)
    ·
      refine lv_iconst (v := (-1)) hx hb dM_facet_28 (by decide) ?_
      exact W.iret (v := (-1)) hx hb hr (fun t9 ht9 hW9 => ⟨⟨_, (mh, ma, mc, mt, mn, nI 0, ro), rfl, by simp [mdFacet, c9, eh, c16], xf_hP ht9 hP⟩, hS.F ht9⟩) hS.2.2 dM_facet_29
    ·
      obtain ⟨v, hv, rfl⟩ := xf_in_of c16 (by decide)
      have ev : (nI v).toNatClampNeg = v := nI_clamp (by omega)
      refine lv_aload_n hx hb dM_facet_19 rfl (lv_at hl 0 rfl) ?_
      refine lv_iload_n hx hb dM_facet_20 rfl (lv_at hl 1 rfl) ?_
      refine lv_iload_n hx hb dM_facet_21 rfl (lv_at hl 2 rfl) ?_
      refine vp_callSi (W.runV (As := [.int (nI h), .int (nI v)]) (rest := []) ⟨hx, hb, hml, hown, hts⟩ (m_count l dC dI h0 b1 b2 b3 b4 b5 cI cZ mh ma mc mt mn (nI 0) ro h v (by omega) (by omega) hOk hAc) (cwV 2 hts gM_facet_count rfl rfl rfl (by decide +kernel) ⟨Nat.le_of_ble_eq_true rfl, Nat.le_of_ble_eq_true rfl⟩) (xf_preV (ci := 1) (RX1, TM, 7) hK hP rfl rfl) rfl rfl hl.1 rfl (lv_room (Nat.le_of_ble_eq_true rfl)) dM_facet_22 ⟨Nat.zero_le _, Nat.zero_le _⟩) (fun r hr9 => ?_)
      subst hr9
      refine lv_goto (tgt := 29) hx hb dM_facet_25 (by decide) ?_
      exact W.iret (v := nI (mdN mh ma mc h v)) hx hb hr (fun t9 ht9 hW9 => ⟨⟨_, (mh, ma, mc, mt, mn, nI 0, ro), rfl, by simp [mdFacet, c9, eh, c16, ev], xf_hP ht9 hP⟩, hS.F ht9⟩) hS.2.2 dM_facet_29
set_option maxHeartbeats 4000000 in
set_option maxRecDepth 100000 in
/-- range(ph, pa, pb) -/
theorem m_range (l : Launch) (dC : Nat → ClassId) (dI : Nat → Nat → Nat) (h0 b1 b2 b3 b4 b5 : Nat) (cI cZ : ClassId) (mh : Nat → Bool) (ma : Nat → Int32) (mc : Nat → Bool) (mt mn : Nat → Int32) (cd ro : Int32) (ph pa pb : Int32) (hOk : mdOk ma) (hAc : mdAc ma) : Met l yM_range wsM_range ({ frames := 4, cells := 0, slots := 0, locals := 97 }) (va_Pc [.ref h0, .int ph, .int pa, .int pb] (fun U => va_P (dC, dI) fmCl (mw h0 b1 b2 b3 b4 b5 cI cZ mh ma mc mt mn cd ro) U.heap ∧ va_K (dC, dI) fmCl [(cI, .int), (cZ, .boolean)] U ∧ va_D (fun _ => True) (mw h0 b1 b2 b3 b4 b5 cI cZ mh ma mc mt mn cd ro))) (va_Qi (fun (r : Int32) (u : MdS) => (r, u) = (mdRange mh ma mc ph pa pb, mh, ma, mc, mt, mn, nI 0, ro)) (fun u t => va_P (dC, dI) fmCl (mw h0 b1 b2 b3 b4 b5 cI cZ u.1 u.2.1 u.2.2.1 u.2.2.2.1 u.2.2.2.2.1 u.2.2.2.2.2.1 u.2.2.2.2.2.2) t.heap) (xf_A (mw h0 b1 b2 b3 b4 b5 cI cZ mh ma mc mt mn cd ro))) 0 0 (xf_A (mw h0 b1 b2 b3 b4 b5 cI cZ mh ma mc mt mn cd ro)) := by
  refine Met.ofW (cc := cM_range) (maxL := 8) (ret := (some .int)) (by decide) rfl ?_
  intro p e s m args below meth c s₁ B hml hv
  obtain ⟨rfl, hP, hK, hD0⟩ := hv
  have hx := B.exec
  have hb := B.bytes
  have hr := B.returns
  have hts := atoms_spec (ws := wsM_range) B.pre
  have hown : s.vm.findClass RX1 = some m.cls := findClass_of_methodNamed B.named
  have hlocks := B.notSynchronized
  have hin : ∀ w ∈ u_ws RX1 TM 7, w ∈ wsM_range := by decide +kernel
  have hf_code := hts (.fieldLink RX1 26 "FacetCountsModel" "code" "I") (by decide +kernel)
  have hD := xf_A_self hD0
  generalize hAe : xf_A (mw h0 b1 b2 b3 b4 b5 cI cZ mh ma mc mt mn cd ro) = A at hD ⊢
  have hS : va_S A s.heap s.heap [] := va_S.rf
  have hP : va_P (dC, dI) fmCl (mw h0 b1 b2 b3 b4 b5 cI cZ mh ma mc mt mn cd ro) s.heap := hP
  have hl := lv_entry ([.ref h0, .int ph, .int pa, .int pb]) (n := 8) (Nat.le_of_ble_eq_true rfl)
  rw [lg_entry_eq]
  generalize (lg_sl ([.ref h0, .int ph, .int pa, .int pb]) ++ List.replicate (8 - (lg_sl ([.ref h0, .int ph, .int pa, .int pb])).length) Slot.unset).toArray = ls at hl ⊢
  have hl : lv_has ls 8 [(0, .ref h0), (1, .int ph), (2, .int pa), (3, .int pb)] := hl
  refine lv_aload_n hx hb dM_range_0 rfl (lv_at hl 0 rfl) ?_
  refine lv_iconst (v := nI 0) hx hb dM_range_1 (by decide) ?_
  refine va_put (D := (dC, dI)) (ci := 1) (v := .int (nI 0)) (ty := .int) (C := RX1) (T := TM) (N := 7) hx hb hts hin tyM tyM_ok nmM hown hK hP hD hS 0 rfl rfl 0 (by decide) hf_code (fun _ h9 => h9) rfl (by decide +kernel) rfl rfl (Nat.le_of_ble_eq_true rfl) dM_range_2 (fun H locs hP hD hS => ?_)
  have hP : va_P (dC, dI) fmCl (mw h0 b1 b2 b3 b4 b5 cI cZ mh ma mc mt mn (nI 0) ro) H := hP
  have hD : va_D A (mw h0 b1 b2 b3 b4 b5 cI cZ mh ma mc mt mn (nI 0) ro) := hD
  refine lv_iload_n hx hb dM_range_5 rfl (lv_at hl 1 rfl) ?_
  refine vp_callSi (W.runS (As := [.int ph]) (rest := []) ⟨hx, hb, hml, hown, hts⟩ (m_isHead l ph) (va_cwS 1 hts gM_range_isHead rfl rfl rfl (by decide +kernel) ⟨Nat.le_of_ble_eq_true rfl, Nat.le_of_ble_eq_true rfl⟩) (xf_preS0) rfl rfl hl.1 rfl (lv_room (Nat.le_of_ble_eq_true rfl)) dM_range_6 ⟨Nat.zero_le _, Nat.zero_le _⟩) (fun r hr9 => ?_)
  subst hr9
  refine xf_Bne (tgt := 14) hx hb dM_range_9 (by decide) (fun c9 => ?_) (fun c9 => ?_)
  ·
    obtain ⟨h, hh, rfl⟩ := xf_in_of c9 (by decide)
    have eh : (nI h).toNatClampNeg = h := nI_clamp (by omega)
    refine lv_iconst (v := nI 0) hx hb dM_range_14 (by decide) ?_
    refine lv_istore (lv' := [(4, .int (nI 0)), (0, .ref h0), (1, .int (nI h)), (2, .int pa), (3, .int pb)]) hx hb dM_range_15 hl (by decide) rfl (fun ls hl => ?_)
    refine lv_iconst (v := nI 0) hx hb dM_range_17 (by decide) ?_
    refine lv_istore (lv' := [(5, .int (nI 0)), (4, .int (nI 0)), (0, .ref h0), (1, .int (nI h)), (2, .int pa), (3, .int pb)]) hx hb dM_range_18 hl (by decide) rfl (fun ls hl => ?_)
    refine xf_loopS (σ := Nat) (fun (z9 : Nat) => 40 - z9) (fun (z9 : Nat) => [(0, .ref h0), (1, .int (nI h)), (2, .int pa), (3, .int pb), (4, .int (nI (xf_cnt (mdRg mh ma mc h pa pb) z9))), (5, .int (nI z9))]) (fun (z9 : Nat) => z9 ≤ 40) 0 (lv_sub hl [2, 3, 4, 5, 1, 0] rfl) (Nat.zero_le _) (fun z9 ls hi hl ih20 => ?_)
    obtain ⟨t, hxe⟩ : ∃ z, z = z9 := ⟨_, rfl⟩
    subst hxe
    have hl : lv_has ls 8 [(0, .ref h0), (1, .int (nI h)), (2, .int pa), (3, .int pb), (4, .int (nI (xf_cnt (mdRg mh ma mc h pa pb) t))), (5, .int (nI t))] := hl
    have hi : t ≤ 40 := hi
    refine lv_iload hx hb dM_range_20 (lv_at hl 5 rfl) ?_
    refine lv_bipush (v := nI 40) hx hb dM_range_22 (by decide) ?_
    refine xf_ge (tgt := 113) hx hb dM_range_24 (by decide) (by omega) (by omega) (fun c24 => ?_) (fun c24 => ?_)
    ·
      obtain rfl : t = 40 := by omega
      refine lv_iload hx hb dM_range_113 (lv_at hl 4 rfl) ?_
      exact W.iret (v := nI (xf_cnt (mdRg mh ma mc h pa pb) 40)) hx hb hr (fun t9 ht9 hW9 => ⟨⟨_, (mh, ma, mc, mt, mn, nI 0, ro), rfl, by simp [mdRange, c9, eh], xf_hP ht9 hP⟩, hS.F ht9⟩) hS.2.2 dM_range_115
    ·
      refine lv_iconst (v := nI 0) hx hb dM_range_27 (by decide) ?_
      refine lv_istore (lv' := [(6, .int (nI 0)), (0, .ref h0), (1, .int (nI h)), (2, .int pa), (3, .int pb), (4, .int (nI (xf_cnt (mdRg mh ma mc h pa pb) t))), (5, .int (nI t))]) hx hb dM_range_28 hl (by decide) rfl (fun ls hl => ?_)
      refine lv_iconst (v := nI 0) hx hb dM_range_30 (by decide) ?_
      refine lv_istore (lv' := [(7, .int (nI 0)), (6, .int (nI 0)), (0, .ref h0), (1, .int (nI h)), (2, .int pa), (3, .int pb), (4, .int (nI (xf_cnt (mdRg mh ma mc h pa pb) t))), (5, .int (nI t))]) hx hb dM_range_31 hl (by decide) rfl (fun ls hl => ?_)
      refine xf_loopS (σ := Nat) (fun (z9 : Nat) => 32 - z9) (fun (z9 : Nat) => [(0, .ref h0), (1, .int (nI h)), (2, .int pa), (3, .int pb), (4, .int (nI (xf_cnt (mdRg mh ma mc h pa pb) t))), (5, .int (nI t)), (6, .int (xf_B (xf_any (mdRq mh ma t h pa pb) z9))), (7, .int (nI z9))]) (fun (z9 : Nat) => z9 ≤ 32) 0 (lv_sub hl [2, 3, 4, 5, 6, 7, 1, 0] rfl) (Nat.zero_le _) (fun z9 ls hi hl ih33 => ?_)
      obtain ⟨v, hxe⟩ : ∃ z, z = z9 := ⟨_, rfl⟩
      subst hxe
      have hl : lv_has ls 8 [(0, .ref h0), (1, .int (nI h)), (2, .int pa), (3, .int pb), (4, .int (nI (xf_cnt (mdRg mh ma mc h pa pb) t))), (5, .int (nI t)), (6, .int (xf_B (xf_any (mdRq mh ma t h pa pb) v))), (7, .int (nI v))] := hl
      have hi : v ≤ 32 := hi
      refine lv_iload hx hb dM_range_33 (lv_at hl 7 rfl) ?_
      refine lv_bipush (v := nI 32) hx hb dM_range_35 (by decide) ?_
      refine xf_ge (tgt := 82) hx hb dM_range_37 (by decide) (by omega) (by omega) (fun c37 => ?_) (fun c37 => ?_)
      ·
        obtain rfl : v = 32 := by omega
        refine lv_iload hx hb dM_range_82 (lv_at hl 4 rfl) ?_
        refine lv_iload hx hb dM_range_84 (lv_at hl 6 rfl) ?_
        refine xf_Beq (tgt := 103) hx hb dM_range_86 (by decide) (fun c86 => ?_) (fun c86 => ?_)
        ·
          refine lv_iconst (v := nI 0) hx hb dM_range_103 (by decide) ?_
          refine lv_iadd hx hb dM_range_104 ?_
          refine xf_be (y := nI (xf_cnt (mdRg mh ma mc h pa pb) t + 0)) (by exact nI_add _ _) ?_
          refine lv_istore (lv' := [(4, .int (nI (xf_cnt (mdRg mh ma mc h pa pb) t + 0))), (0, .ref h0), (1, .int (nI h)), (2, .int pa), (3, .int pb), (5, .int (nI t)), (6, .int (xf_B (xf_any (mdRq mh ma t h pa pb) 32))), (7, .int (nI 32))]) hx hb dM_range_105 hl (by decide) rfl (fun ls hl => ?_)
          refine lv_iinc (v := nI (t + 1)) (lv' := [(5, .int (nI (t + 1))), (4, .int (nI (xf_cnt (mdRg mh ma mc h pa pb) t + 0))), (0, .ref h0), (1, .int (nI h)), (2, .int pa), (3, .int pb), (6, .int (xf_B (xf_any (mdRq mh ma t h pa pb) 32))), (7, .int (nI 32))]) hx hb dM_range_107 hl (k := 5) rfl (by exact nI_1 t) (by decide) rfl (fun ls hl => ?_)
          refine lv_goto (tgt := 20) hx hb dM_range_110 (by decide) ?_
          have hl := lv_sub (l' := [(0, .ref h0), (1, .int (nI h)), (2, .int pa), (3, .int pb), (4, .int (nI (xf_cnt (mdRg mh ma mc h pa pb) t + 0))), (5, .int (nI (t + 1)))]) hl [2, 3, 4, 5, 1, 0] rfl
          have hl : lv_has ls 8 [(0, .ref h0), (1, .int (nI h)), (2, .int pa), (3, .int pb), (4, .int (nI (xf_cnt (mdRg mh ma mc h pa pb) (t + 1)))), (5, .int (nI (t + 1)))] := xf_lv hl (by simp [xf_cnt, mdRg, c37, c86])
          exact ih20 (t + 1) ls (by show 40 - (t + 1) < 40 - t; omega) (by show (t + 1) ≤ 40; omega) hl
        ·
          refine lv_aload_n hx hb dM_range_89 rfl (lv_at hl 0 rfl) ?_
          refine lv_iload hx hb dM_range_90 (lv_at hl 5 rfl) ?_
          refine lv_iload_n hx hb dM_range_92 rfl (lv_at hl 1 rfl) ?_
          refine vp_callSi (W.runV (As := [.int (nI t), .int (nI h)]) (rest := [.int (nI (xf_cnt (mdRg mh ma mc h pa pb) t))]) ⟨hx, hb, hml, hown, hts⟩ (m_isKeptBut l dC dI h0 b1 b2 b3 b4 b5 cI cZ mh ma mc mt mn (nI 0) ro t (nI h) (by omega) hOk hAc) (cwV 2 hts gM_range_isKeptBut rfl rfl rfl (by decide +kernel) ⟨Nat.le_of_ble_eq_true rfl, Nat.le_of_ble_eq_true rfl⟩) (xf_preV (ci := 1) (RX1, TM, 7) hK hP rfl rfl) rfl rfl hl.1 rfl (lv_room (Nat.le_of_ble_eq_true rfl)) dM_range_93 ⟨Nat.zero_le _, Nat.zero_le _⟩) (fun r hr9 => ?_)
          subst hr9
          refine xf_Beq (tgt := 103) hx hb dM_range_96 (by decide) (fun c96 => ?_) (fun c96 => ?_)
          ·
            refine lv_iconst (v := nI 0) hx hb dM_range_103 (by decide) ?_
            refine lv_iadd hx hb dM_range_104 ?_
            refine xf_be (y := nI (xf_cnt (mdRg mh ma mc h pa pb) t + 0)) (by exact nI_add _ _) ?_
            refine lv_istore (lv' := [(4, .int (nI (xf_cnt (mdRg mh ma mc h pa pb) t + 0))), (0, .ref h0), (1, .int (nI h)), (2, .int pa), (3, .int pb), (5, .int (nI t)), (6, .int (xf_B (xf_any (mdRq mh ma t h pa pb) 32))), (7, .int (nI 32))]) hx hb dM_range_105 hl (by decide) rfl (fun ls hl => ?_)
            refine lv_iinc (v := nI (t + 1)) (lv' := [(5, .int (nI (t + 1))), (4, .int (nI (xf_cnt (mdRg mh ma mc h pa pb) t + 0))), (0, .ref h0), (1, .int (nI h)), (2, .int pa), (3, .int pb), (6, .int (xf_B (xf_any (mdRq mh ma t h pa pb) 32))), (7, .int (nI 32))]) hx hb dM_range_107 hl (k := 5) rfl (by exact nI_1 t) (by decide) rfl (fun ls hl => ?_)
            refine lv_goto (tgt := 20) hx hb dM_range_110 (by decide) ?_
            have hl := lv_sub (l' := [(0, .ref h0), (1, .int (nI h)), (2, .int pa), (3, .int pb), (4, .int (nI (xf_cnt (mdRg mh ma mc h pa pb) t + 0))), (5, .int (nI (t + 1)))]) hl [2, 3, 4, 5, 1, 0] rfl
            have hl : lv_has ls 8 [(0, .ref h0), (1, .int (nI h)), (2, .int pa), (3, .int pb), (4, .int (nI (xf_cnt (mdRg mh ma mc h pa pb) (t + 1)))), (5, .int (nI (t + 1)))] := xf_lv hl (by simp [xf_cnt, mdRg, c37, c86, c96])
            exact ih20 (t + 1) ls (by show 40 - (t + 1) < 40 - t; omega) (by show (t + 1) ≤ 40; omega) hl
          ·
            refine lv_iconst (v := nI 1) hx hb dM_range_99 (by decide) ?_
            refine lv_goto (tgt := 104) hx hb dM_range_100 (by decide) ?_
            refine lv_iadd hx hb dM_range_104 ?_
            refine xf_be (y := nI (xf_cnt (mdRg mh ma mc h pa pb) t + 1)) (by exact nI_add _ _) ?_
            refine lv_istore (lv' := [(4, .int (nI (xf_cnt (mdRg mh ma mc h pa pb) t + 1))), (0, .ref h0), (1, .int (nI h)), (2, .int pa), (3, .int pb), (5, .int (nI t)), (6, .int (xf_B (xf_any (mdRq mh ma t h pa pb) 32))), (7, .int (nI 32))]) hx hb dM_range_105 hl (by decide) rfl (fun ls hl => ?_)
            refine lv_iinc (v := nI (t + 1)) (lv' := [(5, .int (nI (t + 1))), (4, .int (nI (xf_cnt (mdRg mh ma mc h pa pb) t + 1))), (0, .ref h0), (1, .int (nI h)), (2, .int pa), (3, .int pb), (6, .int (xf_B (xf_any (mdRq mh ma t h pa pb) 32))), (7, .int (nI 32))]) hx hb dM_range_107 hl (k := 5) rfl (by exact nI_1 t) (by decide) rfl (fun ls hl => ?_)
            refine lv_goto (tgt := 20) hx hb dM_range_110 (by decide) ?_
            have hl := lv_sub (l' := [(0, .ref h0), (1, .int (nI h)), (2, .int pa), (3, .int pb), (4, .int (nI (xf_cnt (mdRg mh ma mc h pa pb) t + 1))), (5, .int (nI (t + 1)))]) hl [2, 3, 4, 5, 1, 0] rfl
            have hl : lv_has ls 8 [(0, .ref h0), (1, .int (nI h)), (2, .int pa), (3, .int pb), (4, .int (nI (xf_cnt (mdRg mh ma mc h pa pb) (t + 1)))), (5, .int (nI (t + 1)))] := xf_lv hl (by simp [xf_cnt, mdRg, c37, c86, c96])
            exact ih20 (t + 1) ls (by show 40 - (t + 1) < 40 - t; omega) (by show (t + 1) ≤ 40; omega) hl
      ·
        refine lv_iload hx hb dM_range_40 (lv_at hl 6 rfl) ?_
        refine xf_Bne (tgt := 69) hx hb dM_range_42 (by decide) (fun c42 => ?_) (fun c42 => ?_)
        ·
          refine lv_iconst (v := nI 1) hx hb dM_range_69 (by decide) ?_
          refine lv_goto (tgt := 74) hx hb dM_range_70 (by decide) ?_
          refine lv_istore (lv' := [(6, .int (nI 1)), (0, .ref h0), (1, .int (nI h)), (2, .int pa), (3, .int pb), (4, .int (nI (xf_cnt (mdRg mh ma mc h pa pb) t))), (5, .int (nI t)), (7, .int (nI v))]) hx hb dM_range_74 hl (by decide) rfl (fun ls hl => ?_)
          refine lv_iinc (v := nI (v + 1)) (lv' := [(7, .int (nI (v + 1))), (6, .int (nI 1)), (0, .ref h0), (1, .int (nI h)), (2, .int pa), (3, .int pb), (4, .int (nI (xf_cnt (mdRg mh ma mc h pa pb) t))), (5, .int (nI t))]) hx hb dM_range_76 hl (k := 7) rfl (by exact nI_1 v) (by decide) rfl (fun ls hl => ?_)
          refine lv_goto (tgt := 33) hx hb dM_range_79 (by decide) ?_
          have hl := lv_sub (l' := [(0, .ref h0), (1, .int (nI h)), (2, .int pa), (3, .int pb), (4, .int (nI (xf_cnt (mdRg mh ma mc h pa pb) t))), (5, .int (nI t)), (6, .int (nI 1)), (7, .int (nI (v + 1)))]) hl [2, 3, 4, 5, 6, 7, 1, 0] rfl
          have hl : lv_has ls 8 [(0, .ref h0), (1, .int (nI h)), (2, .int pa), (3, .int pb), (4, .int (nI (xf_cnt (mdRg mh ma mc h pa pb) t))), (5, .int (nI t)), (6, .int (xf_B (xf_any (mdRq mh ma t h pa pb) (v + 1)))), (7, .int (nI (v + 1)))] := xf_lv hl (by simp [xf_any, mdRq, xf_B, c37, c42])
          exact ih33 (v + 1) ls (by show 32 - (v + 1) < 32 - v; omega) (by show (v + 1) ≤ 32; omega) hl
        ·
          refine lv_iload hx hb dM_range_45 (lv_at hl 7 rfl) ?_
          refine lv_iload_n hx hb dM_range_47 rfl (lv_at hl 2 rfl) ?_
          refine lv_icmp_lt (tgt := 73) hx hb dM_range_48 (by decide) (fun c48 => ?_) (fun c48 => ?_)
          ·
            refine lv_iconst (v := nI 0) hx hb dM_range_73 (by decide) ?_
            refine lv_istore (lv' := [(6, .int (nI 0)), (0, .ref h0), (1, .int (nI h)), (2, .int pa), (3, .int pb), (4, .int (nI (xf_cnt (mdRg mh ma mc h pa pb) t))), (5, .int (nI t)), (7, .int (nI v))]) hx hb dM_range_74 hl (by decide) rfl (fun ls hl => ?_)
            refine lv_iinc (v := nI (v + 1)) (lv' := [(7, .int (nI (v + 1))), (6, .int (nI 0)), (0, .ref h0), (1, .int (nI h)), (2, .int pa), (3, .int pb), (4, .int (nI (xf_cnt (mdRg mh ma mc h pa pb) t))), (5, .int (nI t))]) hx hb dM_range_76 hl (k := 7) rfl (by exact nI_1 v) (by decide) rfl (fun ls hl => ?_)
            refine lv_goto (tgt := 33) hx hb dM_range_79 (by decide) ?_
            have hl := lv_sub (l' := [(0, .ref h0), (1, .int (nI h)), (2, .int pa), (3, .int pb), (4, .int (nI (xf_cnt (mdRg mh ma mc h pa pb) t))), (5, .int (nI t)), (6, .int (nI 0)), (7, .int (nI (v + 1)))]) hl [2, 3, 4, 5, 6, 7, 1, 0] rfl
            have hl : lv_has ls 8 [(0, .ref h0), (1, .int (nI h)), (2, .int pa), (3, .int pb), (4, .int (nI (xf_cnt (mdRg mh ma mc h pa pb) t))), (5, .int (nI t)), (6, .int (xf_B (xf_any (mdRq mh ma t h pa pb) (v + 1)))), (7, .int (nI (v + 1)))] := xf_lv hl (by simp [xf_any, mdRq, xf_B, c37, c42, c48])
            exact ih33 (v + 1) ls (by show 32 - (v + 1) < 32 - v; omega) (by show (v + 1) ≤ 32; omega) hl
          ·
            refine lv_iload hx hb dM_range_51 (lv_at hl 7 rfl) ?_
            refine lv_iload_n hx hb dM_range_53 rfl (lv_at hl 3 rfl) ?_
            refine lv_icmp_gt (tgt := 73) hx hb dM_range_54 (by decide) (fun c54 => ?_) (fun c54 => ?_)
            ·
              refine lv_iconst (v := nI 0) hx hb dM_range_73 (by decide) ?_
              refine lv_istore (lv' := [(6, .int (nI 0)), (0, .ref h0), (1, .int (nI h)), (2, .int pa), (3, .int pb), (4, .int (nI (xf_cnt (mdRg mh ma mc h pa pb) t))), (5, .int (nI t)), (7, .int (nI v))]) hx hb dM_range_74 hl (by decide) rfl (fun ls hl => ?_)
              refine lv_iinc (v := nI (v + 1)) (lv' := [(7, .int (nI (v + 1))), (6, .int (nI 0)), (0, .ref h0), (1, .int (nI h)), (2, .int pa), (3, .int pb), (4, .int (nI (xf_cnt (mdRg mh ma mc h pa pb) t))), (5, .int (nI t))]) hx hb dM_range_76 hl (k := 7) rfl (by exact nI_1 v) (by decide) rfl (fun ls hl => ?_)
              refine lv_goto (tgt := 33) hx hb dM_range_79 (by decide) ?_
              have hl := lv_sub (l' := [(0, .ref h0), (1, .int (nI h)), (2, .int pa), (3, .int pb), (4, .int (nI (xf_cnt (mdRg mh ma mc h pa pb) t))), (5, .int (nI t)), (6, .int (nI 0)), (7, .int (nI (v + 1)))]) hl [2, 3, 4, 5, 6, 7, 1, 0] rfl
              have hl : lv_has ls 8 [(0, .ref h0), (1, .int (nI h)), (2, .int pa), (3, .int pb), (4, .int (nI (xf_cnt (mdRg mh ma mc h pa pb) t))), (5, .int (nI t)), (6, .int (xf_B (xf_any (mdRq mh ma t h pa pb) (v + 1)))), (7, .int (nI (v + 1)))] := xf_lv hl (by simp [xf_any, mdRq, xf_B, c37, c42, c48, c54])
              exact ih33 (v + 1) ls (by show 32 - (v + 1) < 32 - v; omega) (by show (v + 1) ≤ 32; omega) hl
            ·
              refine lv_aload_n hx hb dM_range_57 rfl (lv_at hl 0 rfl) ?_
              refine lv_iload hx hb dM_range_58 (lv_at hl 5 rfl) ?_
              refine lv_iload_n hx hb dM_range_60 rfl (lv_at hl 1 rfl) ?_
              refine lv_iload hx hb dM_range_61 (lv_at hl 7 rfl) ?_
              refine vp_callSi (W.runV (As := [.int (nI t), .int (nI h), .int (nI v)]) (rest := []) ⟨hx, hb, hml, hown, hts⟩ (m_owns l dC dI h0 b1 b2 b3 b4 b5 cI cZ mh ma mc mt mn (nI 0) ro t h v (by omega) (by omega) (by omega) hOk hAc) (cwV 3 hts gM_range_owns rfl rfl rfl (by decide +kernel) ⟨Nat.le_of_ble_eq_true rfl, Nat.le_of_ble_eq_true rfl⟩) (xf_preV (ci := 1) (RX1, TM, 7) hK hP rfl rfl) rfl rfl hl.1 rfl (lv_room (Nat.le_of_ble_eq_true rfl)) dM_range_63 ⟨Nat.zero_le _, Nat.zero_le _⟩) (fun r hr9 => ?_)
              subst hr9
              refine xf_Beq (tgt := 73) hx hb dM_range_66 (by decide) (fun c66 => ?_) (fun c66 => ?_)
              ·
                refine lv_iconst (v := nI 0) hx hb dM_range_73 (by decide) ?_
                refine lv_istore (lv' := [(6, .int (nI 0)), (0, .ref h0), (1, .int (nI h)), (2, .int pa), (3, .int pb), (4, .int (nI (xf_cnt (mdRg mh ma mc h pa pb) t))), (5, .int (nI t)), (7, .int (nI v))]) hx hb dM_range_74 hl (by decide) rfl (fun ls hl => ?_)
                refine lv_iinc (v := nI (v + 1)) (lv' := [(7, .int (nI (v + 1))), (6, .int (nI 0)), (0, .ref h0), (1, .int (nI h)), (2, .int pa), (3, .int pb), (4, .int (nI (xf_cnt (mdRg mh ma mc h pa pb) t))), (5, .int (nI t))]) hx hb dM_range_76 hl (k := 7) rfl (by exact nI_1 v) (by decide) rfl (fun ls hl => ?_)
                refine lv_goto (tgt := 33) hx hb dM_range_79 (by decide) ?_
                have hl := lv_sub (l' := [(0, .ref h0), (1, .int (nI h)), (2, .int pa), (3, .int pb), (4, .int (nI (xf_cnt (mdRg mh ma mc h pa pb) t))), (5, .int (nI t)), (6, .int (nI 0)), (7, .int (nI (v + 1)))]) hl [2, 3, 4, 5, 6, 7, 1, 0] rfl
                have hl : lv_has ls 8 [(0, .ref h0), (1, .int (nI h)), (2, .int pa), (3, .int pb), (4, .int (nI (xf_cnt (mdRg mh ma mc h pa pb) t))), (5, .int (nI t)), (6, .int (xf_B (xf_any (mdRq mh ma t h pa pb) (v + 1)))), (7, .int (nI (v + 1)))] := xf_lv hl (by simp [xf_any, mdRq, xf_B, c37, c42, c48, c54, c66])
                exact ih33 (v + 1) ls (by show 32 - (v + 1) < 32 - v; omega) (by show (v + 1) ≤ 32; omega) hl
              ·
                refine lv_iconst (v := nI 1) hx hb dM_range_69 (by decide) ?_
                refine lv_goto (tgt := 74) hx hb dM_range_70 (by decide) ?_
                refine lv_istore (lv' := [(6, .int (nI 1)), (0, .ref h0), (1, .int (nI h)), (2, .int pa), (3, .int pb), (4, .int (nI (xf_cnt (mdRg mh ma mc h pa pb) t))), (5, .int (nI t)), (7, .int (nI v))]) hx hb dM_range_74 hl (by decide) rfl (fun ls hl => ?_)
                refine lv_iinc (v := nI (v + 1)) (lv' := [(7, .int (nI (v + 1))), (6, .int (nI 1)), (0, .ref h0), (1, .int (nI h)), (2, .int pa), (3, .int pb), (4, .int (nI (xf_cnt (mdRg mh ma mc h pa pb) t))), (5, .int (nI t))]) hx hb dM_range_76 hl (k := 7) rfl (by exact nI_1 v) (by decide) rfl (fun ls hl => ?_)
                refine lv_goto (tgt := 33) hx hb dM_range_79 (by decide) ?_
                have hl := lv_sub (l' := [(0, .ref h0), (1, .int (nI h)), (2, .int pa), (3, .int pb), (4, .int (nI (xf_cnt (mdRg mh ma mc h pa pb) t))), (5, .int (nI t)), (6, .int (nI 1)), (7, .int (nI (v + 1)))]) hl [2, 3, 4, 5, 6, 7, 1, 0] rfl
                have hl : lv_has ls 8 [(0, .ref h0), (1, .int (nI h)), (2, .int pa), (3, .int pb), (4, .int (nI (xf_cnt (mdRg mh ma mc h pa pb) t))), (5, .int (nI t)), (6, .int (xf_B (xf_any (mdRq mh ma t h pa pb) (v + 1)))), (7, .int (nI (v + 1)))] := xf_lv hl (by simp [xf_any, mdRq, xf_B, c37, c42, c48, c54, c66])
                exact ih33 (v + 1) ls (by show 32 - (v + 1) < 32 - v; omega) (by show (v + 1) ≤ 32; omega) hl
  ·
    refine lv_iconst (v := (-1)) hx hb dM_range_12 (by decide) ?_
    exact W.iret (v := (-1)) hx hb hr (fun t9 ht9 hW9 => ⟨⟨_, (mh, ma, mc, mt, mn, nI 0, ro), rfl, by simp [mdRange, c9], xf_hP ht9 hP⟩, hS.F ht9⟩) hS.2.2 dM_range_13
set_option maxHeartbeats 4000000 in
set_option maxRecDepth 100000 in
/-- sum(ph, pv, po) -/
theorem m_sum (l : Launch) (dC : Nat → ClassId) (dI : Nat → Nat → Nat) (h0 b1 b2 b3 b4 b5 : Nat) (cI cZ : ClassId) (mh : Nat → Bool) (ma : Nat → Int32) (mc : Nat → Bool) (mt mn : Nat → Int32) (cd ro : Int32) (ph pv po : Int32) (hOk : mdOk ma) (hAc : mdAc ma) : Met l yM_sum wsM_sum ({ frames := 4, cells := 0, slots := 0, locals := 97 }) (va_Pc [.ref h0, .int ph, .int pv, .int po] (fun U => va_P (dC, dI) fmCl (mw h0 b1 b2 b3 b4 b5 cI cZ mh ma mc mt mn cd ro) U.heap ∧ va_K (dC, dI) fmCl [(cI, .int), (cZ, .boolean)] U ∧ va_D (fun _ => True) (mw h0 b1 b2 b3 b4 b5 cI cZ mh ma mc mt mn cd ro))) (va_Qi (fun (r : Int32) (u : MdS) => (r, u) = (mdSum mh ma mc ph pv po, mh, ma, mc, mt, mn, nI 0, ro)) (fun u t => va_P (dC, dI) fmCl (mw h0 b1 b2 b3 b4 b5 cI cZ u.1 u.2.1 u.2.2.1 u.2.2.2.1 u.2.2.2.2.1 u.2.2.2.2.2.1 u.2.2.2.2.2.2) t.heap) (xf_A (mw h0 b1 b2 b3 b4 b5 cI cZ mh ma mc mt mn cd ro))) 0 0 (xf_A (mw h0 b1 b2 b3 b4 b5 cI cZ mh ma mc mt mn cd ro)) := by
  refine Met.ofW (cc := cM_sum) (maxL := 8) (ret := (some .int)) (by decide) rfl ?_
  intro p e s m args below meth c s₁ B hml hv
  obtain ⟨rfl, hP, hK, hD0⟩ := hv
  have hx := B.exec
  have hb := B.bytes
  have hr := B.returns
  have hts := atoms_spec (ws := wsM_sum) B.pre
  have hown : s.vm.findClass RX1 = some m.cls := findClass_of_methodNamed B.named
  have hlocks := B.notSynchronized
  have hin : ∀ w ∈ u_ws RX1 TM 7, w ∈ wsM_sum := by decide +kernel
  have hf_code := hts (.fieldLink RX1 26 "FacetCountsModel" "code" "I") (by decide +kernel)
  have hD := xf_A_self hD0
  generalize hAe : xf_A (mw h0 b1 b2 b3 b4 b5 cI cZ mh ma mc mt mn cd ro) = A at hD ⊢
  have hS : va_S A s.heap s.heap [] := va_S.rf
  have hP : va_P (dC, dI) fmCl (mw h0 b1 b2 b3 b4 b5 cI cZ mh ma mc mt mn cd ro) s.heap := hP
  have hl := lv_entry ([.ref h0, .int ph, .int pv, .int po]) (n := 8) (Nat.le_of_ble_eq_true rfl)
  rw [lg_entry_eq]
  generalize (lg_sl ([.ref h0, .int ph, .int pv, .int po]) ++ List.replicate (8 - (lg_sl ([.ref h0, .int ph, .int pv, .int po])).length) Slot.unset).toArray = ls at hl ⊢
  have hl : lv_has ls 8 [(0, .ref h0), (1, .int ph), (2, .int pv), (3, .int po)] := hl
  refine lv_aload_n hx hb dM_sum_0 rfl (lv_at hl 0 rfl) ?_
  refine lv_iconst (v := nI 0) hx hb dM_sum_1 (by decide) ?_
  refine va_put (D := (dC, dI)) (ci := 1) (v := .int (nI 0)) (ty := .int) (C := RX1) (T := TM) (N := 7) hx hb hts hin tyM tyM_ok nmM hown hK hP hD hS 0 rfl rfl 0 (by decide) hf_code (fun _ h9 => h9) rfl (by decide +kernel) rfl rfl (Nat.le_of_ble_eq_true rfl) dM_sum_2 (fun H locs hP hD hS => ?_)
  have hP : va_P (dC, dI) fmCl (mw h0 b1 b2 b3 b4 b5 cI cZ mh ma mc mt mn (nI 0) ro) H := hP
  have hD : va_D A (mw h0 b1 b2 b3 b4 b5 cI cZ mh ma mc mt mn (nI 0) ro) := hD
  refine lv_iload_n hx hb dM_sum_5 rfl (lv_at hl 1 rfl) ?_
  refine vp_callSi (W.runS (As := [.int ph]) (rest := []) ⟨hx, hb, hml, hown, hts⟩ (m_isHead l ph) (va_cwS 1 hts gM_sum_isHead rfl rfl rfl (by decide +kernel) ⟨Nat.le_of_ble_eq_true rfl, Nat.le_of_ble_eq_true rfl⟩) (xf_preS0) rfl rfl hl.1 rfl (lv_room (Nat.le_of_ble_eq_true rfl)) dM_sum_6 ⟨Nat.zero_le _, Nat.zero_le _⟩) (fun r hr9 => ?_)
  subst hr9
  refine xf_Beq (tgt := 26) hx hb dM_sum_9 (by decide) (fun c9 => ?_) (fun c9 => ?_)
  ·
    refine lv_iconst (v := (-1)) hx hb dM_sum_26 (by decide) ?_
    exact W.iret (v := (-1)) hx hb hr (fun t9 ht9 hW9 => ⟨⟨_, (mh, ma, mc, mt, mn, nI 0, ro), rfl, by simp [mdSum, c9], xf_hP ht9 hP⟩, hS.F ht9⟩) hS.2.2 dM_sum_27
  ·
    obtain ⟨h, hh, rfl⟩ := xf_in_of c9 (by decide)
    have eh : (nI h).toNatClampNeg = h := nI_clamp (by omega)
    refine lv_iload_n hx hb dM_sum_12 rfl (lv_at hl 2 rfl) ?_
    refine vp_callSi (W.runS (As := [.int pv]) (rest := []) ⟨hx, hb, hml, hown, hts⟩ (m_isValue l pv) (va_cwS 1 hts gM_sum_isValue rfl rfl rfl (by decide +kernel) ⟨Nat.le_of_ble_eq_true rfl, Nat.le_of_ble_eq_true rfl⟩) (xf_preS0) rfl rfl hl.1 rfl (lv_room (Nat.le_of_ble_eq_true rfl)) dM_sum_13 ⟨Nat.zero_le _, Nat.zero_le _⟩) (fun r hr9 => ?_)
    subst hr9
    refine xf_Beq (tgt := 26) hx hb dM_sum_16 (by decide) (fun c16 => ?_) (fun c16 => ?_)
    ·
      refine lv_iconst (v := (-1)) hx hb dM_sum_26 (by decide) ?_
      exact W.iret (v := (-1)) hx hb hr (fun t9 ht9 hW9 => ⟨⟨_, (mh, ma, mc, mt, mn, nI 0, ro), rfl, by simp [mdSum, c9, eh, c16], xf_hP ht9 hP⟩, hS.F ht9⟩) hS.2.2 dM_sum_27
    ·
      obtain ⟨v, hv, rfl⟩ := xf_in_of c16 (by decide)
      have ev : (nI v).toNatClampNeg = v := nI_clamp (by omega)
      refine lv_iload_n hx hb dM_sum_19 rfl (lv_at hl 3 rfl) ?_
      refine vp_callSi (W.runS (As := [.int po]) (rest := []) ⟨hx, hb, hml, hown, hts⟩ (m_isHead l po) (va_cwS 1 hts gM_sum_isHead rfl rfl rfl (by decide +kernel) ⟨Nat.le_of_ble_eq_true rfl, Nat.le_of_ble_eq_true rfl⟩) (xf_preS0) rfl rfl hl.1 rfl (lv_room (Nat.le_of_ble_eq_true rfl)) dM_sum_20 ⟨Nat.zero_le _, Nat.zero_le _⟩) (fun r hr9 => ?_)
      subst hr9
      refine xf_Bne (tgt := 28) hx hb dM_sum_23 (by decide) (fun c23 => ?_) (fun c23 => ?_)
      ·
        obtain ⟨o, ho, rfl⟩ := xf_in_of c23 (by decide)
        have eo : (nI o).toNatClampNeg = o := nI_clamp (by omega)
        refine lv_iconst (v := nI 0) hx hb dM_sum_28 (by decide) ?_
        refine lv_istore (lv' := [(4, .int (nI 0)), (0, .ref h0), (1, .int (nI h)), (2, .int (nI v)), (3, .int (nI o))]) hx hb dM_sum_29 hl (by decide) rfl (fun ls hl => ?_)
        refine lv_iconst (v := nI 0) hx hb dM_sum_31 (by decide) ?_
        refine lv_istore (lv' := [(5, .int (nI 0)), (4, .int (nI 0)), (0, .ref h0), (1, .int (nI h)), (2, .int (nI v)), (3, .int (nI o))]) hx hb dM_sum_32 hl (by decide) rfl (fun ls hl => ?_)
        refine xf_loopS (σ := Nat) (fun (z9 : Nat) => 40 - z9) (fun (z9 : Nat) => [(0, .ref h0), (1, .int (nI h)), (2, .int (nI v)), (3, .int (nI o)), (4, .int (nI (mdSm mh ma mc h v o z9))), (5, .int (nI z9))]) (fun (z9 : Nat) => z9 ≤ 40) 0 (lv_sub hl [2, 3, 4, 5, 1, 0] rfl) (Nat.zero_le _) (fun z9 ls hi hl ih34 => ?_)
        obtain ⟨t, hxe⟩ : ∃ z, z = z9 := ⟨_, rfl⟩
        subst hxe
        have hl : lv_has ls 8 [(0, .ref h0), (1, .int (nI h)), (2, .int (nI v)), (3, .int (nI o)), (4, .int (nI (mdSm mh ma mc h v o t))), (5, .int (nI t))] := hl
        have hi : t ≤ 40 := hi
        refine lv_iload hx hb dM_sum_34 (lv_at hl 5 rfl) ?_
        refine lv_bipush (v := nI 40) hx hb dM_sum_36 (by decide) ?_
        refine xf_ge (tgt := 119) hx hb dM_sum_38 (by decide) (by omega) (by omega) (fun c38 => ?_) (fun c38 => ?_)
        ·
          obtain rfl : t = 40 := by omega
          refine lv_iload hx hb dM_sum_119 (lv_at hl 4 rfl) ?_
          exact W.iret (v := nI (mdSm mh ma mc h v o 40)) hx hb hr (fun t9 ht9 hW9 => ⟨⟨_, (mh, ma, mc, mt, mn, nI 0, ro), rfl, by simp [mdSum, c9, eh, c16, ev, c23, eo], xf_hP ht9 hP⟩, hS.F ht9⟩) hS.2.2 dM_sum_121
        ·
          refine lv_aload_n hx hb dM_sum_41 rfl (lv_at hl 0 rfl) ?_
          refine lv_iload hx hb dM_sum_42 (lv_at hl 5 rfl) ?_
          refine lv_iload_n hx hb dM_sum_44 rfl (lv_at hl 1 rfl) ?_
          refine lv_iload_n hx hb dM_sum_45 rfl (lv_at hl 2 rfl) ?_
          refine vp_callSi (W.runV (As := [.int (nI t), .int (nI h), .int (nI v)]) (rest := []) ⟨hx, hb, hml, hown, hts⟩ (m_owns l dC dI h0 b1 b2 b3 b4 b5 cI cZ mh ma mc mt mn (nI 0) ro t h v (by omega) (by omega) (by omega) hOk hAc) (cwV 3 hts gM_sum_owns rfl rfl rfl (by decide +kernel) ⟨Nat.le_of_ble_eq_true rfl, Nat.le_of_ble_eq_true rfl⟩) (xf_preV (ci := 1) (RX1, TM, 7) hK hP rfl rfl) rfl rfl hl.1 rfl (lv_room (Nat.le_of_ble_eq_true rfl)) dM_sum_46 ⟨Nat.zero_le _, Nat.zero_le _⟩) (fun r hr9 => ?_)
          subst hr9
          refine xf_Beq (tgt := 66) hx hb dM_sum_49 (by decide) (fun c49 => ?_) (fun c49 => ?_)
          ·
            refine lv_iconst (v := nI 0) hx hb dM_sum_66 (by decide) ?_
            refine lv_istore (lv' := [(6, .int (nI 0)), (0, .ref h0), (1, .int (nI h)), (2, .int (nI v)), (3, .int (nI o)), (4, .int (nI (mdSm mh ma mc h v o t))), (5, .int (nI t))]) hx hb dM_sum_67 hl (by decide) rfl (fun ls hl => ?_)
            refine lv_iconst (v := nI 0) hx hb dM_sum_69 (by decide) ?_
            refine lv_istore (lv' := [(7, .int (nI 0)), (6, .int (nI 0)), (0, .ref h0), (1, .int (nI h)), (2, .int (nI v)), (3, .int (nI o)), (4, .int (nI (mdSm mh ma mc h v o t))), (5, .int (nI t))]) hx hb dM_sum_70 hl (by decide) rfl (fun ls hl => ?_)
            refine xf_loopS (σ := Nat) (fun (z9 : Nat) => 0 - z9) (fun (z9 : Nat) => [(0, .ref h0), (1, .int (nI h)), (2, .int (nI v)), (3, .int (nI o)), (4, .int (nI (mdSm mh ma mc h v o t))), (5, .int (nI t)), (6, .int (nI 0)), (7, .int (nI z9))]) (fun (z9 : Nat) => z9 ≤ 0) 0 (lv_sub hl [2, 3, 4, 5, 6, 7, 1, 0] rfl) (Nat.zero_le _) (fun z9 ls hi hl ih72 => ?_)
            obtain ⟨w, hxe⟩ : ∃ z, z = z9 := ⟨_, rfl⟩
            subst hxe
            have hl : lv_has ls 8 [(0, .ref h0), (1, .int (nI h)), (2, .int (nI v)), (3, .int (nI o)), (4, .int (nI (mdSm mh ma mc h v o t))), (5, .int (nI t)), (6, .int (nI 0)), (7, .int (nI w))] := hl
            have hi : w ≤ 0 := hi
            refine lv_iload hx hb dM_sum_72 (lv_at hl 7 rfl) ?_
            refine lv_bipush (v := nI 32) hx hb dM_sum_74 (by decide) ?_
            refine xf_ge (tgt := 113) hx hb dM_sum_76 (by decide) (by omega) (by omega) (fun c76 => ?_) (fun c76 => ?_)
            ·
              exact absurd c76 (by omega)
            ·
              refine lv_iload hx hb dM_sum_79 (lv_at hl 6 rfl) ?_
              refine lv_if_eq (tgt := 113) hx hb dM_sum_81 (by decide) (fun c81 => ?_) (fun c81 => ?_)
              ·
                refine lv_iinc (v := nI (t + 1)) (lv' := [(5, .int (nI (t + 1))), (0, .ref h0), (1, .int (nI h)), (2, .int (nI v)), (3, .int (nI o)), (4, .int (nI (mdSm mh ma mc h v o t))), (6, .int (nI 0)), (7, .int (nI w))]) hx hb dM_sum_113 hl (k := 5) rfl (by exact nI_1 t) (by decide) rfl (fun ls hl => ?_)
                refine lv_goto (tgt := 34) hx hb dM_sum_116 (by decide) ?_
                have hl := lv_sub (l' := [(0, .ref h0), (1, .int (nI h)), (2, .int (nI v)), (3, .int (nI o)), (4, .int (nI (mdSm mh ma mc h v o t))), (5, .int (nI (t + 1)))]) hl [1, 2, 3, 4, 5, 0] rfl
                have hl : lv_has ls 8 [(0, .ref h0), (1, .int (nI h)), (2, .int (nI v)), (3, .int (nI o)), (4, .int (nI (mdSm mh ma mc h v o (t + 1)))), (5, .int (nI (t + 1)))] := xf_lv hl (by simp [mdSm, c49])
                exact ih34 (t + 1) ls (by show 40 - (t + 1) < 40 - t; omega) (by show (t + 1) ≤ 40; omega) hl
              ·
                exact absurd nI_0 c81
          ·
            refine lv_aload_n hx hb dM_sum_52 rfl (lv_at hl 0 rfl) ?_
            refine lv_iload hx hb dM_sum_53 (lv_at hl 5 rfl) ?_
            refine lv_iconst (v := (-1)) hx hb dM_sum_55 (by decide) ?_
            refine vp_callSi (W.runV (As := [.int (nI t), .int ((-1))]) (rest := []) ⟨hx, hb, hml, hown, hts⟩ (m_isKeptBut l dC dI h0 b1 b2 b3 b4 b5 cI cZ mh ma mc mt mn (nI 0) ro t ((-1)) (by omega) hOk hAc) (cwV 2 hts gM_sum_isKeptBut rfl rfl rfl (by decide +kernel) ⟨Nat.le_of_ble_eq_true rfl, Nat.le_of_ble_eq_true rfl⟩) (xf_preV (ci := 1) (RX1, TM, 7) hK hP rfl rfl) rfl rfl hl.1 rfl (lv_room (Nat.le_of_ble_eq_true rfl)) dM_sum_56 ⟨Nat.zero_le _, Nat.zero_le _⟩) (fun r hr9 => ?_)
            subst hr9
            refine xf_Beq (tgt := 66) hx hb dM_sum_59 (by decide) (fun c59 => ?_) (fun c59 => ?_)
            ·
              refine lv_iconst (v := nI 0) hx hb dM_sum_66 (by decide) ?_
              refine lv_istore (lv' := [(6, .int (nI 0)), (0, .ref h0), (1, .int (nI h)), (2, .int (nI v)), (3, .int (nI o)), (4, .int (nI (mdSm mh ma mc h v o t))), (5, .int (nI t))]) hx hb dM_sum_67 hl (by decide) rfl (fun ls hl => ?_)
              refine lv_iconst (v := nI 0) hx hb dM_sum_69 (by decide) ?_
              refine lv_istore (lv' := [(7, .int (nI 0)), (6, .int (nI 0)), (0, .ref h0), (1, .int (nI h)), (2, .int (nI v)), (3, .int (nI o)), (4, .int (nI (mdSm mh ma mc h v o t))), (5, .int (nI t))]) hx hb dM_sum_70 hl (by decide) rfl (fun ls hl => ?_)
              refine xf_loopS (σ := Nat) (fun (z9 : Nat) => 0 - z9) (fun (z9 : Nat) => [(0, .ref h0), (1, .int (nI h)), (2, .int (nI v)), (3, .int (nI o)), (4, .int (nI (mdSm mh ma mc h v o t))), (5, .int (nI t)), (6, .int (nI 0)), (7, .int (nI z9))]) (fun (z9 : Nat) => z9 ≤ 0) 0 (lv_sub hl [2, 3, 4, 5, 6, 7, 1, 0] rfl) (Nat.zero_le _) (fun z9 ls hi hl ih72 => ?_)
              obtain ⟨w, hxe⟩ : ∃ z, z = z9 := ⟨_, rfl⟩
              subst hxe
              have hl : lv_has ls 8 [(0, .ref h0), (1, .int (nI h)), (2, .int (nI v)), (3, .int (nI o)), (4, .int (nI (mdSm mh ma mc h v o t))), (5, .int (nI t)), (6, .int (nI 0)), (7, .int (nI w))] := hl
              have hi : w ≤ 0 := hi
              refine lv_iload hx hb dM_sum_72 (lv_at hl 7 rfl) ?_
              refine lv_bipush (v := nI 32) hx hb dM_sum_74 (by decide) ?_
              refine xf_ge (tgt := 113) hx hb dM_sum_76 (by decide) (by omega) (by omega) (fun c76 => ?_) (fun c76 => ?_)
              ·
                exact absurd c76 (by omega)
              ·
                refine lv_iload hx hb dM_sum_79 (lv_at hl 6 rfl) ?_
                refine lv_if_eq (tgt := 113) hx hb dM_sum_81 (by decide) (fun c81 => ?_) (fun c81 => ?_)
                ·
                  refine lv_iinc (v := nI (t + 1)) (lv' := [(5, .int (nI (t + 1))), (0, .ref h0), (1, .int (nI h)), (2, .int (nI v)), (3, .int (nI o)), (4, .int (nI (mdSm mh ma mc h v o t))), (6, .int (nI 0)), (7, .int (nI w))]) hx hb dM_sum_113 hl (k := 5) rfl (by exact nI_1 t) (by decide) rfl (fun ls hl => ?_)
                  refine lv_goto (tgt := 34) hx hb dM_sum_116 (by decide) ?_
                  have hl := lv_sub (l' := [(0, .ref h0), (1, .int (nI h)), (2, .int (nI v)), (3, .int (nI o)), (4, .int (nI (mdSm mh ma mc h v o t))), (5, .int (nI (t + 1)))]) hl [1, 2, 3, 4, 5, 0] rfl
                  have hl : lv_has ls 8 [(0, .ref h0), (1, .int (nI h)), (2, .int (nI v)), (3, .int (nI o)), (4, .int (nI (mdSm mh ma mc h v o (t + 1)))), (5, .int (nI (t + 1)))] := xf_lv hl (by simp [mdSm, c49, c59])
                  exact ih34 (t + 1) ls (by show 40 - (t + 1) < 40 - t; omega) (by show (t + 1) ≤ 40; omega) hl
                ·
                  exact absurd nI_0 c81
            ·
              refine lv_iconst (v := nI 1) hx hb dM_sum_62 (by decide) ?_
              refine lv_goto (tgt := 67) hx hb dM_sum_63 (by decide) ?_
              refine lv_istore (lv' := [(6, .int (nI 1)), (0, .ref h0), (1, .int (nI h)), (2, .int (nI v)), (3, .int (nI o)), (4, .int (nI (mdSm mh ma mc h v o t))), (5, .int (nI t))]) hx hb dM_sum_67 hl (by decide) rfl (fun ls hl => ?_)
              refine lv_iconst (v := nI 0) hx hb dM_sum_69 (by decide) ?_
              refine lv_istore (lv' := [(7, .int (nI 0)), (6, .int (nI 1)), (0, .ref h0), (1, .int (nI h)), (2, .int (nI v)), (3, .int (nI o)), (4, .int (nI (mdSm mh ma mc h v o t))), (5, .int (nI t))]) hx hb dM_sum_70 hl (by decide) rfl (fun ls hl => ?_)
              refine xf_loopS (σ := Nat) (fun (z9 : Nat) => 32 - z9) (fun (z9 : Nat) => [(0, .ref h0), (1, .int (nI h)), (2, .int (nI v)), (3, .int (nI o)), (4, .int (nI (mdSm mh ma mc h v o t + mdSO mh ma t o z9))), (5, .int (nI t)), (6, .int (nI 1)), (7, .int (nI z9))]) (fun (z9 : Nat) => z9 ≤ 32) 0 (lv_sub hl [2, 3, 4, 5, 6, 7, 1, 0] rfl) (Nat.zero_le _) (fun z9 ls hi hl ih72 => ?_)
              obtain ⟨w, hxe⟩ : ∃ z, z = z9 := ⟨_, rfl⟩
              subst hxe
              have hl : lv_has ls 8 [(0, .ref h0), (1, .int (nI h)), (2, .int (nI v)), (3, .int (nI o)), (4, .int (nI (mdSm mh ma mc h v o t + mdSO mh ma t o w))), (5, .int (nI t)), (6, .int (nI 1)), (7, .int (nI w))] := hl
              have hi : w ≤ 32 := hi
              refine lv_iload hx hb dM_sum_72 (lv_at hl 7 rfl) ?_
              refine lv_bipush (v := nI 32) hx hb dM_sum_74 (by decide) ?_
              refine xf_ge (tgt := 113) hx hb dM_sum_76 (by decide) (by omega) (by omega) (fun c76 => ?_) (fun c76 => ?_)
              ·
                obtain rfl : w = 32 := by omega
                refine lv_iinc (v := nI (t + 1)) (lv' := [(5, .int (nI (t + 1))), (0, .ref h0), (1, .int (nI h)), (2, .int (nI v)), (3, .int (nI o)), (4, .int (nI (mdSm mh ma mc h v o t + mdSO mh ma t o 32))), (6, .int (nI 1)), (7, .int (nI 32))]) hx hb dM_sum_113 hl (k := 5) rfl (by exact nI_1 t) (by decide) rfl (fun ls hl => ?_)
                refine lv_goto (tgt := 34) hx hb dM_sum_116 (by decide) ?_
                have hl := lv_sub (l' := [(0, .ref h0), (1, .int (nI h)), (2, .int (nI v)), (3, .int (nI o)), (4, .int (nI (mdSm mh ma mc h v o t + mdSO mh ma t o 32))), (5, .int (nI (t + 1)))]) hl [1, 2, 3, 4, 5, 0] rfl
                have hl : lv_has ls 8 [(0, .ref h0), (1, .int (nI h)), (2, .int (nI v)), (3, .int (nI o)), (4, .int (nI (mdSm mh ma mc h v o (t + 1)))), (5, .int (nI (t + 1)))] := xf_lv hl (by simp [mdSm, c49, c59])
                exact ih34 (t + 1) ls (by show 40 - (t + 1) < 40 - t; omega) (by show (t + 1) ≤ 40; omega) hl
              ·
                refine lv_iload hx hb dM_sum_79 (lv_at hl 6 rfl) ?_
                refine lv_if_eq (tgt := 113) hx hb dM_sum_81 (by decide) (fun c81 => ?_) (fun c81 => ?_)
                ·
                  exact absurd c81 (by decide)
                ·
                  refine lv_iload hx hb dM_sum_84 (lv_at hl 4 rfl) ?_
                  refine lv_aload_n hx hb dM_sum_86 rfl (lv_at hl 0 rfl) ?_
                  refine lv_iload hx hb dM_sum_87 (lv_at hl 5 rfl) ?_
                  refine lv_iload_n hx hb dM_sum_89 rfl (lv_at hl 3 rfl) ?_
                  refine lv_iload hx hb dM_sum_90 (lv_at hl 7 rfl) ?_
                  refine vp_callSi (W.runV (As := [.int (nI t), .int (nI o), .int (nI w)]) (rest := [.int (nI (mdSm mh ma mc h v o t + mdSO mh ma t o w))]) ⟨hx, hb, hml, hown, hts⟩ (m_owns l dC dI h0 b1 b2 b3 b4 b5 cI cZ mh ma mc mt mn (nI 0) ro t o w (by omega) (by omega) (by omega) hOk hAc) (cwV 3 hts gM_sum_owns rfl rfl rfl (by decide +kernel) ⟨Nat.le_of_ble_eq_true rfl, Nat.le_of_ble_eq_true rfl⟩) (xf_preV (ci := 1) (RX1, TM, 7) hK hP rfl rfl) rfl rfl hl.1 rfl (lv_room (Nat.le_of_ble_eq_true rfl)) dM_sum_92 ⟨Nat.zero_le _, Nat.zero_le _⟩) (fun r hr9 => ?_)
                  subst hr9
                  refine xf_Beq (tgt := 103) hx hb dM_sum_95 (by decide) (fun c95 => ?_) (fun c95 => ?_)
                  ·
                    refine lv_iconst (v := nI 0) hx hb dM_sum_103 (by decide) ?_
                    refine lv_iadd hx hb dM_sum_104 ?_
                    refine xf_be (y := nI (mdSm mh ma mc h v o t + mdSO mh ma t o w + 0)) (by exact nI_add _ _) ?_
                    refine lv_istore (lv' := [(4, .int (nI (mdSm mh ma mc h v o t + mdSO mh ma t o w + 0))), (0, .ref h0), (1, .int (nI h)), (2, .int (nI v)), (3, .int (nI o)), (5, .int (nI t)), (6, .int (nI 1)), (7, .int (nI w))]) hx hb dM_sum_105 hl (by decide) rfl (fun ls hl => ?_)
                    refine lv_iinc (v := nI (w + 1)) (lv' := [(7, .int (nI (w + 1))), (4, .int (nI (mdSm mh ma mc h v o t + mdSO mh ma t o w + 0))), (0, .ref h0), (1, .int (nI h)), (2, .int (nI v)), (3, .int (nI o)), (5, .int (nI t)), (6, .int (nI 1))]) hx hb dM_sum_107 hl (k := 7) rfl (by exact nI_1 w) (by decide) rfl (fun ls hl => ?_)
                    refine lv_goto (tgt := 72) hx hb dM_sum_110 (by decide) ?_
                    have hl := lv_sub (l' := [(0, .ref h0), (1, .int (nI h)), (2, .int (nI v)), (3, .int (nI o)), (4, .int (nI (mdSm mh ma mc h v o t + mdSO mh ma t o w + 0))), (5, .int (nI t)), (6, .int (nI 1)), (7, .int (nI (w + 1)))]) hl [2, 3, 4, 5, 1, 6, 7, 0] rfl
                    have hl : lv_has ls 8 [(0, .ref h0), (1, .int (nI h)), (2, .int (nI v)), (3, .int (nI o)), (4, .int (nI (mdSm mh ma mc h v o t + mdSO mh ma t o (w + 1)))), (5, .int (nI t)), (6, .int (nI 1)), (7, .int (nI (w + 1)))] := xf_lv hl (by simp [mdSO, Nat.add_assoc, c76, c81, c95])
                    exact ih72 (w + 1) ls (by show 32 - (w + 1) < 32 - w; omega) (by show (w + 1) ≤ 32; omega) hl
                  ·
                    refine lv_iload hx hb dM_sum_98 (lv_at hl 7 rfl) ?_
                    refine lv_goto (tgt := 104) hx hb dM_sum_100 (by decide) ?_
                    refine lv_iadd hx hb dM_sum_104 ?_
                    refine xf_be (y := nI (mdSm mh ma mc h v o t + mdSO mh ma t o w + w)) (by exact nI_add _ _) ?_
                    refine lv_istore (lv' := [(4, .int (nI (mdSm mh ma mc h v o t + mdSO mh ma t o w + w))), (0, .ref h0), (1, .int (nI h)), (2, .int (nI v)), (3, .int (nI o)), (5, .int (nI t)), (6, .int (nI 1)), (7, .int (nI w))]) hx hb dM_sum_105 hl (by decide) rfl (fun ls hl => ?_)
                    refine lv_iinc (v := nI (w + 1)) (lv' := [(7, .int (nI (w + 1))), (4, .int (nI (mdSm mh ma mc h v o t + mdSO mh ma t o w + w))), (0, .ref h0), (1, .int (nI h)), (2, .int (nI v)), (3, .int (nI o)), (5, .int (nI t)), (6, .int (nI 1))]) hx hb dM_sum_107 hl (k := 7) rfl (by exact nI_1 w) (by decide) rfl (fun ls hl => ?_)
                    refine lv_goto (tgt := 72) hx hb dM_sum_110 (by decide) ?_
                    have hl := lv_sub (l' := [(0, .ref h0), (1, .int (nI h)), (2, .int (nI v)), (3, .int (nI o)), (4, .int (nI (mdSm mh ma mc h v o t + mdSO mh ma t o w + w))), (5, .int (nI t)), (6, .int (nI 1)), (7, .int (nI (w + 1)))]) hl [2, 3, 4, 5, 1, 6, 7, 0] rfl
                    have hl : lv_has ls 8 [(0, .ref h0), (1, .int (nI h)), (2, .int (nI v)), (3, .int (nI o)), (4, .int (nI (mdSm mh ma mc h v o t + mdSO mh ma t o (w + 1)))), (5, .int (nI t)), (6, .int (nI 1)), (7, .int (nI (w + 1)))] := xf_lv hl (by simp [mdSO, Nat.add_assoc, c76, c81, c95])
                    exact ih72 (w + 1) ls (by show 32 - (w + 1) < 32 - w; omega) (by show (w + 1) ≤ 32; omega) hl
      ·
        refine lv_iconst (v := (-1)) hx hb dM_sum_26 (by decide) ?_
        exact W.iret (v := (-1)) hx hb hr (fun t9 ht9 hW9 => ⟨⟨_, (mh, ma, mc, mt, mn, nI 0, ro), rfl, by simp [mdSum, c9, eh, c16, ev, c23], xf_hP ht9 hP⟩, hS.F ht9⟩) hS.2.2 dM_sum_27
set_option maxHeartbeats 4000000 in
set_option maxRecDepth 100000 in
/-- share(ph, pv, lo) -/
theorem m_share (l : Launch) (dC : Nat → ClassId) (dI : Nat → Nat → Nat) (h0 b1 b2 b3 b4 b5 : Nat) (cI cZ : ClassId) (mh : Nat → Bool) (ma : Nat → Int32) (mc : Nat → Bool) (mt mn : Nat → Int32) (cd ro : Int32) (ph pv lo : Int32) (hOk : mdOk ma) (hAc : mdAc ma) : Met l yM_share wsM_share ({ frames := 5, cells := 0, slots := 0, locals := 121 }) (va_Pc [.ref h0, .int ph, .int pv, .int lo] (fun U => va_P (dC, dI) fmCl (mw h0 b1 b2 b3 b4 b5 cI cZ mh ma mc mt mn cd ro) U.heap ∧ va_K (dC, dI) fmCl [(cI, .int), (cZ, .boolean)] U ∧ va_D (fun _ => True) (mw h0 b1 b2 b3 b4 b5 cI cZ mh ma mc mt mn cd ro))) (va_Qi (fun (r : Int32) (u : MdS) => (r, u) = mdShare mh ma mc mt mn ro ph pv lo) (fun u t => va_P (dC, dI) fmCl (mw h0 b1 b2 b3 b4 b5 cI cZ u.1 u.2.1 u.2.2.1 u.2.2.2.1 u.2.2.2.2.1 u.2.2.2.2.2.1 u.2.2.2.2.2.2) t.heap) (xf_A (mw h0 b1 b2 b3 b4 b5 cI cZ mh ma mc mt mn cd ro))) 0 0 (xf_A (mw h0 b1 b2 b3 b4 b5 cI cZ mh ma mc mt mn cd ro)) := by
  refine Met.ofW (cc := cM_share) (maxL := 8) (ret := (some .int)) (by decide) rfl ?_
  intro p e s m args below meth c s₁ B hml hv
  obtain ⟨rfl, hP, hK, hD0⟩ := hv
  have hx := B.exec
  have hb := B.bytes
  have hr := B.returns
  have hts := atoms_spec (ws := wsM_share) B.pre
  have hown : s.vm.findClass RX1 = some m.cls := findClass_of_methodNamed B.named
  have hlocks := B.notSynchronized
  have hin : ∀ w ∈ u_ws RX1 TM 7, w ∈ wsM_share := by decide +kernel
  have hf_code := hts (.fieldLink RX1 26 "FacetCountsModel" "code" "I") (by decide +kernel)
  have hD := xf_A_self hD0
  generalize hAe : xf_A (mw h0 b1 b2 b3 b4 b5 cI cZ mh ma mc mt mn cd ro) = A at hD ⊢
  have hS : va_S A s.heap s.heap [] := va_S.rf
  have hP : va_P (dC, dI) fmCl (mw h0 b1 b2 b3 b4 b5 cI cZ mh ma mc mt mn cd ro) s.heap := hP
  have hl := lv_entry ([.ref h0, .int ph, .int pv, .int lo]) (n := 8) (Nat.le_of_ble_eq_true rfl)
  rw [lg_entry_eq]
  generalize (lg_sl ([.ref h0, .int ph, .int pv, .int lo]) ++ List.replicate (8 - (lg_sl ([.ref h0, .int ph, .int pv, .int lo])).length) Slot.unset).toArray = ls at hl ⊢
  have hl : lv_has ls 8 [(0, .ref h0), (1, .int ph), (2, .int pv), (3, .int lo)] := hl
  refine lv_iload_n hx hb dM_share_0 rfl (lv_at hl 1 rfl) ?_
  refine vp_callSi (W.runS (As := [.int ph]) (rest := []) ⟨hx, hb, hml, hown, hts⟩ (m_isHead l ph) (va_cwS 1 hts gM_share_isHead rfl rfl rfl (by decide +kernel) ⟨Nat.le_of_ble_eq_true rfl, Nat.le_of_ble_eq_true rfl⟩) (xf_preS0) rfl rfl hl.1 rfl (lv_room (Nat.le_of_ble_eq_true rfl)) dM_share_1 ⟨Nat.zero_le _, Nat.zero_le _⟩) (fun r hr9 => ?_)
  subst hr9
  refine xf_Beq (tgt := 22) hx hb dM_share_4 (by decide) (fun c4 => ?_) (fun c4 => ?_)
  ·
    refine lv_iconst (v := nI 0) hx hb dM_share_22 (by decide) ?_
    refine lv_istore (lv' := [(4, .int (nI 0)), (0, .ref h0), (1, .int ph), (2, .int pv), (3, .int lo)]) hx hb dM_share_23 hl (by decide) rfl (fun ls hl => ?_)
    refine lv_aload_n hx hb dM_share_25 rfl (lv_at hl 1 rfl) ?_
    refine lv_iload hx hb dM_share_26 (lv_at hl 0 rfl) ?_
    refine lv_if_ne (tgt := 35) hx hb dM_share_28 (by decide) (fun c28 => ?_) (fun c28 => ?_)
    ·
      exact absurd nI_0 c28
    ·
      refine lv_iconst (v := nI 1) hx hb dM_share_31 (by decide) ?_
      refine lv_goto (tgt := 36) hx hb dM_share_32 (by decide) ?_
      refine va_put (D := (dC, dI)) (ci := 1) (v := .int (nI 1)) (ty := .int) (C := RX1) (T := TM) (N := 7) hx hb hts hin tyM tyM_ok nmM hown hK hP hD hS 0 rfl rfl 0 (by decide) hf_code (fun _ h9 => h9) rfl (by decide +kernel) rfl rfl (Nat.le_of_ble_eq_true rfl) dM_share_36 (fun H locs hP hD hS => ?_)
      have hP : va_P (dC, dI) fmCl (mw h0 b1 b2 b3 b4 b5 cI cZ mh ma mc mt mn (nI 1) ro) H := hP
      have hD : va_D A (mw h0 b1 b2 b3 b4 b5 cI cZ mh ma mc mt mn (nI 1) ro) := hD
      refine lv_aload_n hx hb dM_share_39 rfl (lv_at hl 1 rfl) ?_
      refine va_get (D := (dC, dI)) (ci := 1) (v := .int (nI 1)) (C := RX1) (T := TM) (N := 7) hx hb hts hin hown hK hP 0 rfl rfl 0 (by decide) hf_code (fun _ h9 => h9) rfl dM_share_40 ?_
      refine lv_if_le (tgt := 48) hx hb dM_share_43 (by decide) (fun c43 => ?_) (fun c43 => ?_)
      ·
        exact absurd c43 (by decide)
      ·
        refine lv_iconst (v := nI 0) hx hb dM_share_46 (by decide) ?_
        exact W.iret (v := nI 0) hx hb hr (fun t9 ht9 hW9 => ⟨⟨_, (mh, ma, mc, mt, mn, nI 1, ro), rfl, by simp [mdShare, mdShW, c4], xf_hP ht9 hP⟩, hS.F ht9⟩) hS.2.2 dM_share_47
  ·
    obtain ⟨h, hh, rfl⟩ := xf_in_of c4 (by decide)
    have eh : (nI h).toNatClampNeg = h := nI_clamp (by omega)
    refine lv_iload_n hx hb dM_share_7 rfl (lv_at hl 2 rfl) ?_
    refine vp_callSi (W.runS (As := [.int pv]) (rest := []) ⟨hx, hb, hml, hown, hts⟩ (m_isValue l pv) (va_cwS 1 hts gM_share_isValue rfl rfl rfl (by decide +kernel) ⟨Nat.le_of_ble_eq_true rfl, Nat.le_of_ble_eq_true rfl⟩) (xf_preS0) rfl rfl hl.1 rfl (lv_room (Nat.le_of_ble_eq_true rfl)) dM_share_8 ⟨Nat.zero_le _, Nat.zero_le _⟩) (fun r hr9 => ?_)
    subst hr9
    refine xf_Beq (tgt := 22) hx hb dM_share_11 (by decide) (fun c11 => ?_) (fun c11 => ?_)
    ·
      refine lv_iconst (v := nI 0) hx hb dM_share_22 (by decide) ?_
      refine lv_istore (lv' := [(4, .int (nI 0)), (0, .ref h0), (1, .int (nI h)), (2, .int pv), (3, .int lo)]) hx hb dM_share_23 hl (by decide) rfl (fun ls hl => ?_)
      refine lv_aload_n hx hb dM_share_25 rfl (lv_at hl 1 rfl) ?_
      refine lv_iload hx hb dM_share_26 (lv_at hl 0 rfl) ?_
      refine lv_if_ne (tgt := 35) hx hb dM_share_28 (by decide) (fun c28 => ?_) (fun c28 => ?_)
      ·
        exact absurd nI_0 c28
      ·
        refine lv_iconst (v := nI 1) hx hb dM_share_31 (by decide) ?_
        refine lv_goto (tgt := 36) hx hb dM_share_32 (by decide) ?_
        refine va_put (D := (dC, dI)) (ci := 1) (v := .int (nI 1)) (ty := .int) (C := RX1) (T := TM) (N := 7) hx hb hts hin tyM tyM_ok nmM hown hK hP hD hS 0 rfl rfl 0 (by decide) hf_code (fun _ h9 => h9) rfl (by decide +kernel) rfl rfl (Nat.le_of_ble_eq_true rfl) dM_share_36 (fun H locs hP hD hS => ?_)
        have hP : va_P (dC, dI) fmCl (mw h0 b1 b2 b3 b4 b5 cI cZ mh ma mc mt mn (nI 1) ro) H := hP
        have hD : va_D A (mw h0 b1 b2 b3 b4 b5 cI cZ mh ma mc mt mn (nI 1) ro) := hD
        refine lv_aload_n hx hb dM_share_39 rfl (lv_at hl 1 rfl) ?_
        refine va_get (D := (dC, dI)) (ci := 1) (v := .int (nI 1)) (C := RX1) (T := TM) (N := 7) hx hb hts hin hown hK hP 0 rfl rfl 0 (by decide) hf_code (fun _ h9 => h9) rfl dM_share_40 ?_
        refine lv_if_le (tgt := 48) hx hb dM_share_43 (by decide) (fun c43 => ?_) (fun c43 => ?_)
        ·
          exact absurd c43 (by decide)
        ·
          refine lv_iconst (v := nI 0) hx hb dM_share_46 (by decide) ?_
          exact W.iret (v := nI 0) hx hb hr (fun t9 ht9 hW9 => ⟨⟨_, (mh, ma, mc, mt, mn, nI 1, ro), rfl, by simp [mdShare, mdShW, c11], xf_hP ht9 hP⟩, hS.F ht9⟩) hS.2.2 dM_share_47
    ·
      obtain ⟨v, hv, rfl⟩ := xf_in_of c11 (by decide)
      have ev : (nI v).toNatClampNeg = v := nI_clamp (by omega)
      obtain ⟨w, ew⟩ : ∃ y, y = xf_cnt (mdAP mh ma mc (nI h)) 40 := ⟨_, rfl⟩
      have hw9 : w ≤ 40 := by rw [ew]; exact xf_cnt_le _ _
      refine lv_aload_n hx hb dM_share_14 rfl (lv_at hl 0 rfl) ?_
      refine lv_iload_n hx hb dM_share_15 rfl (lv_at hl 1 rfl) ?_
      refine vp_callSi (W.runV (As := [.int (nI h)]) (rest := []) ⟨hx, hb, hml, hown, hts⟩ (m_all l dC dI h0 b1 b2 b3 b4 b5 cI cZ mh ma mc mt mn cd ro (nI h) hOk hAc) (cwV 1 hts gM_share_all rfl rfl rfl (by decide +kernel) ⟨Nat.le_of_ble_eq_true rfl, Nat.le_of_ble_eq_true rfl⟩) (xf_preV (ci := 1) (RX1, TM, 7) hK hP rfl rfl) rfl rfl hl.1 rfl (lv_room (Nat.le_of_ble_eq_true rfl)) dM_share_16 ⟨Nat.zero_le _, Nat.zero_le _⟩) (fun r hr9 => ?_)
      subst hr9
      refine xf_be (y := nI w) (by rw [ew]) ?_
      refine lv_goto (tgt := 23) hx hb dM_share_19 (by decide) ?_
      refine lv_istore (lv' := [(4, .int (nI w)), (0, .ref h0), (1, .int (nI h)), (2, .int (nI v)), (3, .int lo)]) hx hb dM_share_23 hl (by decide) rfl (fun ls hl => ?_)
      refine lv_aload_n hx hb dM_share_25 rfl (lv_at hl 1 rfl) ?_
      refine lv_iload hx hb dM_share_26 (lv_at hl 0 rfl) ?_
      refine xf_zne (tgt := 35) hx hb dM_share_28 (by decide) (by omega) (fun c28 => ?_) (fun c28 => ?_)
      ·
        refine lv_iconst (v := nI 0) hx hb dM_share_35 (by decide) ?_
        refine va_put (D := (dC, dI)) (ci := 1) (v := .int (nI 0)) (ty := .int) (C := RX1) (T := TM) (N := 7) hx hb hts hin tyM tyM_ok nmM hown hK hP hD hS 0 rfl rfl 0 (by decide) hf_code (fun _ h9 => h9) rfl (by decide +kernel) rfl rfl (Nat.le_of_ble_eq_true rfl) dM_share_36 (fun H locs hP hD hS => ?_)
        have hP : va_P (dC, dI) fmCl (mw h0 b1 b2 b3 b4 b5 cI cZ mh ma mc mt mn (nI 0) ro) H := hP
        have hD : va_D A (mw h0 b1 b2 b3 b4 b5 cI cZ mh ma mc mt mn (nI 0) ro) := hD
        refine lv_aload_n hx hb dM_share_39 rfl (lv_at hl 1 rfl) ?_
        refine va_get (D := (dC, dI)) (ci := 1) (v := .int (nI 0)) (C := RX1) (T := TM) (N := 7) hx hb hts hin hown hK hP 0 rfl rfl 0 (by decide) hf_code (fun _ h9 => h9) rfl dM_share_40 ?_
        refine lv_if_le (tgt := 48) hx hb dM_share_43 (by decide) (fun c43 => ?_) (fun c43 => ?_)
        ·
          obtain ⟨n, en⟩ : ∃ y, y = mdN mh ma mc h v := ⟨_, rfl⟩
          have hn9 : n ≤ 40 := by rw [en]; exact mdN_le _ _ _ _ _
          refine lv_aload_n hx hb dM_share_48 rfl (lv_at hl 1 rfl) ?_
          refine lv_iload_n hx hb dM_share_49 rfl (lv_at hl 2 rfl) ?_
          refine lv_iload_n hx hb dM_share_50 rfl (lv_at hl 3 rfl) ?_
          refine vp_callSi (W.runV (As := [.int (nI h), .int (nI v)]) (rest := []) ⟨hx, hb, hml, hown, hts⟩ (m_count l dC dI h0 b1 b2 b3 b4 b5 cI cZ mh ma mc mt mn (nI 0) ro h v (by omega) (by omega) hOk hAc) (cwV 2 hts gM_share_count rfl rfl rfl (by decide +kernel) ⟨Nat.le_of_ble_eq_true rfl, Nat.le_of_ble_eq_true rfl⟩) (xf_preV (ci := 1) (RX1, TM, 7) hK hP rfl rfl) rfl rfl hl.1 rfl (lv_room (Nat.le_of_ble_eq_true rfl)) dM_share_51 ⟨Nat.zero_le _, Nat.zero_le _⟩) (fun r hr9 => ?_)
          subst hr9
          refine xf_be (y := nI n) (by rw [en]) ?_
          refine lv_istore (lv' := [(5, .int (nI n)), (4, .int (nI w)), (0, .ref h0), (1, .int (nI h)), (2, .int (nI v)), (3, .int lo)]) hx hb dM_share_54 hl (by decide) rfl (fun ls hl => ?_)
          refine lv_iconst (v := nI 1) hx hb dM_share_56 (by decide) ?_
          refine lv_istore (lv' := [(6, .int (nI 1)), (5, .int (nI n)), (4, .int (nI w)), (0, .ref h0), (1, .int (nI h)), (2, .int (nI v)), (3, .int lo)]) hx hb dM_share_57 hl (by decide) rfl (fun ls hl => ?_)
          refine lv_iconst (v := nI 1) hx hb dM_share_59 (by decide) ?_
          refine lv_istore (lv' := [(7, .int (nI 1)), (6, .int (nI 1)), (5, .int (nI n)), (4, .int (nI w)), (0, .ref h0), (1, .int (nI h)), (2, .int (nI v)), (3, .int lo)]) hx hb dM_share_60 hl (by decide) rfl (fun ls hl => ?_)
          refine xf_loopS (σ := Nat) (fun (z9 : Nat) => w + 1 - z9) (fun (z9 : Nat) => [(0, .ref h0), (1, .int (nI h)), (2, .int (nI v)), (3, .int lo), (4, .int (nI w)), (5, .int (nI n)), (6, .int (nI (mdG n w (z9 - 1)))), (7, .int (nI z9))]) (fun (z9 : Nat) => 1 ≤ z9 ∧ z9 ≤ w + 1) 1 (lv_sub hl [4, 5, 6, 7, 3, 2, 1, 0] rfl) ⟨Nat.le_refl _, by omega⟩ (fun z9 ls hi hl ih62 => ?_)
          obtain ⟨k, hxe⟩ : ∃ z, z = z9 := ⟨_, rfl⟩
          subst hxe
          have hl : lv_has ls 8 [(0, .ref h0), (1, .int (nI h)), (2, .int (nI v)), (3, .int lo), (4, .int (nI w)), (5, .int (nI n)), (6, .int (nI (mdG n w (k - 1)))), (7, .int (nI k))] := hl
          obtain ⟨hi, hj⟩ := hi
          have hi : 1 ≤ k := hi
          have hj : k ≤ w + 1 := hj
          refine lv_iload hx hb dM_share_62 (lv_at hl 7 rfl) ?_
          refine lv_iload hx hb dM_share_64 (lv_at hl 4 rfl) ?_
          refine xf_gt (tgt := 100) hx hb dM_share_66 (by decide) (by omega) (by omega) (fun c66 => ?_) (fun c66 => ?_)
          ·
            obtain rfl : k = w + 1 := by omega
            have hl : lv_has ls 8 [(0, .ref h0), (1, .int (nI h)), (2, .int (nI v)), (3, .int lo), (4, .int (nI w)), (5, .int (nI n)), (6, .int (nI (mdG n w w))), (7, .int (nI (w + 1)))] := hl
            refine lv_iload_n hx hb dM_share_100 rfl (lv_at hl 3 rfl) ?_
            refine lv_if_eq (tgt := 112) hx hb dM_share_101 (by decide) (fun c101 => ?_) (fun c101 => ?_)
            ·
              refine lv_iload hx hb dM_share_112 (lv_at hl 5 rfl) ?_
              refine lv_iload hx hb dM_share_114 (lv_at hl 6 rfl) ?_
              refine lv_idiv hx hb dM_share_116 (by have q := mdG_in n w w; exact nI_ne0 (by omega) (by omega)) ?_
              refine xf_be (y := nI (n / mdG n w w)) (by have q := mdG_in n w w; exact pk_div (by omega) (by omega) (by omega)) ?_
              exact W.iret (v := nI (n / mdG n w w)) hx hb hr (fun t9 ht9 hW9 => ⟨⟨_, (mh, ma, mc, mt, mn, nI 0, ro), rfl, by rw [mdShare, show mdShW mh ma mc (nI h) (nI v) = w from by rw [mdShW, if_pos (by rw [c4, c11]; rfl), ← ew], if_neg c28, eh, ev, ← en, if_pos c101], xf_hP ht9 hP⟩, hS.F ht9⟩) hS.2.2 dM_share_117
            ·
              refine lv_iload hx hb dM_share_104 (lv_at hl 4 rfl) ?_
              refine lv_iload hx hb dM_share_106 (lv_at hl 6 rfl) ?_
              refine lv_idiv hx hb dM_share_108 (by have q := mdG_in n w w; exact nI_ne0 (by omega) (by omega)) ?_
              refine xf_be (y := nI (w / mdG n w w)) (by have q := mdG_in n w w; exact pk_div (by omega) (by omega) (by omega)) ?_
              refine lv_goto (tgt := 117) hx hb dM_share_109 (by decide) ?_
              exact W.iret (v := nI (w / mdG n w w)) hx hb hr (fun t9 ht9 hW9 => ⟨⟨_, (mh, ma, mc, mt, mn, nI 0, ro), rfl, by rw [mdShare, show mdShW mh ma mc (nI h) (nI v) = w from by rw [mdShW, if_pos (by rw [c4, c11]; rfl), ← ew], if_neg c28, eh, ev, ← en, if_neg c101], xf_hP ht9 hP⟩, hS.F ht9⟩) hS.2.2 dM_share_117
          ·
            refine lv_iload hx hb dM_share_69 (lv_at hl 4 rfl) ?_
            refine lv_iload hx hb dM_share_71 (lv_at hl 7 rfl) ?_
            refine lv_irem hx hb dM_share_73 (nI_ne0 (by omega) (by omega)) ?_
            refine xf_be (y := nI (w % k)) (pk_rem (by omega) (by omega) (by omega)) ?_
            refine xf_zne (tgt := 90) hx hb dM_share_74 (by decide) (by have := Nat.mod_lt w (show 0 < k by omega); omega) (fun c74 => ?_) (fun c74 => ?_)
            ·
              refine lv_iload hx hb dM_share_90 (lv_at hl 6 rfl) ?_
              refine lv_istore (lv' := [(6, .int (nI (mdG n w (k - 1)))), (0, .ref h0), (1, .int (nI h)), (2, .int (nI v)), (3, .int lo), (4, .int (nI w)), (5, .int (nI n)), (7, .int (nI k))]) hx hb dM_share_92 hl (by decide) rfl (fun ls hl => ?_)
              refine lv_iinc (v := nI (k + 1)) (lv' := [(7, .int (nI (k + 1))), (6, .int (nI (mdG n w (k - 1)))), (0, .ref h0), (1, .int (nI h)), (2, .int (nI v)), (3, .int lo), (4, .int (nI w)), (5, .int (nI n))]) hx hb dM_share_94 hl (k := 7) rfl (by exact nI_1 k) (by decide) rfl (fun ls hl => ?_)
              refine lv_goto (tgt := 62) hx hb dM_share_97 (by decide) ?_
              have hl := lv_sub (l' := [(0, .ref h0), (1, .int (nI h)), (2, .int (nI v)), (3, .int lo), (4, .int (nI w)), (5, .int (nI n)), (6, .int (nI (mdG n w (k - 1)))), (7, .int (nI (k + 1)))]) hl [2, 3, 4, 5, 6, 7, 1, 0] rfl
              have hl : lv_has ls 8 [(0, .ref h0), (1, .int (nI h)), (2, .int (nI v)), (3, .int lo), (4, .int (nI w)), (5, .int (nI n)), (6, .int (nI (mdG n w ((k + 1) - 1)))), (7, .int (nI (k + 1)))] := xf_lv hl (by obtain ⟨q, rfl⟩ : ∃ q, k = q + 1 := ⟨k - 1, by omega⟩; simp [mdG, c66, c74])
              exact ih62 (k + 1) ls (by show w + 1 - (k + 1) < w + 1 - k; omega) (by exact ⟨by omega, by omega⟩) hl
            ·
              refine lv_iload hx hb dM_share_77 (lv_at hl 5 rfl) ?_
              refine lv_iload hx hb dM_share_79 (lv_at hl 7 rfl) ?_
              refine lv_irem hx hb dM_share_81 (nI_ne0 (by omega) (by omega)) ?_
              refine xf_be (y := nI (n % k)) (pk_rem (by omega) (by omega) (by omega)) ?_
              refine xf_zne (tgt := 90) hx hb dM_share_82 (by decide) (by have := Nat.mod_lt n (show 0 < k by omega); omega) (fun c82 => ?_) (fun c82 => ?_)
              ·
                refine lv_iload hx hb dM_share_90 (lv_at hl 6 rfl) ?_
                refine lv_istore (lv' := [(6, .int (nI (mdG n w (k - 1)))), (0, .ref h0), (1, .int (nI h)), (2, .int (nI v)), (3, .int lo), (4, .int (nI w)), (5, .int (nI n)), (7, .int (nI k))]) hx hb dM_share_92 hl (by decide) rfl (fun ls hl => ?_)
                refine lv_iinc (v := nI (k + 1)) (lv' := [(7, .int (nI (k + 1))), (6, .int (nI (mdG n w (k - 1)))), (0, .ref h0), (1, .int (nI h)), (2, .int (nI v)), (3, .int lo), (4, .int (nI w)), (5, .int (nI n))]) hx hb dM_share_94 hl (k := 7) rfl (by exact nI_1 k) (by decide) rfl (fun ls hl => ?_)
                refine lv_goto (tgt := 62) hx hb dM_share_97 (by decide) ?_
                have hl := lv_sub (l' := [(0, .ref h0), (1, .int (nI h)), (2, .int (nI v)), (3, .int lo), (4, .int (nI w)), (5, .int (nI n)), (6, .int (nI (mdG n w (k - 1)))), (7, .int (nI (k + 1)))]) hl [2, 3, 4, 5, 6, 7, 1, 0] rfl
                have hl : lv_has ls 8 [(0, .ref h0), (1, .int (nI h)), (2, .int (nI v)), (3, .int lo), (4, .int (nI w)), (5, .int (nI n)), (6, .int (nI (mdG n w ((k + 1) - 1)))), (7, .int (nI (k + 1)))] := xf_lv hl (by obtain ⟨q, rfl⟩ : ∃ q, k = q + 1 := ⟨k - 1, by omega⟩; simp [mdG, c66, c74, c82])
                exact ih62 (k + 1) ls (by show w + 1 - (k + 1) < w + 1 - k; omega) (by exact ⟨by omega, by omega⟩) hl
              ·
                refine lv_iload hx hb dM_share_85 (lv_at hl 7 rfl) ?_
                refine lv_goto (tgt := 92) hx hb dM_share_87 (by decide) ?_
                refine lv_istore (lv' := [(6, .int (nI k)), (0, .ref h0), (1, .int (nI h)), (2, .int (nI v)), (3, .int lo), (4, .int (nI w)), (5, .int (nI n)), (7, .int (nI k))]) hx hb dM_share_92 hl (by decide) rfl (fun ls hl => ?_)
                refine lv_iinc (v := nI (k + 1)) (lv' := [(7, .int (nI (k + 1))), (6, .int (nI k)), (0, .ref h0), (1, .int (nI h)), (2, .int (nI v)), (3, .int lo), (4, .int (nI w)), (5, .int (nI n))]) hx hb dM_share_94 hl (k := 7) rfl (by exact nI_1 k) (by decide) rfl (fun ls hl => ?_)
                refine lv_goto (tgt := 62) hx hb dM_share_97 (by decide) ?_
                have hl := lv_sub (l' := [(0, .ref h0), (1, .int (nI h)), (2, .int (nI v)), (3, .int lo), (4, .int (nI w)), (5, .int (nI n)), (6, .int (nI k)), (7, .int (nI (k + 1)))]) hl [2, 3, 4, 5, 6, 7, 1, 0] rfl
                have hl : lv_has ls 8 [(0, .ref h0), (1, .int (nI h)), (2, .int (nI v)), (3, .int lo), (4, .int (nI w)), (5, .int (nI n)), (6, .int (nI (mdG n w ((k + 1) - 1)))), (7, .int (nI (k + 1)))] := xf_lv hl (by obtain ⟨q, rfl⟩ : ∃ q, k = q + 1 := ⟨k - 1, by omega⟩; simp [mdG, c66, c74, c82])
                exact ih62 (k + 1) ls (by show w + 1 - (k + 1) < w + 1 - k; omega) (by exact ⟨by omega, by omega⟩) hl
        ·
          exact absurd (by decide) c43
      ·
        refine lv_iconst (v := nI 1) hx hb dM_share_31 (by decide) ?_
        refine lv_goto (tgt := 36) hx hb dM_share_32 (by decide) ?_
        refine va_put (D := (dC, dI)) (ci := 1) (v := .int (nI 1)) (ty := .int) (C := RX1) (T := TM) (N := 7) hx hb hts hin tyM tyM_ok nmM hown hK hP hD hS 0 rfl rfl 0 (by decide) hf_code (fun _ h9 => h9) rfl (by decide +kernel) rfl rfl (Nat.le_of_ble_eq_true rfl) dM_share_36 (fun H locs hP hD hS => ?_)
        have hP : va_P (dC, dI) fmCl (mw h0 b1 b2 b3 b4 b5 cI cZ mh ma mc mt mn (nI 1) ro) H := hP
        have hD : va_D A (mw h0 b1 b2 b3 b4 b5 cI cZ mh ma mc mt mn (nI 1) ro) := hD
        refine lv_aload_n hx hb dM_share_39 rfl (lv_at hl 1 rfl) ?_
        refine va_get (D := (dC, dI)) (ci := 1) (v := .int (nI 1)) (C := RX1) (T := TM) (N := 7) hx hb hts hin hown hK hP 0 rfl rfl 0 (by decide) hf_code (fun _ h9 => h9) rfl dM_share_40 ?_
        refine lv_if_le (tgt := 48) hx hb dM_share_43 (by decide) (fun c43 => ?_) (fun c43 => ?_)
        ·
          exact absurd c43 (by decide)
        ·
          refine lv_iconst (v := nI 0) hx hb dM_share_46 (by decide) ?_
          exact W.iret (v := nI 0) hx hb hr (fun t9 ht9 hW9 => ⟨⟨_, (mh, ma, mc, mt, mn, nI 1, ro), rfl, by rw [mdShare, if_pos (by rw [mdShW, if_pos (by rw [c4, c11]; rfl), ← ew]; exact c28)], xf_hP ht9 hP⟩, hS.F ht9⟩) hS.2.2 dM_share_47
set_option maxHeartbeats 4000000 in
set_option maxRecDepth 100000 in
/-- changed() -/
theorem m_changed (l : Launch) (dC : Nat → ClassId) (dI : Nat → Nat → Nat) (h0 b1 b2 b3 b4 b5 : Nat) (cI cZ : ClassId) (mh : Nat → Bool) (ma : Nat → Int32) (mc : Nat → Bool) (mt mn : Nat → Int32) (cd ro : Int32) (hOk : mdOk ma) (hAc : mdAc ma) : Met l yM_changed wsM_changed ({ frames := 5, cells := 0, slots := 0, locals := 121 }) (va_Pc [.ref h0] (fun U => va_P (dC, dI) fmCl (mw h0 b1 b2 b3 b4 b5 cI cZ mh ma mc mt mn cd ro) U.heap ∧ va_K (dC, dI) fmCl [(cI, .int), (cZ, .boolean)] U ∧ va_D (fun _ => True) (mw h0 b1 b2 b3 b4 b5 cI cZ mh ma mc mt mn cd ro))) (va_Qi (fun (r : Int32) (u : MdS) => (r, u) = mdChanged mh ma mc mt mn ro) (fun u t => va_P (dC, dI) fmCl (mw h0 b1 b2 b3 b4 b5 cI cZ u.1 u.2.1 u.2.2.1 u.2.2.2.1 u.2.2.2.2.1 u.2.2.2.2.2.1 u.2.2.2.2.2.2) t.heap) (xf_A (mw h0 b1 b2 b3 b4 b5 cI cZ mh ma mc mt mn cd ro))) 0 0 (xf_A (mw h0 b1 b2 b3 b4 b5 cI cZ mh ma mc mt mn cd ro)) := by
  refine Met.ofW (cc := cM_changed) (maxL := 5) (ret := (some .int)) (by decide) rfl ?_
  intro p e s m args below meth c s₁ B hml hv
  obtain ⟨rfl, hP, hK, hD0⟩ := hv
  have hx := B.exec
  have hb := B.bytes
  have hr := B.returns
  have hts := atoms_spec (ws := wsM_changed) B.pre
  have hown : s.vm.findClass RX1 = some m.cls := findClass_of_methodNamed B.named
  have hlocks := B.notSynchronized
  have hin : ∀ w ∈ u_ws RX1 TM 7, w ∈ wsM_changed := by decide +kernel
  have hf_code := hts (.fieldLink RX1 26 "FacetCountsModel" "code" "I") (by decide +kernel)
  have hf_told := hts (.fieldLink RX1 20 "FacetCountsModel" "told" "[I") (by decide +kernel)
  have hD := xf_A_self hD0
  generalize hAe : xf_A (mw h0 b1 b2 b3 b4 b5 cI cZ mh ma mc mt mn cd ro) = A at hD ⊢
  have hS : va_S A s.heap s.heap [] := va_S.rf
  have hP : va_P (dC, dI) fmCl (mw h0 b1 b2 b3 b4 b5 cI cZ mh ma mc mt mn cd ro) s.heap := hP
  have hl := lv_entry ([.ref h0]) (n := 5) (Nat.le_of_ble_eq_true rfl)
  rw [lg_entry_eq]
  generalize (lg_sl ([.ref h0]) ++ List.replicate (5 - (lg_sl ([.ref h0])).length) Slot.unset).toArray = ls at hl ⊢
  have hl : lv_has ls 5 [(0, .ref h0)] := hl
  refine lv_aload_n hx hb dM_changed_0 rfl (lv_at hl 0 rfl) ?_
  refine lv_iconst (v := nI 0) hx hb dM_changed_1 (by decide) ?_
  refine va_put (D := (dC, dI)) (ci := 1) (v := .int (nI 0)) (ty := .int) (C := RX1) (T := TM) (N := 7) hx hb hts hin tyM tyM_ok nmM hown hK hP hD hS 0 rfl rfl 0 (by decide) hf_code (fun _ h9 => h9) rfl (by decide +kernel) rfl rfl (Nat.le_of_ble_eq_true rfl) dM_changed_2 (fun H locs hP hD hS => ?_)
  have hP : va_P (dC, dI) fmCl (mw h0 b1 b2 b3 b4 b5 cI cZ mh ma mc mt mn (nI 0) ro) H := hP
  have hD : va_D A (mw h0 b1 b2 b3 b4 b5 cI cZ mh ma mc mt mn (nI 0) ro) := hD
  refine lv_iconst (v := nI 0) hx hb dM_changed_5 (by decide) ?_
  refine lv_istore_n (lv' := [(1, .int (nI 0)), (0, .ref h0)]) hx hb dM_changed_6 rfl hl (by decide) rfl (fun ls hl => ?_)
  refine lv_iconst (v := nI 0) hx hb dM_changed_7 (by decide) ?_
  refine lv_istore_n (lv' := [(2, .int (nI 0)), (1, .int (nI 0)), (0, .ref h0)]) hx hb dM_changed_8 rfl hl (by decide) rfl (fun ls hl => ?_)
  refine xf_loopH (σ := Nat) (fun (z9 : Nat) => 8 - z9) (fun (z9 : Nat) => [(0, .ref h0), (1, .int (nI (xf_cnt (mdDf mh ma mc mt) (32 * z9)))), (2, .int (nI z9))]) (fun (z9 : Nat) => (mw h0 b1 b2 b3 b4 b5 cI cZ mh ma mc (mdTd mh ma mc mt (32 * z9)) mn (nI 0) ro)) (fun (z9 : Nat) => z9 ≤ 8) 0 (lv_sub hl [2, 1, 0] rfl) (Nat.zero_le _) hP hD hS (fun z9 ls H locs hi hl hP hD hS ih9 => ?_)
  obtain ⟨h, hxe⟩ : ∃ z, z = z9 := ⟨_, rfl⟩
  subst hxe
  have hl : lv_has ls 5 [(0, .ref h0), (1, .int (nI (xf_cnt (mdDf mh ma mc mt) (32 * h)))), (2, .int (nI h))] := hl
  have hP : va_P (dC, dI) fmCl (mw h0 b1 b2 b3 b4 b5 cI cZ mh ma mc (mdTd mh ma mc mt (32 * h)) mn (nI 0) ro) H := hP
  have hD : va_D A (mw h0 b1 b2 b3 b4 b5 cI cZ mh ma mc (mdTd mh ma mc mt (32 * h)) mn (nI 0) ro) := hD
  have hi : h ≤ 8 := hi
  refine lv_iload_n hx hb dM_changed_9 rfl (lv_at hl 2 rfl) ?_
  refine lv_bipush (v := nI 8) hx hb dM_changed_10 (by decide) ?_
  refine xf_ge (tgt := 80) hx hb dM_changed_12 (by decide) (by omega) (by omega) (fun c12 => ?_) (fun c12 => ?_)
  ·
    obtain rfl : h = 8 := by omega
    refine lv_iload_n hx hb dM_changed_80 rfl (lv_at hl 1 rfl) ?_
    exact W.iret (v := nI (xf_cnt (mdDf mh ma mc mt) (32 * 8))) hx hb hr (fun t9 ht9 hW9 => ⟨⟨_, (mh, ma, mc, mdTd mh ma mc mt (32 * 8), mn, nI 0, ro), rfl, rfl, xf_hP ht9 hP⟩, hS.F ht9⟩) hS.2.2 dM_changed_81
  ·
    refine lv_iconst (v := nI 0) hx hb dM_changed_15 (by decide) ?_
    refine lv_istore_n (lv' := [(3, .int (nI 0)), (0, .ref h0), (1, .int (nI (xf_cnt (mdDf mh ma mc mt) (32 * h)))), (2, .int (nI h))]) hx hb dM_changed_16 rfl hl (by decide) rfl (fun ls hl => ?_)
    refine xf_loopH (σ := Nat) (fun (z9 : Nat) => 32 - z9) (fun (z9 : Nat) => [(0, .ref h0), (1, .int (nI (xf_cnt (mdDf mh ma mc mt) (32 * h + z9)))), (2, .int (nI h)), (3, .int (nI z9))]) (fun (z9 : Nat) => (mw h0 b1 b2 b3 b4 b5 cI cZ mh ma mc (mdTd mh ma mc mt (32 * h + z9)) mn (nI 0) ro)) (fun (z9 : Nat) => z9 ≤ 32) 0 (lv_sub hl [1, 2, 3, 0] rfl) (Nat.zero_le _) hP hD hS (fun z9 ls H locs hi hl hP hD hS ih17 => ?_)
    obtain ⟨v, hxe⟩ : ∃ z, z = z9 := ⟨_, rfl⟩
    subst hxe
    have hl : lv_has ls 5 [(0, .ref h0), (1, .int (nI (xf_cnt (mdDf mh ma mc mt) (32 * h + v)))), (2, .int (nI h)), (3, .int (nI v))] := hl
    have hP : va_P (dC, dI) fmCl (mw h0 b1 b2 b3 b4 b5 cI cZ mh ma mc (mdTd mh ma mc mt (32 * h + v)) mn (nI 0) ro) H := hP
    have hD : va_D A (mw h0 b1 b2 b3 b4 b5 cI cZ mh ma mc (mdTd mh ma mc mt (32 * h + v)) mn (nI 0) ro) := hD
    have hi : v ≤ 32 := hi
    refine lv_iload_n hx hb dM_changed_17 rfl (lv_at hl 3 rfl) ?_
    refine lv_bipush (v := nI 32) hx hb dM_changed_18 (by decide) ?_
    refine xf_ge (tgt := 74) hx hb dM_changed_20 (by decide) (by omega) (by omega) (fun c20 => ?_) (fun c20 => ?_)
    ·
      obtain rfl : v = 32 := by omega
      refine lv_iinc (v := nI (h + 1)) (lv' := [(2, .int (nI (h + 1))), (0, .ref h0), (1, .int (nI (xf_cnt (mdDf mh ma mc mt) (32 * h + 32)))), (3, .int (nI 32))]) hx hb dM_changed_74 hl (k := 2) rfl (by exact nI_1 h) (by decide) rfl (fun ls hl => ?_)
      refine lv_goto (tgt := 9) hx hb dM_changed_77 (by decide) ?_
      have hl := lv_sub (l' := [(0, .ref h0), (1, .int (nI (xf_cnt (mdDf mh ma mc mt) (32 * h + 32)))), (2, .int (nI (h + 1)))]) hl [1, 2, 0] rfl
      have hl : lv_has ls 5 [(0, .ref h0), (1, .int (nI (xf_cnt (mdDf mh ma mc mt) (32 * (h + 1))))), (2, .int (nI (h + 1)))] := xf_lv hl (by rfl)
      have hP : va_P (dC, dI) fmCl (mw h0 b1 b2 b3 b4 b5 cI cZ mh ma mc (mdTd mh ma mc mt (32 * (h + 1))) mn (nI 0) ro) H := xf_wP hP (by rfl)
      have hD : va_D A (mw h0 b1 b2 b3 b4 b5 cI cZ mh ma mc (mdTd mh ma mc mt (32 * (h + 1))) mn (nI 0) ro) := xf_wD hD rfl
      exact ih9 (h + 1) ls H locs (by show 8 - (h + 1) < 8 - h; omega) (by show (h + 1) ≤ 8; omega) hl hP hD hS
    ·
      refine lv_aload_n hx hb dM_changed_23 rfl (lv_at hl 0 rfl) ?_
      refine lv_iload_n hx hb dM_changed_24 rfl (lv_at hl 2 rfl) ?_
      refine lv_iload_n hx hb dM_changed_25 rfl (lv_at hl 3 rfl) ?_
      refine vp_callSi (W.runV (As := [.int (nI h), .int (nI v)]) (rest := []) ⟨hx, hb, hml, hown, hts⟩ (m_count l dC dI h0 b1 b2 b3 b4 b5 cI cZ mh ma mc (mdTd mh ma mc mt (32 * h + v)) mn (nI 0) ro h v (by omega) (by omega) hOk hAc) (cwV 2 hts gM_changed_count rfl rfl rfl (by decide +kernel) ⟨Nat.le_of_ble_eq_true rfl, Nat.le_of_ble_eq_true rfl⟩) (xf_preV (ci := 1) (RX1, TM, 7) hK hP rfl rfl) rfl rfl hl.1 rfl (lv_room (Nat.le_of_ble_eq_true rfl)) dM_changed_26 ⟨Nat.zero_le _, Nat.zero_le _⟩) (fun r hr9 => ?_)
      subst hr9
      refine lv_istore (lv' := [(4, .int (nI (mdN mh ma mc h v))), (0, .ref h0), (1, .int (nI (xf_cnt (mdDf mh ma mc mt) (32 * h + v)))), (2, .int (nI h)), (3, .int (nI v))]) hx hb dM_changed_29 hl (by decide) rfl (fun ls hl => ?_)
      refine lv_iload_n hx hb dM_changed_31 rfl (lv_at hl 2 rfl) ?_
      refine lv_iload hx hb dM_changed_32 (lv_at hl 0 rfl) ?_
      refine lv_aload_n hx hb dM_changed_34 rfl (lv_at hl 1 rfl) ?_
      refine va_get (D := (dC, dI)) (ci := 1) (v := .ref b4) (C := RX1) (T := TM) (N := 7) hx hb hts hin hown hK hP 0 rfl rfl 4 (by decide) hf_told (fun _ h9 => h9) rfl dM_changed_35 ?_
      refine lv_bipush (v := nI 32) hx hb dM_changed_38 (by decide) ?_
      refine lv_iload_n hx hb dM_changed_40 rfl (lv_at hl 3 rfl) ?_
      refine lv_imul hx hb dM_changed_41 ?_
      refine xf_be (y := nI (32 * h)) (by exact pk_mul _ _) ?_
      refine lv_iload_n hx hb dM_changed_42 rfl (lv_at hl 4 rfl) ?_
      refine lv_iadd hx hb dM_changed_43 ?_
      refine xf_be (y := nI (32 * h + v)) (by exact nI_add _ _) ?_
      refine xf_iald hx hb hK hP 4 0 rfl rfl (j := (32 * h + v)) (by omega) (by decide) dM_changed_44 ?_
      refine xf_be (y := mt (32 * h + v)) (mdTd_ge _ _ _ _ _ _ (Nat.le_refl _)) ?_
      refine lv_icmp_eq (tgt := 52) hx hb dM_changed_45 (by decide) (fun c45 => ?_) (fun c45 => ?_)
      ·
        refine lv_iconst (v := nI 0) hx hb dM_changed_52 (by decide) ?_
        refine lv_iadd hx hb dM_changed_53 ?_
        refine xf_be (y := nI (xf_cnt (mdDf mh ma mc mt) (32 * h + v) + 0)) (by exact nI_add _ _) ?_
        refine lv_istore_n (lv' := [(1, .int (nI (xf_cnt (mdDf mh ma mc mt) (32 * h + v) + 0))), (4, .int (nI (mdN mh ma mc h v))), (0, .ref h0), (2, .int (nI h)), (3, .int (nI v))]) hx hb dM_changed_54 rfl hl (by decide) rfl (fun ls hl => ?_)
        refine lv_aload_n hx hb dM_changed_55 rfl (lv_at hl 2 rfl) ?_
        refine va_get (D := (dC, dI)) (ci := 1) (v := .ref b4) (C := RX1) (T := TM) (N := 7) hx hb hts hin hown hK hP 0 rfl rfl 4 (by decide) hf_told (fun _ h9 => h9) rfl dM_changed_56 ?_
        refine lv_bipush (v := nI 32) hx hb dM_changed_59 (by decide) ?_
        refine lv_iload_n hx hb dM_changed_61 rfl (lv_at hl 3 rfl) ?_
        refine lv_imul hx hb dM_changed_62 ?_
        refine xf_be (y := nI (32 * h)) (by exact pk_mul _ _) ?_
        refine lv_iload_n hx hb dM_changed_63 rfl (lv_at hl 4 rfl) ?_
        refine lv_iadd hx hb dM_changed_64 ?_
        refine xf_be (y := nI (32 * h + v)) (by exact nI_add _ _) ?_
        refine lv_iload hx hb dM_changed_65 (lv_at hl 1 rfl) ?_
        refine xf_iast hx hb hK hP hD hS 4 0 rfl rfl (j := (32 * h + v)) (by omega) (by decide) dM_changed_67 (fun H locs hP hD hS => ?_)
        have hP : va_P (dC, dI) fmCl (mw h0 b1 b2 b3 b4 b5 cI cZ mh ma mc (upd (mdTd mh ma mc mt (32 * h + v)) (32 * h + v) (nI (mdN mh ma mc h v))) mn (nI 0) ro) H := hP
        have hD : va_D A (mw h0 b1 b2 b3 b4 b5 cI cZ mh ma mc (upd (mdTd mh ma mc mt (32 * h + v)) (32 * h + v) (nI (mdN mh ma mc h v))) mn (nI 0) ro) := hD
        refine lv_iinc (v := nI (v + 1)) (lv' := [(3, .int (nI (v + 1))), (1, .int (nI (xf_cnt (mdDf mh ma mc mt) (32 * h + v) + 0))), (4, .int (nI (mdN mh ma mc h v))), (0, .ref h0), (2, .int (nI h))]) hx hb dM_changed_68 hl (k := 4) rfl (by exact nI_1 v) (by decide) rfl (fun ls hl => ?_)
        refine lv_goto (tgt := 17) hx hb dM_changed_71 (by decide) ?_
        have e9 : mdDf mh ma mc mt (32 * h + v) = false := by unfold mdDf; rw [show (32 * h + v) / 32 = h by omega, show (32 * h + v) % 32 = v by omega]; exact decide_eq_false (not_not_intro c45)
        have hl := lv_sub (l' := [(0, .ref h0), (1, .int (nI (xf_cnt (mdDf mh ma mc mt) (32 * h + v) + 0))), (2, .int (nI h)), (3, .int (nI (v + 1)))]) hl [3, 1, 4, 0] rfl
        have hl : lv_has ls 5 [(0, .ref h0), (1, .int (nI (xf_cnt (mdDf mh ma mc mt) (32 * h + (v + 1))))), (2, .int (nI h)), (3, .int (nI (v + 1)))] := xf_lv hl (by rw [show 32 * h + (v + 1) = (32 * h + v) + 1 from rfl]; simp [xf_cnt, e9])
        have hP : va_P (dC, dI) fmCl (mw h0 b1 b2 b3 b4 b5 cI cZ mh ma mc (mdTd mh ma mc mt (32 * h + (v + 1))) mn (nI 0) ro) H := xf_wP hP (by rw [show 32 * h + (v + 1) = (32 * h + v) + 1 from rfl, mdTd, show (32 * h + v) / 32 = h by omega, show (32 * h + v) % 32 = v by omega])
        have hD : va_D A (mw h0 b1 b2 b3 b4 b5 cI cZ mh ma mc (mdTd mh ma mc mt (32 * h + (v + 1))) mn (nI 0) ro) := xf_wD hD rfl
        exact ih17 (v + 1) ls H locs (by show 32 - (v + 1) < 32 - v; omega) (by show (v + 1) ≤ 32; omega) hl hP hD hS
      ·
        refine lv_iconst (v := nI 1) hx hb dM_changed_48 (by decide) ?_
        refine lv_goto (tgt := 53) hx hb dM_changed_49 (by decide) ?_
        refine lv_iadd hx hb dM_changed_53 ?_
        refine xf_be (y := nI (xf_cnt (mdDf mh ma mc mt) (32 * h + v) + 1)) (by exact nI_add _ _) ?_
        refine lv_istore_n (lv' := [(1, .int (nI (xf_cnt (mdDf mh ma mc mt) (32 * h + v) + 1))), (4, .int (nI (mdN mh ma mc h v))), (0, .ref h0), (2, .int (nI h)), (3, .int (nI v))]) hx hb dM_changed_54 rfl hl (by decide) rfl (fun ls hl => ?_)
        refine lv_aload_n hx hb dM_changed_55 rfl (lv_at hl 2 rfl) ?_
        refine va_get (D := (dC, dI)) (ci := 1) (v := .ref b4) (C := RX1) (T := TM) (N := 7) hx hb hts hin hown hK hP 0 rfl rfl 4 (by decide) hf_told (fun _ h9 => h9) rfl dM_changed_56 ?_
        refine lv_bipush (v := nI 32) hx hb dM_changed_59 (by decide) ?_
        refine lv_iload_n hx hb dM_changed_61 rfl (lv_at hl 3 rfl) ?_
        refine lv_imul hx hb dM_changed_62 ?_
        refine xf_be (y := nI (32 * h)) (by exact pk_mul _ _) ?_
        refine lv_iload_n hx hb dM_changed_63 rfl (lv_at hl 4 rfl) ?_
        refine lv_iadd hx hb dM_changed_64 ?_
        refine xf_be (y := nI (32 * h + v)) (by exact nI_add _ _) ?_
        refine lv_iload hx hb dM_changed_65 (lv_at hl 1 rfl) ?_
        refine xf_iast hx hb hK hP hD hS 4 0 rfl rfl (j := (32 * h + v)) (by omega) (by decide) dM_changed_67 (fun H locs hP hD hS => ?_)
        have hP : va_P (dC, dI) fmCl (mw h0 b1 b2 b3 b4 b5 cI cZ mh ma mc (upd (mdTd mh ma mc mt (32 * h + v)) (32 * h + v) (nI (mdN mh ma mc h v))) mn (nI 0) ro) H := hP
        have hD : va_D A (mw h0 b1 b2 b3 b4 b5 cI cZ mh ma mc (upd (mdTd mh ma mc mt (32 * h + v)) (32 * h + v) (nI (mdN mh ma mc h v))) mn (nI 0) ro) := hD
        refine lv_iinc (v := nI (v + 1)) (lv' := [(3, .int (nI (v + 1))), (1, .int (nI (xf_cnt (mdDf mh ma mc mt) (32 * h + v) + 1))), (4, .int (nI (mdN mh ma mc h v))), (0, .ref h0), (2, .int (nI h))]) hx hb dM_changed_68 hl (k := 4) rfl (by exact nI_1 v) (by decide) rfl (fun ls hl => ?_)
        refine lv_goto (tgt := 17) hx hb dM_changed_71 (by decide) ?_
        have e9 : mdDf mh ma mc mt (32 * h + v) = true := by unfold mdDf; rw [show (32 * h + v) / 32 = h by omega, show (32 * h + v) % 32 = v by omega]; exact decide_eq_true c45
        have hl := lv_sub (l' := [(0, .ref h0), (1, .int (nI (xf_cnt (mdDf mh ma mc mt) (32 * h + v) + 1))), (2, .int (nI h)), (3, .int (nI (v + 1)))]) hl [3, 1, 4, 0] rfl
        have hl : lv_has ls 5 [(0, .ref h0), (1, .int (nI (xf_cnt (mdDf mh ma mc mt) (32 * h + (v + 1))))), (2, .int (nI h)), (3, .int (nI (v + 1)))] := xf_lv hl (by rw [show 32 * h + (v + 1) = (32 * h + v) + 1 from rfl]; simp [xf_cnt, e9])
        have hP : va_P (dC, dI) fmCl (mw h0 b1 b2 b3 b4 b5 cI cZ mh ma mc (mdTd mh ma mc mt (32 * h + (v + 1))) mn (nI 0) ro) H := xf_wP hP (by rw [show 32 * h + (v + 1) = (32 * h + v) + 1 from rfl, mdTd, show (32 * h + v) / 32 = h by omega, show (32 * h + v) % 32 = v by omega])
        have hD : va_D A (mw h0 b1 b2 b3 b4 b5 cI cZ mh ma mc (mdTd mh ma mc mt (32 * h + (v + 1))) mn (nI 0) ro) := xf_wD hD rfl
        exact ih17 (v + 1) ls H locs (by show 32 - (v + 1) < 32 - v; omega) (by show (v + 1) ≤ 32; omega) hl hP hD hS
set_option maxHeartbeats 4000000 in
set_option maxRecDepth 100000 in
/-- rows() -/
theorem m_rows (l : Launch) (dC : Nat → ClassId) (dI : Nat → Nat → Nat) (h0 b1 b2 b3 b4 b5 : Nat) (cI cZ : ClassId) (mh : Nat → Bool) (ma : Nat → Int32) (mc : Nat → Bool) (mt mn : Nat → Int32) (cd ro : Int32) : Met l yM_rows wsM_rows ({ frames := 0, cells := 0, slots := 0, locals := 0 }) (va_Pc [.ref h0] (fun U => va_P (dC, dI) fmCl (mw h0 b1 b2 b3 b4 b5 cI cZ mh ma mc mt mn cd ro) U.heap ∧ va_K (dC, dI) fmCl [(cI, .int), (cZ, .boolean)] U ∧ va_D (fun _ => True) (mw h0 b1 b2 b3 b4 b5 cI cZ mh ma mc mt mn cd ro))) (va_Qi (fun (r : Int32) (u : MdS) => (r, u) = (ro, mh, ma, mc, mt, mn, nI 0, ro)) (fun u t => va_P (dC, dI) fmCl (mw h0 b1 b2 b3 b4 b5 cI cZ u.1 u.2.1 u.2.2.1 u.2.2.2.1 u.2.2.2.2.1 u.2.2.2.2.2.1 u.2.2.2.2.2.2) t.heap) (xf_A (mw h0 b1 b2 b3 b4 b5 cI cZ mh ma mc mt mn cd ro))) 0 0 (xf_A (mw h0 b1 b2 b3 b4 b5 cI cZ mh ma mc mt mn cd ro)) := by
  refine Met.ofW (cc := cM_rows) (maxL := 1) (ret := (some .int)) (by decide) rfl ?_
  intro p e s m args below meth c s₁ B hml hv
  obtain ⟨rfl, hP, hK, hD0⟩ := hv
  have hx := B.exec
  have hb := B.bytes
  have hr := B.returns
  have hts := atoms_spec (ws := wsM_rows) B.pre
  have hown : s.vm.findClass RX1 = some m.cls := findClass_of_methodNamed B.named
  have hlocks := B.notSynchronized
  have hin : ∀ w ∈ u_ws RX1 TM 7, w ∈ wsM_rows := by decide +kernel
  have hf_code := hts (.fieldLink RX1 26 "FacetCountsModel" "code" "I") (by decide +kernel)
  have hf_rows := hts (.fieldLink RX1 44 "FacetCountsModel" "rows" "I") (by decide +kernel)
  have hD := xf_A_self hD0
  generalize hAe : xf_A (mw h0 b1 b2 b3 b4 b5 cI cZ mh ma mc mt mn cd ro) = A at hD ⊢
  have hS : va_S A s.heap s.heap [] := va_S.rf
  have hP : va_P (dC, dI) fmCl (mw h0 b1 b2 b3 b4 b5 cI cZ mh ma mc mt mn cd ro) s.heap := hP
  have hl := lv_entry ([.ref h0]) (n := 1) (Nat.le_of_ble_eq_true rfl)
  rw [lg_entry_eq]
  generalize (lg_sl ([.ref h0]) ++ List.replicate (1 - (lg_sl ([.ref h0])).length) Slot.unset).toArray = ls at hl ⊢
  have hl : lv_has ls 1 [(0, .ref h0)] := hl
  refine lv_aload_n hx hb dM_rows_0 rfl (lv_at hl 0 rfl) ?_
  refine lv_iconst (v := nI 0) hx hb dM_rows_1 (by decide) ?_
  refine va_put (D := (dC, dI)) (ci := 1) (v := .int (nI 0)) (ty := .int) (C := RX1) (T := TM) (N := 7) hx hb hts hin tyM tyM_ok nmM hown hK hP hD hS 0 rfl rfl 0 (by decide) hf_code (fun _ h9 => h9) rfl (by decide +kernel) rfl rfl (Nat.le_of_ble_eq_true rfl) dM_rows_2 (fun H locs hP hD hS => ?_)
  have hP : va_P (dC, dI) fmCl (mw h0 b1 b2 b3 b4 b5 cI cZ mh ma mc mt mn (nI 0) ro) H := hP
  have hD : va_D A (mw h0 b1 b2 b3 b4 b5 cI cZ mh ma mc mt mn (nI 0) ro) := hD
  refine lv_aload_n hx hb dM_rows_5 rfl (lv_at hl 0 rfl) ?_
  refine va_get (D := (dC, dI)) (ci := 1) (v := .int ro) (C := RX1) (T := TM) (N := 7) hx hb hts hin hown hK hP 0 rfl rfl 6 (by decide) hf_rows (fun _ h9 => h9) rfl dM_rows_6 ?_
  exact W.iret (v := ro) hx hb hr (fun t9 ht9 hW9 => ⟨⟨_, (mh, ma, mc, mt, mn, nI 0, ro), rfl, rfl, xf_hP ht9 hP⟩, hS.F ht9⟩) hS.2.2 dM_rows_9
end
section
set_option maxHeartbeats 4000000 in
set_option maxRecDepth 100000 in
/-- top(ph, pr) -/
theorem m_top (l : Launch) (dC : Nat → ClassId) (dI : Nat → Nat → Nat) (h0 b1 b2 b3 b4 b5 : Nat) (cI cZ : ClassId) (mh : Nat → Bool) (ma : Nat → Int32) (mc : Nat → Bool) (mt mn : Nat → Int32) (cd ro : Int32) (ph pr : Int32) (hOk : mdOk ma) (hAc : mdAc ma) : Met l yM_top wsM_top ({ frames := 5, cells := 0, slots := 0, locals := 121 }) (va_Pc [.ref h0, .int ph, .int pr] (fun U => va_P (dC, dI) fmCl (mw h0 b1 b2 b3 b4 b5 cI cZ mh ma mc mt mn cd ro) U.heap ∧ va_K (dC, dI) fmCl [(cI, .int), (cZ, .boolean)] U ∧ va_D (fun _ => True) (mw h0 b1 b2 b3 b4 b5 cI cZ mh ma mc mt mn cd ro))) (va_Qi (fun (r : Int32) (u : MdS) => (r, u) = mdTop mh ma mc mt mn ro ph pr) (fun u t => va_P (dC, dI) fmCl (mw h0 b1 b2 b3 b4 b5 cI cZ u.1 u.2.1 u.2.2.1 u.2.2.2.1 u.2.2.2.2.1 u.2.2.2.2.2.1 u.2.2.2.2.2.2) t.heap) (xf_A (mw h0 b1 b2 b3 b4 b5 cI cZ mh ma mc mt mn cd ro))) 0 0 (xf_A (mw h0 b1 b2 b3 b4 b5 cI cZ mh ma mc mt mn cd ro)) := by
  refine Met.ofW (cc := cM_top) (maxL := 7) (ret := (some .int)) (by decide) rfl ?_
  intro p e s m args below meth c s₁ B hml hv
  obtain ⟨rfl, hP, hK, hD0⟩ := hv
  have hx := B.exec
  have hb := B.bytes
  have hr := B.returns
  have hts := atoms_spec (ws := wsM_top) B.pre
  have hown : s.vm.findClass RX1 = some m.cls := findClass_of_methodNamed B.named
  have hlocks := B.notSynchronized
  have hin : ∀ w ∈ u_ws RX1 TM 7, w ∈ wsM_top := by decide +kernel
  have hf_code := hts (.fieldLink RX1 26 "FacetCountsModel" "code" "I") (by decide +kernel)
  have hf_counts := hts (.fieldLink RX1 23 "FacetCountsModel" "counts" "[I") (by decide +kernel)
  have hD := xf_A_self hD0
  generalize hAe : xf_A (mw h0 b1 b2 b3 b4 b5 cI cZ mh ma mc mt mn cd ro) = A at hD ⊢
  have hS : va_S A s.heap s.heap [] := va_S.rf
  have hP : va_P (dC, dI) fmCl (mw h0 b1 b2 b3 b4 b5 cI cZ mh ma mc mt mn cd ro) s.heap := hP
  have hl := lv_entry ([.ref h0, .int ph, .int pr]) (n := 7) (Nat.le_of_ble_eq_true rfl)
  rw [lg_entry_eq]
  generalize (lg_sl ([.ref h0, .int ph, .int pr]) ++ List.replicate (7 - (lg_sl ([.ref h0, .int ph, .int pr])).length) Slot.unset).toArray = ls at hl ⊢
  have hl : lv_has ls 7 [(0, .ref h0), (1, .int ph), (2, .int pr)] := hl
  refine lv_aload_n hx hb dM_top_0 rfl (lv_at hl 0 rfl) ?_
  refine lv_iconst (v := nI 0) hx hb dM_top_1 (by decide) ?_
  refine va_put (D := (dC, dI)) (ci := 1) (v := .int (nI 0)) (ty := .int) (C := RX1) (T := TM) (N := 7) hx hb hts hin tyM tyM_ok nmM hown hK hP hD hS 0 rfl rfl 0 (by decide) hf_code (fun _ h9 => h9) rfl (by decide +kernel) rfl rfl (Nat.le_of_ble_eq_true rfl) dM_top_2 (fun H locs hP hD hS => ?_)
  have hP : va_P (dC, dI) fmCl (mw h0 b1 b2 b3 b4 b5 cI cZ mh ma mc mt mn (nI 0) ro) H := hP
  have hD : va_D A (mw h0 b1 b2 b3 b4 b5 cI cZ mh ma mc mt mn (nI 0) ro) := hD
  refine lv_iload_n hx hb dM_top_5 rfl (lv_at hl 1 rfl) ?_
  refine vp_callSi (W.runS (As := [.int ph]) (rest := []) ⟨hx, hb, hml, hown, hts⟩ (m_isHead l ph) (va_cwS 1 hts gM_top_isHead rfl rfl rfl (by decide +kernel) ⟨Nat.le_of_ble_eq_true rfl, Nat.le_of_ble_eq_true rfl⟩) (xf_preS0) rfl rfl hl.1 rfl (lv_room (Nat.le_of_ble_eq_true rfl)) dM_top_6 ⟨Nat.zero_le _, Nat.zero_le _⟩) (fun r hr9 => ?_)
  subst hr9
  refine xf_Bne (tgt := 14) hx hb dM_top_9 (by decide) (fun c9 => ?_) (fun c9 => ?_)
  ·
    obtain ⟨h, hh, rfl⟩ := xf_in_of c9 (by decide)
    have eh : (nI h).toNatClampNeg = h := nI_clamp (by omega)
    refine lv_iconst (v := nI 0) hx hb dM_top_14 (by decide) ?_
    refine lv_istore_n (lv' := [(3, .int (nI 0)), (0, .ref h0), (1, .int (nI h)), (2, .int pr)]) hx hb dM_top_15 rfl hl (by decide) rfl (fun ls hl => ?_)
    refine xf_loopH (σ := Nat) (fun (z9 : Nat) => 32 - z9) (fun (z9 : Nat) => [(0, .ref h0), (1, .int (nI h)), (2, .int pr), (3, .int (nI z9))]) (fun (z9 : Nat) => (mw h0 b1 b2 b3 b4 b5 cI cZ mh ma mc mt (mdCt mh ma mc h mn z9) (nI 0) ro)) (fun (z9 : Nat) => z9 ≤ 32) 0 (lv_sub hl [1, 2, 3, 0] rfl) (Nat.zero_le _) hP hD hS (fun z9 ls H locs hi hl hP hD hS ih16 => ?_)
    obtain ⟨v, hxe⟩ : ∃ z, z = z9 := ⟨_, rfl⟩
    subst hxe
    have hl : lv_has ls 7 [(0, .ref h0), (1, .int (nI h)), (2, .int pr), (3, .int (nI v))] := hl
    have hP : va_P (dC, dI) fmCl (mw h0 b1 b2 b3 b4 b5 cI cZ mh ma mc mt (mdCt mh ma mc h mn v) (nI 0) ro) H := hP
    have hD : va_D A (mw h0 b1 b2 b3 b4 b5 cI cZ mh ma mc mt (mdCt mh ma mc h mn v) (nI 0) ro) := hD
    have hi : v ≤ 32 := hi
    refine lv_iload_n hx hb dM_top_16 rfl (lv_at hl 3 rfl) ?_
    refine lv_bipush (v := nI 32) hx hb dM_top_17 (by decide) ?_
    refine xf_ge (tgt := 40) hx hb dM_top_19 (by decide) (by omega) (by omega) (fun c19 => ?_) (fun c19 => ?_)
    ·
      obtain rfl : v = 32 := by omega
      refine lv_iconst (v := nI 0) hx hb dM_top_40 (by decide) ?_
      refine lv_istore_n (lv' := [(3, .int (nI 0)), (0, .ref h0), (1, .int (nI h)), (2, .int pr)]) hx hb dM_top_41 rfl hl (by decide) rfl (fun ls hl => ?_)
      refine xf_loopS (σ := Nat) (fun (z9 : Nat) => 32 - z9) (fun (z9 : Nat) => [(0, .ref h0), (1, .int (nI h)), (2, .int pr), (3, .int (nI z9))]) (fun (z9 : Nat) => z9 ≤ 32 ∧ xf_find (mdTP mh ma mc h pr) 32 0 = xf_find (mdTP mh ma mc h pr) (32 - z9) z9) 0 (lv_sub hl [1, 2, 3, 0] rfl) ⟨Nat.zero_le _, rfl⟩ (fun z9 ls hi hl ih42 => ?_)
      obtain ⟨v, hxe⟩ : ∃ z, z = z9 := ⟨_, rfl⟩
      subst hxe
      have hl : lv_has ls 7 [(0, .ref h0), (1, .int (nI h)), (2, .int pr), (3, .int (nI v))] := hl
      obtain ⟨hi, hR⟩ := hi
      have hi : v ≤ 32 := hi
      have hR : xf_find (mdTP mh ma mc h pr) 32 0 = xf_find (mdTP mh ma mc h pr) (32 - v) v := hR
      refine lv_iload_n hx hb dM_top_42 rfl (lv_at hl 3 rfl) ?_
      refine lv_bipush (v := nI 32) hx hb dM_top_43 (by decide) ?_
      refine xf_ge (tgt := 134) hx hb dM_top_45 (by decide) (by omega) (by omega) (fun c45 => ?_) (fun c45 => ?_)
      ·
        refine lv_iconst (v := (-1)) hx hb dM_top_134 (by decide) ?_
        exact W.iret (v := (-1)) hx hb hr (fun t9 ht9 hW9 => ⟨⟨_, (mh, ma, mc, mt, mdCt mh ma mc h mn 32, nI 0, ro), rfl, by rw [mdTop, if_pos c9, eh, show xf_find (mdTP mh ma mc h pr) 32 0 = -1 from by rw [hR, show v = 32 by omega]; rfl], xf_hP ht9 hP⟩, hS.F ht9⟩) hS.2.2 dM_top_135
      ·
        have hb_v := mdN_le mh ma mc h v
        refine lv_aload_n hx hb dM_top_48 rfl (lv_at hl 0 rfl) ?_
        refine va_get (D := (dC, dI)) (ci := 1) (v := .ref b5) (C := RX1) (T := TM) (N := 7) hx hb hts hin hown hK hP 0 rfl rfl 5 (by decide) hf_counts (fun _ h9 => h9) rfl dM_top_49 ?_
        refine lv_iload_n hx hb dM_top_52 rfl (lv_at hl 3 rfl) ?_
        refine xf_iald hx hb hK hP 5 0 rfl rfl (j := v) (by omega) (by decide) dM_top_53 ?_
        refine xf_be (y := nI (mdN mh ma mc h v)) (mdCt_at mh ma mc h mn 32 v (by omega)) ?_
        refine lv_istore (lv' := [(4, .int (nI (mdN mh ma mc h v))), (0, .ref h0), (1, .int (nI h)), (2, .int pr), (3, .int (nI v))]) hx hb dM_top_54 hl (by decide) rfl (fun ls hl => ?_)
        refine lv_iconst (v := nI 0) hx hb dM_top_56 (by decide) ?_
        refine lv_istore (lv' := [(5, .int (nI 0)), (4, .int (nI (mdN mh ma mc h v))), (0, .ref h0), (1, .int (nI h)), (2, .int pr), (3, .int (nI v))]) hx hb dM_top_57 hl (by decide) rfl (fun ls hl => ?_)
        refine lv_iconst (v := nI 0) hx hb dM_top_59 (by decide) ?_
        refine lv_istore (lv' := [(6, .int (nI 0)), (5, .int (nI 0)), (4, .int (nI (mdN mh ma mc h v))), (0, .ref h0), (1, .int (nI h)), (2, .int pr), (3, .int (nI v))]) hx hb dM_top_60 hl (by decide) rfl (fun ls hl => ?_)
        refine xf_loopS (σ := Nat) (fun (z9 : Nat) => 32 - z9) (fun (z9 : Nat) => [(0, .ref h0), (1, .int (nI h)), (2, .int pr), (3, .int (nI v)), (4, .int (nI (mdN mh ma mc h v))), (5, .int (nI (xf_cnt (mdRk mh ma mc h v) z9))), (6, .int (nI z9))]) (fun (z9 : Nat) => z9 ≤ 32) 0 (lv_sub hl [3, 4, 5, 6, 2, 1, 0] rfl) (Nat.zero_le _) (fun z9 ls hi hl ih62 => ?_)
        obtain ⟨o, hxe⟩ : ∃ z, z = z9 := ⟨_, rfl⟩
        subst hxe
        have hl : lv_has ls 7 [(0, .ref h0), (1, .int (nI h)), (2, .int pr), (3, .int (nI v)), (4, .int (nI (mdN mh ma mc h v))), (5, .int (nI (xf_cnt (mdRk mh ma mc h v) o))), (6, .int (nI o))] := hl
        have hi : o ≤ 32 := hi
        refine lv_iload hx hb dM_top_62 (lv_at hl 6 rfl) ?_
        refine lv_bipush (v := nI 32) hx hb dM_top_64 (by decide) ?_
        refine xf_ge (tgt := 115) hx hb dM_top_66 (by decide) (by omega) (by omega) (fun c66 => ?_) (fun c66 => ?_)
        ·
          obtain rfl : o = 32 := by omega
          refine lv_iload hx hb dM_top_115 (lv_at hl 4 rfl) ?_
          refine xf_zle (tgt := 128) hx hb dM_top_117 (by decide) (by omega) (fun c117 => ?_) (fun c117 => ?_)
          ·
            refine lv_iinc (v := nI (v + 1)) (lv' := [(3, .int (nI (v + 1))), (0, .ref h0), (1, .int (nI h)), (2, .int pr), (4, .int (nI (mdN mh ma mc h v))), (5, .int (nI (xf_cnt (mdRk mh ma mc h v) 32))), (6, .int (nI 32))]) hx hb dM_top_128 hl (k := 3) rfl (by exact nI_1 v) (by decide) rfl (fun ls hl => ?_)
            refine lv_goto (tgt := 42) hx hb dM_top_131 (by decide) ?_
            have e9 : mdTP mh ma mc h pr v = false := by unfold mdTP; rw [decide_eq_false (show ¬ 0 < mdN mh ma mc h v by omega), Bool.false_and]
            have hl := lv_sub (l' := [(0, .ref h0), (1, .int (nI h)), (2, .int pr), (3, .int (nI (v + 1)))]) hl [1, 2, 3, 0] rfl
            have hl : lv_has ls 7 [(0, .ref h0), (1, .int (nI h)), (2, .int pr), (3, .int (nI (v + 1)))] := xf_lv hl (by rfl)
            exact ih42 (v + 1) ls (by show 32 - (v + 1) < 32 - v; omega) (by refine ⟨by omega, ?_⟩; rw [hR, show 32 - v = (32 - (v + 1)) + 1 by omega, xf_find, if_neg (by rw [e9]; decide)]) hl
          ·
            refine lv_iload hx hb dM_top_120 (lv_at hl 5 rfl) ?_
            refine lv_iload_n hx hb dM_top_122 rfl (lv_at hl 2 rfl) ?_
            refine lv_icmp_ne (tgt := 128) hx hb dM_top_123 (by decide) (fun c123 => ?_) (fun c123 => ?_)
            ·
              refine lv_iinc (v := nI (v + 1)) (lv' := [(3, .int (nI (v + 1))), (0, .ref h0), (1, .int (nI h)), (2, .int pr), (4, .int (nI (mdN mh ma mc h v))), (5, .int (nI (xf_cnt (mdRk mh ma mc h v) 32))), (6, .int (nI 32))]) hx hb dM_top_128 hl (k := 3) rfl (by exact nI_1 v) (by decide) rfl (fun ls hl => ?_)
              refine lv_goto (tgt := 42) hx hb dM_top_131 (by decide) ?_
              have e9 : mdTP mh ma mc h pr v = false := by unfold mdTP; rw [decide_eq_false c123, Bool.and_false]
              have hl := lv_sub (l' := [(0, .ref h0), (1, .int (nI h)), (2, .int pr), (3, .int (nI (v + 1)))]) hl [1, 2, 3, 0] rfl
              have hl : lv_has ls 7 [(0, .ref h0), (1, .int (nI h)), (2, .int pr), (3, .int (nI (v + 1)))] := xf_lv hl (by rfl)
              exact ih42 (v + 1) ls (by show 32 - (v + 1) < 32 - v; omega) (by refine ⟨by omega, ?_⟩; rw [hR, show 32 - v = (32 - (v + 1)) + 1 by omega, xf_find, if_neg (by rw [e9]; decide)]) hl
            ·
              refine lv_iload_n hx hb dM_top_126 rfl (lv_at hl 3 rfl) ?_
              exact W.iret (v := nI v) hx hb hr (fun t9 ht9 hW9 => ⟨⟨_, (mh, ma, mc, mt, mdCt mh ma mc h mn 32, nI 0, ro), rfl, by rw [mdTop, if_pos c9, eh, show xf_find (mdTP mh ma mc h pr) 32 0 = nI v from by rw [hR, show 32 - v = (31 - v) + 1 by omega, xf_find, if_pos (by unfold mdTP; rw [decide_eq_true c117, decide_eq_true c123]; rfl)]], xf_hP ht9 hP⟩, hS.F ht9⟩) hS.2.2 dM_top_127
        ·
          have hb_o := mdN_le mh ma mc h o
          refine lv_iload hx hb dM_top_69 (lv_at hl 5 rfl) ?_
          refine lv_aload_n hx hb dM_top_71 rfl (lv_at hl 0 rfl) ?_
          refine va_get (D := (dC, dI)) (ci := 1) (v := .ref b5) (C := RX1) (T := TM) (N := 7) hx hb hts hin hown hK hP 0 rfl rfl 5 (by decide) hf_counts (fun _ h9 => h9) rfl dM_top_72 ?_
          refine lv_iload hx hb dM_top_75 (lv_at hl 6 rfl) ?_
          refine xf_iald hx hb hK hP 5 0 rfl rfl (j := o) (by omega) (by decide) dM_top_77 ?_
          refine xf_be (y := nI (mdN mh ma mc h o)) (mdCt_at mh ma mc h mn 32 o (by omega)) ?_
          refine lv_iload hx hb dM_top_78 (lv_at hl 4 rfl) ?_
          refine xf_gt (tgt := 101) hx hb dM_top_80 (by decide) (by omega) (by omega) (fun c80 => ?_) (fun c80 => ?_)
          ·
            refine lv_iconst (v := nI 1) hx hb dM_top_101 (by decide) ?_
            refine lv_goto (tgt := 106) hx hb dM_top_102 (by decide) ?_
            refine lv_iadd hx hb dM_top_106 ?_
            refine xf_be (y := nI (xf_cnt (mdRk mh ma mc h v) o + 1)) (by exact nI_add _ _) ?_
            refine lv_istore (lv' := [(5, .int (nI (xf_cnt (mdRk mh ma mc h v) o + 1))), (0, .ref h0), (1, .int (nI h)), (2, .int pr), (3, .int (nI v)), (4, .int (nI (mdN mh ma mc h v))), (6, .int (nI o))]) hx hb dM_top_107 hl (by decide) rfl (fun ls hl => ?_)
            refine lv_iinc (v := nI (o + 1)) (lv' := [(6, .int (nI (o + 1))), (5, .int (nI (xf_cnt (mdRk mh ma mc h v) o + 1))), (0, .ref h0), (1, .int (nI h)), (2, .int pr), (3, .int (nI v)), (4, .int (nI (mdN mh ma mc h v)))]) hx hb dM_top_109 hl (k := 6) rfl (by exact nI_1 o) (by decide) rfl (fun ls hl => ?_)
            refine lv_goto (tgt := 62) hx hb dM_top_112 (by decide) ?_
            have e9 : mdRk mh ma mc h v o = true := by unfold mdRk; rw [decide_eq_true c80, Bool.true_or]
            have hl := lv_sub (l' := [(0, .ref h0), (1, .int (nI h)), (2, .int pr), (3, .int (nI v)), (4, .int (nI (mdN mh ma mc h v))), (5, .int (nI (xf_cnt (mdRk mh ma mc h v) o + 1))), (6, .int (nI (o + 1)))]) hl [2, 3, 4, 5, 6, 1, 0] rfl
            have hl : lv_has ls 7 [(0, .ref h0), (1, .int (nI h)), (2, .int pr), (3, .int (nI v)), (4, .int (nI (mdN mh ma mc h v))), (5, .int (nI (xf_cnt (mdRk mh ma mc h v) (o + 1)))), (6, .int (nI (o + 1)))] := xf_lv hl (by simp [xf_cnt, e9])
            exact ih62 (o + 1) ls (by show 32 - (o + 1) < 32 - o; omega) (by show (o + 1) ≤ 32; omega) hl
          ·
            refine lv_aload_n hx hb dM_top_83 rfl (lv_at hl 0 rfl) ?_
            refine va_get (D := (dC, dI)) (ci := 1) (v := .ref b5) (C := RX1) (T := TM) (N := 7) hx hb hts hin hown hK hP 0 rfl rfl 5 (by decide) hf_counts (fun _ h9 => h9) rfl dM_top_84 ?_
            refine lv_iload hx hb dM_top_87 (lv_at hl 6 rfl) ?_
            refine xf_iald hx hb hK hP 5 0 rfl rfl (j := o) (by omega) (by decide) dM_top_89 ?_
            refine xf_be (y := nI (mdN mh ma mc h o)) (mdCt_at mh ma mc h mn 32 o (by omega)) ?_
            refine lv_iload hx hb dM_top_90 (lv_at hl 4 rfl) ?_
            refine xf_ne (tgt := 105) hx hb dM_top_92 (by decide) (by omega) (by omega) (fun c92 => ?_) (fun c92 => ?_)
            ·
              refine lv_iconst (v := nI 0) hx hb dM_top_105 (by decide) ?_
              refine lv_iadd hx hb dM_top_106 ?_
              refine xf_be (y := nI (xf_cnt (mdRk mh ma mc h v) o + 0)) (by exact nI_add _ _) ?_
              refine lv_istore (lv' := [(5, .int (nI (xf_cnt (mdRk mh ma mc h v) o + 0))), (0, .ref h0), (1, .int (nI h)), (2, .int pr), (3, .int (nI v)), (4, .int (nI (mdN mh ma mc h v))), (6, .int (nI o))]) hx hb dM_top_107 hl (by decide) rfl (fun ls hl => ?_)
              refine lv_iinc (v := nI (o + 1)) (lv' := [(6, .int (nI (o + 1))), (5, .int (nI (xf_cnt (mdRk mh ma mc h v) o + 0))), (0, .ref h0), (1, .int (nI h)), (2, .int pr), (3, .int (nI v)), (4, .int (nI (mdN mh ma mc h v)))]) hx hb dM_top_109 hl (k := 6) rfl (by exact nI_1 o) (by decide) rfl (fun ls hl => ?_)
              refine lv_goto (tgt := 62) hx hb dM_top_112 (by decide) ?_
              have e9 : mdRk mh ma mc h v o = false := by unfold mdRk; rw [decide_eq_false (show ¬ mdN mh ma mc h v < mdN mh ma mc h o by omega), decide_eq_false c92]; rfl
              have hl := lv_sub (l' := [(0, .ref h0), (1, .int (nI h)), (2, .int pr), (3, .int (nI v)), (4, .int (nI (mdN mh ma mc h v))), (5, .int (nI (xf_cnt (mdRk mh ma mc h v) o + 0))), (6, .int (nI (o + 1)))]) hl [2, 3, 4, 5, 6, 1, 0] rfl
              have hl : lv_has ls 7 [(0, .ref h0), (1, .int (nI h)), (2, .int pr), (3, .int (nI v)), (4, .int (nI (mdN mh ma mc h v))), (5, .int (nI (xf_cnt (mdRk mh ma mc h v) (o + 1)))), (6, .int (nI (o + 1)))] := xf_lv hl (by simp [xf_cnt, e9])
              exact ih62 (o + 1) ls (by show 32 - (o + 1) < 32 - o; omega) (by show (o + 1) ≤ 32; omega) hl
            ·
              refine lv_iload hx hb dM_top_95 (lv_at hl 6 rfl) ?_
              refine lv_iload_n hx hb dM_top_97 rfl (lv_at hl 3 rfl) ?_
              refine xf_ge (tgt := 105) hx hb dM_top_98 (by decide) (by omega) (by omega) (fun c98 => ?_) (fun c98 => ?_)
              ·
                refine lv_iconst (v := nI 0) hx hb dM_top_105 (by decide) ?_
                refine lv_iadd hx hb dM_top_106 ?_
                refine xf_be (y := nI (xf_cnt (mdRk mh ma mc h v) o + 0)) (by exact nI_add _ _) ?_
                refine lv_istore (lv' := [(5, .int (nI (xf_cnt (mdRk mh ma mc h v) o + 0))), (0, .ref h0), (1, .int (nI h)), (2, .int pr), (3, .int (nI v)), (4, .int (nI (mdN mh ma mc h v))), (6, .int (nI o))]) hx hb dM_top_107 hl (by decide) rfl (fun ls hl => ?_)
                refine lv_iinc (v := nI (o + 1)) (lv' := [(6, .int (nI (o + 1))), (5, .int (nI (xf_cnt (mdRk mh ma mc h v) o + 0))), (0, .ref h0), (1, .int (nI h)), (2, .int pr), (3, .int (nI v)), (4, .int (nI (mdN mh ma mc h v)))]) hx hb dM_top_109 hl (k := 6) rfl (by exact nI_1 o) (by decide) rfl (fun ls hl => ?_)
                refine lv_goto (tgt := 62) hx hb dM_top_112 (by decide) ?_
                have e9 : mdRk mh ma mc h v o = false := by unfold mdRk; rw [decide_eq_false (show ¬ mdN mh ma mc h v < mdN mh ma mc h o by omega), decide_eq_true c92, decide_eq_false (show ¬ o < v by omega)]; rfl
                have hl := lv_sub (l' := [(0, .ref h0), (1, .int (nI h)), (2, .int pr), (3, .int (nI v)), (4, .int (nI (mdN mh ma mc h v))), (5, .int (nI (xf_cnt (mdRk mh ma mc h v) o + 0))), (6, .int (nI (o + 1)))]) hl [2, 3, 4, 5, 6, 1, 0] rfl
                have hl : lv_has ls 7 [(0, .ref h0), (1, .int (nI h)), (2, .int pr), (3, .int (nI v)), (4, .int (nI (mdN mh ma mc h v))), (5, .int (nI (xf_cnt (mdRk mh ma mc h v) (o + 1)))), (6, .int (nI (o + 1)))] := xf_lv hl (by simp [xf_cnt, e9])
                exact ih62 (o + 1) ls (by show 32 - (o + 1) < 32 - o; omega) (by show (o + 1) ≤ 32; omega) hl
              ·
                refine lv_iconst (v := nI 1) hx hb dM_top_101 (by decide) ?_
                refine lv_goto (tgt := 106) hx hb dM_top_102 (by decide) ?_
                refine lv_iadd hx hb dM_top_106 ?_
                refine xf_be (y := nI (xf_cnt (mdRk mh ma mc h v) o + 1)) (by exact nI_add _ _) ?_
                refine lv_istore (lv' := [(5, .int (nI (xf_cnt (mdRk mh ma mc h v) o + 1))), (0, .ref h0), (1, .int (nI h)), (2, .int pr), (3, .int (nI v)), (4, .int (nI (mdN mh ma mc h v))), (6, .int (nI o))]) hx hb dM_top_107 hl (by decide) rfl (fun ls hl => ?_)
                refine lv_iinc (v := nI (o + 1)) (lv' := [(6, .int (nI (o + 1))), (5, .int (nI (xf_cnt (mdRk mh ma mc h v) o + 1))), (0, .ref h0), (1, .int (nI h)), (2, .int pr), (3, .int (nI v)), (4, .int (nI (mdN mh ma mc h v)))]) hx hb dM_top_109 hl (k := 6) rfl (by exact nI_1 o) (by decide) rfl (fun ls hl => ?_)
                refine lv_goto (tgt := 62) hx hb dM_top_112 (by decide) ?_
                have e9 : mdRk mh ma mc h v o = true := by unfold mdRk; rw [decide_eq_false (show ¬ mdN mh ma mc h v < mdN mh ma mc h o by omega), decide_eq_true c92, decide_eq_true c98]; rfl
                have hl := lv_sub (l' := [(0, .ref h0), (1, .int (nI h)), (2, .int pr), (3, .int (nI v)), (4, .int (nI (mdN mh ma mc h v))), (5, .int (nI (xf_cnt (mdRk mh ma mc h v) o + 1))), (6, .int (nI (o + 1)))]) hl [2, 3, 4, 5, 6, 1, 0] rfl
                have hl : lv_has ls 7 [(0, .ref h0), (1, .int (nI h)), (2, .int pr), (3, .int (nI v)), (4, .int (nI (mdN mh ma mc h v))), (5, .int (nI (xf_cnt (mdRk mh ma mc h v) (o + 1)))), (6, .int (nI (o + 1)))] := xf_lv hl (by simp [xf_cnt, e9])
                exact ih62 (o + 1) ls (by show 32 - (o + 1) < 32 - o; omega) (by show (o + 1) ≤ 32; omega) hl
    ·
      refine lv_aload_n hx hb dM_top_22 rfl (lv_at hl 0 rfl) ?_
      refine va_get (D := (dC, dI)) (ci := 1) (v := .ref b5) (C := RX1) (T := TM) (N := 7) hx hb hts hin hown hK hP 0 rfl rfl 5 (by decide) hf_counts (fun _ h9 => h9) rfl dM_top_23 ?_
      refine lv_iload_n hx hb dM_top_26 rfl (lv_at hl 3 rfl) ?_
      refine lv_aload_n hx hb dM_top_27 rfl (lv_at hl 0 rfl) ?_
      refine lv_iload_n hx hb dM_top_28 rfl (lv_at hl 1 rfl) ?_
      refine lv_iload_n hx hb dM_top_29 rfl (lv_at hl 3 rfl) ?_
      refine vp_callSi (W.runV (As := [.int (nI h), .int (nI v)]) (rest := [.int (nI v), .ref b5]) ⟨hx, hb, hml, hown, hts⟩ (m_count l dC dI h0 b1 b2 b3 b4 b5 cI cZ mh ma mc mt (mdCt mh ma mc h mn v) (nI 0) ro h v (by omega) (by omega) hOk hAc) (cwV 2 hts gM_top_count rfl rfl rfl (by decide +kernel) ⟨Nat.le_of_ble_eq_true rfl, Nat.le_of_ble_eq_true rfl⟩) (xf_preV (ci := 1) (RX1, TM, 7) hK hP rfl rfl) rfl rfl hl.1 rfl (lv_room (Nat.le_of_ble_eq_true rfl)) dM_top_30 ⟨Nat.zero_le _, Nat.zero_le _⟩) (fun r hr9 => ?_)
      subst hr9
      refine xf_iast hx hb hK hP hD hS 5 0 rfl rfl (j := v) (by omega) (by decide) dM_top_33 (fun H locs hP hD hS => ?_)
      have hP : va_P (dC, dI) fmCl (mw h0 b1 b2 b3 b4 b5 cI cZ mh ma mc mt (upd (mdCt mh ma mc h mn v) v (nI (mdN mh ma mc h v))) (nI 0) ro) H := hP
      have hD : va_D A (mw h0 b1 b2 b3 b4 b5 cI cZ mh ma mc mt (upd (mdCt mh ma mc h mn v) v (nI (mdN mh ma mc h v))) (nI 0) ro) := hD
      refine lv_iinc (v := nI (v + 1)) (lv' := [(3, .int (nI (v + 1))), (0, .ref h0), (1, .int (nI h)), (2, .int pr)]) hx hb dM_top_34 hl (k := 3) rfl (by exact nI_1 v) (by decide) rfl (fun ls hl => ?_)
      refine lv_goto (tgt := 16) hx hb dM_top_37 (by decide) ?_
      have hl := lv_sub (l' := [(0, .ref h0), (1, .int (nI h)), (2, .int pr), (3, .int (nI (v + 1)))]) hl [1, 2, 3, 0] rfl
      have hl : lv_has ls 7 [(0, .ref h0), (1, .int (nI h)), (2, .int pr), (3, .int (nI (v + 1)))] := xf_lv hl (by rfl)
      have hP : va_P (dC, dI) fmCl (mw h0 b1 b2 b3 b4 b5 cI cZ mh ma mc mt (mdCt mh ma mc h mn (v + 1)) (nI 0) ro) H := xf_wP hP (by rfl)
      have hD : va_D A (mw h0 b1 b2 b3 b4 b5 cI cZ mh ma mc mt (mdCt mh ma mc h mn (v + 1)) (nI 0) ro) := xf_wD hD rfl
      exact ih16 (v + 1) ls H locs (by show 32 - (v + 1) < 32 - v; omega) (by show (v + 1) ≤ 32; omega) hl hP hD hS
  ·
    refine lv_iconst (v := (-1)) hx hb dM_top_12 (by decide) ?_
    exact W.iret (v := (-1)) hx hb hr (fun t9 ht9 hW9 => ⟨⟨_, (mh, ma, mc, mt, mn, nI 0, ro), rfl, by simp [mdTop, c9], xf_hP ht9 hP⟩, hS.F ht9⟩) hS.2.2 dM_top_13
end
section
set_option maxHeartbeats 1000000 in
set_option maxRecDepth 100000 in
/-- FacetCountsModel() -/
theorem m_init (l : Launch) (dC : Nat → ClassId) (dI : Nat → Nat → Nat) (h0 sz : Nat) : Met l yM_init wsM_init ({ frames := 1, cells := 5, slots := 10816, locals := 12 }) (va_Pc [.ref h0] (fun U => U.heap.size = sz ∧ va_P (dC, dI) fmCl [(h0, .inr (1, [.int 0, .null, .null, .null, .null, .null, .int 0]))] U.heap ∧ va_K (dC, dI) fmCl [] U ∧ va_D (fun _ => True) [(h0, .inr (1, [.int 0, .null, .null, .null, .null, .null, .int 0]))])) (va_Qv (fun _ : Unit => True) (fun _ t => ∃ (cI cZ : ClassId) (b1 b2 b3 b4 b5 : Nat), va_P (dC, dI) fmCl (mw h0 b1 b2 b3 b4 b5 cI cZ ((fun _ => false)) (xf_fill (-1) (fun _ => 0) 32) ((fun _ => false)) ((fun _ => 0)) ((fun _ => 0)) 0 0) t.heap ∧ va_K (dC, dI) fmCl [(cI, .int), (cZ, .boolean)] t ∧ va_D (va_A [(h0, .inr (1, [.int 0, .null, .null, .null, .null, .null, .int 0]))] sz) (mw h0 b1 b2 b3 b4 b5 cI cZ ((fun _ => false)) (xf_fill (-1) (fun _ => 0) 32) ((fun _ => false)) ((fun _ => 0)) ((fun _ => 0)) 0 0)) (va_A [(h0, .inr (1, [.int 0, .null, .null, .null, .null, .null, .int 0]))] sz)) 5 10816 (va_A [(h0, .inr (1, [.int 0, .null, .null, .null, .null, .null, .int 0]))] sz) := by
  refine Met.ofW (cc := cM_init) (maxL := 2) (ret := none) (by decide) rfl ?_
  intro p e s m args below meth c s₁ B hml hv
  obtain ⟨rfl, hsz, hP, hK, hD0⟩ := hv
  have hx := B.exec
  have hb := B.bytes
  have hr := B.returns
  have hts := atoms_spec (ws := wsM_init) B.pre
  have hown : s.vm.findClass RX1 = some m.cls := findClass_of_methodNamed B.named
  have hlocks := B.notSynchronized
  have hin0 : meth.name = "<init>" := (name_of_methodNamed B.named B.method).1
  subst hsz
  have hD := hD0.self (sz := s.heap.size)
  generalize hAe : va_A [(h0, .inr (1, [.int 0, .null, .null, .null, .null, .null, .int 0]))] s.heap.size = A at hD ⊢
  have hA : ∀ q : Nat, s.heap.size ≤ q → A q := fun q h => by rw [← hAe]; exact Or.inr h
  have hS : va_S A s.heap s.heap [] := va_S.rf
  have hin : ∀ w ∈ u_ws RX1 TM 7, w ∈ wsM_init := by decide +kernel
  have hP : va_P (dC, dI) fmCl [(h0, .inr (1, [.int 0, .null, .null, .null, .null, .null, .int 0]))] s.heap := hP
  have hl := lv_entry ([.ref h0]) (n := 2) (Nat.le_of_ble_eq_true rfl)
  rw [lg_entry_eq]
  generalize (lg_sl ([.ref h0]) ++ List.replicate (2 - (lg_sl ([.ref h0])).length) Slot.unset).toArray = ls at hl ⊢
  have hl : lv_has ls 2 [(0, .ref h0)] := hl
  refine lv_aload_n hx hb dM_init_0 rfl (lv_at hl 0 rfl) ?_
  refine W.objInit hx hb hown (hts (.methodLink RX1 1 objectInit) (by decide +kernel)) (hts (.instanceMethod objectInit) (by decide +kernel)) (hts (.code objectInit ⟨#[0xb1]⟩ 1 none) (by decide +kernel)) rfl (by rw [hml]; exact hl.1) rfl dM_init_1 (Nat.le_of_ble_eq_true rfl) (Nat.le_of_ble_eq_true rfl) ?_
  refine W.eq (g2 := F0 m 4 ls []) rfl ?_
  refine lv_aload_n hx hb dM_init_4 rfl (lv_at hl 0 rfl) ?_
  refine lv_sipush (v := nI 10240) hx hb dM_init_5 (by decide) ?_
  refine va_newa (n := nI 10240) (N' := 10240) (atype := .boolean) (a0 := (10240, .inl (fun i => xf_B ((fun _ => false) i)))) (ty := .boolean) hx hb (hts (.arrayClass .boolean) (by decide +kernel)) rfl hK hP hD hS hA (fun _ => vp_cell_i _ _ _) (nI_pos (by decide)) (@nI_clamp 10240 (by decide)) (show 10240 * 1 ≤ 536870912 from by omega) (show 0 + 1 ≤ 5 from by omega) (show 0 + 10240 ≤ 10816 from by omega) dM_init_8 (fun b1 cZ H hK hP hD hS => ?_)
  have hK := hK.sub (tys' := [(cZ, .boolean)]) [0] rfl
  have hP : va_P (dC, dI) fmCl [(h0, .inr (1, [.int 0, .null, .null, .null, .null, .null, .int 0])), (b1, .inl (cZ, 10240, .inl (fun i => xf_B ((fun _ => false) i))))] H := hP
  have hD : va_D A [(h0, .inr (1, [.int 0, .null, .null, .null, .null, .null, .int 0])), (b1, .inl (cZ, 10240, .inl (fun i => xf_B ((fun _ => false) i))))] := hD
  refine W.widen (k := 1) (n := 10240) (by omega) (by omega) ?_
  have hf_has := hts (.fieldLink RX1 7 "FacetCountsModel" "has" "[Z") (by decide +kernel)
  refine va_putF (D := (dC, dI)) (ci := 1) (v := .ref b1) (ty := .array .boolean) (C := RX1) (T := TM) (N := 7) hx hb hts hin tyM tyM_ok nmM hown hK hP hD hS 0 rfl rfl 1 (by decide) hf_has (fun _ h9 => h9) rfl hin0 rfl (by decide +kernel) rfl rfl (Nat.le_of_ble_eq_true rfl) dM_init_10 (fun H locs hP hD hS => ?_)
  have hP : va_P (dC, dI) fmCl [(h0, .inr (1, [.int 0, .ref b1, .null, .null, .null, .null, .int 0])), (b1, .inl (cZ, 10240, .inl (fun i => xf_B ((fun _ => false) i))))] H := hP
  have hD : va_D A [(h0, .inr (1, [.int 0, .ref b1, .null, .null, .null, .null, .int 0])), (b1, .inl (cZ, 10240, .inl (fun i => xf_B ((fun _ => false) i))))] := hD
  refine lv_aload_n hx hb dM_init_13 rfl (lv_at hl 0 rfl) ?_
  refine lv_bipush (v := nI 32) hx hb dM_init_14 (by decide) ?_
  refine va_newa (n := nI 32) (N' := 32) (atype := .int) (a0 := (32, .inl (fun _ => 0))) (ty := .int) hx hb (hts (.arrayClass .int) (by decide +kernel)) rfl hK hP hD hS hA (fun _ => vp_cell_i _ _ _) (nI_pos (by decide)) (@nI_clamp 32 (by decide)) (show 32 * 4 ≤ 536870912 from by omega) (show 1 + 1 ≤ 5 from by omega) (show 10240 + 32 ≤ 10816 from by omega) dM_init_16 (fun b2 cI H hK hP hD hS => ?_)
  have hK := hK.sub (tys' := [(cZ, .boolean), (cI, .int)]) [0, 1] rfl
  have hP : va_P (dC, dI) fmCl [(h0, .inr (1, [.int 0, .ref b1, .null, .null, .null, .null, .int 0])), (b1, .inl (cZ, 10240, .inl (fun i => xf_B ((fun _ => false) i)))), (b2, .inl (cI, 32, .inl (fun _ => 0)))] H := hP
  have hD : va_D A [(h0, .inr (1, [.int 0, .ref b1, .null, .null, .null, .null, .int 0])), (b1, .inl (cZ, 10240, .inl (fun i => xf_B ((fun _ => false) i)))), (b2, .inl (cI, 32, .inl (fun _ => 0)))] := hD
  refine W.widen (k := 2) (n := 10272) (by omega) (by omega) ?_
  have hf_above := hts (.fieldLink RX1 13 "FacetCountsModel" "above" "[I") (by decide +kernel)
  refine va_putF (D := (dC, dI)) (ci := 1) (v := .ref b2) (ty := .array .int) (C := RX1) (T := TM) (N := 7) hx hb hts hin tyM tyM_ok nmM hown hK hP hD hS 0 rfl rfl 2 (by decide) hf_above (fun _ h9 => h9) rfl hin0 rfl (by decide +kernel) rfl rfl (Nat.le_of_ble_eq_true rfl) dM_init_18 (fun H locs hP hD hS => ?_)
  have hP : va_P (dC, dI) fmCl [(h0, .inr (1, [.int 0, .ref b1, .ref b2, .null, .null, .null, .int 0])), (b1, .inl (cZ, 10240, .inl (fun i => xf_B ((fun _ => false) i)))), (b2, .inl (cI, 32, .inl (fun _ => 0)))] H := hP
  have hD : va_D A [(h0, .inr (1, [.int 0, .ref b1, .ref b2, .null, .null, .null, .int 0])), (b1, .inl (cZ, 10240, .inl (fun i => xf_B ((fun _ => false) i)))), (b2, .inl (cI, 32, .inl (fun _ => 0)))] := hD
  refine lv_aload_n hx hb dM_init_21 rfl (lv_at hl 0 rfl) ?_
  refine lv_sipush (v := nI 256) hx hb dM_init_22 (by decide) ?_
  refine va_newa (n := nI 256) (N' := 256) (atype := .boolean) (a0 := (256, .inl (fun i => xf_B ((fun _ => false) i)))) (ty := .boolean) hx hb (hts (.arrayClass .boolean) (by decide +kernel)) rfl hK hP hD hS hA (fun _ => vp_cell_i _ _ _) (nI_pos (by decide)) (@nI_clamp 256 (by decide)) (show 256 * 1 ≤ 536870912 from by omega) (show 2 + 1 ≤ 5 from by omega) (show 10272 + 256 ≤ 10816 from by omega) dM_init_25 (fun b3 cZ9 H hK hP hD hS => ?_)
  obtain rfl : cZ = cZ9 := xf_oneZ hK (i := 0) (j := 2) rfl rfl
  have hK := hK.sub (tys' := [(cZ, .boolean), (cI, .int)]) [0, 1] rfl
  have hP : va_P (dC, dI) fmCl [(h0, .inr (1, [.int 0, .ref b1, .ref b2, .null, .null, .null, .int 0])), (b1, .inl (cZ, 10240, .inl (fun i => xf_B ((fun _ => false) i)))), (b2, .inl (cI, 32, .inl (fun _ => 0))), (b3, .inl (cZ, 256, .inl (fun i => xf_B ((fun _ => false) i))))] H := hP
  have hD : va_D A [(h0, .inr (1, [.int 0, .ref b1, .ref b2, .null, .null, .null, .int 0])), (b1, .inl (cZ, 10240, .inl (fun i => xf_B ((fun _ => false) i)))), (b2, .inl (cI, 32, .inl (fun _ => 0))), (b3, .inl (cZ, 256, .inl (fun i => xf_B ((fun _ => false) i))))] := hD
  refine W.widen (k := 3) (n := 10528) (by omega) (by omega) ?_
  have hf_chosen := hts (.fieldLink RX1 17 "FacetCountsModel" "chosen" "[Z") (by decide +kernel)
  refine va_putF (D := (dC, dI)) (ci := 1) (v := .ref b3) (ty := .array .boolean) (C := RX1) (T := TM) (N := 7) hx hb hts hin tyM tyM_ok nmM hown hK hP hD hS 0 rfl rfl 3 (by decide) hf_chosen (fun _ h9 => h9) rfl hin0 rfl (by decide +kernel) rfl rfl (Nat.le_of_ble_eq_true rfl) dM_init_27 (fun H locs hP hD hS => ?_)
  have hP : va_P (dC, dI) fmCl [(h0, .inr (1, [.int 0, .ref b1, .ref b2, .ref b3, .null, .null, .int 0])), (b1, .inl (cZ, 10240, .inl (fun i => xf_B ((fun _ => false) i)))), (b2, .inl (cI, 32, .inl (fun _ => 0))), (b3, .inl (cZ, 256, .inl (fun i => xf_B ((fun _ => false) i))))] H := hP
  have hD : va_D A [(h0, .inr (1, [.int 0, .ref b1, .ref b2, .ref b3, .null, .null, .int 0])), (b1, .inl (cZ, 10240, .inl (fun i => xf_B ((fun _ => false) i)))), (b2, .inl (cI, 32, .inl (fun _ => 0))), (b3, .inl (cZ, 256, .inl (fun i => xf_B ((fun _ => false) i))))] := hD
  refine lv_aload_n hx hb dM_init_30 rfl (lv_at hl 0 rfl) ?_
  refine lv_sipush (v := nI 256) hx hb dM_init_31 (by decide) ?_
  refine va_newa (n := nI 256) (N' := 256) (atype := .int) (a0 := (256, .inl (fun _ => 0))) (ty := .int) hx hb (hts (.arrayClass .int) (by decide +kernel)) rfl hK hP hD hS hA (fun _ => vp_cell_i _ _ _) (nI_pos (by decide)) (@nI_clamp 256 (by decide)) (show 256 * 4 ≤ 536870912 from by omega) (show 3 + 1 ≤ 5 from by omega) (show 10528 + 256 ≤ 10816 from by omega) dM_init_34 (fun b4 cI9 H hK hP hD hS => ?_)
  obtain rfl : cI = cI9 := xf_oneI hK (i := 1) (j := 2) rfl rfl
  have hK := hK.sub (tys' := [(cZ, .boolean), (cI, .int)]) [0, 1] rfl
  have hP : va_P (dC, dI) fmCl [(h0, .inr (1, [.int 0, .ref b1, .ref b2, .ref b3, .null, .null, .int 0])), (b1, .inl (cZ, 10240, .inl (fun i => xf_B ((fun _ => false) i)))), (b2, .inl (cI, 32, .inl (fun _ => 0))), (b3, .inl (cZ, 256, .inl (fun i => xf_B ((fun _ => false) i)))), (b4, .inl (cI, 256, .inl (fun _ => 0)))] H := hP
  have hD : va_D A [(h0, .inr (1, [.int 0, .ref b1, .ref b2, .ref b3, .null, .null, .int 0])), (b1, .inl (cZ, 10240, .inl (fun i => xf_B ((fun _ => false) i)))), (b2, .inl (cI, 32, .inl (fun _ => 0))), (b3, .inl (cZ, 256, .inl (fun i => xf_B ((fun _ => false) i)))), (b4, .inl (cI, 256, .inl (fun _ => 0)))] := hD
  refine W.widen (k := 4) (n := 10784) (by omega) (by omega) ?_
  have hf_told := hts (.fieldLink RX1 20 "FacetCountsModel" "told" "[I") (by decide +kernel)
  refine va_putF (D := (dC, dI)) (ci := 1) (v := .ref b4) (ty := .array .int) (C := RX1) (T := TM) (N := 7) hx hb hts hin tyM tyM_ok nmM hown hK hP hD hS 0 rfl rfl 4 (by decide) hf_told (fun _ h9 => h9) rfl hin0 rfl (by decide +kernel) rfl rfl (Nat.le_of_ble_eq_true rfl) dM_init_36 (fun H locs hP hD hS => ?_)
  have hP : va_P (dC, dI) fmCl [(h0, .inr (1, [.int 0, .ref b1, .ref b2, .ref b3, .ref b4, .null, .int 0])), (b1, .inl (cZ, 10240, .inl (fun i => xf_B ((fun _ => false) i)))), (b2, .inl (cI, 32, .inl (fun _ => 0))), (b3, .inl (cZ, 256, .inl (fun i => xf_B ((fun _ => false) i)))), (b4, .inl (cI, 256, .inl (fun _ => 0)))] H := hP
  have hD : va_D A [(h0, .inr (1, [.int 0, .ref b1, .ref b2, .ref b3, .ref b4, .null, .int 0])), (b1, .inl (cZ, 10240, .inl (fun i => xf_B ((fun _ => false) i)))), (b2, .inl (cI, 32, .inl (fun _ => 0))), (b3, .inl (cZ, 256, .inl (fun i => xf_B ((fun _ => false) i)))), (b4, .inl (cI, 256, .inl (fun _ => 0)))] := hD
  refine lv_aload_n hx hb dM_init_39 rfl (lv_at hl 0 rfl) ?_
  refine lv_bipush (v := nI 32) hx hb dM_init_40 (by decide) ?_
  refine va_newa (n := nI 32) (N' := 32) (atype := .int) (a0 := (32, .inl (fun _ => 0))) (ty := .int) hx hb (hts (.arrayClass .int) (by decide +kernel)) rfl hK hP hD hS hA (fun _ => vp_cell_i _ _ _) (nI_pos (by decide)) (@nI_clamp 32 (by decide)) (show 32 * 4 ≤ 536870912 from by omega) (show 4 + 1 ≤ 5 from by omega) (show 10784 + 32 ≤ 10816 from by omega) dM_init_42 (fun b5 cI9 H hK hP hD hS => ?_)
  obtain rfl : cI = cI9 := xf_oneI hK (i := 1) (j := 2) rfl rfl
  have hK := hK.sub (tys' := [(cZ, .boolean), (cI, .int)]) [0, 1] rfl
  have hP : va_P (dC, dI) fmCl [(h0, .inr (1, [.int 0, .ref b1, .ref b2, .ref b3, .ref b4, .null, .int 0])), (b1, .inl (cZ, 10240, .inl (fun i => xf_B ((fun _ => false) i)))), (b2, .inl (cI, 32, .inl (fun _ => 0))), (b3, .inl (cZ, 256, .inl (fun i => xf_B ((fun _ => false) i)))), (b4, .inl (cI, 256, .inl (fun _ => 0))), (b5, .inl (cI, 32, .inl (fun _ => 0)))] H := hP
  have hD : va_D A [(h0, .inr (1, [.int 0, .ref b1, .ref b2, .ref b3, .ref b4, .null, .int 0])), (b1, .inl (cZ, 10240, .inl (fun i => xf_B ((fun _ => false) i)))), (b2, .inl (cI, 32, .inl (fun _ => 0))), (b3, .inl (cZ, 256, .inl (fun i => xf_B ((fun _ => false) i)))), (b4, .inl (cI, 256, .inl (fun _ => 0))), (b5, .inl (cI, 32, .inl (fun _ => 0)))] := hD
  refine W.widen (k := 5) (n := 10816) (by omega) (by omega) ?_
  have hf_counts := hts (.fieldLink RX1 23 "FacetCountsModel" "counts" "[I") (by decide +kernel)
  refine va_putF (D := (dC, dI)) (ci := 1) (v := .ref b5) (ty := .array .int) (C := RX1) (T := TM) (N := 7) hx hb hts hin tyM tyM_ok nmM hown hK hP hD hS 0 rfl rfl 5 (by decide) hf_counts (fun _ h9 => h9) rfl hin0 rfl (by decide +kernel) rfl rfl (Nat.le_of_ble_eq_true rfl) dM_init_44 (fun H locs hP hD hS => ?_)
  have hP : va_P (dC, dI) fmCl [(h0, .inr (1, [.int 0, .ref b1, .ref b2, .ref b3, .ref b4, .ref b5, .int 0])), (b1, .inl (cZ, 10240, .inl (fun i => xf_B ((fun _ => false) i)))), (b2, .inl (cI, 32, .inl (fun _ => 0))), (b3, .inl (cZ, 256, .inl (fun i => xf_B ((fun _ => false) i)))), (b4, .inl (cI, 256, .inl (fun _ => 0))), (b5, .inl (cI, 32, .inl (fun _ => 0)))] H := hP
  have hD : va_D A [(h0, .inr (1, [.int 0, .ref b1, .ref b2, .ref b3, .ref b4, .ref b5, .int 0])), (b1, .inl (cZ, 10240, .inl (fun i => xf_B ((fun _ => false) i)))), (b2, .inl (cI, 32, .inl (fun _ => 0))), (b3, .inl (cZ, 256, .inl (fun i => xf_B ((fun _ => false) i)))), (b4, .inl (cI, 256, .inl (fun _ => 0))), (b5, .inl (cI, 32, .inl (fun _ => 0)))] := hD
  have hK := hK.sub (tys' := [(cI, .int), (cZ, .boolean)]) [1, 0] rfl
  have hP : va_P (dC, dI) fmCl (mw h0 b1 b2 b3 b4 b5 cI cZ ((fun _ => false)) ((fun _ => 0)) ((fun _ => false)) ((fun _ => 0)) ((fun _ => 0)) 0 0) H := hP
  have hD : va_D A (mw h0 b1 b2 b3 b4 b5 cI cZ ((fun _ => false)) ((fun _ => 0)) ((fun _ => false)) ((fun _ => 0)) ((fun _ => 0)) 0 0) := hD
  refine lv_iconst (v := nI 0) hx hb dM_init_47 (by decide) ?_
  refine lv_istore_n (lv' := [(1, .int (nI 0)), (0, .ref h0)]) hx hb dM_init_48 rfl hl (by decide) rfl (fun ls hl => ?_)
  refine xf_loopH (σ := Nat) (fun (z9 : Nat) => 32 - z9) (fun (z9 : Nat) => [(0, .ref h0), (1, .int (nI z9))]) (fun (z9 : Nat) => (mw h0 b1 b2 b3 b4 b5 cI cZ ((fun _ => false)) (xf_fill (-1) (fun _ => 0) z9) ((fun _ => false)) ((fun _ => 0)) ((fun _ => 0)) 0 0)) (fun (z9 : Nat) => z9 ≤ 32) 0 (lv_sub hl [1, 0] rfl) (Nat.zero_le _) hP hD hS (fun z9 ls H locs hi hl hP hD hS ih49 => ?_)
  obtain ⟨k, hxe⟩ : ∃ z, z = z9 := ⟨_, rfl⟩
  subst hxe
  have hl : lv_has ls 2 [(0, .ref h0), (1, .int (nI k))] := hl
  have hP : va_P (dC, dI) fmCl (mw h0 b1 b2 b3 b4 b5 cI cZ ((fun _ => false)) (xf_fill (-1) (fun _ => 0) k) ((fun _ => false)) ((fun _ => 0)) ((fun _ => 0)) 0 0) H := hP
  have hD : va_D A (mw h0 b1 b2 b3 b4 b5 cI cZ ((fun _ => false)) (xf_fill (-1) (fun _ => 0) k) ((fun _ => false)) ((fun _ => 0)) ((fun _ => 0)) 0 0) := hD
  have hi : k ≤ 32 := hi
  refine lv_iload_n hx hb dM_init_49 rfl (lv_at hl 1 rfl) ?_
  refine lv_bipush (v := nI 32) hx hb dM_init_50 (by decide) ?_
  refine xf_ge (tgt := 68) hx hb dM_init_52 (by decide) (by omega) (by omega) (fun c52 => ?_) (fun c52 => ?_)
  ·
    obtain rfl : k = 32 := by omega
    exact W.vret hx hb hr (fun t9 ht9 hW9 => ⟨⟨(), rfl, trivial, cI, cZ, b1, b2, b3, b4, b5, xf_hP ht9 hP, va_K.moved hW9.alike hK, hD⟩, hS.F ht9⟩) hS.2.2 dM_init_68
  ·
    refine lv_aload_n hx hb dM_init_55 rfl (lv_at hl 0 rfl) ?_
    refine va_get (D := (dC, dI)) (ci := 1) (v := .ref b2) (C := RX1) (T := TM) (N := 7) hx hb hts hin hown hK hP 0 rfl rfl 2 (by decide) hf_above (fun _ h9 => h9) rfl dM_init_56 ?_
    refine lv_iload_n hx hb dM_init_59 rfl (lv_at hl 1 rfl) ?_
    refine lv_iconst (v := (-1)) hx hb dM_init_60 (by decide) ?_
    refine xf_iast hx hb hK hP hD hS 2 0 rfl rfl (j := k) (by omega) (by decide) dM_init_61 (fun H locs hP hD hS => ?_)
    have hP : va_P (dC, dI) fmCl (mw h0 b1 b2 b3 b4 b5 cI cZ ((fun _ => false)) (upd (xf_fill (-1) (fun _ => 0) k) k ((-1))) ((fun _ => false)) ((fun _ => 0)) ((fun _ => 0)) 0 0) H := hP
    have hD : va_D A (mw h0 b1 b2 b3 b4 b5 cI cZ ((fun _ => false)) (upd (xf_fill (-1) (fun _ => 0) k) k ((-1))) ((fun _ => false)) ((fun _ => 0)) ((fun _ => 0)) 0 0) := hD
    refine lv_iinc (v := nI (k + 1)) (lv' := [(1, .int (nI (k + 1))), (0, .ref h0)]) hx hb dM_init_62 hl (k := 1) rfl (by exact nI_1 k) (by decide) rfl (fun ls hl => ?_)
    refine lv_goto (tgt := 49) hx hb dM_init_65 (by decide) ?_
    have hl := lv_sub (l' := [(0, .ref h0), (1, .int (nI (k + 1)))]) hl [1, 0] rfl
    have hl : lv_has ls 2 [(0, .ref h0), (1, .int (nI (k + 1)))] := xf_lv hl (by rfl)
    have hP : va_P (dC, dI) fmCl (mw h0 b1 b2 b3 b4 b5 cI cZ ((fun _ => false)) (xf_fill (-1) (fun _ => 0) (k + 1)) ((fun _ => false)) ((fun _ => 0)) ((fun _ => 0)) 0 0) H := xf_wP hP (by rfl)
    have hD : va_D A (mw h0 b1 b2 b3 b4 b5 cI cZ ((fun _ => false)) (xf_fill (-1) (fun _ => 0) (k + 1)) ((fun _ => false)) ((fun _ => 0)) ((fun _ => 0)) 0 0) := xf_wD hD rfl
    exact ih49 (k + 1) ls H locs (by show 32 - (k + 1) < 32 - k; omega) (by show (k + 1) ≤ 32; omega) hl hP hD hS
end
