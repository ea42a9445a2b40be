section
-- ===== PART A: goes FIRST, ahead of the names: the tables' words, and 'selects' of the private methods out of them =====
/-- a private method of a class that the tables say can be made, by its rows of tables_1 -/
def lw_okq (q : MethodName × Nat) : Prop := (q.1.cls ≠ "java/lang/invoke/MethodHandle" ∧ q.1.cls ≠ "java/lang/invoke/VarHandle") ∧ Cond.instantiable q.1.cls q.2 ∈ tables_1 ∧ Cond.privateMethod q.1 ∈ tables_1 ∧ Cond.instanceMethod q.1 ∈ tables_1
theorem lw_p0 : lw_okq (⟨"java/lang/Throwable", "fillInStackTrace", "(I)Ljava/lang/Throwable;"⟩, 6) := ⟨⟨by decide +kernel, by decide +kernel⟩, List.mem_of_getElem? (i := 168) (by decide +kernel), List.mem_of_getElem? (i := 166) (by decide +kernel), List.mem_of_getElem? (i := 167) (by decide +kernel)⟩
theorem lw_p1 : lw_okq (⟨"RuinViews", "requireRuin", "(I)V"⟩, 2) := ⟨⟨by decide +kernel, by decide +kernel⟩, List.mem_of_getElem? (i := 15) (by decide +kernel), List.mem_of_getElem? (i := 306) (by decide +kernel), List.mem_of_getElem? (i := 307) (by decide +kernel)⟩
theorem lw_p2 : lw_okq (⟨"RuinViews", "requireTicket", "(I)V"⟩, 2) := ⟨⟨by decide +kernel, by decide +kernel⟩, List.mem_of_getElem? (i := 15) (by decide +kernel), List.mem_of_getElem? (i := 380) (by decide +kernel), List.mem_of_getElem? (i := 381) (by decide +kernel)⟩
def lw_privs_1 : List (MethodName × Nat) := [(⟨"java/lang/Throwable", "fillInStackTrace", "(I)Ljava/lang/Throwable;"⟩, 6), (⟨"RuinViews", "requireRuin", "(I)V"⟩, 2), (⟨"RuinViews", "requireTicket", "(I)V"⟩, 2)]
theorem lw_r1 : ∀ q ∈ lw_privs_1, lw_okq q := List.forall_mem_cons.mpr ⟨lw_p0, List.forall_mem_cons.mpr ⟨lw_p1, List.forall_mem_cons.mpr ⟨lw_p2, fun _ h => absurd h List.not_mem_nil⟩⟩⟩
def lw_privs : List (MethodName × Nat) := lw_privs_1
def lw_tbl : List Cond := k2_sels lw_privs ++ tables_1
theorem lw_privs_ok : ∀ q ∈ lw_privs, lw_okq q := lw_r1
/-- the streams that the claim lets the run draw from -/
abbrev lw_cs : List Choice := [Jvm.Choice.named "NaN.bits"]
theorem lw_bits : nanBits ∈ lw_cs := by first | decide | exact List.mem_cons_self | simp [lw_cs, nanBits]
-- ===== end of PART A; then your names; then what follows =====
end
section
/-! ===== BEGIN words of one list among another's, by their places ===== -/
theorem goodIn_r {big : List Cond} (ws : List Cond) (ps : List Nat) (hp : ws = ps.filterMap (fun i => big[i]?)) (h : ws.all goodWord = true) : GoodIn big ws := by
  intro w hw
  have h1 := List.all_eq_true.mp h w hw
  rw [hp] at hw
  obtain ⟨i, -, hi⟩ := List.mem_filterMap.mp hw
  have hm : w ∈ big := by first | exact List.mem_of_getElem? hi | exact List.getElem?_mem hi
  exact ⟨hm, good_of_word h1⟩
theorem goodIn_app {big a b : List Cond} (ha : GoodIn big a) (hb : GoodIn big b) : GoodIn big (a ++ b) := fun w h => (List.mem_append.mp h).elim (ha w) (hb w)
theorem goodIn_ca {big a b : List Cond} {c : Cond} (ha : GoodIn big (c :: a)) (hb : GoodIn big b) : GoodIn big (c :: (a ++ b)) := fun w h => (List.mem_cons.mp h).elim (fun e => ha w (List.mem_cons.mpr (Or.inl e))) (fun h => (List.mem_append.mp h).elim (fun h => ha w (List.mem_cons.mpr (Or.inr h))) (hb w))
theorem goodIn_sub {big ws : List Cond} (hm : ∀ w ∈ ws, w ∈ big) (h : ws.all goodWord = true) : GoodIn big ws := fun w hw => ⟨hm w hw, good_of_word (List.all_eq_true.mp h w hw)⟩
/-! ===== END ===== -/

/-! ===== BEGIN exceptions that leave a method, and their catching by the caller (launches without stack traces) ===== -/
section VXA
/-! The laws vx_back, vx_callV, vx_callS, vx_callSW, vx_throw0, vx_throwS follow proofs of the library, with one case more: JvmDerived/Free/Laws.lean (Back.of_free), Shelf42/LK1.lean (callV, callS), Shelf/KitTraced.lean (throwNew0V, throwNewS). -/
/-- where a method has thrown q: the class by its name, the cell, what was written, the world -/
def vx_T (XC : String → State → State → Prop) (st : State) (q : Addr) (t : State) (mc ms : Nat) (free : Addr → Prop) : Prop :=
  ∃ (E : String) (ce : Cell) (L : List Loc), XC E st t ∧ t.heap[q]? = some ce ∧ ce.vm = .none ∧ st.vm.findClass E = some ce.cls ∧ st.WarmedH t.vm ∧ st.sameButNew ({ t with vm := st.vm } : State) L mc ms ∧ ∀ z ∈ L, free z.base
def vx_Q (Qc : Array Value → State → Outcome → State → Prop) (XC : String → State → State → Prop) (mc ms : Nat) (free : Addr → Prop) : Array Value → State → Outcome → State → Prop := fun a st o t =>
  (Qc a st o t ∧ ∃ L, FrameEnd st o t L mc ms ∧ ∀ q ∈ L, free q.base) ∨ ∃ q, o = .threw q ∧ vx_T XC st q t mc ms free
/-- a callee that returns or throws -/
def vx_Met (l : Launch) (y : MethodName) (ws : List Cond) (rm : Room) (Pc : Array Value → State → Prop) (Qc : Array Value → State → Outcome → State → Prop) (XC : String → State → State → Prop) (mc ms : Nat) (free : Addr → Prop) : Prop :=
  MetFree l y (headSpec ws rm) Pc (fun _ _ _ _ _ => True) (vx_Q Qc XC mc ms free)
def vx_Post (XC : String → State → State → Prop) (mc ms : Nat) (free : Addr → Prop) : Pt → Array Value → Addr → Pt → Prop := fun A a q B =>
  ∃ (g : JFrame) (mk : MethodId) (t : State) (L : List Loc) (E : String) (ce : Cell), B.U.heap = t.heap ∧ B.U.vm = t.vm ∧ XC E (A.U.calling g mk a) t ∧ t.heap[q]? = some ce ∧ ce.vm = .none ∧ A.U.vm.findClass E = some ce.cls ∧ B.locs = A.locs ++ L ∧ (∀ z ∈ L, free z.base) ∧ B.cells = A.cells + mc ∧ B.slots = A.slots + ms
def vx_Back (l : Launch) (R : Room) (p : Program) (e : Env) (below : List Frame) (s : State) (sargs : Array Value) (y : MethodName) (len W9 : Nat)
    (Pre : Pt → Array Value → Prop) (Post : Pt → Array Value → Option Value → Pt → Prop) (PostX : Pt → Array Value → Addr → Pt → Prop) : Prop :=
  ∀ (m : MethodId) (meth : Method) (c : Code) (A : Pt) (g : JFrame) (ig : Instr) (mk : MethodId) (a : Array Value),
    Stand p l e R s m sargs below meth c A.U A.locs A.cells A.slots → g.method = m → g.locals.size = c.maxLocals → decode c.code g.pc = .ok (ig, len) →
    2 * g.monitorRoom + (g.stack.map fun v => v.category).sum ≤ W9 → A.U.methodNamed? y = some mk → Pre A a →
    (∃ (v : Option Value) (B : Pt), Stand p l e R s m sargs below meth c B.U B.locs B.cells B.slots ∧ Post A a v B ∧
      Steps p.tables e below (doInvoke e (A.U.setTop g) [] mk a).1 (B.U.setTop { g with pc := g.pc + len, stack := v.toList ++ g.stack })) ∨
    (∃ (q : Addr) (B : Pt), Stand p l e R s m sargs below meth c B.U B.locs B.cells B.slots ∧ PostX A a q B ∧
      Steps p.tables e below (doInvoke e (A.U.setTop g) [] mk a).1 ((B.U.setTop g).pushFrame (.throwing q)))
section Payer
variable {l : Launch} {R : Room} {p : Program} {e : Env} {below : List Frame} {s : State} {sargs : Array Value} {y : MethodName} {len W9 : Nat}
theorem vx_back {ws : List Cond} {rm : Room} {Pc : Array Value → State → Prop} {Qc : Array Value → State → Outcome → State → Prop} {XC : String → State → State → Prop} {mc ms : Nat} {free : Addr → Prop} {bytes : ByteArray} {maxL : Nat} {ret : Option FieldType}
    (hM : vx_Met l y ws rm Pc Qc XC mc ms free) (hblind : FrameBlind Pc) (hrc : rm.cells = mc) (hrs : rm.slots = ms)
    (hframes : rm.frames + 1 ≤ R.frames) (hlocals : W9 + (maxL + 11) + rm.locals ≤ R.locals)
    (hws : ∀ w ∈ ws, ∀ a' U, s.WarmedH U.vm → w.before a' U = true) (hcode : Cond.code y bytes maxL ret ∈ ws) (hinit : ∀ a' U, s.WarmedH U.vm → (Cond.initialized y.cls).before a' U = true) :
    vx_Back l R p e below s sargs y len W9 (PreOf R mc ms Pc) (PostOf Qc mc ms free) (vx_Post XC mc ms free) := by
  intro m meth c A g ig mk a X hg hsize hdg hW hn hp
  have h1 : (headSpec ws rm).pre.before a A.U = true := atoms_intro fun w hw => hws w hw _ _ X.warmed
  have h2 : (Cond.code y bytes maxL ret).before a A.U = true := hws _ hcode _ _ X.warmed
  have h3 : (Cond.initialized y.cls).before a A.U = true := hinit _ _ X.warmed
  have h4 : A.cells + (headSpec ws rm).room.cells ≤ R.cells := by rw [show (headSpec ws rm).room.cells = mc from hrc]; exact hp.1
  have h5 : A.slots + (headSpec ws rm).room.slots ≤ R.slots := by rw [show (headSpec ws rm).room.slots = ms from hrs]; exact hp.2.1
  have hPc : Pc a (A.U.calling g mk a) := hblind _ _ _ _ hp.2.2
  obtain ⟨U, Ls, c0, s0⟩ := A
  dsimp only [Pt.U, Pt.locs, Pt.cells, Pt.slots] at h1 h2 h3 h4 h5 X hn hPc ⊢
  obtain ⟨methY, cY, hmY, hcY, -, hlY, -, -, -, -⟩ := Cond.code_spec hn h2
  obtain ⟨kY, hkY, -⟩ := className_of_methodNamed hn
  have hinitY : kY.init = .initialized := Cond.initialized_spec (findClass_of_methodNamed hn) hkY h3
  have h : At U g.method c below := by rw [hg]; exact X.here
  have hlocals9 : W9 + (maxL + 11) + (headSpec ws rm).room.locals ≤ R.locals := hlocals
  have happ : (headSpec ws rm).appliesLoose y e.platform (U.calling g mk a) = true :=
    Spec.appliesLoose_calling (g := g) h hdg hn hkY hinitY
      (X.room_calling (g := g) (R' := (headSpec ws rm).room) hsize hmY hcY hframes (by rw [hlY]; omega) h4 h5) h1
  obtain ⟨mid, hmid⟩ := h.above
  have hfr : (U.setTop g).frames = (.java g :: mid) ++ below := by rw [State.frames_setTop' g h.top, hmid]; rfl
  obtain ⟨o, s₂, hsteps, -, hend, hq⟩ := Steps.callFree hM p X.admits X.cas X.clock (acts := []) hfr happ hPc trivial
  have hq' : vx_Q Qc XC mc ms free a (U.calling g mk a) o s₂ := hq
  rw [State.frames_setTop' g h.top] at hend
  obtain ⟨g₀, hg0⟩ := Option.isSome_iff_exists.mp h.top
  obtain ⟨r, hr⟩ := State.topJava?_eq_some.mp hg0
  have hr' : (({ U with heap := s₂.heap, slotsUsed := s₂.slotsUsed } : State).setVm s₂.vm).frames = .java g₀ :: r := hr
  rcases hq' with ⟨hqc, L, hfe, hL⟩ | ⟨q, rfl, E, ce, L, hx, hce, hcv, hcl, hW₂, hsm, hL⟩
  · obtain ⟨⟨v, rfl⟩, hW₂, e2, q2, q3, q4, q5, q6⟩ := id hfe
    have e3 : s₂ = ({ (U.calling g mk a).setFrames s₂.frames with heap := s₂.heap, slotsUsed := s₂.slotsUsed } : State).setVm s₂.vm := by
      have : s₂ = ({ s₂ with vm := (U.calling g mk a).vm } : State).setVm s₂.vm := rfl
      rw [e2] at this
      exact this
    obtain ⟨c₂, i₂, len₂, hc₂, hd₂, hf₂⟩ := hend
    have hW' : U.WarmedH s₂.vm := hW₂
    have hcc : c₂ = c := by
      have h1 : s₂.code? g.method = U.code? g.method := by
        rw [State.code?_eq, State.code?_eq, hW'.alike.method?]
      exact Option.some.inj (hc₂.symm.trans (h1.trans h.code))
    subst hcc
    have hlen : len₂ = len := by rw [hdg] at hd₂; cases hd₂; rfl
    subst hlen
    have hs₂ : s₂ = (({ U with heap := s₂.heap, slotsUsed := s₂.slotsUsed } : State).setVm s₂.vm).setTop { g with pc := g.pc + len₂, stack := v.toList ++ g.stack } := by
      refine e3.trans ?_
      rw [hf₂, State.calling_eq h.top, State.setFrames_setFrames, State.setTop_of_frames _ hr', hr]
      rfl
    have hsame : U.sameButNew ({ U with heap := s₂.heap, slotsUsed := s₂.slotsUsed } : State) L mc ms := by
      refine ⟨?_, q2, q3, q4, q5, q6⟩
      obtain ⟨t, ht, -⟩ := State.frames_cons hr
      show ({ U with heap := s₂.heap, slotsUsed := s₂.slotsUsed } : State) = { U.setFrames U.frames with heap := s₂.heap, slotsUsed := s₂.slotsUsed }
      rw [State.setFrames_self ht]
    subst hg
    refine Or.inl ⟨v, ⟨(({ U with heap := s₂.heap, slotsUsed := s₂.slotsUsed } : State).setVm s₂.vm), Ls ++ L, c0 + mc, s0 + ms⟩,
      ⟨X.admits, X.cas, X.clock, X.frames, X.room, X.hears, X.method, X.code, (X.here.setHeapUsed s₂.heap s₂.slotsUsed).setVm hW'.alike, X.tail, State.WarmedH.trans X.warmed hW', X.limits, X.bytes, X.same.trans (hsame.setVm s.vm)⟩,
      ⟨g, mk, s₂, L, rfl, rfl, hqc, rfl, hL, rfl, rfl⟩, ?_⟩
    show Steps p.tables e below _ ((({ U with heap := s₂.heap, slotsUsed := s₂.slotsUsed } : State).setVm s₂.vm).setTop { g with pc := g.pc + len₂, stack := v.toList ++ g.stack })
    rw [← hs₂]
    exact hsteps
  · obtain ⟨e2, q2, q3, q4, q5, q6⟩ := id hsm
    have e3 : s₂ = ({ (U.calling g mk a).setFrames s₂.frames with heap := s₂.heap, slotsUsed := s₂.slotsUsed } : State).setVm s₂.vm := by
      have : s₂ = ({ s₂ with vm := (U.calling g mk a).vm } : State).setVm s₂.vm := rfl
      rw [e2] at this
      exact this
    have hf₂ : s₂.frames = .throwing q :: .java g :: U.frames.tail := hend
    have hW' : U.WarmedH s₂.vm := hW₂
    have hs₂ : s₂ = ((({ U with heap := s₂.heap, slotsUsed := s₂.slotsUsed } : State).setVm s₂.vm).setTop g).pushFrame (.throwing q) := by
      refine e3.trans ?_
      rw [hf₂, State.calling_eq h.top, State.setFrames_setFrames, State.pushFrame, State.frames_setTop _ hr', State.setTop_of_frames _ hr', State.setFrames_setFrames, hr]
      rfl
    have hsame : U.sameButNew ({ U with heap := s₂.heap, slotsUsed := s₂.slotsUsed } : State) L mc ms := by
      refine ⟨?_, q2, q3, q4, q5, q6⟩
      obtain ⟨t, ht, -⟩ := State.frames_cons hr
      show ({ U with heap := s₂.heap, slotsUsed := s₂.slotsUsed } : State) = { U.setFrames U.frames with heap := s₂.heap, slotsUsed := s₂.slotsUsed }
      rw [State.setFrames_self ht]
    subst hg
    refine Or.inr ⟨q, ⟨(({ U with heap := s₂.heap, slotsUsed := s₂.slotsUsed } : State).setVm s₂.vm), Ls ++ L, c0 + mc, s0 + ms⟩,
      ⟨X.admits, X.cas, X.clock, X.frames, X.room, X.hears, X.method, X.code, (X.here.setHeapUsed s₂.heap s₂.slotsUsed).setVm hW'.alike, X.tail, State.WarmedH.trans X.warmed hW', X.limits, X.bytes, X.same.trans (hsame.setVm s.vm)⟩,
      ⟨g, mk, s₂, L, E, ce, rfl, rfl, hx, hce, hcv, hcl, rfl, hL, rfl, rfl⟩, ?_⟩
    show Steps p.tables e below _ (((({ U with heap := s₂.heap, slotsUsed := s₂.slotsUsed } : State).setVm s₂.vm).setTop g).pushFrame (.throwing q))
    rw [← hs₂]
    exact hsteps
end Payer
section Calls
variable {p : Program} {l : Launch} {e : Env} {R : Room} {s : State} {m : MethodId} {args : Array Value} {below : List Frame} {meth : Method} {c : Code} {T : State} {locs : List Loc} {cells slots : Nat}
theorem vx_callV (X : Stand p l e R s m args below meth c T locs cells slots) (hexec : p.tables.exec = Jvm.exec) {own C : String} {index : Nat} {y : MethodName} {bytes : ByteArray} {maxL : Nat} {ret : Option FieldType}
    (hown : s.vm.findClass own = some m.cls) (hlink : (Cond.methodLink own index y).before args s = true) (hinst : (Cond.instanceMethod y).before args s = true) (hsel : (Cond.selects C y y).before args s = true)
    (hcode : (Cond.code y bytes maxL ret).before args s = true) (hy : y.cls ≠ "java/lang/invoke/MethodHandle" ∧ y.cls ≠ "java/lang/invoke/VarHandle")
    {W9 : Nat} {Pre : Pt → Array Value → Prop} {Post : Pt → Array Value → Option Value → Pt → Prop} {PostX : Pt → Array Value → Addr → Pt → Prop} (hK : vx_Back l R p e below s args y 3 W9 Pre Post PostX)
    {b : Addr} {cellB : Cell} (hcell : T.heap[b]? = some cellB) (hobj : cellB.vm.isStatics = false) (hcls : s.vm.findClass C = some cellB.cls)
    {g : JFrame} (hg : g.method = m) (hsize : g.locals.size = c.maxLocals) {argsL rest : List Value} (hlen : ∀ sig, parseMethodDescriptor y.desc = some sig → argsL.length = sig.parameters.length)
    (hstack : g.stack = argsL.reverse ++ .ref b :: rest) (hW : 2 * g.monitorRoom + (rest.map fun v => v.category).sum ≤ W9) (hdg : decode c.code g.pc = .ok (.invokevirtual index, 3))
    (hpre : ∀ vm₁, s.WarmedH vm₁ → Pre ⟨T.setVm vm₁, locs, cells, slots⟩ (Value.ref b :: argsL).toArray) :
    (∃ (v : Option Value) (vm₁ : Vm) (B : Pt), s.WarmedH vm₁ ∧ Stand p l e R s m args below meth c B.U B.locs B.cells B.slots ∧ Post ⟨T.setVm vm₁, locs, cells, slots⟩ (Value.ref b :: argsL).toArray v B ∧
      ∀ target, Steps p.tables e below (B.U.setTop { g with pc := g.pc + 3, stack := v.toList ++ rest }) target → Steps p.tables e below (T.setTop g) target) ∨
    (∃ (q : Addr) (vm₁ : Vm) (B : Pt), s.WarmedH vm₁ ∧ Stand p l e R s m args below meth c B.U B.locs B.cells B.slots ∧ PostX ⟨T.setVm vm₁, locs, cells, slots⟩ (Value.ref b :: argsL).toArray q B ∧
      Steps p.tables e below (T.setTop g) ((B.U.setTop { g with stack := rest }).pushFrame (.throwing q))) := by
  obtain ⟨mk, methM, hnamed, hmethM, hstM, habM⟩ := Cond.instanceMethod_spec hinst
  obtain ⟨methM', cM, hmethM', -, -, -, -, -, -, hsigM⟩ := Cond.code_spec hnamed hcode
  cases hmethM.symm.trans hmethM'
  obtain ⟨c2, r2, m2, q1, q2, q3, q4, kP, hkP, hkPi⟩ := Cond.selects_spec hsel
  cases hcls.symm.trans q1
  cases (State.methodFound?_of_named hnamed hy).symm.trans q2
  cases hnamed.symm.trans q3
  have hselP : selectMethod e.platform s.vm cellB.cls mk = .method mk := by rw [Launch.admits_selectMethod X.admits]; exact q4
  obtain ⟨vm₁, X₁, hstep₁⟩ := X.invokevirtual hexec hown hlink hnamed hmethM hstM hkP hkPi hy (a := b) (cell := cellB) hcell
    (fun z h => by rw [h] at hobj; cases hobj) hselP hmethM habM hkP hkPi (g := g) hg (argsL := argsL) (rest := rest) (hlen _ hsigM) hstack hdg
  rcases hK m meth c ⟨T.setVm vm₁, locs, cells, slots⟩ { g with stack := rest } (.invokevirtual index) mk (Value.ref b :: argsL).toArray X₁ hg hsize hdg hW (X₁.named hnamed) (hpre vm₁ X₁.warmed) with ⟨v, B, X', hpost, hsteps⟩ | ⟨q, B, X', hpost, hsteps⟩
  · exact Or.inl ⟨v, vm₁, B, X₁.warmed, X', hpost, fun target h => hstep₁ _ fun acts => by rw [doInvoke_state]; exact hsteps.trans h⟩
  · exact Or.inr ⟨q, vm₁, B, X₁.warmed, X', hpost, hstep₁ _ fun acts => by rw [doInvoke_state]; exact hsteps⟩
theorem vx_callS (X : Stand p l e R s m args below meth c T locs cells slots) (hexec : p.tables.exec = Jvm.exec) {own : String} {index : Nat} {y : MethodName} {bytes : ByteArray} {maxL : Nat} {ret : Option FieldType}
    (hown : s.vm.findClass own = some m.cls) (hlink : (Cond.methodLink own index y).before args s = true) (hstat : (Cond.static y).before args s = true) (hinit : (Cond.initialized y.cls).before args s = true)
    (hcode : (Cond.code y bytes maxL ret).before args s = true) (hy : y.cls ≠ "java/lang/invoke/MethodHandle" ∧ y.cls ≠ "java/lang/invoke/VarHandle")
    {W9 : Nat} {Pre : Pt → Array Value → Prop} {Post : Pt → Array Value → Option Value → Pt → Prop} {PostX : Pt → Array Value → Addr → Pt → Prop} (hK : vx_Back l R p e below s args y 3 W9 Pre Post PostX)
    {g : JFrame} (hg : g.method = m) (hsize : g.locals.size = c.maxLocals) {argsL rest : List Value} (hlen : ∀ sig, parseMethodDescriptor y.desc = some sig → argsL.length = sig.parameters.length)
    (hstack : g.stack = argsL.reverse ++ rest) (hW : 2 * g.monitorRoom + (rest.map fun v => v.category).sum ≤ W9) (hdg : decode c.code g.pc = .ok (.invokestatic index, 3))
    (hpre : ∀ vm₁, s.WarmedH vm₁ → Pre ⟨T.setVm vm₁, locs, cells, slots⟩ argsL.toArray) :
    (∃ (v : Option Value) (vm₁ : Vm) (B : Pt), s.WarmedH vm₁ ∧ Stand p l e R s m args below meth c B.U B.locs B.cells B.slots ∧ Post ⟨T.setVm vm₁, locs, cells, slots⟩ argsL.toArray v B ∧
      ∀ target, Steps p.tables e below (B.U.setTop { g with pc := g.pc + 3, stack := v.toList ++ rest }) target → Steps p.tables e below (T.setTop g) target) ∨
    (∃ (q : Addr) (vm₁ : Vm) (B : Pt), s.WarmedH vm₁ ∧ Stand p l e R s m args below meth c B.U B.locs B.cells B.slots ∧ PostX ⟨T.setVm vm₁, locs, cells, slots⟩ argsL.toArray q B ∧
      Steps p.tables e below (T.setTop g) ((B.U.setTop { g with stack := rest }).pushFrame (.throwing q))) := by
  obtain ⟨mk, hnamed⟩ := Cond.code_named hcode
  obtain ⟨methM, cM, hmethM, -, -, -, -, -, -, hsigM⟩ := Cond.code_spec hnamed hcode
  have hstatic : methM.isStatic = true := Cond.static_spec hnamed hmethM hstat
  obtain ⟨kP, hkP, -⟩ := className_of_methodNamed hnamed
  have hinitP : kP.init = .initialized := Cond.initialized_spec (findClass_of_methodNamed hnamed) hkP hinit
  obtain ⟨vm₁, X₁, hstep₁⟩ := X.invokestatic hexec hown hlink hnamed hmethM hstatic hkP hinitP hy (g := g) hg (argsL := argsL) (rest := rest) (hlen _ hsigM) hstack hdg
  rcases hK m meth c ⟨T.setVm vm₁, locs, cells, slots⟩ { g with stack := rest } (.invokestatic index) mk argsL.toArray X₁ hg hsize hdg hW (X₁.named hnamed) (hpre vm₁ X₁.warmed) with ⟨v, B, X', hpost, hsteps⟩ | ⟨q, B, X', hpost, hsteps⟩
  · exact Or.inl ⟨v, vm₁, B, X₁.warmed, X', hpost, fun target h => hstep₁ _ fun acts => by rw [doInvoke_state]; exact hsteps.trans h⟩
  · exact Or.inr ⟨q, vm₁, B, X₁.warmed, X', hpost, hstep₁ _ fun acts => by rw [doInvoke_state]; exact hsteps⟩
end Calls
theorem vx_cls {s : State} {T : State} {vm₁ : Vm} {E : String} {k : ClassId} (hW : s.WarmedH vm₁) (h : (T.setVm vm₁).vm.findClass E = some k) : s.vm.findClass E = some k := by
  have h1 : vm₁.findClass E = some k := h
  rw [hW.alike.findClass] at h1
  exact h1
/-- the method's frame g, with q thrown over it -/
def vx_W (p : Program) (l : Launch) (e : Env) (R : Room) (s : State) (m : MethodId) (args : Array Value) (below : List Frame) (meth : Method) (c : Code) (H : Heap) (locs : List Loc) (cells slots : Nat) (Q : State → Prop) (g : JFrame) (q : Addr) : Prop :=
  ∀ T : State, T.heap = H → Stand p l e R s m args below meth c T locs cells slots → ∃ t, Steps p.tables e below ((T.setTop g).pushFrame (.throwing q)) t ∧ Q t
def vx_Run (p : Program) (l : Launch) (e : Env) (R : Room) (s : State) (m : MethodId) (args : Array Value) (below : List Frame) (meth : Method) (c : Code) (H : Heap) (locs : List Loc) (cells slots mc ms : Nat) (g : JFrame) (rest : List Value) (Qa : State → Outcome → State → Prop) (XC : String → State → State → Prop) (free : Addr → Prop) : Prop :=
  ∀ T : State, T.heap = H → Stand p l e R s m args below meth c T locs cells slots →
    (∃ (v : Option Value) (st₀ t T' : State) (L : List Loc), st₀.heap = H ∧ Stand p l e R s m args below meth c T' (locs ++ L) (cells + mc) (slots + ms) ∧ (∀ q ∈ L, free q.base) ∧ T'.heap = t.heap ∧ T'.vm = t.vm ∧ Qa st₀ (.returned v) t ∧
      Goes p e below T g T' { g with pc := g.pc + 3, stack := v.toList ++ rest }) ∨
    (∃ (q : Addr) (st₀ t T' : State) (L : List Loc) (E : String) (ce : Cell), st₀.heap = H ∧ Stand p l e R s m args below meth c T' (locs ++ L) (cells + mc) (slots + ms) ∧ (∀ z ∈ L, free z.base) ∧ T'.heap = t.heap ∧ T'.vm = t.vm ∧ XC E st₀ t ∧ t.heap[q]? = some ce ∧ ce.vm = .none ∧ s.vm.findClass E = some ce.cls ∧
      Steps p.tables e below (T.setTop g) ((T'.setTop { g with stack := rest }).pushFrame (.throwing q)))
def vx_X {S : Type} (px : S → Prop) (B : String → S → State → Prop) (A : Nat → Prop) : String → State → State → Prop := fun E st t => ∃ u : S, px u ∧ B E u t ∧ va_F A st t
section Runs
variable {p : Program} {l : Launch} {e : Env} {R : Room} {s : State} {m : MethodId} {args : Array Value} {below : List Frame} {meth : Method} {c : Code} {H : Heap} {locs : List Loc} {cells slots : Nat}
variable {y : MethodName} {bytes cc : ByteArray} {maxL nL mc ms n index : Nat} {ret : Option FieldType} {ws : List Cond} {rm : Room} {Pc : Array Value → State → Prop} {Qc : Array Value → State → Outcome → State → Prop} {XC : String → State → State → Prop} {free : Addr → Prop} {Ts : List Cond} {own C : String} {b : Addr} {As rest : List Value} {g : JFrame}
theorem vx_callBack (cb : CallB R s args own index y bytes maxL ret ws rm mc ms n) (hM : vx_Met l y ws rm Pc Qc XC mc ms free) (hbl : FrameBlind Pc) : vx_Back l R p e below s args y 3 8 (PreOf R mc ms Pc) (PostOf Qc mc ms free) (vx_Post XC mc ms free) := by
  obtain ⟨hrc, hrs, hfr, hlo, hws, hcw, -, hini, -⟩ := cb
  exact vx_back (bytes := bytes) (maxL := maxL) (ret := ret) hM hbl hrc hrs hfr hlo hws hcw (fun a' U hW => word_at hW (Or.inl (by first | rfl | simp [Cond.onTables, Cond.keeps, Cond.steady])) hini)
theorem vx_runV (S : CallFix p m c cc nL s args Ts own) (hM : vx_Met l y ws rm Pc Qc XC mc ms free) (cw : CallW R s args own C index y bytes maxL ret ws rm mc ms n) (hp : PreV s H C b Pc As)
    (hg : g.method = m) (hn : As.length = n) (hsize : g.locals.size = nL) (hstack : g.stack = As.reverse ++ .ref b :: rest) (hW : 2 * g.monitorRoom + (rest.map fun v => v.category).sum ≤ 8) (hdg : decode cc g.pc = .ok (.invokevirtual index, 3)) (hf : cells + mc ≤ R.cells ∧ slots + ms ≤ R.slots) :
    vx_Run p l e R s m args below meth c H locs cells slots mc ms g rest (Qc (Value.ref b :: As).toArray) XC free := by
  have hK : vx_Back l R p e below s args y 3 8 (PreOf R mc ms Pc) (PostOf Qc mc ms free) (vx_Post XC mc ms free) := vx_callBack cw.1 hM hp.1
  obtain ⟨⟨-, -, -, -, -, -, hcode, -, hy, hlen, hl⟩, hin, hse⟩ := cw
  obtain ⟨hx, hb, hml, ho, -⟩ := S
  obtain ⟨-, ⟨cellB, hcB, hoB, hclB⟩, hPc⟩ := hp
  intro T hT X
  rcases vx_callV X hx (C := C) (bytes := bytes) (maxL := maxL) (ret := ret) ho hl hin hse hcode hy hK (by rw [hT]; exact hcB) hoB hclB hg (hsize.trans hml.symm) (argsL := As) (rest := rest) (fun sig h => hn.trans (hlen sig h)) hstack hW (by rw [hb]; exact hdg)
    (fun vm₁ hW₁ => ⟨hf.1, hf.2, hPc (T.setVm vm₁) hT hW₁⟩) with ⟨v, vm₁, ⟨U', l2, c2, s2⟩, hW₁, X', ⟨g', mk, t, L, e1, e2, hq, h1, hL, h2, h3⟩, st⟩ | ⟨q, vm₁, ⟨U', l2, c2, s2⟩, hW₁, X', ⟨g', mk, t, L, E, ce, e1, e2, hq, hce, hcv, hcl, h1, hL, h2, h3⟩, st⟩
  · dsimp only [Pt.U, Pt.locs, Pt.cells, Pt.slots] at X' e1 e2 h1 h2 h3 st
    subst h1; subst h2; subst h3
    exact Or.inl ⟨v, (T.setVm vm₁).calling g' mk (Value.ref b :: As).toArray, t, U', L, hT, X', hL, e1, e2, hq, st⟩
  · dsimp only [Pt.U, Pt.locs, Pt.cells, Pt.slots] at X' e1 e2 h1 h2 h3 st hcl
    subst h1; subst h2; subst h3
    exact Or.inr ⟨q, (T.setVm vm₁).calling g' mk (Value.ref b :: As).toArray, t, U', L, E, ce, hT, X', hL, e1, e2, hq, hce, hcv, vx_cls hW₁ hcl, st⟩
theorem vx_runS (S : CallFix p m c cc nL s args Ts own) (hM : vx_Met l y ws rm Pc Qc XC mc ms free) (cw : CallB R s args own index y bytes maxL ret ws rm mc ms n ∧ (Cond.static y).before args s = true) (hp : PreS s H Pc As)
    (hg : g.method = m) (hn : As.length = n) (hsize : g.locals.size = nL) (hstack : g.stack = As.reverse ++ rest) (hW : 2 * g.monitorRoom + (rest.map fun v => v.category).sum ≤ 8) (hdg : decode cc g.pc = .ok (.invokestatic index, 3)) (hf : cells + mc ≤ R.cells ∧ slots + ms ≤ R.slots) :
    vx_Run p l e R s m args below meth c H locs cells slots mc ms g rest (Qc As.toArray) XC free := by
  have hK : vx_Back l R p e below s args y 3 8 (PreOf R mc ms Pc) (PostOf Qc mc ms free) (vx_Post XC mc ms free) := vx_callBack cw.1 hM hp.1
  obtain ⟨⟨-, -, -, -, -, -, hcode, hini, hy, hlen, hl⟩, hstt⟩ := cw
  obtain ⟨hx, hb, hml, ho, -⟩ := S
  intro T hT X
  rcases vx_callS X hx (bytes := bytes) (maxL := maxL) (ret := ret) ho hl hstt hini hcode hy hK hg (hsize.trans hml.symm) (argsL := As) (rest := rest) (fun sig h => hn.trans (hlen sig h)) hstack hW (by rw [hb]; exact hdg)
    (fun vm₁ hW₁ => ⟨hf.1, hf.2, hp.2 (T.setVm vm₁) hT hW₁⟩) with ⟨v, vm₁, ⟨U', l2, c2, s2⟩, hW₁, X', ⟨g', mk, t, L, e1, e2, hq, h1, hL, h2, h3⟩, st⟩ | ⟨q, vm₁, ⟨U', l2, c2, s2⟩, hW₁, X', ⟨g', mk, t, L, E, ce, e1, e2, hq, hce, hcv, hcl, h1, hL, h2, h3⟩, st⟩
  · dsimp only [Pt.U, Pt.locs, Pt.cells, Pt.slots] at X' e1 e2 h1 h2 h3 st
    subst h1; subst h2; subst h3
    exact Or.inl ⟨v, (T.setVm vm₁).calling g' mk As.toArray, t, U', L, hT, X', hL, e1, e2, hq, st⟩
  · dsimp only [Pt.U, Pt.locs, Pt.cells, Pt.slots] at X' e1 e2 h1 h2 h3 st hcl
    subst h1; subst h2; subst h3
    exact Or.inr ⟨q, (T.setVm vm₁).calling g' mk As.toArray, t, U', L, E, ce, hT, X', hL, e1, e2, hq, hce, hcv, vx_cls hW₁ hcl, st⟩
end Runs
section Rows
variable {p : Program} {l : Launch} {e : Env} {R : Room} {s : State} {m : MethodId} {args : Array Value} {below : List Frame} {meth : Method} {c : Code} {H : Heap} {locs : List Loc} {cells slots : Nat} {Q : State → Prop}
variable {mc ms : Nat} {free : Addr → Prop} {A0 A1 : Nat → Prop} {H0 : Heap} {a : Array Value} {pc : Nat} {ls : Array Slot} {st0 rest : List Value}
theorem vx_keep {st₀ t T' : State} {L : List Loc} (h0 : st₀.heap = H) (e1 : T'.heap = t.heap) (hS : va_S A0 H0 H locs) (hA : ∀ q, q < H.size → A1 q → A0 q) (hf : ∀ q, free q → A0 q) (hL : ∀ q ∈ L, free q.base) (hF : va_F A1 st₀ t) :
    H.size ≤ T'.heap.size ∧ (∀ q : Nat, q < H.size → ¬ A1 q → T'.heap[q]? = H[q]?) ∧ va_S A0 H0 T'.heap (locs ++ L) := by
  obtain ⟨hz, hk⟩ := hF
  rw [h0] at hz hk
  exact ⟨by rw [e1]; exact hz, fun q h1 h2 => by rw [e1]; exact hk q h1 h2,
    ⟨Nat.le_trans hS.1 (by rw [e1]; exact hz), fun q h1 h2 => by rw [e1, hk q (Nat.lt_of_lt_of_le h1 hS.1) (fun z => h2 (hA q (Nat.lt_of_lt_of_le h1 hS.1) z))]; exact hS.2.1 q h1 h2, fun q hq => by
      rcases List.mem_append.mp hq with h | h
      · exact hS.2.2 q h
      · exact hf _ (hL q h)⟩⟩
theorem vx_calli {S SX : Type} {post : Int32 → S → Prop} {px : SX → Prop} {B : S → State → Prop} {BX : String → SX → State → Prop} {AX : Nat → Prop} (hr : vx_Run p l e R s m args below meth c H locs cells slots mc ms (F0 m pc ls st0) rest (va_Qi post B A1 a) (vx_X px BX AX) free) (hS : va_S A0 H0 H locs) (hA : ∀ q, q < H.size → A1 q → A0 q) (hf : ∀ q, free q → A0 q) (hAX : ∀ q, q < H.size → AX q → A0 q)
    (kx : ∀ (E : String) (ce : Cell) (q9 : Addr) (u : SX) (t : State) (H1 : Heap) (locs1 : List Loc), t.heap = H1 → s.vm.Alike t.vm → px u → BX E u t → H.size ≤ H1.size → (∀ q : Nat, q < H.size → ¬ AX q → H1[q]? = H[q]?) → va_S A0 H0 H1 locs1 → H1[q9]? = some ce → ce.vm = .none → s.vm.findClass E = some ce.cls → vx_W p l e R s m args below meth c H1 locs1 (cells + mc) (slots + ms) Q (F0 m pc ls rest) q9)
    (kk : ∀ (r : Int32) (u : S) (t : State) (H1 : Heap) (locs1 : List Loc), t.heap = H1 → s.vm.Alike t.vm → post r u → B u t → H.size ≤ H1.size → (∀ q : Nat, q < H.size → ¬ A1 q → H1[q]? = H[q]?) → va_S A0 H0 H1 locs1 → W p l e R s m args below meth c H1 locs1 (cells + mc) (slots + ms) Q (F0 m (pc + 3) ls (.int r :: rest))) : W p l e R s m args below meth c H locs cells slots Q (F0 m pc ls st0) := by
  intro T hT X
  rcases hr T hT X with ⟨v, st₀, t, T', L, h0, X', hL, e1, e2, ⟨⟨r, u, hv, hp, hb⟩, hF⟩, st⟩ | ⟨q, st₀, t, T', L, E, ce, h0, X', hL, e1, e2, ⟨u, hp, hb, hF⟩, hce, hcv, hcl, st⟩
  · cases hv
    obtain ⟨k1, k2, k3⟩ := vx_keep h0 e1 hS hA hf hL hF
    obtain ⟨t2, a1, b1⟩ := kk r u t T'.heap (locs ++ L) e1.symm (by rw [← e2]; exact X'.warmed.alike) hp hb k1 k2 k3 T' rfl X'
    exact ⟨t2, st t2 a1, b1⟩
  · obtain ⟨k1, k2, k3⟩ := vx_keep h0 e1 hS hAX hf hL hF
    obtain ⟨t2, a1, b1⟩ := kx E ce q u t T'.heap (locs ++ L) e1.symm (by rw [← e2]; exact X'.warmed.alike) hp hb k1 k2 k3 (by rw [e1]; exact hce) hcv hcl T' rfl X'
    exact ⟨t2, st.trans a1, b1⟩
theorem vx_calll {S SX : Type} {post : Int64 → S → Prop} {px : SX → Prop} {B : S → State → Prop} {BX : String → SX → State → Prop} {AX : Nat → Prop} (hr : vx_Run p l e R s m args below meth c H locs cells slots mc ms (F0 m pc ls st0) rest (va_Ql post B A1 a) (vx_X px BX AX) free) (hS : va_S A0 H0 H locs) (hA : ∀ q, q < H.size → A1 q → A0 q) (hf : ∀ q, free q → A0 q) (hAX : ∀ q, q < H.size → AX q → A0 q)
    (kx : ∀ (E : String) (ce : Cell) (q9 : Addr) (u : SX) (t : State) (H1 : Heap) (locs1 : List Loc), t.heap = H1 → s.vm.Alike t.vm → px u → BX E u t → H.size ≤ H1.size → (∀ q : Nat, q < H.size → ¬ AX q → H1[q]? = H[q]?) → va_S A0 H0 H1 locs1 → H1[q9]? = some ce → ce.vm = .none → s.vm.findClass E = some ce.cls → vx_W p l e R s m args below meth c H1 locs1 (cells + mc) (slots + ms) Q (F0 m pc ls rest) q9)
    (kk : ∀ (r : Int64) (u : S) (t : State) (H1 : Heap) (locs1 : List Loc), t.heap = H1 → s.vm.Alike t.vm → post r u → B u t → H.size ≤ H1.size → (∀ q : Nat, q < H.size → ¬ A1 q → H1[q]? = H[q]?) → va_S A0 H0 H1 locs1 → W p l e R s m args below meth c H1 locs1 (cells + mc) (slots + ms) Q (F0 m (pc + 3) ls (.long r :: rest))) : W p l e R s m args below meth c H locs cells slots Q (F0 m pc ls st0) := by
  intro T hT X
  rcases hr T hT X with ⟨v, st₀, t, T', L, h0, X', hL, e1, e2, ⟨⟨r, u, hv, hp, hb⟩, hF⟩, st⟩ | ⟨q, st₀, t, T', L, E, ce, h0, X', hL, e1, e2, ⟨u, hp, hb, hF⟩, hce, hcv, hcl, st⟩
  · cases hv
    obtain ⟨k1, k2, k3⟩ := vx_keep h0 e1 hS hA hf hL hF
    obtain ⟨t2, a1, b1⟩ := kk r u t T'.heap (locs ++ L) e1.symm (by rw [← e2]; exact X'.warmed.alike) hp hb k1 k2 k3 T' rfl X'
    exact ⟨t2, st t2 a1, b1⟩
  · obtain ⟨k1, k2, k3⟩ := vx_keep h0 e1 hS hAX hf hL hF
    obtain ⟨t2, a1, b1⟩ := kx E ce q u t T'.heap (locs ++ L) e1.symm (by rw [← e2]; exact X'.warmed.alike) hp hb k1 k2 k3 (by rw [e1]; exact hce) hcv hcl T' rfl X'
    exact ⟨t2, st.trans a1, b1⟩
theorem vx_callf {S SX : Type} {post : UInt32 → S → Prop} {px : SX → Prop} {B : S → State → Prop} {BX : String → SX → State → Prop} {AX : Nat → Prop} (hr : vx_Run p l e R s m args below meth c H locs cells slots mc ms (F0 m pc ls st0) rest (va_Qf post B A1 a) (vx_X px BX AX) free) (hS : va_S A0 H0 H locs) (hA : ∀ q, q < H.size → A1 q → A0 q) (hf : ∀ q, free q → A0 q) (hAX : ∀ q, q < H.size → AX q → A0 q)
    (kx : ∀ (E : String) (ce : Cell) (q9 : Addr) (u : SX) (t : State) (H1 : Heap) (locs1 : List Loc), t.heap = H1 → s.vm.Alike t.vm → px u → BX E u t → H.size ≤ H1.size → (∀ q : Nat, q < H.size → ¬ AX q → H1[q]? = H[q]?) → va_S A0 H0 H1 locs1 → H1[q9]? = some ce → ce.vm = .none → s.vm.findClass E = some ce.cls → vx_W p l e R s m args below meth c H1 locs1 (cells + mc) (slots + ms) Q (F0 m pc ls rest) q9)
    (kk : ∀ (r : UInt32) (u : S) (t : State) (H1 : Heap) (locs1 : List Loc), t.heap = H1 → s.vm.Alike t.vm → post r u → B u t → H.size ≤ H1.size → (∀ q : Nat, q < H.size → ¬ A1 q → H1[q]? = H[q]?) → va_S A0 H0 H1 locs1 → W p l e R s m args below meth c H1 locs1 (cells + mc) (slots + ms) Q (F0 m (pc + 3) ls (.float r :: rest))) : W p l e R s m args below meth c H locs cells slots Q (F0 m pc ls st0) := by
  intro T hT X
  rcases hr T hT X with ⟨v, st₀, t, T', L, h0, X', hL, e1, e2, ⟨⟨r, u, hv, hp, hb⟩, hF⟩, st⟩ | ⟨q, st₀, t, T', L, E, ce, h0, X', hL, e1, e2, ⟨u, hp, hb, hF⟩, hce, hcv, hcl, st⟩
  · cases hv
    obtain ⟨k1, k2, k3⟩ := vx_keep h0 e1 hS hA hf hL hF
    obtain ⟨t2, a1, b1⟩ := kk r u t T'.heap (locs ++ L) e1.symm (by rw [← e2]; exact X'.warmed.alike) hp hb k1 k2 k3 T' rfl X'
    exact ⟨t2, st t2 a1, b1⟩
  · obtain ⟨k1, k2, k3⟩ := vx_keep h0 e1 hS hAX hf hL hF
    obtain ⟨t2, a1, b1⟩ := kx E ce q u t T'.heap (locs ++ L) e1.symm (by rw [← e2]; exact X'.warmed.alike) hp hb k1 k2 k3 (by rw [e1]; exact hce) hcv hcl T' rfl X'
    exact ⟨t2, st.trans a1, b1⟩
theorem vx_calld {S SX : Type} {post : UInt64 → S → Prop} {px : SX → Prop} {B : S → State → Prop} {BX : String → SX → State → Prop} {AX : Nat → Prop} (hr : vx_Run p l e R s m args below meth c H locs cells slots mc ms (F0 m pc ls st0) rest (va_Qd post B A1 a) (vx_X px BX AX) free) (hS : va_S A0 H0 H locs) (hA : ∀ q, q < H.size → A1 q → A0 q) (hf : ∀ q, free q → A0 q) (hAX : ∀ q, q < H.size → AX q → A0 q)
    (kx : ∀ (E : String) (ce : Cell) (q9 : Addr) (u : SX) (t : State) (H1 : Heap) (locs1 : List Loc), t.heap = H1 → s.vm.Alike t.vm → px u → BX E u t → H.size ≤ H1.size → (∀ q : Nat, q < H.size → ¬ AX q → H1[q]? = H[q]?) → va_S A0 H0 H1 locs1 → H1[q9]? = some ce → ce.vm = .none → s.vm.findClass E = some ce.cls → vx_W p l e R s m args below meth c H1 locs1 (cells + mc) (slots + ms) Q (F0 m pc ls rest) q9)
    (kk : ∀ (r : UInt64) (u : S) (t : State) (H1 : Heap) (locs1 : List Loc), t.heap = H1 → s.vm.Alike t.vm → post r u → B u t → H.size ≤ H1.size → (∀ q : Nat, q < H.size → ¬ A1 q → H1[q]? = H[q]?) → va_S A0 H0 H1 locs1 → W p l e R s m args below meth c H1 locs1 (cells + mc) (slots + ms) Q (F0 m (pc + 3) ls (.double r :: rest))) : W p l e R s m args below meth c H locs cells slots Q (F0 m pc ls st0) := by
  intro T hT X
  rcases hr T hT X with ⟨v, st₀, t, T', L, h0, X', hL, e1, e2, ⟨⟨r, u, hv, hp, hb⟩, hF⟩, st⟩ | ⟨q, st₀, t, T', L, E, ce, h0, X', hL, e1, e2, ⟨u, hp, hb, hF⟩, hce, hcv, hcl, st⟩
  · cases hv
    obtain ⟨k1, k2, k3⟩ := vx_keep h0 e1 hS hA hf hL hF
    obtain ⟨t2, a1, b1⟩ := kk r u t T'.heap (locs ++ L) e1.symm (by rw [← e2]; exact X'.warmed.alike) hp hb k1 k2 k3 T' rfl X'
    exact ⟨t2, st t2 a1, b1⟩
  · obtain ⟨k1, k2, k3⟩ := vx_keep h0 e1 hS hAX hf hL hF
    obtain ⟨t2, a1, b1⟩ := kx E ce q u t T'.heap (locs ++ L) e1.symm (by rw [← e2]; exact X'.warmed.alike) hp hb k1 k2 k3 (by rw [e1]; exact hce) hcv hcl T' rfl X'
    exact ⟨t2, st.trans a1, b1⟩
theorem vx_callv {S SX : Type} {post : S → Prop} {px : SX → Prop} {B : S → State → Prop} {BX : String → SX → State → Prop} {AX : Nat → Prop} (hr : vx_Run p l e R s m args below meth c H locs cells slots mc ms (F0 m pc ls st0) rest (va_Qv post B A1 a) (vx_X px BX AX) free) (hS : va_S A0 H0 H locs) (hA : ∀ q, q < H.size → A1 q → A0 q) (hf : ∀ q, free q → A0 q) (hAX : ∀ q, q < H.size → AX q → A0 q)
    (kx : ∀ (E : String) (ce : Cell) (q9 : Addr) (u : SX) (t : State) (H1 : Heap) (locs1 : List Loc), t.heap = H1 → s.vm.Alike t.vm → px u → BX E u t → H.size ≤ H1.size → (∀ q : Nat, q < H.size → ¬ AX q → H1[q]? = H[q]?) → va_S A0 H0 H1 locs1 → H1[q9]? = some ce → ce.vm = .none → s.vm.findClass E = some ce.cls → vx_W p l e R s m args below meth c H1 locs1 (cells + mc) (slots + ms) Q (F0 m pc ls rest) q9)
    (kk : ∀ (u : S) (t : State) (H1 : Heap) (locs1 : List Loc), t.heap = H1 → s.vm.Alike t.vm → post u → B u t → H.size ≤ H1.size → (∀ q : Nat, q < H.size → ¬ A1 q → H1[q]? = H[q]?) → va_S A0 H0 H1 locs1 → W p l e R s m args below meth c H1 locs1 (cells + mc) (slots + ms) Q (F0 m (pc + 3) ls (rest))) : W p l e R s m args below meth c H locs cells slots Q (F0 m pc ls st0) := by
  intro T hT X
  rcases hr T hT X with ⟨v, st₀, t, T', L, h0, X', hL, e1, e2, ⟨⟨u, hv, hp, hb⟩, hF⟩, st⟩ | ⟨q, st₀, t, T', L, E, ce, h0, X', hL, e1, e2, ⟨u, hp, hb, hF⟩, hce, hcv, hcl, st⟩
  · cases hv
    obtain ⟨k1, k2, k3⟩ := vx_keep h0 e1 hS hA hf hL hF
    obtain ⟨t2, a1, b1⟩ := kk u t T'.heap (locs ++ L) e1.symm (by rw [← e2]; exact X'.warmed.alike) hp hb k1 k2 k3 T' rfl X'
    exact ⟨t2, st t2 a1, b1⟩
  · obtain ⟨k1, k2, k3⟩ := vx_keep h0 e1 hS hAX hf hL hF
    obtain ⟨t2, a1, b1⟩ := kx E ce q u t T'.heap (locs ++ L) e1.symm (by rw [← e2]; exact X'.warmed.alike) hp hb k1 k2 k3 (by rw [e1]; exact hce) hcv hcl T' rfl X'
    exact ⟨t2, st.trans a1, b1⟩
/-- caught by the row x of this method's table; the rows ahead don't take it -/
theorem vx_catch {own name : String} {E : String} {ce : Cell} {q : Addr} (hown : s.vm.findClass own = some m.cls) (pre : List ExceptionTableEntry) (x : ExceptionTableEntry) (suf : List ExceptionTableEntry) (hsplit : c.exceptionTable.toList = pre ++ x :: suf)
    (hpass : ∀ z ∈ pre, covers z pc = false ∨ (z.catchType ≠ 0 ∧ ∃ nm : String, (Cond.classLink own z.catchType nm).before args s = true ∧ va_Nc E nm s)) (hx : covers x pc = true) (h0 : x.catchType ≠ 0)
    (hlink : (Cond.classLink own x.catchType name).before args s = true) (hcast : (Cond.castable E name).before args s = true) (hcell : H[q]? = some ce) (hv : ce.vm = .none) (hcl : s.vm.findClass E = some ce.cls)
    (kk : W p l e R s m args below meth c H locs cells slots Q (F0 m x.handlerPc ls [.ref q])) : vx_W p l e R s m args below meth c H locs cells slots Q (F0 m pc ls rest) q := by
  intro T hT X
  have hpl : e.platform.magicAccessors = ({} : Platform).magicAccessors := by rw [X.admits.platform]
  obtain ⟨c3, c4, hc3, hc4, hasg⟩ := Cond.castable_spec hcast
  cases Option.some.inj (hc3.symm.trans hcl)
  obtain ⟨c5, hc5, hcl5⟩ := Cond.classLink_spec hown hlink e.platform hpl
  cases Option.some.inj (hc4.symm.trans hc5)
  obtain ⟨vm', X', st⟩ := X.thenCaughtThrough q (g := F0 m pc ls rest) rfl (Steps.refl _) (by rw [hT]; exact hcell) (by rw [hv]; rfl) (by obtain ⟨k9, h9, -⟩ := Vm.findClass_spec hcl; exact ⟨k9, h9⟩) pre x suf hsplit
    (fun z hz => by
      rcases hpass z hz with h | ⟨hz0, nm, hl1, hn1⟩
      · exact Or.inl h
      · obtain ⟨c6, hc6, hcl6⟩ := Cond.classLink_spec hown hl1 e.platform hpl
        obtain ⟨a8, b8, h1, h2, h3⟩ := hn1
        cases Option.some.inj (h1.symm.trans hcl)
        cases Option.some.inj (h2.symm.trans hc6)
        exact Or.inr ⟨hz0, _, hcl6, h3⟩) hx (Or.inr ⟨h0, c4, hcl5, hasg⟩)
  obtain ⟨t, a1, b1⟩ := kk (T.setVm vm') hT X'
  exact ⟨t, st.trans a1, b1⟩
end Rows
section Ends
variable {p : Program} {l : Launch} {e : Env} {R : Room} {s : State} {m : MethodId} {args : Array Value} {below : List Frame} {meth : Method} {c : Code} {H : Heap} {locs : List Loc} {cells slots : Nat} {Q : State → Prop}
variable {mc ms : Nat} {free : Addr → Prop} {A0 A1 : Nat → Prop} {H0 : Heap} {a : Array Value} {ls : Array Slot} {st0 rest : List Value}
variable {Qc : Array Value → State → Outcome → State → Prop} {XC : String → State → State → Prop}
/-- what a body that may throw owes at its end -/
def vx_MQ (below : List Frame) (Qc : Array Value → State → Outcome → State → Prop) (XC : String → State → State → Prop) (a : Array Value) (s : State) (mc ms : Nat) (free : Addr → Prop) : State → Prop := fun t =>
  ∃ o, t.status = .running ∧ Ended t below o ∧ vx_Q Qc XC mc ms free a s o t
theorem vx_ret {g : JFrame} {mc ms : Nat} (k : W p l e R s m args below meth c H locs cells slots (MQ below Qc args s mc ms free) g) : W p l e R s m args below meth c H locs cells slots (vx_MQ below Qc XC args s mc ms free) g := by
  intro T hT X
  obtain ⟨t, a1, o, b1, b2, b3, b4⟩ := k T hT X
  exact ⟨t, a1, o, b1, b2, Or.inl ⟨b3, b4⟩⟩
/-- not caught here: it goes on to the caller -/
theorem vx_widen {g : JFrame} {q : Addr} {k n : Nat} (h1 : cells ≤ k) (h2 : slots ≤ n) (kk : vx_W p l e R s m args below meth c H locs k n Q g q) : vx_W p l e R s m args below meth c H locs cells slots Q g q := fun T hT X => kk T hT (stand_widen X h1 h2)
theorem vx_out {pc : Nat} {E : String} {ce : Cell} {q : Addr} {mc ms : Nat} (hout : ∀ x ∈ c.exceptionTable.toList, covers x pc = false) (hlocks : meth.locks = false) (hcell : H[q]? = some ce) (hv : ce.vm = .none) (hcl : s.vm.findClass E = some ce.cls)
    (hx : ∀ t : State, t.heap = H → s.vm.Alike t.vm → XC E s t) (hf : ∀ z ∈ locs, free z.base) (hc : cells ≤ mc) (hs : slots ≤ ms) :
    vx_W p l e R s m args below meth c H locs cells slots (vx_MQ below Qc XC args s mc ms free) (F0 m pc ls rest) q := by
  intro T hT X
  obtain ⟨st1, hrun, hend, hW, hsm⟩ := X.leaveThrown q (g := F0 m pc ls rest) rfl rfl rfl hout hlocks
  have hcell9 : (T.setFrames (.throwing q :: below)).heap[q]? = some ce := by
    show T.heap[q]? = some ce
    rw [hT]; exact hcell
  exact ⟨_, st1, .threw q, hrun, hend, Or.inr ⟨q, rfl, E, ce, locs, hx _ hT hW.alike, hcell9, hv, hcl, hW, hsm.mono hc hs, hf⟩⟩
theorem vx_frame {U : State} {k n : Nat} (h : s.sameButNew ({ U with vm := s.vm } : State) locs k n) : s.heap.size ≤ U.heap.size ∧ ∀ q : Nat, q < s.heap.size → (∀ z ∈ locs, z.base ≠ q) → U.heap[q]? = s.heap[q]? := by
  obtain ⟨-, h2, -, -, -, h6⟩ := h
  refine ⟨h2, fun q hq hz => ?_⟩
  obtain ⟨c9, e1, e2, e3, e4⟩ := h6 q _ (Array.getElem?_eq_getElem hq)
  have hs : c9.slots = (s.heap[q]).slots := Array.ext_getElem? fun i => e4 i fun hm => hz _ hm rfl
  have h9 : c9 = s.heap[q] := by
    rw [hs] at e2
    exact e2
  have e5 : U.heap[q]? = some c9 := e1
  rw [e5, h9, Array.getElem?_eq_getElem hq]
/-- the words of a throw but the four that speak of the heap -/
def vx_no (w : Cond) : Bool := decide (w ≠ .isRef (.static Bundle.tN "UNASSIGNED_STACK" Bundle.steD)) && decide (w ≠ .isRef (.static Bundle.tN "SUPPRESSED_SENTINEL" Bundle.listD)) && decide (w ≠ .laysStatic Bundle.tN "UNASSIGNED_STACK" Bundle.steD) && decide (w ≠ .laysStatic Bundle.tN "SUPPRESSED_SENTINEL" Bundle.listD)
def vx_at0 (own : String) (ic : Nat) (X : String) (names : List String) : List Cond := (Bundle.ownAtoms0 own ic X names).filter vx_no
def vx_atS (own : String) (ic : Nat) (X : String) (names : List String) : List Cond := (Bundle.ownAtoms own ic X names).filter vx_no
/-- a word that the tables alone decide, or a good one -/
def vx_ot (w : Cond) : Bool := w.onTables || goodWord w
theorem vx_ot_at {args a' : Array Value} {s U : State} {w : Cond} (hW : s.WarmedH U.vm) (hvm : s.vm = U.vm) (hg : vx_ot w = true) (h : w.before args s = true) : w.before a' U = true := by
  simp only [vx_ot, Bool.or_eq_true] at hg
  rcases hg with hg | hg
  · exact va_tabs hg hvm h
  · exact word_at hW (good_of_word hg) h
/-- a list's words: the good ones out of the method's own list, the others by premises of their own -/
theorem vx_hat {args : Array Value} {s : State} {L B : List Cond} (h1 : ∀ w ∈ L.filter goodWord, w.before args s = true) (h2 : ∀ w ∈ L.filter (fun w => !goodWord w), w ∈ B) (h3 : ∀ w ∈ B, w.before args s = true) : ∀ w ∈ L, w.before args s = true := by
  intro w hw
  by_cases g : goodWord w = true
  · exact h1 w (List.mem_filter.mpr ⟨hw, g⟩)
  · refine h3 w (h2 w (List.mem_filter.mpr ⟨hw, ?_⟩))
    show (!goodWord w) = true
    cases hgw : goodWord w
    · rfl
    · exact absurd hgw g
theorem vx_c {args : Array Value} {s : State} {w : Cond} {B : List Cond} (h : w.before args s = true) (t : ∀ w ∈ B, w.before args s = true) : ∀ w' ∈ w :: B, w'.before args s = true := fun w' h' => (List.mem_cons.mp h').elim (fun e => by rw [e]; exact h) (t w')
theorem vx_n {args : Array Value} {s : State} : ∀ w ∈ ([] : List Cond), w.before args s = true := fun _ h => nomatch h
theorem vx_own {args : Array Value} {s : State} {L : List Cond} (h1 : ∀ w ∈ L.filter vx_no, w.before args s = true)
    (hU : (Cond.isRef (.static Bundle.tN "UNASSIGNED_STACK" Bundle.steD)).before args s = true) (hN : (Cond.isRef (.static Bundle.tN "SUPPRESSED_SENTINEL" Bundle.listD)).before args s = true)
    (lU : (Cond.laysStatic Bundle.tN "UNASSIGNED_STACK" Bundle.steD).before args s = true) (lN : (Cond.laysStatic Bundle.tN "SUPPRESSED_SENTINEL" Bundle.listD).before args s = true) : ∀ w ∈ L, w.before args s = true := by
  intro w hw
  by_cases e1 : w = .isRef (.static Bundle.tN "UNASSIGNED_STACK" Bundle.steD)
  · rw [e1]; exact hU
  · by_cases e2 : w = .isRef (.static Bundle.tN "SUPPRESSED_SENTINEL" Bundle.listD)
    · rw [e2]; exact hN
    · by_cases e3 : w = .laysStatic Bundle.tN "UNASSIGNED_STACK" Bundle.steD
      · rw [e3]; exact lU
      · by_cases e4 : w = .laysStatic Bundle.tN "SUPPRESSED_SENTINEL" Bundle.listD
        · rw [e4]; exact lN
        · exact h1 w (List.mem_filter.mpr ⟨hw, by unfold vx_no; rw [decide_eq_true e1, decide_eq_true e2, decide_eq_true e3, decide_eq_true e4]; rfl⟩)
/-- where a static field lies, its class's statics cell in H -/
def vx_L (C n d : String) (A : Nat → Prop) (U : State) (H : Heap) : Prop := ∃ (c : ClassId) (k : Class) (i : Nat) (f : Field) (a : Nat) (cell : Cell), U.vm.findClass C = some c ∧ U.fieldFound? C n d = some (c, k, i, f) ∧ f.isStatic = true ∧ k.statics = some a ∧ H[a]? = some cell ∧ cell.vm.isStatics = true ∧ cell.cls = c ∧ f.slot < cell.slots.size ∧ k.staticTypes[f.slot]? = some f.type ∧ ¬ A a
theorem vx_L.moved {C n d : String} {A : Nat → Prop} {u U : State} {H : Heap} (hvm : u.vm.Alike U.vm) (h : vx_L C n d A u H) : vx_L C n d A U H := by
  obtain ⟨c, k, i, f, a, cell, h1, h2, h3, h4, h5, h6, h7, h8, h9, h10⟩ := h
  obtain ⟨k', hi', he⟩ := State.fieldFound?_setVm hvm h2
  exact ⟨c, k', i, f, a, cell, by rw [hvm.findClass]; exact h1, hi', h3, by rw [he]; exact h4, h5, h6, h7, h8, by rw [he]; exact h9, h10⟩
theorem vx_L.kept {C n d : String} {A : Nat → Prop} {U : State} {H H1 : Heap} (h : vx_L C n d A U H) (hq : ∀ a : Nat, a < H.size → ¬ A a → H1[a]? = H[a]?) : vx_L C n d A U H1 := by
  obtain ⟨c, k, i, f, a, cell, h1, h2, h3, h4, h5, h6, h7, h8, h9, h10⟩ := h
  exact ⟨c, k, i, f, a, cell, h1, h2, h3, h4, by rw [hq a (Array.getElem?_eq_some_iff.mp h5).1 h10]; exact h5, h6, h7, h8, h9, h10⟩
theorem vx_L.narrow {C n d : String} {A B : Nat → Prop} {U : State} {H : Heap} (h : vx_L C n d A U H) (hAB : ∀ q, B q → A q) : vx_L C n d B U H := by
  obtain ⟨c, k, i, f, a, cell, h1, h2, h3, h4, h5, h6, h7, h8, h9, h10⟩ := h
  exact ⟨c, k, i, f, a, cell, h1, h2, h3, h4, h5, h6, h7, h8, h9, fun z => h10 (hAB _ z)⟩
theorem vx_L.word {C n d : String} {A : Nat → Prop} {s : State} {args : Array Value} (h : vx_L C n d A s s.heap) : (Cond.laysStatic C n d).before args s = true := by
  obtain ⟨c, k, i, f, a, cell, h1, h2, h3, h4, h5, h6, h7, h8, h9, -⟩ := h
  show (Cond.laysStatic C n d).holds args s none s [] = true
  exact Cond.laysStatic_of h1 h2 h3 h4 h5 h6 h7 h8 h9
/-- .. and what it holds: null or some reference -/
def vx_Zq (C n d : String) (A : Nat → Prop) (U : State) (H : Heap) : Prop := va_Zq C n d A U H ∧ vx_L C n d A U H
theorem vx_Zq.moved {C n d : String} {A : Nat → Prop} {u U : State} {H : Heap} (hvm : u.vm.Alike U.vm) (h : vx_Zq C n d A u H) : vx_Zq C n d A U H := ⟨va_Zq.moved hvm h.1, vx_L.moved hvm h.2⟩
theorem vx_Zq.kept {C n d : String} {A : Nat → Prop} {U : State} {H H1 : Heap} (h : vx_Zq C n d A U H) (hq : ∀ a : Nat, a < H.size → ¬ A a → H1[a]? = H[a]?) : vx_Zq C n d A U H1 := ⟨va_Zq.kept h.1 hq, vx_L.kept h.2 hq⟩
theorem vx_Zq.narrow {C n d : String} {A B : Nat → Prop} {U : State} {H : Heap} (h : vx_Zq C n d A U H) (hAB : ∀ q, B q → A q) : vx_Zq C n d B U H := ⟨va_Zq.narrow h.1 hAB, vx_L.narrow h.2 hAB⟩
theorem vx_Zqof {args : Array Value} {s : State} {C n d : String} {A : Nat → Prop} (hl : (Cond.laysStatic C n d).before args s = true) (hini : (Cond.initialized C).before args s = true) (h : (Cond.isRef (.static C n d)).before args s = true) (hA : ∀ a : Nat, a < s.heap.size → ¬ A a) : vx_Zq C n d A s s.heap := by
  refine ⟨va_Zqof hl hini h hA, ?_⟩
  obtain ⟨c, k, i, f, a, cell, h1, h2, h3, h4, h5, h6, h7, h8, h9⟩ := Cond.laysStatic_spec hl
  exact ⟨c, k, i, f, a, cell, h1, h2, h3, h4, h5, h6, h7, h8, h9, hA a (Array.getElem?_eq_some_iff.mp h5).1⟩
theorem vx_isRef {C n d : String} {v : Value} {A : Nat → Prop} {s : State} {args : Array Value} (h : va_Z C n d v A s s.heap) (hv : v.isRef = true) : (Cond.isRef (.static C n d)).before args s = true := by
  obtain ⟨cf, kf, fi, f, a, cell, h1, h2, h3, h4, h5, h6, h7, -⟩ := h
  have he : (Term.static C n d).eval args s none [] s = some v := by
    simp [Term.eval, State.fieldNamed?, h1, h2, h4, h5, h6, h7]
  simp only [Cond.before, Cond.holds, Cond.value, he]
  cases v <;> simp_all [Value.isRef]
theorem vx_isRefq {C n d : String} {A : Nat → Prop} {s : State} {args : Array Value} (h : va_Zq C n d A s s.heap) : (Cond.isRef (.static C n d)).before args s = true := by
  rcases h with h | ⟨t, h⟩
  · exact vx_isRef h rfl
  · exact vx_isRef h rfl
/-- the same frame, seen from here: as if the method were called anew in this heap -/
theorem vx_rebase {T : State} (X : Stand p l e R s m args below meth c T locs cells slots) {R' : Room} (hf : R'.frames ≤ R.frames) (hl : R'.locals ≤ R.locals) (hc : cells + R'.cells ≤ R.cells) (hs : slots + R'.slots ≤ R.slots) :
    Stand p l e R' ((T.setVm s.vm).setFrames (.invoking m args :: below)) m args below meth c T [] 0 0 := by
  have htop : (T.setVm s.vm).topJava?.isSome := X.here.top
  have hF : ((T.setVm s.vm).setFrames (.invoking m args :: below)).frames = .invoking m args :: below := State.frames_setFrames _ (State.cur_lt_of_top htop)
  obtain ⟨g₀, hg0⟩ := Option.isSome_iff_exists.mp htop
  obtain ⟨r, hr⟩ := State.topJava?_eq_some.mp hg0
  have hl9 : e.platform.stackLimits (T.setVm s.vm).me = e.platform.stackLimits s.me := X.limits
  have hb9 : (T.setVm s.vm).me.stackBytes = s.me.stackBytes := X.bytes
  refine ⟨X.admits, X.cas, X.clock, hF, ?_, X.hears, X.method, X.code, X.here, X.tail, X.warmed, ?_, ?_, ?_⟩
  · have h := X.room
    have hU : ((T.setVm s.vm).setFrames (.invoking m args :: below)).localsInUse = s.localsInUse := by
      rw [State.localsInUse_invoking hF (meth := meth) (c := c) X.method X.code, State.localsInUse_invoking X.frames X.method X.code]
    simp only [State.hasRoom, Bool.and_eq_true, decide_eq_true_eq] at h ⊢
    obtain ⟨⟨⟨⟨h1, h2, h3, h4, h5, h6⟩, h7⟩, h8⟩, h9⟩ := h
    rw [X.frames, List.length_cons] at h2 h3
    have q1 := X.heapSize
    have q2 := X.used
    simp only [hF, hU, List.length_cons, State.stackLimits_setFrames, State.stackBytes_setFrames, hl9, hb9]
    refine ⟨⟨⟨⟨by omega, by omega, by omega, by omega, by omega, h6⟩, ?_⟩, ?_⟩, X.book⟩
    · show T.heap.size + R'.cells ≤ e.platform.maxCells
      omega
    · show T.slotsUsed + R'.slots ≤ e.platform.maxSlots
      omega
  · rw [State.stackLimits_setFrames]; rfl
  · rw [State.stackBytes_setFrames]; rfl
  · refine ⟨?_, Nat.le_refl _, Nat.le_refl _, ?_, ?_, fun a c9 h9 => ⟨c9, h9, rfl, rfl, fun _ _ => rfl⟩⟩
    · obtain ⟨t, ht, -⟩ := State.frames_cons hr
      show T.setVm s.vm = { ((T.setVm s.vm).setFrames (.invoking m args :: below)).setFrames (T.setVm s.vm).frames with heap := T.heap, slotsUsed := T.slotsUsed }
      rw [State.setFrames_setFrames, State.setFrames_self ht]
      rfl
    · show T.slotsUsed = T.slotsUsed + ((T.heap.toList.drop T.heap.size).map (·.slots.size)).sum
      rw [List.drop_eq_nil_of_le (Nat.le_of_eq Array.length_toList)]
      rfl
    · show ((T.heap.toList.drop T.heap.size).map (·.slots.size)).sum ≤ 0
      rw [List.drop_eq_nil_of_le (Nat.le_of_eq Array.length_toList)]
      exact Nat.le_refl _
/-- 'throw new E()': new; dup; invokespecial; athrow -/
theorem vx_throw0 {cc : ByteArray} {pc : Nat} (hexec : p.tables.exec = Jvm.exec) (hb : c.code = cc) (hl : l.stackTraces = false) {own cls : String} {names : List String} {ik ic mc ms : Nat} {A : Nat → Prop}
    (hown : s.vm.findClass own = some m.cls) (hcls : Bundle.fit cls = true) (hnames : ∀ n ∈ names, Bundle.fit n = true)
    (hk : (Cond.classLink own ik cls).before args s = true) (hini : (Cond.initialized cls).before args s = true) (hat : ∀ w ∈ vx_at0 own ic cls names, w.before args s = true)
    (hgood : ∀ w ∈ Cond.classLink own ik cls :: Cond.initialized cls :: vx_at0 own ic cls names, vx_ot w = true)
    (hU : vx_Zq Bundle.tN "UNASSIGNED_STACK" Bundle.steD A s s.heap) (hN : vx_Zq Bundle.tN "SUPPRESSED_SENTINEL" Bundle.listD A s s.heap) (hS : va_S A s.heap H locs) (hsize : ls.size = c.maxLocals)
    (d0 : decode cc pc = .ok (.new ik, 3)) (d3 : decode cc (pc + 3) = .ok (.dup, 1)) (d4 : decode cc (pc + 4) = .ok (.invokespecial ic, 3)) (d7 : decode cc (pc + 7) = .ok (.athrow, 1))
    (hout : ∀ x ∈ c.exceptionTable.toList, covers x (pc + 7) = false)
    (hRframes : names.length + 3 < R.frames) (hRlocals : (rest.map fun v => v.category).sum + (13 * (names.length + 1) + 42) ≤ R.locals) (hRcells : cells + 1 ≤ R.cells) (hRslots : slots + 6 ≤ R.slots) (hlocks : meth.locks = false)
    (hx : ∀ t : State, s.vm.Alike t.vm → H.size ≤ t.heap.size → (∀ q : Nat, q < H.size → t.heap[q]? = H[q]?) → XC cls s t)
    (hf : ∀ z ∈ locs, free z.base) (hc : cells + 1 ≤ mc) (hs : slots + 6 ≤ ms) :
    W p l e R s m args below meth c H locs cells slots (vx_MQ below Qc XC args s mc ms free) (F0 m pc ls rest) := by
  intro T hT X
  have htr : e.platform.stackTraces = false := (show e.platform.stackTraces = l.stackTraces by rw [X.admits.platform]).trans hl
  have Y := vx_rebase X (R' := { frames := R.frames, locals := R.locals, cells := 1, slots := 6 }) (Nat.le_refl _) (Nat.le_refl _) hRcells hRslots
  obtain ⟨s', hA⟩ : ∃ z, z = (T.setVm s.vm).setFrames (.invoking m args :: below) := ⟨_, rfl⟩
  rw [← hA] at Y
  have hvm : s'.vm = s.vm := by rw [hA]; rfl
  have hhp : s'.heap = H := by rw [hA]; exact hT
  have hW0 : s.WarmedH s'.vm := by rw [hvm]; exact State.WarmedH.refl s
  have hat' : ∀ w ∈ vx_at0 own ic cls names, w.before args s' = true := fun w hw => vx_ot_at hW0 hvm.symm (hgood w (List.mem_cons_of_mem _ (List.mem_cons_of_mem _ hw))) (hat w hw)
  have hk' : (Cond.classLink own ik cls).before args s' = true := vx_ot_at hW0 hvm.symm (hgood _ List.mem_cons_self) hk
  have hini' : (Cond.initialized cls).before args s' = true := vx_ot_at hW0 hvm.symm (hgood _ (List.mem_cons_of_mem _ List.mem_cons_self)) hini
  have hU' : vx_Zq Bundle.tN "UNASSIGNED_STACK" Bundle.steD A s' s'.heap := by rw [hhp]; exact vx_Zq.moved hW0.alike (hU.kept hS.2.1)
  have hN' : vx_Zq Bundle.tN "SUPPRESSED_SENTINEL" Bundle.listD A s' s'.heap := by rw [hhp]; exact vx_Zq.moved hW0.alike (hN.kept hS.2.1)
  have h : ∀ w ∈ Bundle.ownAtoms0 own ic cls names, w.before args s' = true := vx_own hat' (vx_isRefq hU'.1) (vx_isRefq hN'.1) hU'.2.word hN'.2.word
  have hown' : s'.vm.findClass own = some m.cls := by rw [hvm]; exact hown
  have hins : (Cond.instantiable cls 6).before args s' = true := h _ (by simp [Bundle.ownAtoms0])
  obtain ⟨vm₁, cX, kX, hfX, hkX, -, -, X₁, st1⟩ := Y.newCold hexec (own := own) (C := cls) (index := ik) (n := 6) hown' hk' hins hini'
    (g := F0 m pc ls rest) rfl (by rw [hb]; exact d0) (Nat.le_refl _) (Nat.le_refl _)
  generalize hT1 : (T.setVm vm₁).pushCell { cls := cX, slots := kX.instanceTypes.map defaultValue, vm := .none } = T1 at X₁ st1
  have hcat : (Value.ref T.heap.size).category = 1 := rfl
  have hcellA : T1.heap[T.heap.size]? = some (freshCell cX kX) := by rw [← hT1]; exact State.heap_pushCell_size _ _
  have d3' : decode c.code (pc + 3) = .ok (.dup, 1) := by rw [hb]; exact d3
  obtain ⟨U, hsteps, hrun, hend, hW, hsame, ce, hce, hO⟩ := X₁.ctorThrow0 hexec htr (own := own) (cls := cls) (names := names) (ic := ic) hown' hcls hnames h (fun x hx => nomatch hx) hfX hkX hcellA (by rw [hhp, hT]; exact Nat.le_refl _)
    (g := { method := m, pc := pc + 4, locals := ls, stack := .ref T.heap.size :: .ref T.heap.size :: rest, locked := none }) rfl hsize rfl rfl (rest := rest) rfl
    (by rw [hb]; exact d4) (by rw [hb]; exact d7) hout hRframes (by simp only [List.map_cons, List.sum_cons, hcat]; omega) hlocks
  obtain ⟨f1, f2⟩ := vx_frame hsame
  rw [hhp] at f1 f2
  have hWs : s.WarmedH U.vm := State.WarmedH.trans hW0 hW
  have hcl : s.vm.findClass cls = some ce.cls := by
    have h9 := hO.cls
    rw [hvm] at h9
    exact h9
  have hall : s.sameButNew ({ U with vm := s.vm } : State) locs mc ms := by
    subst hA
    obtain ⟨e1, e2⟩ := hsame
    rw [State.setFrames_setFrames] at e1
    have h2 : (T.setVm s.vm).sameButNew ({ U with vm := s.vm } : State) [] (0 + 1) (0 + 6) := ⟨e1, e2⟩
    have h3 := X.same.trans h2
    rw [List.append_nil] at h3
    exact h3.mono hc hs
  refine ⟨U, ?_, .threw T.heap.size, hrun, hend, Or.inr ⟨T.heap.size, rfl, cls, ce, locs, hx U hWs.alike f1 (fun q hq => f2 q hq (fun z hz => nomatch hz)), hce, hO.vm, hcl, hWs, hall, hf⟩⟩
  refine st1 _ ?_
  show Steps p.tables e below (T1.setTop { method := m, pc := pc + 3, locals := ls, stack := .ref T.heap.size :: rest, locked := none }) _
  jvm_step X₁.here [X₁.here.top, hexec, d3', Value.category]
  exact hsteps
/-- 'throw new E("text")': new; dup; ldc; invokespecial; athrow -/
theorem vx_throwS {cc : ByteArray} {pc : Nat} (hexec : p.tables.exec = Jvm.exec) (hb : c.code = cc) (hl : l.stackTraces = false) {own cls text : String} {names : List String} {ik is ic mc ms sa : Nat} {A : Nat → Prop}
    (hown : s.vm.findClass own = some m.cls) (hcls : Bundle.fit cls = true) (hnames : ∀ n ∈ names, Bundle.fit n = true)
    (hk : (Cond.classLink own ik cls).before args s = true) (hini : (Cond.initialized cls).before args s = true) (hstr : vk_R own is text sa s) (hat : ∀ w ∈ vx_atS own ic cls names, w.before args s = true)
    (hgood : ∀ w ∈ Cond.classLink own ik cls :: Cond.initialized cls :: vx_atS own ic cls names, vx_ot w = true)
    (hU : vx_Zq Bundle.tN "UNASSIGNED_STACK" Bundle.steD A s s.heap) (hN : vx_Zq Bundle.tN "SUPPRESSED_SENTINEL" Bundle.listD A s s.heap) (hS : va_S A s.heap H locs) (hsize : ls.size = c.maxLocals)
    (d0 : decode cc pc = .ok (.new ik, 3)) (d3 : decode cc (pc + 3) = .ok (.dup, 1)) (d4 : decode cc (pc + 4) = .ok (.ldc is, 2)) (d6 : decode cc (pc + 6) = .ok (.invokespecial ic, 3)) (d9 : decode cc (pc + 9) = .ok (.athrow, 1))
    (hout : ∀ x ∈ c.exceptionTable.toList, covers x (pc + 9) = false)
    (hRframes : names.length + 3 < R.frames) (hRlocals : (rest.map fun v => v.category).sum + (13 * (names.length + 1) + 43) ≤ R.locals) (hRcells : cells + 1 ≤ R.cells) (hRslots : slots + 6 ≤ R.slots) (hlocks : meth.locks = false)
    (hx : ∀ t : State, s.vm.Alike t.vm → H.size ≤ t.heap.size → (∀ q : Nat, q < H.size → t.heap[q]? = H[q]?) → XC cls s t)
    (hf : ∀ z ∈ locs, free z.base) (hc : cells + 1 ≤ mc) (hs : slots + 6 ≤ ms) :
    W p l e R s m args below meth c H locs cells slots (vx_MQ below Qc XC args s mc ms free) (F0 m pc ls rest) := by
  intro T hT X
  have htr : e.platform.stackTraces = false := (show e.platform.stackTraces = l.stackTraces by rw [X.admits.platform]).trans hl
  have Y := vx_rebase X (R' := { frames := R.frames, locals := R.locals, cells := 1, slots := 6 }) (Nat.le_refl _) (Nat.le_refl _) hRcells hRslots
  obtain ⟨s', hA⟩ : ∃ z, z = (T.setVm s.vm).setFrames (.invoking m args :: below) := ⟨_, rfl⟩
  rw [← hA] at Y
  have hvm : s'.vm = s.vm := by rw [hA]; rfl
  have hhp : s'.heap = H := by rw [hA]; exact hT
  have hW0 : s.WarmedH s'.vm := by rw [hvm]; exact State.WarmedH.refl s
  have hat' : ∀ w ∈ vx_atS own ic cls names, w.before args s' = true := fun w hw => vx_ot_at hW0 hvm.symm (hgood w (List.mem_cons_of_mem _ (List.mem_cons_of_mem _ hw))) (hat w hw)
  have hk' : (Cond.classLink own ik cls).before args s' = true := vx_ot_at hW0 hvm.symm (hgood _ List.mem_cons_self) hk
  have hini' : (Cond.initialized cls).before args s' = true := vx_ot_at hW0 hvm.symm (hgood _ (List.mem_cons_of_mem _ List.mem_cons_self)) hini
  have hU' : vx_Zq Bundle.tN "UNASSIGNED_STACK" Bundle.steD A s' s'.heap := by rw [hhp]; exact vx_Zq.moved hW0.alike (hU.kept hS.2.1)
  have hN' : vx_Zq Bundle.tN "SUPPRESSED_SENTINEL" Bundle.listD A s' s'.heap := by rw [hhp]; exact vx_Zq.moved hW0.alike (hN.kept hS.2.1)
  have h : ∀ w ∈ Bundle.ownAtoms own ic cls names, w.before args s' = true := vx_own hat' (vx_isRefq hU'.1) (vx_isRefq hN'.1) hU'.2.word hN'.2.word
  have hown' : s'.vm.findClass own = some m.cls := by rw [hvm]; exact hown
  have hins : (Cond.instantiable cls 6).before args s' = true := h _ (by simp [Bundle.ownAtoms])
  obtain ⟨vm₁, cX, kX, hfX, hkX, -, -, X₁, st1⟩ := Y.newCold hexec (own := own) (C := cls) (index := ik) (n := 6) hown' hk' hins hini'
    (g := F0 m pc ls rest) rfl (by rw [hb]; exact d0) (Nat.le_refl _) (Nat.le_refl _)
  generalize hT1 : (T.setVm vm₁).pushCell { cls := cX, slots := kX.instanceTypes.map defaultValue, vm := .none } = T1 at X₁ st1
  have hcat : (Value.ref T.heap.size).category = 1 := rfl
  have hcellA : T1.heap[T.heap.size]? = some (freshCell cX kX) := by rw [← hT1]; exact State.heap_pushCell_size _ _
  have d3' : decode c.code (pc + 3) = .ok (.dup, 1) := by rw [hb]; exact d3
  have d4' : decode c.code (pc + 4) = .ok (.ldc is, 2) := by rw [hb]; exact d4
  have hstr' : vk_R own is text sa s' := vk_R.warm hW0 hstr
  obtain ⟨U, hsteps, hrun, hend, hW, hsame, ce, hce, hO⟩ := X₁.ctorThrowS hexec htr (own := own) (cls := cls) (names := names) (ic := ic) hown' hcls hnames h (fun x hx => nomatch hx) hfX hkX hcellA (by rw [hhp, hT]; exact Nat.le_refl _) (msg := .ref sa) rfl
    (g := { method := m, pc := pc + 6, locals := ls, stack := .ref sa :: .ref T.heap.size :: .ref T.heap.size :: rest, locked := none }) rfl hsize rfl rfl (rest := rest) rfl
    (by rw [hb]; exact d6) (by rw [hb]; exact d9) hout hRframes (by simp only [List.map_cons, List.sum_cons, hcat]; omega) hlocks
  obtain ⟨f1, f2⟩ := vx_frame hsame
  rw [hhp] at f1 f2
  have hWs : s.WarmedH U.vm := State.WarmedH.trans hW0 hW
  have hcl : s.vm.findClass cls = some ce.cls := by
    have h9 := hO.cls
    rw [hvm] at h9
    exact h9
  have hall : s.sameButNew ({ U with vm := s.vm } : State) locs mc ms := by
    subst hA
    obtain ⟨e1, e2⟩ := hsame
    rw [State.setFrames_setFrames] at e1
    have h2 : (T.setVm s.vm).sameButNew ({ U with vm := s.vm } : State) [] (0 + 1) (0 + 6) := ⟨e1, e2⟩
    have h3 := X.same.trans h2
    rw [List.append_nil] at h3
    exact h3.mono hc hs
  refine ⟨U, ?_, .threw T.heap.size, hrun, hend, Or.inr ⟨T.heap.size, rfl, cls, ce, locs, hx U hWs.alike f1 (fun q hq => f2 q hq (fun z hz => nomatch hz)), hce, hO.vm, hcl, hWs, hall, hf⟩⟩
  refine st1 _ ?_
  show Steps p.tables e below (T1.setTop { method := m, pc := pc + 3, locals := ls, stack := .ref T.heap.size :: rest, locked := none }) _
  jvm_step X₁.here [X₁.here.top, hexec, d3', Value.category]
  exact X₁.ldcString hexec (own := own) (text := text) (index := is) (a := sa) hown' hstr'.1 hstr'.2
    (g := { method := m, pc := pc + 4, locals := ls, stack := .ref T.heap.size :: .ref T.heap.size :: rest, locked := none }) rfl d4' _ hsteps
/-- 'throw new E("text")', the text by a wide index -/
theorem vx_throwSW {cc : ByteArray} {pc : Nat} (hexec : p.tables.exec = Jvm.exec) (hb : c.code = cc) (hl : l.stackTraces = false) {own cls text : String} {names : List String} {ik is ic mc ms sa : Nat} {A : Nat → Prop}
    (hown : s.vm.findClass own = some m.cls) (hcls : Bundle.fit cls = true) (hnames : ∀ n ∈ names, Bundle.fit n = true)
    (hk : (Cond.classLink own ik cls).before args s = true) (hini : (Cond.initialized cls).before args s = true) (hstr : vk_R own is text sa s) (hat : ∀ w ∈ vx_atS own ic cls names, w.before args s = true)
    (hgood : ∀ w ∈ Cond.classLink own ik cls :: Cond.initialized cls :: vx_atS own ic cls names, vx_ot w = true)
    (hU : vx_Zq Bundle.tN "UNASSIGNED_STACK" Bundle.steD A s s.heap) (hN : vx_Zq Bundle.tN "SUPPRESSED_SENTINEL" Bundle.listD A s s.heap) (hS : va_S A s.heap H locs) (hsize : ls.size = c.maxLocals)
    (d0 : decode cc pc = .ok (.new ik, 3)) (d3 : decode cc (pc + 3) = .ok (.dup, 1)) (d4 : decode cc (pc + 4) = .ok (.ldc_w is, 3)) (d7 : decode cc (pc + 7) = .ok (.invokespecial ic, 3)) (d10 : decode cc (pc + 10) = .ok (.athrow, 1))
    (hout : ∀ x ∈ c.exceptionTable.toList, covers x (pc + 10) = false)
    (hRframes : names.length + 3 < R.frames) (hRlocals : (rest.map fun v => v.category).sum + (13 * (names.length + 1) + 43) ≤ R.locals) (hRcells : cells + 1 ≤ R.cells) (hRslots : slots + 6 ≤ R.slots) (hlocks : meth.locks = false)
    (hx : ∀ t : State, s.vm.Alike t.vm → H.size ≤ t.heap.size → (∀ q : Nat, q < H.size → t.heap[q]? = H[q]?) → XC cls s t)
    (hf : ∀ z ∈ locs, free z.base) (hc : cells + 1 ≤ mc) (hs : slots + 6 ≤ ms) :
    W p l e R s m args below meth c H locs cells slots (vx_MQ below Qc XC args s mc ms free) (F0 m pc ls rest) := by
  intro T hT X
  have htr : e.platform.stackTraces = false := (show e.platform.stackTraces = l.stackTraces by rw [X.admits.platform]).trans hl
  have Y := vx_rebase X (R' := { frames := R.frames, locals := R.locals, cells := 1, slots := 6 }) (Nat.le_refl _) (Nat.le_refl _) hRcells hRslots
  obtain ⟨s', hA⟩ : ∃ z, z = (T.setVm s.vm).setFrames (.invoking m args :: below) := ⟨_, rfl⟩
  rw [← hA] at Y
  have hvm : s'.vm = s.vm := by rw [hA]; rfl
  have hhp : s'.heap = H := by rw [hA]; exact hT
  have hW0 : s.WarmedH s'.vm := by rw [hvm]; exact State.WarmedH.refl s
  have hat' : ∀ w ∈ vx_atS own ic cls names, w.before args s' = true := fun w hw => vx_ot_at hW0 hvm.symm (hgood w (List.mem_cons_of_mem _ (List.mem_cons_of_mem _ hw))) (hat w hw)
  have hk' : (Cond.classLink own ik cls).before args s' = true := vx_ot_at hW0 hvm.symm (hgood _ List.mem_cons_self) hk
  have hini' : (Cond.initialized cls).before args s' = true := vx_ot_at hW0 hvm.symm (hgood _ (List.mem_cons_of_mem _ List.mem_cons_self)) hini
  have hU' : vx_Zq Bundle.tN "UNASSIGNED_STACK" Bundle.steD A s' s'.heap := by rw [hhp]; exact vx_Zq.moved hW0.alike (hU.kept hS.2.1)
  have hN' : vx_Zq Bundle.tN "SUPPRESSED_SENTINEL" Bundle.listD A s' s'.heap := by rw [hhp]; exact vx_Zq.moved hW0.alike (hN.kept hS.2.1)
  have h : ∀ w ∈ Bundle.ownAtoms own ic cls names, w.before args s' = true := vx_own hat' (vx_isRefq hU'.1) (vx_isRefq hN'.1) hU'.2.word hN'.2.word
  have hown' : s'.vm.findClass own = some m.cls := by rw [hvm]; exact hown
  have hins : (Cond.instantiable cls 6).before args s' = true := h _ (by simp [Bundle.ownAtoms])
  obtain ⟨vm₁, cX, kX, hfX, hkX, -, -, X₁, st1⟩ := Y.newCold hexec (own := own) (C := cls) (index := ik) (n := 6) hown' hk' hins hini'
    (g := F0 m pc ls rest) rfl (by rw [hb]; exact d0) (Nat.le_refl _) (Nat.le_refl _)
  generalize hT1 : (T.setVm vm₁).pushCell { cls := cX, slots := kX.instanceTypes.map defaultValue, vm := .none } = T1 at X₁ st1
  have hcat : (Value.ref T.heap.size).category = 1 := rfl
  have hcellA : T1.heap[T.heap.size]? = some (freshCell cX kX) := by rw [← hT1]; exact State.heap_pushCell_size _ _
  have d3' : decode c.code (pc + 3) = .ok (.dup, 1) := by rw [hb]; exact d3
  have d4' : decode c.code (pc + 4) = .ok (.ldc_w is, 3) := by rw [hb]; exact d4
  have hstr' : vk_R own is text sa s' := vk_R.warm hW0 hstr
  obtain ⟨U, hsteps, hrun, hend, hW, hsame, ce, hce, hO⟩ := X₁.ctorThrowS hexec htr (own := own) (cls := cls) (names := names) (ic := ic) hown' hcls hnames h (fun x hx => nomatch hx) hfX hkX hcellA (by rw [hhp, hT]; exact Nat.le_refl _) (msg := .ref sa) rfl
    (g := { method := m, pc := pc + 7, locals := ls, stack := .ref sa :: .ref T.heap.size :: .ref T.heap.size :: rest, locked := none }) rfl hsize rfl rfl (rest := rest) rfl
    (by rw [hb]; exact d7) (by rw [hb]; exact d10) hout hRframes (by simp only [List.map_cons, List.sum_cons, hcat]; omega) hlocks
  obtain ⟨f1, f2⟩ := vx_frame hsame
  rw [hhp] at f1 f2
  have hWs : s.WarmedH U.vm := State.WarmedH.trans hW0 hW
  have hcl : s.vm.findClass cls = some ce.cls := by
    have h9 := hO.cls
    rw [hvm] at h9
    exact h9
  have hall : s.sameButNew ({ U with vm := s.vm } : State) locs mc ms := by
    subst hA
    obtain ⟨e1, e2⟩ := hsame
    rw [State.setFrames_setFrames] at e1
    have h2 : (T.setVm s.vm).sameButNew ({ U with vm := s.vm } : State) [] (0 + 1) (0 + 6) := ⟨e1, e2⟩
    have h3 := X.same.trans h2
    rw [List.append_nil] at h3
    exact h3.mono hc hs
  refine ⟨U, ?_, .threw T.heap.size, hrun, hend, Or.inr ⟨T.heap.size, rfl, cls, ce, locs, hx U hWs.alike f1 (fun q hq => f2 q hq (fun z hz => nomatch hz)), hce, hO.vm, hcl, hWs, hall, hf⟩⟩
  refine st1 _ ?_
  show Steps p.tables e below (T1.setTop { method := m, pc := pc + 3, locals := ls, stack := .ref T.heap.size :: rest, locked := none }) _
  jvm_step X₁.here [X₁.here.top, hexec, d3', Value.category]
  exact X₁.ldcStringW hexec (own := own) (text := text) (index := is) (a := sa) hown' hstr'.1 hstr'.2
    (g := { method := m, pc := pc + 4, locals := ls, stack := .ref T.heap.size :: .ref T.heap.size :: rest, locked := none }) rfl d4' _ hsteps
end Ends
section Bodies
variable {l : Launch}
theorem vx_ofW {y : MethodName} {ws ws' : List Cond} {rm : Room} {Pc : Array Value → State → Prop} {Qc : Array Value → State → Outcome → State → Prop} {XC : String → State → State → Prop} {mc ms : Nat} {free : Addr → Prop} {cc : ByteArray} {maxL : Nat} {ret : Option FieldType}
    (hy : plainName y.cls = true) (hw : ws = Cond.code y cc maxL ret :: ws')
    (body : ∀ p e s m args below meth c s₁, BodyLoose p l y (headSpec ws rm) cc maxL ret e s m args below meth c s₁ → c.maxLocals = maxL → (∀ x ∈ c.exceptionTable.toList, False) → Pc args s →
      W p l e (headSpec ws rm).room s m args below meth c s.heap [] 0 0 (vx_MQ below Qc XC args s mc ms free) (entryFrame m args maxL)) : vx_Met l y ws rm Pc Qc XC mc ms free := by
  refine MetFree.of_bodyS (code := cc) (maxLocals := maxL) (ret := ret) hy ?_ ?_
  · intro args s m h hn
    obtain ⟨meth, c, h1, h2, h3, h4, h5, h6, -, -⟩ := Cond.code_spec hn (atoms_spec (ws := ws) h _ (by rw [hw]; exact List.mem_cons_self))
    exact ⟨meth, c, h1, h2, h3, h4, h5, h6⟩
  · intro p e s m args below meth c s₁ B hml hP _
    have hh0 : s₁.heap = s.heap := by rw [B.state]; rfl
    have ht : ∀ x ∈ c.exceptionTable.toList, False := by
      obtain ⟨meth9, c9, h1, h2, -, -, -, -, h7, -⟩ := Cond.code_spec B.named (atoms_spec (ws := ws) B.pre _ (by rw [hw]; exact List.mem_cons_self))
      cases Option.some.inj (h1.symm.trans B.method)
      cases Option.some.inj (h2.symm.trans (Stand.of_body B).code)
      intro x hx
      rw [Array.isEmpty_iff.mp h7] at hx
      cases hx
    obtain ⟨t, a1, o, b1, b2, b3⟩ := body p e s m args below meth c s₁ B hml ht hP s₁ hh0 (Stand.of_body B)
    exact ⟨t, o, a1, b1, b2, b3⟩
/-- the table of a body with handlers -/
theorem vx_table {p : Program} {x y : MethodName} {S : Spec} {cc bytes : ByteArray} {maxL maxL' : Nat} {ret ret' : Option FieldType} {e : Env} {s s₁ : State} {m : MethodId} {args : Array Value} {below : List Frame} {meth : Method} {c : Code} {hh : List (Nat × Nat × Nat × Nat)}
    (B : BodyLoose p l y S cc maxL ret e s m args below meth c s₁) (h : (Cond.codeWith y bytes maxL' ret' hh).before args s = true) : c.exceptionTable.toList = tableOf hh := by
  obtain ⟨m9, meth9, c9, hn9, h1, h2, -, -, h6, -⟩ := Cond.codeWith_spec h
  cases Option.some.inj (hn9.symm.trans B.named)
  cases Option.some.inj (h1.symm.trans B.method)
  cases Option.some.inj (h2.symm.trans (Stand.of_body B).code)
  rw [← h6, table_eq]
end Bodies
end VXA
/-! ===== END ===== -/
/-! ===== BEGIN a static call of a method with an exception table ===== -/
section VXS
variable {p : Program} {l : Launch} {e : Env} {R : Room} {s : State} {m : MethodId} {args : Array Value} {below : List Frame} {meth : Method} {c : Code} {T : State} {H : Heap} {locs : List Loc} {cells slots : Nat}
abbrev vx_CSW (R : Room) (s : State) (args : Array Value) (own : String) (index : Nat) (y : MethodName) (bytes : ByteArray) (maxL : Nat) (ret : Option FieldType) (hh : List (Nat × Nat × Nat × Nat)) (ws : List Cond) (rm : Room) (mc ms n : Nat) : Prop :=
  (rm.cells = mc ∧ rm.slots = ms ∧ rm.frames + 1 ≤ R.frames ∧ 8 + (maxL + 11) + rm.locals ≤ R.locals ∧ (∀ w ∈ ws, ∀ (a' : Array Value) (U : State), s.WarmedH U.vm → w.before a' U = true) ∧ Cond.codeWith y bytes maxL ret hh ∈ ws) ∧
  (Cond.codeWith y bytes maxL ret hh).before args s = true ∧ (Cond.initialized y.cls).before args s = true ∧ (y.cls ≠ "java/lang/invoke/MethodHandle" ∧ y.cls ≠ "java/lang/invoke/VarHandle") ∧
  (∀ sig, parseMethodDescriptor y.desc = some sig → n = sig.parameters.length) ∧ (Cond.methodLink own index y).before args s = true ∧ (Cond.static y).before args s = true
theorem vx_cwSW {own : String} {index maxL mc ms : Nat} {y : MethodName} {bytes : ByteArray} {ret : Option FieldType} {hh : List (Nat × Nat × Nat × Nat)} {Ts ws ws' : List Cond} {rm : Room} (n : Nat) (ht : ∀ w ∈ Ts, w.before args s = true) (hT : GoodIn Ts (va_wsS own index y ws)) (hw : ws = Cond.codeWith y bytes maxL ret hh :: ws') (hrc : rm.cells = mc) (hrs : rm.slots = ms)
    (hd : y.cls ≠ "java/lang/invoke/MethodHandle" ∧ y.cls ≠ "java/lang/invoke/VarHandle" ∧ (parseMethodDescriptor y.desc).map (fun d => d.parameters.length) = some n) (hR : rm.frames + 1 ≤ R.frames ∧ 8 + (maxL + 11) + rm.locals ≤ R.locals) :
    vx_CSW R s args own index y bytes maxL ret hh ws rm mc ms n := by
  have ok : ∀ w ∈ va_wsS own index y ws, w.before args s = true := fun w h => ht w (hT w h).1
  have hG : GoodIn Ts ws := fun w h => hT w (by unfold va_wsS; exact List.mem_append_right _ h)
  have hc : Cond.codeWith y bytes maxL ret hh ∈ ws := by rw [hw]; exact List.mem_cons_self
  refine ⟨⟨hrc, hrs, hR.1, hR.2, pay_in ht hG, hc⟩, ht _ (hG _ hc).1, ok _ (by simp [va_wsS]), ⟨hd.1, hd.2.1⟩, fun sig h => ?_, ok _ (by simp [va_wsS]), ok _ (by simp [va_wsS])⟩
  have h2 := hd.2.2
  rw [h] at h2
  exact (Option.some.inj h2).symm
theorem vx_callSW (X : Stand p l e R s m args below meth c T locs cells slots) (hexec : p.tables.exec = Jvm.exec) {own : String} {index : Nat} {y : MethodName} {bytes : ByteArray} {maxL : Nat} {ret : Option FieldType} {hh : List (Nat × Nat × Nat × Nat)}
    (hown : s.vm.findClass own = some m.cls) (hlink : (Cond.methodLink own index y).before args s = true) (hstat : (Cond.static y).before args s = true) (hinit : (Cond.initialized y.cls).before args s = true)
    (hcode : (Cond.codeWith y bytes maxL ret hh).before args s = true) (hy : y.cls ≠ "java/lang/invoke/MethodHandle" ∧ y.cls ≠ "java/lang/invoke/VarHandle")
    {W9 : Nat} {Pre : Pt → Array Value → Prop} {Post : Pt → Array Value → Option Value → Pt → Prop} (hK : Back l R p e below s args y 3 W9 Pre Post)
    {g : JFrame} (hg : g.method = m) (hsize : g.locals.size = c.maxLocals) {argsL rest : List Value} (hlen : ∀ sig, parseMethodDescriptor y.desc = some sig → argsL.length = sig.parameters.length)
    (hstack : g.stack = argsL.reverse ++ rest) (hW : 2 * g.monitorRoom + (rest.map fun v => v.category).sum ≤ W9) (hdg : decode c.code g.pc = .ok (.invokestatic index, 3))
    (hpre : ∀ vm₁, s.WarmedH vm₁ → Pre ⟨T.setVm vm₁, locs, cells, slots⟩ argsL.toArray) :
    ∃ (v : Option Value) (vm₁ : Vm) (B : Pt), s.WarmedH vm₁ ∧ Stand p l e R s m args below meth c B.U B.locs B.cells B.slots ∧ Post ⟨T.setVm vm₁, locs, cells, slots⟩ argsL.toArray v B ∧
      ∀ target, Steps p.tables e below (B.U.setTop { g with pc := g.pc + 3, stack := v.toList ++ rest }) target → Steps p.tables e below (T.setTop g) target := by
  obtain ⟨mk, methM, cM, hnamed, hmethM, -, -, -, -, -, -, hsigM⟩ := Cond.codeWith_spec hcode
  have hstatic : methM.isStatic = true := Cond.static_spec hnamed hmethM hstat
  obtain ⟨kP, hkP, -⟩ := className_of_methodNamed hnamed
  have hinitP : kP.init = .initialized := Cond.initialized_spec (findClass_of_methodNamed hnamed) hkP hinit
  obtain ⟨vm₁, X₁, hstep₁⟩ := X.invokestatic hexec hown hlink hnamed hmethM hstatic hkP hinitP hy (g := g) hg (argsL := argsL) (rest := rest) (hlen _ hsigM) hstack hdg
  obtain ⟨v, B, X', hpost, hsteps⟩ := hK m meth c ⟨T.setVm vm₁, locs, cells, slots⟩ { g with stack := rest } (.invokestatic index) mk argsL.toArray X₁ hg hsize hdg hW (X₁.named hnamed) (hpre vm₁ X₁.warmed)
  exact ⟨v, vm₁, B, X₁.warmed, X', hpost, fun target h => hstep₁ _ fun acts => by rw [doInvoke_state]; exact hsteps.trans h⟩
theorem vx_runSW {y : MethodName} {bytes cc : ByteArray} {maxL nL mc ms n index : Nat} {ret : Option FieldType} {hh : List (Nat × Nat × Nat × Nat)} {ws : List Cond} {rm : Room} {Pc : Array Value → State → Prop} {Qc : Array Value → State → Outcome → State → Prop} {free : Addr → Prop} {Ts : List Cond} {own : String} {As rest : List Value} {g : JFrame}
    (S : CallFix p m c cc nL s args Ts own) (hM : Met l y ws rm Pc Qc mc ms free) (cw : vx_CSW R s args own index y bytes maxL ret hh ws rm mc ms n) (hp : PreS s H Pc As)
    (hg : g.method = m) (hn : As.length = n) (hsize : g.locals.size = nL) (hstack : g.stack = As.reverse ++ rest) (hW : 2 * g.monitorRoom + (rest.map fun v => v.category).sum ≤ 8) (hdg : decode cc g.pc = .ok (.invokestatic index, 3)) (hf : cells + mc ≤ R.cells ∧ slots + ms ≤ R.slots) :
    va_Run p l e R s m args below meth c H locs cells slots mc ms g rest (Qc As.toArray) (free) := by
  obtain ⟨⟨hrc, hrs, hfr, hlo, hws, hcw⟩, hcode, hini, hy, hlen, hl, hstt⟩ := cw
  have hK : Back l R p e below s args y 3 8 (PreOf R mc ms Pc) (PostOf Qc mc ms free) := va_backW (hh := hh) (bytes := bytes) (maxL := maxL) (ret := ret) hM hp.1 hrc hrs hfr hlo hws hcw (fun a' U hW => word_at hW (Or.inl (by first | rfl | simp [Cond.onTables, Cond.keeps, Cond.steady])) hini)
  obtain ⟨hx, hb, hml, ho, -⟩ := S
  intro T hT X
  obtain ⟨v, vm₁, ⟨U', l2, c2, s2⟩, hW₁, X', ⟨g', mk, t, L, e1, e2, hq, h1, hL, h2, h3⟩, st⟩ := vx_callSW X hx (hh := hh) (bytes := bytes) (maxL := maxL) (ret := ret) ho hl hstt hini hcode hy hK hg (hsize.trans hml.symm) (argsL := As) (rest := rest) (fun sig h => hn.trans (hlen sig h)) hstack hW (by rw [hb]; exact hdg)
    (fun vm₁ hW₁ => ⟨hf.1, hf.2, hp.2 (T.setVm vm₁) hT hW₁⟩)
  dsimp only [Pt.U, Pt.locs, Pt.cells, Pt.slots] at X' e1 e2 h1 h2 h3 st
  subst h1; subst h2; subst h3
  exact ⟨v, (T.setVm vm₁).calling g' mk As.toArray, t, U', L, hT, X', hL, e1, e2, hq, st⟩
/-- not caught here, past rows that name other classes: it goes on to the caller -/
theorem vx_outP {p : Program} {l : Launch} {e : Env} {R : Room} {s : State} {m : MethodId} {args : Array Value} {below : List Frame} {meth : Method} {c : Code} {H : Heap} {locs : List Loc} {cells slots : Nat} {free : Addr → Prop} {ls : Array Slot} {rest : List Value} {Qc : Array Value → State → Outcome → State → Prop} {XC : String → State → State → Prop}
    {pc : Nat} {own E : String} {ce : Cell} {q : Addr} {mc ms : Nat} (hown : s.vm.findClass own = some m.cls) (hlocks : meth.locks = false)
    (hpass : ∀ z ∈ c.exceptionTable.toList, covers z pc = false ∨ (z.catchType ≠ 0 ∧ ∃ nm : String, (Cond.classLink own z.catchType nm).before args s = true ∧ va_Nc E nm s)) (hcell : H[q]? = some ce) (hv : ce.vm = .none) (hcl : s.vm.findClass E = some ce.cls)
    (hx : ∀ t : State, t.heap = H → s.vm.Alike t.vm → XC E s t) (hf : ∀ z ∈ locs, free z.base) (hc : cells ≤ mc) (hs : slots ≤ ms) :
    vx_W p l e R s m args below meth c H locs cells slots (vx_MQ below Qc XC args s mc ms free) (F0 m pc ls rest) q := by
  intro T hT X
  have hpl : e.platform.magicAccessors = ({} : Platform).magicAccessors := by rw [X.admits.platform]
  obtain ⟨vm', hW', X', st⟩ := X.outThrough hlocks q (g := F0 m pc ls rest) rfl rfl rfl (cell := ce) (by rw [hT]; exact hcell) (by rw [hv]; rfl)
    (by obtain ⟨k9, h9, -⟩ := Vm.findClass_spec hcl; exact ⟨k9, h9⟩) (fun z hz => by
      rcases hpass z hz with h | ⟨hz0, nm, hl1, hn1⟩
      · exact Or.inl h
      · obtain ⟨c6, hc6, hcl6⟩ := Cond.classLink_spec hown hl1 e.platform hpl
        obtain ⟨a8, b8, h1, h2, h3⟩ := hn1
        cases Option.some.inj (h1.symm.trans hcl)
        cases Option.some.inj (h2.symm.trans hc6)
        exact Or.inr ⟨hz0, _, hcl6, h3⟩)
  obtain ⟨g₀, hfr⟩ := X'.frames_eq
  have hcell9 : ((T.setVm vm').setFrames (.throwing q :: below)).heap[q]? = some ce := by
    show T.heap[q]? = some ce
    rw [hT]; exact hcell
  have hend : Ended ((T.setVm vm').setFrames (.throwing q :: below)) below (.threw q) := State.frames_setFrames _ (State.cur_lt_of_frames hfr)
  refine ⟨(T.setVm vm').setFrames (.throwing q :: below), ?_, .threw q, X'.here.running, hend, Or.inr ⟨q, rfl, E, ce, locs, hx _ hT (X'.ends _).1.alike, hcell9, hv, hcl, (X'.ends _).1, (X'.ends _).2.mono hc hs, hf⟩⟩
  rw [X.pushThrowing_eq]
  exact st
/-- a thing of a world lies in the heap -/
theorem vx_lt {D : va_G} {cl : List vw_C} {ws : va_W} {H1 : Heap} (h : va_P D cl ws H1) {k : Nat} {q : Nat × va_E} (hk : ws[k]? = some q) : q.1 < H1.size := (h k q hk).lt
end VXS
/-! ===== END ===== -/
/-! ===== BEGIN methods with a table of their own: called by a name, returning or throwing ===== -/
section VXH
/-! vx_backW, vx_callVX, vx_callSX, vx_callVW, vx_runVW, vx_runVX, vx_runSX, vx_ofWH follow the same proofs as their sisters above (Free/Laws.lean, Shelf42/LK1.lean); vx_outP calls Shelf42/NT130.lean (outThrough). -/
section
variable {l : Launch} {R : Room} {p : Program} {e : Env} {below : List Frame} {s : State} {sargs : Array Value} {y : MethodName} {len W9 : Nat}
theorem vx_backW {ws : List Cond} {rm : Room} {Pc : Array Value → State → Prop} {Qc : Array Value → State → Outcome → State → Prop} {XC : String → State → State → Prop} {mc ms : Nat} {free : Addr → Prop} {bytes : ByteArray} {maxL : Nat} {ret : Option FieldType} {hh : List (Nat × Nat × Nat × Nat)}
    (hM : vx_Met l y ws rm Pc Qc XC mc ms free) (hblind : FrameBlind Pc) (hrc : rm.cells = mc) (hrs : rm.slots = ms)
    (hframes : rm.frames + 1 ≤ R.frames) (hlocals : W9 + (maxL + 11) + rm.locals ≤ R.locals)
    (hws : ∀ w ∈ ws, ∀ a' U, s.WarmedH U.vm → w.before a' U = true) (hcode : Cond.codeWith y bytes maxL ret hh ∈ ws) (hinit : ∀ a' U, s.WarmedH U.vm → (Cond.initialized y.cls).before a' U = true) :
    vx_Back l R p e below s sargs y len W9 (PreOf R mc ms Pc) (PostOf Qc mc ms free) (vx_Post XC mc ms free) := by
  intro m meth c A g ig mk a X hg hsize hdg hW hn hp
  have h1 : (headSpec ws rm).pre.before a A.U = true := atoms_intro fun w hw => hws w hw _ _ X.warmed
  have h2 : (Cond.codeWith y bytes maxL ret hh).before a A.U = true := hws _ hcode _ _ X.warmed
  have h3 : (Cond.initialized y.cls).before a A.U = true := hinit _ _ X.warmed
  have h4 : A.cells + (headSpec ws rm).room.cells ≤ R.cells := by rw [show (headSpec ws rm).room.cells = mc from hrc]; exact hp.1
  have h5 : A.slots + (headSpec ws rm).room.slots ≤ R.slots := by rw [show (headSpec ws rm).room.slots = ms from hrs]; exact hp.2.1
  have hPc : Pc a (A.U.calling g mk a) := hblind _ _ _ _ hp.2.2
  obtain ⟨U, Ls, c0, s0⟩ := A
  dsimp only [Pt.U, Pt.locs, Pt.cells, Pt.slots] at h1 h2 h3 h4 h5 X hn hPc ⊢
  obtain ⟨m9, methY, cY, hn9, hmY, hcY, -, hlY, -⟩ := Cond.codeWith_spec h2
  cases Option.some.inj (hn9.symm.trans hn)
  obtain ⟨kY, hkY, -⟩ := className_of_methodNamed hn
  have hinitY : kY.init = .initialized := Cond.initialized_spec (findClass_of_methodNamed hn) hkY h3
  have h : At U g.method c below := by rw [hg]; exact X.here
  have hlocals9 : W9 + (maxL + 11) + (headSpec ws rm).room.locals ≤ R.locals := hlocals
  have happ : (headSpec ws rm).appliesLoose y e.platform (U.calling g mk a) = true :=
    Spec.appliesLoose_calling (g := g) h hdg hn hkY hinitY
      (X.room_calling (g := g) (R' := (headSpec ws rm).room) hsize hmY hcY hframes (by rw [hlY]; omega) h4 h5) h1
  obtain ⟨mid, hmid⟩ := h.above
  have hfr : (U.setTop g).frames = (.java g :: mid) ++ below := by rw [State.frames_setTop' g h.top, hmid]; rfl
  obtain ⟨o, s₂, hsteps, -, hend, hq⟩ := Steps.callFree hM p X.admits X.cas X.clock (acts := []) hfr happ hPc trivial
  have hq' : vx_Q Qc XC mc ms free a (U.calling g mk a) o s₂ := hq
  rw [State.frames_setTop' g h.top] at hend
  obtain ⟨g₀, hg0⟩ := Option.isSome_iff_exists.mp h.top
  obtain ⟨r, hr⟩ := State.topJava?_eq_some.mp hg0
  have hr' : (({ U with heap := s₂.heap, slotsUsed := s₂.slotsUsed } : State).setVm s₂.vm).frames = .java g₀ :: r := hr
  rcases hq' with ⟨hqc, L, hfe, hL⟩ | ⟨q, rfl, E, ce, L, hx, hce, hcv, hcl, hW₂, hsm, hL⟩
  · obtain ⟨⟨v, rfl⟩, hW₂, e2, q2, q3, q4, q5, q6⟩ := id hfe
    have e3 : s₂ = ({ (U.calling g mk a).setFrames s₂.frames with heap := s₂.heap, slotsUsed := s₂.slotsUsed } : State).setVm s₂.vm := by
      have : s₂ = ({ s₂ with vm := (U.calling g mk a).vm } : State).setVm s₂.vm := rfl
      rw [e2] at this
      exact this
    obtain ⟨c₂, i₂, len₂, hc₂, hd₂, hf₂⟩ := hend
    have hW' : U.WarmedH s₂.vm := hW₂
    have hcc : c₂ = c := by
      have h1 : s₂.code? g.method = U.code? g.method := by
        rw [State.code?_eq, State.code?_eq, hW'.alike.method?]
      exact Option.some.inj (hc₂.symm.trans (h1.trans h.code))
    subst hcc
    have hlen : len₂ = len := by rw [hdg] at hd₂; cases hd₂; rfl
    subst hlen
    have hs₂ : s₂ = (({ U with heap := s₂.heap, slotsUsed := s₂.slotsUsed } : State).setVm s₂.vm).setTop { g with pc := g.pc + len₂, stack := v.toList ++ g.stack } := by
      refine e3.trans ?_
      rw [hf₂, State.calling_eq h.top, State.setFrames_setFrames, State.setTop_of_frames _ hr', hr]
      rfl
    have hsame : U.sameButNew ({ U with heap := s₂.heap, slotsUsed := s₂.slotsUsed } : State) L mc ms := by
      refine ⟨?_, q2, q3, q4, q5, q6⟩
      obtain ⟨t, ht, -⟩ := State.frames_cons hr
      show ({ U with heap := s₂.heap, slotsUsed := s₂.slotsUsed } : State) = { U.setFrames U.frames with heap := s₂.heap, slotsUsed := s₂.slotsUsed }
      rw [State.setFrames_self ht]
    subst hg
    refine Or.inl ⟨v, ⟨(({ U with heap := s₂.heap, slotsUsed := s₂.slotsUsed } : State).setVm s₂.vm), Ls ++ L, c0 + mc, s0 + ms⟩,
      ⟨X.admits, X.cas, X.clock, X.frames, X.room, X.hears, X.method, X.code, (X.here.setHeapUsed s₂.heap s₂.slotsUsed).setVm hW'.alike, X.tail, State.WarmedH.trans X.warmed hW', X.limits, X.bytes, X.same.trans (hsame.setVm s.vm)⟩,
      ⟨g, mk, s₂, L, rfl, rfl, hqc, rfl, hL, rfl, rfl⟩, ?_⟩
    show Steps p.tables e below _ ((({ U with heap := s₂.heap, slotsUsed := s₂.slotsUsed } : State).setVm s₂.vm).setTop { g with pc := g.pc + len₂, stack := v.toList ++ g.stack })
    rw [← hs₂]
    exact hsteps
  · obtain ⟨e2, q2, q3, q4, q5, q6⟩ := id hsm
    have e3 : s₂ = ({ (U.calling g mk a).setFrames s₂.frames with heap := s₂.heap, slotsUsed := s₂.slotsUsed } : State).setVm s₂.vm := by
      have : s₂ = ({ s₂ with vm := (U.calling g mk a).vm } : State).setVm s₂.vm := rfl
      rw [e2] at this
      exact this
    have hf₂ : s₂.frames = .throwing q :: .java g :: U.frames.tail := hend
    have hW' : U.WarmedH s₂.vm := hW₂
    have hs₂ : s₂ = ((({ U with heap := s₂.heap, slotsUsed := s₂.slotsUsed } : State).setVm s₂.vm).setTop g).pushFrame (.throwing q) := by
      refine e3.trans ?_
      rw [hf₂, State.calling_eq h.top, State.setFrames_setFrames, State.pushFrame, State.frames_setTop _ hr', State.setTop_of_frames _ hr', State.setFrames_setFrames, hr]
      rfl
    have hsame : U.sameButNew ({ U with heap := s₂.heap, slotsUsed := s₂.slotsUsed } : State) L mc ms := by
      refine ⟨?_, q2, q3, q4, q5, q6⟩
      obtain ⟨t, ht, -⟩ := State.frames_cons hr
      show ({ U with heap := s₂.heap, slotsUsed := s₂.slotsUsed } : State) = { U.setFrames U.frames with heap := s₂.heap, slotsUsed := s₂.slotsUsed }
      rw [State.setFrames_self ht]
    subst hg
    refine Or.inr ⟨q, ⟨(({ U with heap := s₂.heap, slotsUsed := s₂.slotsUsed } : State).setVm s₂.vm), Ls ++ L, c0 + mc, s0 + ms⟩,
      ⟨X.admits, X.cas, X.clock, X.frames, X.room, X.hears, X.method, X.code, (X.here.setHeapUsed s₂.heap s₂.slotsUsed).setVm hW'.alike, X.tail, State.WarmedH.trans X.warmed hW', X.limits, X.bytes, X.same.trans (hsame.setVm s.vm)⟩,
      ⟨g, mk, s₂, L, E, ce, rfl, rfl, hx, hce, hcv, hcl, rfl, hL, rfl, rfl⟩, ?_⟩
    show Steps p.tables e below _ (((({ U with heap := s₂.heap, slotsUsed := s₂.slotsUsed } : State).setVm s₂.vm).setTop g).pushFrame (.throwing q))
    rw [← hs₂]
    exact hsteps
end
variable {p : Program} {l : Launch} {e : Env} {R : Room} {s : State} {m : MethodId} {args : Array Value} {below : List Frame} {meth : Method} {c : Code} {T : State} {H : Heap} {locs : List Loc} {cells slots : Nat}
theorem vx_callVX (X : Stand p l e R s m args below meth c T locs cells slots) (hexec : p.tables.exec = Jvm.exec) {own C : String} {index : Nat} {y : MethodName} {bytes : ByteArray} {maxL : Nat} {ret : Option FieldType} {hh : List (Nat × Nat × Nat × Nat)}
    (hown : s.vm.findClass own = some m.cls) (hlink : (Cond.methodLink own index y).before args s = true) (hinst : (Cond.instanceMethod y).before args s = true) (hsel : (Cond.selects C y y).before args s = true)
    (hcode : (Cond.codeWith y bytes maxL ret hh).before args s = true) (hy : y.cls ≠ "java/lang/invoke/MethodHandle" ∧ y.cls ≠ "java/lang/invoke/VarHandle")
    {W9 : Nat} {Pre : Pt → Array Value → Prop} {Post : Pt → Array Value → Option Value → Pt → Prop} {PostX : Pt → Array Value → Addr → Pt → Prop} (hK : vx_Back l R p e below s args y 3 W9 Pre Post PostX)
    {b : Addr} {cellB : Cell} (hcell : T.heap[b]? = some cellB) (hobj : cellB.vm.isStatics = false) (hcls : s.vm.findClass C = some cellB.cls)
    {g : JFrame} (hg : g.method = m) (hsize : g.locals.size = c.maxLocals) {argsL rest : List Value} (hlen : ∀ sig, parseMethodDescriptor y.desc = some sig → argsL.length = sig.parameters.length)
    (hstack : g.stack = argsL.reverse ++ .ref b :: rest) (hW : 2 * g.monitorRoom + (rest.map fun v => v.category).sum ≤ W9) (hdg : decode c.code g.pc = .ok (.invokevirtual index, 3))
    (hpre : ∀ vm₁, s.WarmedH vm₁ → Pre ⟨T.setVm vm₁, locs, cells, slots⟩ (Value.ref b :: argsL).toArray) :
    (∃ (v : Option Value) (vm₁ : Vm) (B : Pt), s.WarmedH vm₁ ∧ Stand p l e R s m args below meth c B.U B.locs B.cells B.slots ∧ Post ⟨T.setVm vm₁, locs, cells, slots⟩ (Value.ref b :: argsL).toArray v B ∧
      ∀ target, Steps p.tables e below (B.U.setTop { g with pc := g.pc + 3, stack := v.toList ++ rest }) target → Steps p.tables e below (T.setTop g) target) ∨
    (∃ (q : Addr) (vm₁ : Vm) (B : Pt), s.WarmedH vm₁ ∧ Stand p l e R s m args below meth c B.U B.locs B.cells B.slots ∧ PostX ⟨T.setVm vm₁, locs, cells, slots⟩ (Value.ref b :: argsL).toArray q B ∧
      Steps p.tables e below (T.setTop g) ((B.U.setTop { g with stack := rest }).pushFrame (.throwing q))) := by
  obtain ⟨mk, methM, hnamed, hmethM, hstM, habM⟩ := Cond.instanceMethod_spec hinst
  obtain ⟨m8, methM', cM, hn8, hmethM', -, -, -, -, -, -, hsigM⟩ := Cond.codeWith_spec hcode
  cases Option.some.inj (hn8.symm.trans hnamed)
  cases hmethM.symm.trans hmethM'
  obtain ⟨c2, r2, m2, q1, q2, q3, q4, kP, hkP, hkPi⟩ := Cond.selects_spec hsel
  cases hcls.symm.trans q1
  cases (State.methodFound?_of_named hnamed hy).symm.trans q2
  cases hnamed.symm.trans q3
  have hselP : selectMethod e.platform s.vm cellB.cls mk = .method mk := by rw [Launch.admits_selectMethod X.admits]; exact q4
  obtain ⟨vm₁, X₁, hstep₁⟩ := X.invokevirtual hexec hown hlink hnamed hmethM hstM hkP hkPi hy (a := b) (cell := cellB) hcell
    (fun z h => by rw [h] at hobj; cases hobj) hselP hmethM habM hkP hkPi (g := g) hg (argsL := argsL) (rest := rest) (hlen _ hsigM) hstack hdg
  rcases hK m meth c ⟨T.setVm vm₁, locs, cells, slots⟩ { g with stack := rest } (.invokevirtual index) mk (Value.ref b :: argsL).toArray X₁ hg hsize hdg hW (X₁.named hnamed) (hpre vm₁ X₁.warmed) with ⟨v, B, X', hpost, hsteps⟩ | ⟨q, B, X', hpost, hsteps⟩
  · exact Or.inl ⟨v, vm₁, B, X₁.warmed, X', hpost, fun target h => hstep₁ _ fun acts => by rw [doInvoke_state]; exact hsteps.trans h⟩
  · exact Or.inr ⟨q, vm₁, B, X₁.warmed, X', hpost, hstep₁ _ fun acts => by rw [doInvoke_state]; exact hsteps⟩
theorem vx_callSX (X : Stand p l e R s m args below meth c T locs cells slots) (hexec : p.tables.exec = Jvm.exec) {own : String} {index : Nat} {y : MethodName} {bytes : ByteArray} {maxL : Nat} {ret : Option FieldType} {hh : List (Nat × Nat × Nat × Nat)}
    (hown : s.vm.findClass own = some m.cls) (hlink : (Cond.methodLink own index y).before args s = true) (hstat : (Cond.static y).before args s = true) (hinit : (Cond.initialized y.cls).before args s = true)
    (hcode : (Cond.codeWith y bytes maxL ret hh).before args s = true) (hy : y.cls ≠ "java/lang/invoke/MethodHandle" ∧ y.cls ≠ "java/lang/invoke/VarHandle")
    {W9 : Nat} {Pre : Pt → Array Value → Prop} {Post : Pt → Array Value → Option Value → Pt → Prop} {PostX : Pt → Array Value → Addr → Pt → Prop} (hK : vx_Back l R p e below s args y 3 W9 Pre Post PostX)
    {g : JFrame} (hg : g.method = m) (hsize : g.locals.size = c.maxLocals) {argsL rest : List Value} (hlen : ∀ sig, parseMethodDescriptor y.desc = some sig → argsL.length = sig.parameters.length)
    (hstack : g.stack = argsL.reverse ++ rest) (hW : 2 * g.monitorRoom + (rest.map fun v => v.category).sum ≤ W9) (hdg : decode c.code g.pc = .ok (.invokestatic index, 3))
    (hpre : ∀ vm₁, s.WarmedH vm₁ → Pre ⟨T.setVm vm₁, locs, cells, slots⟩ argsL.toArray) :
    (∃ (v : Option Value) (vm₁ : Vm) (B : Pt), s.WarmedH vm₁ ∧ Stand p l e R s m args below meth c B.U B.locs B.cells B.slots ∧ Post ⟨T.setVm vm₁, locs, cells, slots⟩ argsL.toArray v B ∧
      ∀ target, Steps p.tables e below (B.U.setTop { g with pc := g.pc + 3, stack := v.toList ++ rest }) target → Steps p.tables e below (T.setTop g) target) ∨
    (∃ (q : Addr) (vm₁ : Vm) (B : Pt), s.WarmedH vm₁ ∧ Stand p l e R s m args below meth c B.U B.locs B.cells B.slots ∧ PostX ⟨T.setVm vm₁, locs, cells, slots⟩ argsL.toArray q B ∧
      Steps p.tables e below (T.setTop g) ((B.U.setTop { g with stack := rest }).pushFrame (.throwing q))) := by
  obtain ⟨mk, methM, cM, hnamed, hmethM, -, -, -, -, -, -, hsigM⟩ := Cond.codeWith_spec hcode
  have hstatic : methM.isStatic = true := Cond.static_spec hnamed hmethM hstat
  obtain ⟨kP, hkP, -⟩ := className_of_methodNamed hnamed
  have hinitP : kP.init = .initialized := Cond.initialized_spec (findClass_of_methodNamed hnamed) hkP hinit
  obtain ⟨vm₁, X₁, hstep₁⟩ := X.invokestatic hexec hown hlink hnamed hmethM hstatic hkP hinitP hy (g := g) hg (argsL := argsL) (rest := rest) (hlen _ hsigM) hstack hdg
  rcases hK m meth c ⟨T.setVm vm₁, locs, cells, slots⟩ { g with stack := rest } (.invokestatic index) mk argsL.toArray X₁ hg hsize hdg hW (X₁.named hnamed) (hpre vm₁ X₁.warmed) with ⟨v, B, X', hpost, hsteps⟩ | ⟨q, B, X', hpost, hsteps⟩
  · exact Or.inl ⟨v, vm₁, B, X₁.warmed, X', hpost, fun target h => hstep₁ _ fun acts => by rw [doInvoke_state]; exact hsteps.trans h⟩
  · exact Or.inr ⟨q, vm₁, B, X₁.warmed, X', hpost, hstep₁ _ fun acts => by rw [doInvoke_state]; exact hsteps⟩
theorem vx_callVW (X : Stand p l e R s m args below meth c T locs cells slots) (hexec : p.tables.exec = Jvm.exec) {own C : String} {index : Nat} {y : MethodName} {bytes : ByteArray} {maxL : Nat} {ret : Option FieldType} {hh : List (Nat × Nat × Nat × Nat)}
    (hown : s.vm.findClass own = some m.cls) (hlink : (Cond.methodLink own index y).before args s = true) (hinst : (Cond.instanceMethod y).before args s = true) (hsel : (Cond.selects C y y).before args s = true)
    (hcode : (Cond.codeWith y bytes maxL ret hh).before args s = true) (hy : y.cls ≠ "java/lang/invoke/MethodHandle" ∧ y.cls ≠ "java/lang/invoke/VarHandle")
    {W9 : Nat} {Pre : Pt → Array Value → Prop} {Post : Pt → Array Value → Option Value → Pt → Prop} (hK : Back l R p e below s args y 3 W9 Pre Post)
    {b : Addr} {cellB : Cell} (hcell : T.heap[b]? = some cellB) (hobj : cellB.vm.isStatics = false) (hcls : s.vm.findClass C = some cellB.cls)
    {g : JFrame} (hg : g.method = m) (hsize : g.locals.size = c.maxLocals) {argsL rest : List Value} (hlen : ∀ sig, parseMethodDescriptor y.desc = some sig → argsL.length = sig.parameters.length)
    (hstack : g.stack = argsL.reverse ++ .ref b :: rest) (hW : 2 * g.monitorRoom + (rest.map fun v => v.category).sum ≤ W9) (hdg : decode c.code g.pc = .ok (.invokevirtual index, 3))
    (hpre : ∀ vm₁, s.WarmedH vm₁ → Pre ⟨T.setVm vm₁, locs, cells, slots⟩ (Value.ref b :: argsL).toArray) :
    ∃ (v : Option Value) (vm₁ : Vm) (B : Pt), s.WarmedH vm₁ ∧ Stand p l e R s m args below meth c B.U B.locs B.cells B.slots ∧ Post ⟨T.setVm vm₁, locs, cells, slots⟩ (Value.ref b :: argsL).toArray v B ∧
      ∀ target, Steps p.tables e below (B.U.setTop { g with pc := g.pc + 3, stack := v.toList ++ rest }) target → Steps p.tables e below (T.setTop g) target := by
  obtain ⟨mk, methM, hnamed, hmethM, hstM, habM⟩ := Cond.instanceMethod_spec hinst
  obtain ⟨m8, methM', cM, hn8, hmethM', -, -, -, -, -, -, hsigM⟩ := Cond.codeWith_spec hcode
  cases Option.some.inj (hn8.symm.trans hnamed)
  cases hmethM.symm.trans hmethM'
  obtain ⟨c2, r2, m2, q1, q2, q3, q4, kP, hkP, hkPi⟩ := Cond.selects_spec hsel
  cases hcls.symm.trans q1
  cases (State.methodFound?_of_named hnamed hy).symm.trans q2
  cases hnamed.symm.trans q3
  have hselP : selectMethod e.platform s.vm cellB.cls mk = .method mk := by rw [Launch.admits_selectMethod X.admits]; exact q4
  obtain ⟨vm₁, X₁, hstep₁⟩ := X.invokevirtual hexec hown hlink hnamed hmethM hstM hkP hkPi hy (a := b) (cell := cellB) hcell
    (fun z h => by rw [h] at hobj; cases hobj) hselP hmethM habM hkP hkPi (g := g) hg (argsL := argsL) (rest := rest) (hlen _ hsigM) hstack hdg
  obtain ⟨v, B, X', hpost, hsteps⟩ := hK m meth c ⟨T.setVm vm₁, locs, cells, slots⟩ { g with stack := rest } (.invokevirtual index) mk (Value.ref b :: argsL).toArray X₁ hg hsize hdg hW (X₁.named hnamed) (hpre vm₁ X₁.warmed)
  exact ⟨v, vm₁, B, X₁.warmed, X', hpost, fun target h => hstep₁ _ fun acts => by rw [doInvoke_state]; exact hsteps.trans h⟩
abbrev vx_CVW (R : Room) (s : State) (args : Array Value) (own C : String) (index : Nat) (y : MethodName) (bytes : ByteArray) (maxL : Nat) (ret : Option FieldType) (hh : List (Nat × Nat × Nat × Nat)) (ws : List Cond) (rm : Room) (mc ms n : Nat) : Prop :=
  (rm.cells = mc ∧ rm.slots = ms ∧ rm.frames + 1 ≤ R.frames ∧ 8 + (maxL + 11) + rm.locals ≤ R.locals ∧ (∀ w ∈ ws, ∀ (a' : Array Value) (U : State), s.WarmedH U.vm → w.before a' U = true) ∧ Cond.codeWith y bytes maxL ret hh ∈ ws) ∧
  (Cond.codeWith y bytes maxL ret hh).before args s = true ∧ (Cond.initialized y.cls).before args s = true ∧ (y.cls ≠ "java/lang/invoke/MethodHandle" ∧ y.cls ≠ "java/lang/invoke/VarHandle") ∧
  (∀ sig, parseMethodDescriptor y.desc = some sig → n = sig.parameters.length) ∧ (Cond.methodLink own index y).before args s = true ∧ (Cond.instanceMethod y).before args s = true ∧ (Cond.selects C y y).before args s = true
theorem vx_cwVW {own C : String} {index maxL mc ms : Nat} {y : MethodName} {bytes : ByteArray} {ret : Option FieldType} {hh : List (Nat × Nat × Nat × Nat)} {Ts ws ws' : List Cond} {rm : Room} (n : Nat) (ht : ∀ w ∈ Ts, w.before args s = true) (hT : GoodIn Ts (wsV own index C y ws)) (hw : ws = Cond.codeWith y bytes maxL ret hh :: ws') (hrc : rm.cells = mc) (hrs : rm.slots = ms)
    (hd : y.cls = C ∧ y.cls ≠ "java/lang/invoke/MethodHandle" ∧ y.cls ≠ "java/lang/invoke/VarHandle" ∧ (parseMethodDescriptor y.desc).map (fun d => d.parameters.length) = some n) (hR : rm.frames + 1 ≤ R.frames ∧ 8 + (maxL + 11) + rm.locals ≤ R.locals) :
    vx_CVW R s args own C index y bytes maxL ret hh ws rm mc ms n := by
  obtain ⟨hC, hd⟩ := hd
  subst hC
  have ok : ∀ w ∈ wsV own index y.cls y ws, w.before args s = true := fun w h => ht w (hT w h).1
  have hG : GoodIn Ts ws := fun w h => hT w (by unfold wsV; exact List.mem_append_right _ h)
  have hc : Cond.codeWith y bytes maxL ret hh ∈ ws := by rw [hw]; exact List.mem_cons_self
  refine ⟨⟨hrc, hrs, hR.1, hR.2, pay_in ht hG, hc⟩, ht _ (hG _ hc).1, ok _ (by simp [wsV]), ⟨hd.1, hd.2.1⟩, fun sig h => ?_, ok _ (by simp [wsV]), ok _ (by simp [wsV]), ok _ (by simp [wsV])⟩
  have h2 := hd.2.2
  rw [h] at h2
  exact (Option.some.inj h2).symm
theorem vx_runVW {y : MethodName} {bytes cc : ByteArray} {maxL nL mc ms n index : Nat} {ret : Option FieldType} {hh : List (Nat × Nat × Nat × Nat)} {ws : List Cond} {rm : Room} {Pc : Array Value → State → Prop} {Qc : Array Value → State → Outcome → State → Prop} {free : Addr → Prop} {Ts : List Cond} {own C : String} {b : Addr} {As rest : List Value} {g : JFrame}
    (S : CallFix p m c cc nL s args Ts own) (hM : Met l y ws rm Pc Qc mc ms free) (cw : vx_CVW R s args own C index y bytes maxL ret hh ws rm mc ms n) (hp : PreV s H C b Pc As)
    (hg : g.method = m) (hn : As.length = n) (hsize : g.locals.size = nL) (hstack : g.stack = As.reverse ++ .ref b :: rest) (hW : 2 * g.monitorRoom + (rest.map fun v => v.category).sum ≤ 8) (hdg : decode cc g.pc = .ok (.invokevirtual index, 3)) (hf : cells + mc ≤ R.cells ∧ slots + ms ≤ R.slots) :
    va_Run p l e R s m args below meth c H locs cells slots mc ms g rest (Qc (Value.ref b :: As).toArray) free := by
  obtain ⟨⟨hrc, hrs, hfr, hlo, hws, hcw⟩, hcode, hini, hy, hlen, hl, hin, hse⟩ := cw
  have hK : Back l R p e below s args y 3 8 (PreOf R mc ms Pc) (PostOf Qc mc ms free) := va_backW (hh := hh) (bytes := bytes) (maxL := maxL) (ret := ret) hM hp.1 hrc hrs hfr hlo hws hcw (fun a' U hW => word_at hW (Or.inl (by first | rfl | simp [Cond.onTables, Cond.keeps, Cond.steady])) hini)
  obtain ⟨hx, hb, hml, ho, -⟩ := S
  obtain ⟨-, ⟨cellB, hcB, hoB, hclB⟩, hPc⟩ := hp
  intro T hT X
  obtain ⟨v, vm₁, ⟨U', l2, c2, s2⟩, hW₁, X', ⟨g', mk, t, L, e1, e2, hq, h1, hL, h2, h3⟩, st⟩ := vx_callVW X hx (C := C) (hh := hh) (bytes := bytes) (maxL := maxL) (ret := ret) ho hl hin hse hcode hy hK (by rw [hT]; exact hcB) hoB hclB hg (hsize.trans hml.symm) (argsL := As) (rest := rest) (fun sig h => hn.trans (hlen sig h)) hstack hW (by rw [hb]; exact hdg)
    (fun vm₁ hW₁ => ⟨hf.1, hf.2, hPc (T.setVm vm₁) hT hW₁⟩)
  dsimp only [Pt.U, Pt.locs, Pt.cells, Pt.slots] at X' e1 e2 h1 h2 h3 st
  subst h1; subst h2; subst h3
  exact ⟨v, (T.setVm vm₁).calling g' mk (Value.ref b :: As).toArray, t, U', L, hT, X', hL, e1, e2, hq, st⟩
section
variable {y : MethodName} {bytes cc : ByteArray} {maxL nL mc ms n index : Nat} {ret : Option FieldType} {ws : List Cond} {rm : Room} {Pc : Array Value → State → Prop} {Qc : Array Value → State → Outcome → State → Prop} {XC : String → State → State → Prop} {free : Addr → Prop} {Ts : List Cond} {own C : String} {b : Addr} {As rest : List Value} {g : JFrame}
theorem vx_runVX {hh : List (Nat × Nat × Nat × Nat)} (S : CallFix p m c cc nL s args Ts own) (hM : vx_Met l y ws rm Pc Qc XC mc ms free) (cw : vx_CVW R s args own C index y bytes maxL ret hh ws rm mc ms n) (hp : PreV s H C b Pc As)
    (hg : g.method = m) (hn : As.length = n) (hsize : g.locals.size = nL) (hstack : g.stack = As.reverse ++ .ref b :: rest) (hW : 2 * g.monitorRoom + (rest.map fun v => v.category).sum ≤ 8) (hdg : decode cc g.pc = .ok (.invokevirtual index, 3)) (hf : cells + mc ≤ R.cells ∧ slots + ms ≤ R.slots) :
    vx_Run p l e R s m args below meth c H locs cells slots mc ms g rest (Qc (Value.ref b :: As).toArray) XC free := by
  obtain ⟨⟨hrc, hrs, hfr, hlo, hws, hcw⟩, hcode, hini, hy, hlen, hl, hin, hse⟩ := cw
  have hK : vx_Back l R p e below s args y 3 8 (PreOf R mc ms Pc) (PostOf Qc mc ms free) (vx_Post XC mc ms free) := vx_backW (hh := hh) (bytes := bytes) (maxL := maxL) (ret := ret) hM hp.1 hrc hrs hfr hlo hws hcw (fun a' U hW => word_at hW (Or.inl (by first | rfl | simp [Cond.onTables, Cond.keeps, Cond.steady])) hini)
  obtain ⟨hx, hb, hml, ho, -⟩ := S
  obtain ⟨-, ⟨cellB, hcB, hoB, hclB⟩, hPc⟩ := hp
  intro T hT X
  rcases vx_callVX X hx (C := C) (hh := hh) (bytes := bytes) (maxL := maxL) (ret := ret) ho hl hin hse hcode hy hK (by rw [hT]; exact hcB) hoB hclB hg (hsize.trans hml.symm) (argsL := As) (rest := rest) (fun sig h => hn.trans (hlen sig h)) hstack hW (by rw [hb]; exact hdg)
    (fun vm₁ hW₁ => ⟨hf.1, hf.2, hPc (T.setVm vm₁) hT hW₁⟩) with ⟨v, vm₁, ⟨U', l2, c2, s2⟩, hW₁, X', ⟨g', mk, t, L, e1, e2, hq, h1, hL, h2, h3⟩, st⟩ | ⟨q, vm₁, ⟨U', l2, c2, s2⟩, hW₁, X', ⟨g', mk, t, L, E, ce, e1, e2, hq, hce, hcv, hcl, h1, hL, h2, h3⟩, st⟩
  · dsimp only [Pt.U, Pt.locs, Pt.cells, Pt.slots] at X' e1 e2 h1 h2 h3 st
    subst h1; subst h2; subst h3
    exact Or.inl ⟨v, (T.setVm vm₁).calling g' mk (Value.ref b :: As).toArray, t, U', L, hT, X', hL, e1, e2, hq, st⟩
  · dsimp only [Pt.U, Pt.locs, Pt.cells, Pt.slots] at X' e1 e2 h1 h2 h3 st hcl
    subst h1; subst h2; subst h3
    exact Or.inr ⟨q, (T.setVm vm₁).calling g' mk (Value.ref b :: As).toArray, t, U', L, E, ce, hT, X', hL, e1, e2, hq, hce, hcv, vx_cls hW₁ hcl, st⟩
theorem vx_runSX {hh : List (Nat × Nat × Nat × Nat)} (S : CallFix p m c cc nL s args Ts own) (hM : vx_Met l y ws rm Pc Qc XC mc ms free) (cw : vx_CSW R s args own index y bytes maxL ret hh ws rm mc ms n) (hp : PreS s H Pc As)
    (hg : g.method = m) (hn : As.length = n) (hsize : g.locals.size = nL) (hstack : g.stack = As.reverse ++ rest) (hW : 2 * g.monitorRoom + (rest.map fun v => v.category).sum ≤ 8) (hdg : decode cc g.pc = .ok (.invokestatic index, 3)) (hf : cells + mc ≤ R.cells ∧ slots + ms ≤ R.slots) :
    vx_Run p l e R s m args below meth c H locs cells slots mc ms g rest (Qc As.toArray) XC free := by
  obtain ⟨⟨hrc, hrs, hfr, hlo, hws, hcw⟩, hcode, hini, hy, hlen, hl, hstt⟩ := cw
  have hK : vx_Back l R p e below s args y 3 8 (PreOf R mc ms Pc) (PostOf Qc mc ms free) (vx_Post XC mc ms free) := vx_backW (hh := hh) (bytes := bytes) (maxL := maxL) (ret := ret) hM hp.1 hrc hrs hfr hlo hws hcw (fun a' U hW => word_at hW (Or.inl (by first | rfl | simp [Cond.onTables, Cond.keeps, Cond.steady])) hini)
  obtain ⟨hx, hb, hml, ho, -⟩ := S
  intro T hT X
  rcases vx_callSX X hx (hh := hh) (bytes := bytes) (maxL := maxL) (ret := ret) ho hl hstt hini hcode hy hK hg (hsize.trans hml.symm) (argsL := As) (rest := rest) (fun sig h => hn.trans (hlen sig h)) hstack hW (by rw [hb]; exact hdg)
    (fun vm₁ hW₁ => ⟨hf.1, hf.2, hp.2 (T.setVm vm₁) hT hW₁⟩) with ⟨v, vm₁, ⟨U', l2, c2, s2⟩, hW₁, X', ⟨g', mk, t, L, e1, e2, hq, h1, hL, h2, h3⟩, st⟩ | ⟨q, vm₁, ⟨U', l2, c2, s2⟩, hW₁, X', ⟨g', mk, t, L, E, ce, e1, e2, hq, hce, hcv, hcl, h1, hL, h2, h3⟩, st⟩
  · dsimp only [Pt.U, Pt.locs, Pt.cells, Pt.slots] at X' e1 e2 h1 h2 h3 st
    subst h1; subst h2; subst h3
    exact Or.inl ⟨v, (T.setVm vm₁).calling g' mk As.toArray, t, U', L, hT, X', hL, e1, e2, hq, st⟩
  · dsimp only [Pt.U, Pt.locs, Pt.cells, Pt.slots] at X' e1 e2 h1 h2 h3 st hcl
    subst h1; subst h2; subst h3
    exact Or.inr ⟨q, (T.setVm vm₁).calling g' mk As.toArray, t, U', L, E, ce, hT, X', hL, e1, e2, hq, hce, hcv, vx_cls hW₁ hcl, st⟩
end
end VXH
theorem vx_ofWH {l : Launch} {y : MethodName} {ws ws' : List Cond} {rm : Room} {Pc : Array Value → State → Prop} {Qc : Array Value → State → Outcome → State → Prop} {XC : String → State → State → Prop} {mc ms : Nat} {free : Addr → Prop} {cc : ByteArray} {maxL : Nat} {ret : Option FieldType} {hh : List (Nat × Nat × Nat × Nat)}
    (hy : plainName y.cls = true) (hw : ws = Cond.codeWith y cc maxL ret hh :: ws')
    (body : ∀ p e s m args below meth c s₁, BodyLoose p l y (headSpec ws rm) cc maxL ret e s m args below meth c s₁ → c.maxLocals = maxL → Pc args s →
      W p l e (headSpec ws rm).room s m args below meth c s.heap [] 0 0 (vx_MQ below Qc XC args s mc ms free) (entryFrame m args maxL)) : vx_Met l y ws rm Pc Qc XC mc ms free := by
  refine MetFree.of_bodyS (code := cc) (maxLocals := maxL) (ret := ret) hy ?_ ?_
  · intro args s m h hn
    obtain ⟨m9, meth, c, hn9, h1, h2, h3, h4, -, h5, h6, -⟩ := Cond.codeWith_spec (atoms_spec (ws := ws) h _ (by rw [hw]; exact List.mem_cons_self))
    cases hn.symm.trans hn9
    exact ⟨meth, c, h1, h2, h3, h4, h5, h6⟩
  · intro p e s m args below meth c s₁ B hml hP _
    have hh0 : s₁.heap = s.heap := by rw [B.state]; rfl
    obtain ⟨t, a1, o, b1, b2, b3⟩ := body p e s m args below meth c s₁ B hml hP s₁ hh0 (Stand.of_body B)
    exact ⟨t, o, a1, b1, b2, b3⟩
/-! ===== END ===== -/
end
section
def RX0 : String := "RuinViews$Moon"
def TX0 : u_T := fun k => match k with
  | _ => ("", "", "", false)
def tyX0 : Nat → FieldType := fun k => match k with
  | _ => .int
abbrev wsX00 : List Cond := u_ws RX0 TX0 0
theorem nmX0 : ∀ a, a < 0 → ∀ b, b < 0 → a ≠ b → (TX0 a).2.1 ≠ (TX0 b).2.1 := by decide +kernel
theorem tyX0_ok : ∀ k, k < 0 → parseFieldDescriptor (TX0 k).2.2.1 = some (tyX0 k) := by decide +kernel
abbrev cX0_phaseOn : ByteArray := prog_2_method_2_code
def yX0_phaseOn : MethodName := ⟨RX0, "phaseOn", "(I)I"⟩
abbrev cX0_brightnessOn : ByteArray := prog_2_method_3_code
def yX0_brightnessOn : MethodName := ⟨RX0, "brightnessOn", "(I)I"⟩
abbrev cX0_daysUntilFullFrom : ByteArray := prog_2_method_4_code
def yX0_daysUntilFullFrom : MethodName := ⟨RX0, "daysUntilFullFrom", "(I)I"⟩
def RX1 : String := "RuinViews$Park"
def TX1 : u_T := fun k => match k with
  | 0 => ("RuinViews$Park", "ruins", "LRuinViews$Ruins;", true)
  | 1 => ("RuinViews$Park", "tickets", "LRuinViews$Tickets;", true)
  | 2 => ("RuinViews$Park", "day", "I", false)
  | 3 => ("RuinViews$Park", "guests", "I", false)
  | _ => ("RuinViews$Park", "purse", "I", false)
def tyX1 : Nat → FieldType := fun k => match k with
  | 0 => .object "RuinViews$Ruins"
  | 1 => .object "RuinViews$Tickets"
  | 2 => .int
  | 3 => .int
  | _ => .int
abbrev wsX10 : List Cond := u_ws RX1 TX1 5
theorem nmX1 : ∀ a, a < 5 → ∀ b, b < 5 → a ≠ b → (TX1 a).2.1 ≠ (TX1 b).2.1 := by decide +kernel
theorem tyX1_ok : ∀ k, k < 5 → parseFieldDescriptor (TX1 k).2.2.1 = some (tyX1 k) := by decide +kernel
abbrev cX1_init : ByteArray := prog_3_method_1_code
def yX1_init : MethodName := ⟨RX1, "<init>", "()V"⟩
abbrev cX1_rankRuins : ByteArray := prog_3_method_3_code
def yX1_rankRuins : MethodName := ⟨RX1, "rankRuins", "()V"⟩
abbrev cX1_guestsAtRank : ByteArray := prog_3_method_4_code
def yX1_guestsAtRank : MethodName := ⟨RX1, "guestsAtRank", "(I)I"⟩
abbrev cX1_takings : ByteArray := prog_3_method_5_code
def yX1_takings : MethodName := ⟨RX1, "takings", "()I"⟩
abbrev cX1_passDays : ByteArray := prog_3_method_6_code
def yX1_passDays : MethodName := ⟨RX1, "passDays", "(I)V"⟩
def RX2 : String := "RuinViews$Ruins"
def TX2 : u_T := fun k => match k with
  | 0 => ("RuinViews$Ruins", "walls", "[I", true)
  | 1 => ("RuinViews$Ruins", "ivy", "[I", true)
  | 2 => ("RuinViews$Ruins", "ghosts", "[I", true)
  | 3 => ("RuinViews$Ruins", "price", "[I", true)
  | 4 => ("RuinViews$Ruins", "merits", "[I", true)
  | 5 => ("RuinViews$Ruins", "ranks", "[I", true)
  | _ => ("RuinViews$Ruins", "count", "I", false)
def tyX2 : Nat → FieldType := fun k => match k with
  | 0 => .array .int
  | 1 => .array .int
  | 2 => .array .int
  | 3 => .array .int
  | 4 => .array .int
  | 5 => .array .int
  | _ => .int
abbrev wsX20 : List Cond := u_ws RX2 TX2 7
theorem nmX2 : ∀ a, a < 7 → ∀ b, b < 7 → a ≠ b → (TX2 a).2.1 ≠ (TX2 b).2.1 := by decide +kernel
theorem tyX2_ok : ∀ k, k < 7 → parseFieldDescriptor (TX2 k).2.2.1 = some (tyX2 k) := by decide +kernel
abbrev cX2_init : ByteArray := prog_4_method_1_code
def yX2_init : MethodName := ⟨RX2, "<init>", "()V"⟩
abbrev cX2_has : ByteArray := prog_4_method_2_code
def yX2_has : MethodName := ⟨RX2, "has", "(I)Z"⟩
abbrev cX2_build : ByteArray := prog_4_method_3_code
def yX2_build : MethodName := ⟨RX2, "build", "(IIII)I"⟩
abbrev cX2_stands : ByteArray := prog_4_method_5_code
def yX2_stands : MethodName := ⟨RX2, "stands", "(I)Z"⟩
abbrev cX2_countStanding : ByteArray := prog_4_method_6_code
def yX2_countStanding : MethodName := ⟨RX2, "countStanding", "()I"⟩
abbrev cX2_cut : ByteArray := prog_4_method_7_code
def yX2_cut : MethodName := ⟨RX2, "cut", "(II)V"⟩
abbrev cX2_grade : ByteArray := prog_4_method_8_code
def yX2_grade : MethodName := ⟨RX2, "grade", "(I)I"⟩
abbrev cX2_view : ByteArray := prog_4_method_9_code
def yX2_view : MethodName := ⟨RX2, "view", "(II)I"⟩
abbrev cX2_sumViews : ByteArray := prog_4_method_10_code
def yX2_sumViews : MethodName := ⟨RX2, "sumViews", "(I)I"⟩
abbrev cX2_merit : ByteArray := prog_4_method_11_code
def yX2_merit : MethodName := ⟨RX2, "merit", "(II)I"⟩
abbrev cX2_rankAll : ByteArray := prog_4_method_12_code
def yX2_rankAll : MethodName := ⟨RX2, "rankAll", "(I)V"⟩
abbrev cX2_countAbove : ByteArray := prog_4_method_13_code
def yX2_countAbove : MethodName := ⟨RX2, "countAbove", "(I)I"⟩
abbrev cX2_findRank : ByteArray := prog_4_method_14_code
def yX2_findRank : MethodName := ⟨RX2, "findRank", "(I)I"⟩
abbrev cX2_ageAll : ByteArray := prog_4_method_16_code
def yX2_ageAll : MethodName := ⟨RX2, "ageAll", "(I)V"⟩
abbrev cX2_age : ByteArray := prog_4_method_18_code
def yX2_age : MethodName := ⟨RX2, "age", "(II)V"⟩
abbrev cX2_growIvy : ByteArray := prog_4_method_19_code
def yX2_growIvy : MethodName := ⟨RX2, "growIvy", "(II)V"⟩
abbrev cX2_moveGhosts : ByteArray := prog_4_method_20_code
def yX2_moveGhosts : MethodName := ⟨RX2, "moveGhosts", "(II)V"⟩
def RX3 : String := "RuinViews$Tickets"
def TX3 : u_T := fun k => match k with
  | 0 => ("RuinViews$Tickets", "forRuin", "[I", true)
  | 1 => ("RuinViews$Tickets", "forDay", "[I", true)
  | 2 => ("RuinViews$Tickets", "paid", "[I", true)
  | 3 => ("RuinViews$Tickets", "fate", "[I", true)
  | _ => ("RuinViews$Tickets", "count", "I", false)
def tyX3 : Nat → FieldType := fun k => match k with
  | 0 => .array .int
  | 1 => .array .int
  | 2 => .array .int
  | 3 => .array .int
  | _ => .int
abbrev wsX30 : List Cond := u_ws RX3 TX3 5
theorem nmX3 : ∀ a, a < 5 → ∀ b, b < 5 → a ≠ b → (TX3 a).2.1 ≠ (TX3 b).2.1 := by decide +kernel
theorem tyX3_ok : ∀ k, k < 5 → parseFieldDescriptor (TX3 k).2.2.1 = some (tyX3 k) := by decide +kernel
abbrev cX3_init : ByteArray := prog_5_method_1_code
def yX3_init : MethodName := ⟨RX3, "<init>", "()V"⟩
abbrev cX3_has : ByteArray := prog_5_method_2_code
def yX3_has : MethodName := ⟨RX3, "has", "(I)Z"⟩
abbrev cX3_issue : ByteArray := prog_5_method_3_code
def yX3_issue : MethodName := ⟨RX3, "issue", "(III)I"⟩
abbrev cX3_settle : ByteArray := prog_5_method_5_code
def yX3_settle : MethodName := ⟨RX3, "settle", "(ILRuinViews$Ruins;)I"⟩
def RX4 : String := "RuinViews"
def TX4 : u_T := fun k => match k with
  | 0 => ("RuinViews", "now", "LRuinViews$Park;", true)
  | _ => ("RuinViews", "ahead", "LRuinViews$Park;", true)
def tyX4 : Nat → FieldType := fun k => match k with
  | 0 => .object "RuinViews$Park"
  | _ => .object "RuinViews$Park"
abbrev wsX40 : List Cond := u_ws RX4 TX4 2
theorem nmX4 : ∀ a, a < 2 → ∀ b, b < 2 → a ≠ b → (TX4 a).2.1 ≠ (TX4 b).2.1 := by decide +kernel
theorem tyX4_ok : ∀ k, k < 2 → parseFieldDescriptor (TX4 k).2.2.1 = some (tyX4 k) := by decide +kernel
abbrev cX4_init : ByteArray := prog_1_method_1_code
def yX4_init : MethodName := ⟨RX4, "<init>", "()V"⟩
abbrev cX4_addRuin : ByteArray := prog_1_method_2_code
def yX4_addRuin : MethodName := ⟨RX4, "addRuin", "(IIII)I"⟩
abbrev cX4_cutIvy : ByteArray := prog_1_method_3_code
def yX4_cutIvy : MethodName := ⟨RX4, "cutIvy", "(II)I"⟩
abbrev cX4_prop : ByteArray := prog_1_method_4_code
def yX4_prop : MethodName := ⟨RX4, "prop", "(I)I"⟩
abbrev cX4_setPrice : ByteArray := prog_1_method_5_code
def yX4_setPrice : MethodName := ⟨RX4, "setPrice", "(II)I"⟩
abbrev cX4_setGuests : ByteArray := prog_1_method_6_code
def yX4_setGuests : MethodName := ⟨RX4, "setGuests", "(I)I"⟩
abbrev cX4_sellTicket : ByteArray := prog_1_method_7_code
def yX4_sellTicket : MethodName := ⟨RX4, "sellTicket", "(II)I"⟩
abbrev cX4_pass : ByteArray := prog_1_method_8_code
def yX4_pass : MethodName := ⟨RX4, "pass", "(I)I"⟩
abbrev cX4_day : ByteArray := prog_1_method_9_code
def yX4_day : MethodName := ⟨RX4, "day", "()I"⟩
abbrev cX4_phase : ByteArray := prog_1_method_10_code
def yX4_phase : MethodName := ⟨RX4, "phase", "()I"⟩
abbrev cX4_brightness : ByteArray := prog_1_method_11_code
def yX4_brightness : MethodName := ⟨RX4, "brightness", "()I"⟩
abbrev cX4_daysUntilFullMoon : ByteArray := prog_1_method_12_code
def yX4_daysUntilFullMoon : MethodName := ⟨RX4, "daysUntilFullMoon", "()I"⟩
abbrev cX4_ruins : ByteArray := prog_1_method_13_code
def yX4_ruins : MethodName := ⟨RX4, "ruins", "()I"⟩
abbrev cX4_standing : ByteArray := prog_1_method_14_code
def yX4_standing : MethodName := ⟨RX4, "standing", "()I"⟩
abbrev cX4_purse : ByteArray := prog_1_method_15_code
def yX4_purse : MethodName := ⟨RX4, "purse", "()I"⟩
abbrev cX4_wallsOf : ByteArray := prog_1_method_16_code
def yX4_wallsOf : MethodName := ⟨RX4, "wallsOf", "(I)I"⟩
abbrev cX4_ivyOf : ByteArray := prog_1_method_17_code
def yX4_ivyOf : MethodName := ⟨RX4, "ivyOf", "(I)I"⟩
abbrev cX4_gradeOf : ByteArray := prog_1_method_18_code
def yX4_gradeOf : MethodName := ⟨RX4, "gradeOf", "(I)I"⟩
abbrev cX4_ghostsOf : ByteArray := prog_1_method_19_code
def yX4_ghostsOf : MethodName := ⟨RX4, "ghostsOf", "(I)I"⟩
abbrev cX4_hasCollapsed : ByteArray := prog_1_method_20_code
def yX4_hasCollapsed : MethodName := ⟨RX4, "hasCollapsed", "(I)Z"⟩
abbrev cX4_viewOf : ByteArray := prog_1_method_21_code
def yX4_viewOf : MethodName := ⟨RX4, "viewOf", "(I)I"⟩
abbrev cX4_rankOf : ByteArray := prog_1_method_22_code
def yX4_rankOf : MethodName := ⟨RX4, "rankOf", "(I)I"⟩
abbrev cX4_ruinAt : ByteArray := prog_1_method_23_code
def yX4_ruinAt : MethodName := ⟨RX4, "ruinAt", "(I)I"⟩
abbrev cX4_guestsOf : ByteArray := prog_1_method_24_code
def yX4_guestsOf : MethodName := ⟨RX4, "guestsOf", "(I)I"⟩
abbrev cX4_tickets : ByteArray := prog_1_method_25_code
def yX4_tickets : MethodName := ⟨RX4, "tickets", "()I"⟩
abbrev cX4_dayOf : ByteArray := prog_1_method_26_code
def yX4_dayOf : MethodName := ⟨RX4, "dayOf", "(I)I"⟩
abbrev cX4_isOpen : ByteArray := prog_1_method_27_code
def yX4_isOpen : MethodName := ⟨RX4, "isOpen", "(I)Z"⟩
abbrev cX4_isPaidBack : ByteArray := prog_1_method_28_code
def yX4_isPaidBack : MethodName := ⟨RX4, "isPaidBack", "(I)Z"⟩
abbrev cX4_meanView : ByteArray := prog_1_method_34_code
def yX4_meanView : MethodName := ⟨RX4, "meanView", "()D"⟩
abbrev cX4_isWithin : ByteArray := prog_1_method_39_code
def yX4_isWithin : MethodName := ⟨RX4, "isWithin", "(III)Z"⟩
abbrev cX4_requireRuin : ByteArray := prog_1_method_40_code
def yX4_requireRuin : MethodName := ⟨RX4, "requireRuin", "(I)V"⟩
abbrev cX4_requireTicket : ByteArray := prog_1_method_41_code
def yX4_requireTicket : MethodName := ⟨RX4, "requireTicket", "(I)V"⟩
abbrev cX4_requireDaysToPass : ByteArray := prog_1_method_42_code
def yX4_requireDaysToPass : MethodName := ⟨RX4, "requireDaysToPass", "(I)V"⟩
def RX5 : String := "RuinViewsLaw$Sim"
def TX5 : u_T := fun k => match k with
  | 0 => ("RuinViewsLaw$Sim", "day", "I", false)
  | 1 => ("RuinViewsLaw$Sim", "guests", "I", false)
  | 2 => ("RuinViewsLaw$Sim", "purse", "I", false)
  | 3 => ("RuinViewsLaw$Sim", "ruins", "[[I", false)
  | _ => ("RuinViewsLaw$Sim", "tickets", "[[I", false)
def tyX5 : Nat → FieldType := fun k => match k with
  | 0 => .int
  | 1 => .int
  | 2 => .int
  | 3 => .array (.array .int)
  | _ => .array (.array .int)
abbrev wsX50 : List Cond := u_ws RX5 TX5 5
theorem nmX5 : ∀ a, a < 5 → ∀ b, b < 5 → a ≠ b → (TX5 a).2.1 ≠ (TX5 b).2.1 := by decide +kernel
theorem tyX5_ok : ∀ k, k < 5 → parseFieldDescriptor (TX5 k).2.2.1 = some (tyX5 k) := by decide +kernel
abbrev cX5_init : ByteArray := prog_7_method_1_code
def yX5_init : MethodName := ⟨RX5, "<init>", "()V"⟩
abbrev cX5_with : ByteArray := prog_7_method_2_code
def yX5_with : MethodName := ⟨RX5, "with", "([[I[I)[[I"⟩
abbrev cX5_moon : ByteArray := prog_7_method_3_code
def yX5_moon : MethodName := ⟨RX5, "moon", "()I"⟩
abbrev cX5_grade : ByteArray := prog_7_method_4_code
def yX5_grade : MethodName := ⟨RX5, "grade", "(I)I"⟩
abbrev cX5_view : ByteArray := prog_7_method_5_code
def yX5_view : MethodName := ⟨RX5, "view", "(II)I"⟩
abbrev cX5_ranked : ByteArray := prog_7_method_6_code
def yX5_ranked : MethodName := ⟨RX5, "ranked", "()[I"⟩
abbrev cX5_pass : ByteArray := prog_7_method_7_code
def yX5_pass : MethodName := ⟨RX5, "pass", "()I"⟩
abbrev cX5_behind : ByteArray := prog_7_method_8_code
def yX5_behind : MethodName := ⟨RX5, "behind", "(I)I"⟩
abbrev cX5_isSame : ByteArray := prog_7_method_10_code
def yX5_isSame : MethodName := ⟨RX5, "isSame", "(LRuinViews;)Z"⟩
def RX6 : String := "RuinViewsModel"
def TX6 : u_T := fun k => match k with
  | _ => ("", "", "", false)
def tyX6 : Nat → FieldType := fun k => match k with
  | _ => .int
abbrev wsX60 : List Cond := u_ws RX6 TX6 0
theorem nmX6 : ∀ a, a < 0 → ∀ b, b < 0 → a ≠ b → (TX6 a).2.1 ≠ (TX6 b).2.1 := by decide +kernel
theorem tyX6_ok : ∀ k, k < 0 → parseFieldDescriptor (TX6 k).2.2.1 = some (tyX6 k) := by decide +kernel
def RJ9 : String := "java/lang/Math"
def TJ9 : u_T := fun k => match k with
  | _ => ("", "", "", false)
def tyJ9 : Nat → FieldType := fun k => match k with
  | _ => .int
abbrev wsJ90 : List Cond := u_ws RJ9 TJ9 0
theorem nmJ9 : ∀ a, a < 0 → ∀ b, b < 0 → a ≠ b → (TJ9 a).2.1 ≠ (TJ9 b).2.1 := by decide +kernel
theorem tyJ9_ok : ∀ k, k < 0 → parseFieldDescriptor (TJ9 k).2.2.1 = some (tyJ9 k) := by decide +kernel
abbrev cJ9_max_7cf53 : ByteArray := prog_13_method_65_code
def yJ9_max_7cf53 : MethodName := ⟨RJ9, "max", "(II)I"⟩
abbrev cJ9_min_7cf53 : ByteArray := prog_13_method_69_code
def yJ9_min_7cf53 : MethodName := ⟨RJ9, "min", "(II)I"⟩
def RJ0 : String := "java/lang/String"
def TJ0 : u_T := fun k => match k with
  | _ => ("", "", "", false)
def tyJ0 : Nat → FieldType := fun k => match k with
  | _ => .int
abbrev wsJ00 : List Cond := u_ws RJ0 TJ0 0
theorem nmJ0 : ∀ a, a < 0 → ∀ b, b < 0 → a ≠ b → (TJ0 a).2.1 ≠ (TJ0 b).2.1 := by decide +kernel
theorem tyJ0_ok : ∀ k, k < 0 → parseFieldDescriptor (TJ0 k).2.2.1 = some (tyJ0 k) := by decide +kernel
def RL : String := "RuinViewsLaw"
abbrev cL_below : ByteArray := method_2_code
def yL_below : MethodName := ⟨RL, "below", "(II)I"⟩
abbrev cL_cell : ByteArray := method_3_code
def yL_cell : MethodName := ⟨RL, "cell", "([II)I"⟩
abbrev cL_act : ByteArray := method_4_code
def yL_act : MethodName := ⟨RL, "act", "(LRuinViews;LRuinViewsLaw$Sim;I)Z"⟩
abbrev cL_build : ByteArray := method_5_code
def yL_build : MethodName := ⟨RL, "build", "(LRuinViews;[I)LRuinViewsLaw$Sim;"⟩
abbrev cL_law : ByteArray := code
def yL_law : MethodName := ⟨RL, "law", "([I)Z"⟩
def wsX0_phaseOn : List Cond := .code yX0_phaseOn cX0_phaseOn 1 (some .int) :: ([])
def wsX0_brightnessOn : List Cond := .code yX0_brightnessOn cX0_brightnessOn 2 (some .int) :: ([.methodLink RX0 9 yX0_phaseOn, .static yX0_phaseOn, .initialized RX0, .code yX0_phaseOn cX0_phaseOn 1 (some .int)])
def wsX0_daysUntilFullFrom : List Cond := .code yX0_daysUntilFullFrom cX0_daysUntilFullFrom 1 (some .int) :: ([.methodLink RX0 9 yX0_phaseOn, .static yX0_phaseOn, .initialized RX0, .code yX0_phaseOn cX0_phaseOn 1 (some .int)])
def wsX2_init : List Cond := .code yX2_init cX2_init 1 none :: ([.methodLink RX2 3 objectInit, .instanceMethod objectInit, .code objectInit ⟨#[0xb1]⟩ 1 none, .arrayClass .int, .fieldLink RX2 9 "RuinViews$Ruins" "walls" "[I", .fieldLink RX2 15 "RuinViews$Ruins" "ivy" "[I", .fieldLink RX2 18 "RuinViews$Ruins" "ghosts" "[I", .fieldLink RX2 21 "RuinViews$Ruins" "price" "[I", .fieldLink RX2 24 "RuinViews$Ruins" "merits" "[I", .fieldLink RX2 27 "RuinViews$Ruins" "ranks" "[I", .fieldLink RX2 30 "RuinViews$Ruins" "count" "I"] ++ wsX20)
def wsX3_init : List Cond := .code yX3_init cX3_init 1 none :: ([.methodLink RX3 3 objectInit, .instanceMethod objectInit, .code objectInit ⟨#[0xb1]⟩ 1 none, .arrayClass .int, .fieldLink RX3 9 "RuinViews$Tickets" "forRuin" "[I", .fieldLink RX3 15 "RuinViews$Tickets" "forDay" "[I", .fieldLink RX3 18 "RuinViews$Tickets" "paid" "[I", .fieldLink RX3 21 "RuinViews$Tickets" "fate" "[I", .fieldLink RX3 24 "RuinViews$Tickets" "count" "I"] ++ wsX30)
def wsX1_init_r1 : List Cond := [Cond.methodLink RX1 3 objectInit, Cond.instanceMethod objectInit, Cond.code objectInit ⟨#[0xb1]⟩ 1 none, Cond.classLink RX1 9 RX2, Cond.instantiable RX2 7, Cond.initialized RX2, Cond.fieldLink RX1 12 "RuinViews$Park" "ruins" "LRuinViews$Ruins;", Cond.classLink RX1 18 RX3, Cond.instantiable RX3 5, Cond.initialized RX3, Cond.fieldLink RX1 21 "RuinViews$Park" "tickets" "LRuinViews$Tickets;", Cond.fieldLink RX1 25 "RuinViews$Park" "day" "I", Cond.fieldLink RX1 29 "RuinViews$Park" "guests" "I", Cond.fieldLink RX1 32 "RuinViews$Park" "purse" "I", Cond.instanceMethod yX2_init, Cond.code yX2_init cX2_init 1 none, Cond.methodLink RX2 3 objectInit, Cond.arrayClass .int, Cond.fieldLink RX2 9 "RuinViews$Ruins" "walls" "[I", Cond.fieldLink RX2 15 "RuinViews$Ruins" "ivy" "[I", Cond.fieldLink RX2 18 "RuinViews$Ruins" "ghosts" "[I", Cond.fieldLink RX2 21 "RuinViews$Ruins" "price" "[I", Cond.fieldLink RX2 24 "RuinViews$Ruins" "merits" "[I", Cond.fieldLink RX2 27 "RuinViews$Ruins" "ranks" "[I"]
def wsX1_init_r2 : List Cond := [Cond.fieldLink RX2 30 "RuinViews$Ruins" "count" "I", Cond.instanceMethod yX3_init, Cond.code yX3_init cX3_init 1 none, Cond.methodLink RX3 3 objectInit, Cond.fieldLink RX3 9 "RuinViews$Tickets" "forRuin" "[I", Cond.fieldLink RX3 15 "RuinViews$Tickets" "forDay" "[I", Cond.fieldLink RX3 18 "RuinViews$Tickets" "paid" "[I", Cond.fieldLink RX3 21 "RuinViews$Tickets" "fate" "[I", Cond.fieldLink RX3 24 "RuinViews$Tickets" "count" "I"]
def wsX1_init : List Cond := .code yX1_init cX1_init 1 none :: ((wsX1_init_r1 ++ wsX1_init_r2) ++ wsX20 ++ wsX10 ++ wsX30)
def wsX2_grade : List Cond := .code yX2_grade cX2_grade 3 (some .int) :: ([.fieldLink RX2 15 "RuinViews$Ruins" "ivy" "[I"] ++ wsX20)
def wsX2_view : List Cond := .code yX2_view cX2_view 3 (some .int) :: ([.fieldLink RX2 9 "RuinViews$Ruins" "walls" "[I", .fieldLink RX2 18 "RuinViews$Ruins" "ghosts" "[I", .methodLink RX2 50 yX2_grade, .instanceMethod yX2_grade, .selects RX2 yX2_grade yX2_grade, .initialized RX2, .code yX2_grade cX2_grade 3 (some .int), .fieldLink RX2 15 "RuinViews$Ruins" "ivy" "[I"] ++ wsX20)
def wsX2_merit : List Cond := .code yX2_merit cX2_merit 4 (some .int) :: ([.fieldLink RX2 9 "RuinViews$Ruins" "walls" "[I", .fieldLink RX2 21 "RuinViews$Ruins" "price" "[I", .methodLink RX2 54 yX2_view, .instanceMethod yX2_view, .selects RX2 yX2_view yX2_view, .initialized RX2, .code yX2_view cX2_view 3 (some .int), .fieldLink RX2 18 "RuinViews$Ruins" "ghosts" "[I", .methodLink RX2 50 yX2_grade, .instanceMethod yX2_grade, .selects RX2 yX2_grade yX2_grade, .code yX2_grade cX2_grade 3 (some .int), .fieldLink RX2 15 "RuinViews$Ruins" "ivy" "[I"] ++ wsX20)
def wsX2_countAbove : List Cond := .code yX2_countAbove cX2_countAbove 4 (some .int) :: ([.fieldLink RX2 30 "RuinViews$Ruins" "count" "I", .fieldLink RX2 24 "RuinViews$Ruins" "merits" "[I"] ++ wsX20)
def wsX2_rankAll : List Cond := .code yX2_rankAll cX2_rankAll 3 none :: ([.fieldLink RX2 30 "RuinViews$Ruins" "count" "I", .fieldLink RX2 24 "RuinViews$Ruins" "merits" "[I", .fieldLink RX2 27 "RuinViews$Ruins" "ranks" "[I", .fieldLink RX2 9 "RuinViews$Ruins" "walls" "[I", .methodLink RX2 57 yX2_merit, .instanceMethod yX2_merit, .selects RX2 yX2_merit yX2_merit, .initialized RX2, .code yX2_merit cX2_merit 4 (some .int), .fieldLink RX2 21 "RuinViews$Ruins" "price" "[I", .methodLink RX2 54 yX2_view, .instanceMethod yX2_view, .selects RX2 yX2_view yX2_view, .code yX2_view cX2_view 3 (some .int), .fieldLink RX2 18 "RuinViews$Ruins" "ghosts" "[I", .methodLink RX2 50 yX2_grade, .instanceMethod yX2_grade, .selects RX2 yX2_grade yX2_grade, .code yX2_grade cX2_grade 3 (some .int), .fieldLink RX2 15 "RuinViews$Ruins" "ivy" "[I", .methodLink RX2 60 yX2_countAbove, .instanceMethod yX2_countAbove, .selects RX2 yX2_countAbove yX2_countAbove, .code yX2_countAbove cX2_countAbove 4 (some .int)] ++ wsX20)
def wsX1_rankRuins_r1 : List Cond := [Cond.fieldLink RX1 12 "RuinViews$Park" "ruins" "LRuinViews$Ruins;", Cond.fieldLink RX1 25 "RuinViews$Park" "day" "I", Cond.methodLink RX1 42 yX0_brightnessOn, Cond.static yX0_brightnessOn, Cond.initialized RX0, Cond.code yX0_brightnessOn cX0_brightnessOn 2 (some .int), Cond.methodLink RX0 9 yX0_phaseOn, Cond.static yX0_phaseOn, Cond.code yX0_phaseOn cX0_phaseOn 1 (some .int), Cond.methodLink RX1 48 yX2_rankAll, Cond.instanceMethod yX2_rankAll, Cond.selects RX2 yX2_rankAll yX2_rankAll, Cond.initialized RX2, Cond.code yX2_rankAll cX2_rankAll 3 none, Cond.fieldLink RX2 30 "RuinViews$Ruins" "count" "I", Cond.fieldLink RX2 24 "RuinViews$Ruins" "merits" "[I", Cond.fieldLink RX2 27 "RuinViews$Ruins" "ranks" "[I", Cond.fieldLink RX2 9 "RuinViews$Ruins" "walls" "[I", Cond.methodLink RX2 57 yX2_merit, Cond.instanceMethod yX2_merit, Cond.selects RX2 yX2_merit yX2_merit, Cond.code yX2_merit cX2_merit 4 (some .int), Cond.fieldLink RX2 21 "RuinViews$Ruins" "price" "[I", Cond.methodLink RX2 54 yX2_view]
def wsX1_rankRuins_r2 : List Cond := [Cond.instanceMethod yX2_view, Cond.selects RX2 yX2_view yX2_view, Cond.code yX2_view cX2_view 3 (some .int), Cond.fieldLink RX2 18 "RuinViews$Ruins" "ghosts" "[I", Cond.methodLink RX2 50 yX2_grade, Cond.instanceMethod yX2_grade, Cond.selects RX2 yX2_grade yX2_grade, Cond.code yX2_grade cX2_grade 3 (some .int), Cond.fieldLink RX2 15 "RuinViews$Ruins" "ivy" "[I", Cond.methodLink RX2 60 yX2_countAbove, Cond.instanceMethod yX2_countAbove, Cond.selects RX2 yX2_countAbove yX2_countAbove, Cond.code yX2_countAbove cX2_countAbove 4 (some .int)]
def wsX1_rankRuins : List Cond := .code yX1_rankRuins cX1_rankRuins 1 none :: ((wsX1_rankRuins_r1 ++ wsX1_rankRuins_r2) ++ wsX10 ++ wsX20)
def wsX1_guestsAtRank : List Cond := .code yX1_guestsAtRank cX1_guestsAtRank 4 (some .int) :: ([.fieldLink RX1 29 "RuinViews$Park" "guests" "I"] ++ wsX10)
def wsX1_takings_r1 : List Cond := [Cond.fieldLink RX1 12 "RuinViews$Park" "ruins" "LRuinViews$Ruins;", Cond.fieldLink RX1 25 "RuinViews$Park" "day" "I", Cond.fieldLink RX1 52 "RuinViews$Ruins" "count" "I", Cond.fieldLink RX1 55 "RuinViews$Ruins" "ranks" "[I", Cond.fieldLink RX1 62 "RuinViews$Ruins" "price" "[I", Cond.methodLink RX1 42 yX0_brightnessOn, Cond.static yX0_brightnessOn, Cond.initialized RX0, Cond.code yX0_brightnessOn cX0_brightnessOn 2 (some .int), Cond.methodLink RX0 9 yX0_phaseOn, Cond.static yX0_phaseOn, Cond.code yX0_phaseOn cX0_phaseOn 1 (some .int), Cond.methodLink RX1 48 yX2_rankAll, Cond.instanceMethod yX2_rankAll, Cond.selects RX2 yX2_rankAll yX2_rankAll, Cond.initialized RX2, Cond.code yX2_rankAll cX2_rankAll 3 none, Cond.fieldLink RX2 30 "RuinViews$Ruins" "count" "I", Cond.fieldLink RX2 24 "RuinViews$Ruins" "merits" "[I", Cond.fieldLink RX2 27 "RuinViews$Ruins" "ranks" "[I", Cond.fieldLink RX2 9 "RuinViews$Ruins" "walls" "[I", Cond.methodLink RX2 57 yX2_merit, Cond.instanceMethod yX2_merit, Cond.selects RX2 yX2_merit yX2_merit]
def wsX1_takings_r2 : List Cond := [Cond.code yX2_merit cX2_merit 4 (some .int), Cond.fieldLink RX2 21 "RuinViews$Ruins" "price" "[I", Cond.methodLink RX2 54 yX2_view, Cond.instanceMethod yX2_view, Cond.selects RX2 yX2_view yX2_view, Cond.code yX2_view cX2_view 3 (some .int), Cond.fieldLink RX2 18 "RuinViews$Ruins" "ghosts" "[I", Cond.methodLink RX2 50 yX2_grade, Cond.instanceMethod yX2_grade, Cond.selects RX2 yX2_grade yX2_grade, Cond.code yX2_grade cX2_grade 3 (some .int), Cond.fieldLink RX2 15 "RuinViews$Ruins" "ivy" "[I", Cond.methodLink RX2 60 yX2_countAbove, Cond.instanceMethod yX2_countAbove, Cond.selects RX2 yX2_countAbove yX2_countAbove, Cond.code yX2_countAbove cX2_countAbove 4 (some .int), Cond.methodLink RX1 59 yX1_guestsAtRank, Cond.instanceMethod yX1_guestsAtRank, Cond.selects RX1 yX1_guestsAtRank yX1_guestsAtRank, Cond.initialized RX1, Cond.code yX1_guestsAtRank cX1_guestsAtRank 4 (some .int), Cond.fieldLink RX1 29 "RuinViews$Park" "guests" "I"]
def wsX1_takings : List Cond := .code yX1_takings cX1_takings 3 (some .int) :: ((wsX1_takings_r1 ++ wsX1_takings_r2) ++ wsX10 ++ wsX20)
def wsX2_has : List Cond := .code yX2_has cX2_has 2 (some .boolean) :: ([.fieldLink RX2 30 "RuinViews$Ruins" "count" "I"] ++ wsX20)
def wsX2_stands : List Cond := .code yX2_stands cX2_stands 2 (some .boolean) :: ([.fieldLink RX2 9 "RuinViews$Ruins" "walls" "[I", .methodLink RX2 40 yX2_has, .instanceMethod yX2_has, .selects RX2 yX2_has yX2_has, .initialized RX2, .code yX2_has cX2_has 2 (some .boolean), .fieldLink RX2 30 "RuinViews$Ruins" "count" "I"] ++ wsX20)
def wsX3_settle : List Cond := .code yX3_settle cX3_settle 5 (some .int) :: ([.fieldLink RX3 24 "RuinViews$Tickets" "count" "I", .fieldLink RX3 21 "RuinViews$Tickets" "fate" "[I", .fieldLink RX3 15 "RuinViews$Tickets" "forDay" "[I", .fieldLink RX3 9 "RuinViews$Tickets" "forRuin" "[I", .fieldLink RX3 18 "RuinViews$Tickets" "paid" "[I", .methodLink RX3 34 yX2_stands, .instanceMethod yX2_stands, .selects RX2 yX2_stands yX2_stands, .initialized RX2, .code yX2_stands cX2_stands 2 (some .boolean), .fieldLink RX2 9 "RuinViews$Ruins" "walls" "[I", .methodLink RX2 40 yX2_has, .instanceMethod yX2_has, .selects RX2 yX2_has yX2_has, .code yX2_has cX2_has 2 (some .boolean), .fieldLink RX2 30 "RuinViews$Ruins" "count" "I"] ++ wsX30 ++ wsX20)
def wsX2_growIvy : List Cond := .code yX2_growIvy cX2_growIvy 3 none :: ([.fieldLink RX2 15 "RuinViews$Ruins" "ivy" "[I", .fieldLink RX2 9 "RuinViews$Ruins" "walls" "[I"] ++ wsX20)
def wsX2_moveGhosts : List Cond := .code yX2_moveGhosts cX2_moveGhosts 4 none :: ([.fieldLink RX2 9 "RuinViews$Ruins" "walls" "[I", .fieldLink RX2 18 "RuinViews$Ruins" "ghosts" "[I", .methodLink RX2 50 yX2_grade, .instanceMethod yX2_grade, .selects RX2 yX2_grade yX2_grade, .initialized RX2, .code yX2_grade cX2_grade 3 (some .int), .fieldLink RX2 15 "RuinViews$Ruins" "ivy" "[I"] ++ wsX20)
def wsX2_age : List Cond := .code yX2_age cX2_age 3 none :: ([.fieldLink RX2 9 "RuinViews$Ruins" "walls" "[I", .methodLink RX2 67 yX2_growIvy, .instanceMethod yX2_growIvy, .selects RX2 yX2_growIvy yX2_growIvy, .initialized RX2, .code yX2_growIvy cX2_growIvy 3 none, .fieldLink RX2 15 "RuinViews$Ruins" "ivy" "[I", .methodLink RX2 70 yX0_brightnessOn, .static yX0_brightnessOn, .initialized RX0, .code yX0_brightnessOn cX0_brightnessOn 2 (some .int), .methodLink RX0 9 yX0_phaseOn, .static yX0_phaseOn, .code yX0_phaseOn cX0_phaseOn 1 (some .int), .methodLink RX2 75 yX2_moveGhosts, .instanceMethod yX2_moveGhosts, .selects RX2 yX2_moveGhosts yX2_moveGhosts, .code yX2_moveGhosts cX2_moveGhosts 4 none, .fieldLink RX2 18 "RuinViews$Ruins" "ghosts" "[I", .methodLink RX2 50 yX2_grade, .instanceMethod yX2_grade, .selects RX2 yX2_grade yX2_grade, .code yX2_grade cX2_grade 3 (some .int)] ++ wsX20)
def wsX2_ageAll_r1 : List Cond := [Cond.fieldLink RX2 30 "RuinViews$Ruins" "count" "I", Cond.methodLink RX2 63 yX2_age, Cond.instanceMethod yX2_age, Cond.selects RX2 yX2_age yX2_age, Cond.initialized RX2, Cond.code yX2_age cX2_age 3 none, Cond.fieldLink RX2 9 "RuinViews$Ruins" "walls" "[I", Cond.methodLink RX2 67 yX2_growIvy, Cond.instanceMethod yX2_growIvy, Cond.selects RX2 yX2_growIvy yX2_growIvy, Cond.code yX2_growIvy cX2_growIvy 3 none, Cond.fieldLink RX2 15 "RuinViews$Ruins" "ivy" "[I", Cond.methodLink RX2 70 yX0_brightnessOn, Cond.static yX0_brightnessOn, Cond.initialized RX0, Cond.code yX0_brightnessOn cX0_brightnessOn 2 (some .int), Cond.methodLink RX0 9 yX0_phaseOn, Cond.static yX0_phaseOn, Cond.code yX0_phaseOn cX0_phaseOn 1 (some .int), Cond.methodLink RX2 75 yX2_moveGhosts, Cond.instanceMethod yX2_moveGhosts, Cond.selects RX2 yX2_moveGhosts yX2_moveGhosts, Cond.code yX2_moveGhosts cX2_moveGhosts 4 none, Cond.fieldLink RX2 18 "RuinViews$Ruins" "ghosts" "[I"]
def wsX2_ageAll_r2 : List Cond := [Cond.methodLink RX2 50 yX2_grade, Cond.instanceMethod yX2_grade, Cond.selects RX2 yX2_grade yX2_grade, Cond.code yX2_grade cX2_grade 3 (some .int)]
def wsX2_ageAll : List Cond := .code yX2_ageAll cX2_ageAll 3 none :: ((wsX2_ageAll_r1 ++ wsX2_ageAll_r2) ++ wsX20)
def wsX1_passDays_r1 : List Cond := [Cond.fieldLink RX1 32 "RuinViews$Park" "purse" "I", Cond.fieldLink RX1 21 "RuinViews$Park" "tickets" "LRuinViews$Tickets;", Cond.fieldLink RX1 25 "RuinViews$Park" "day" "I", Cond.fieldLink RX1 12 "RuinViews$Park" "ruins" "LRuinViews$Ruins;", Cond.methodLink RX1 65 yX1_takings, Cond.instanceMethod yX1_takings, Cond.selects RX1 yX1_takings yX1_takings, Cond.initialized RX1, Cond.code yX1_takings cX1_takings 3 (some .int), Cond.fieldLink RX1 52 "RuinViews$Ruins" "count" "I", Cond.fieldLink RX1 55 "RuinViews$Ruins" "ranks" "[I", Cond.fieldLink RX1 62 "RuinViews$Ruins" "price" "[I", Cond.methodLink RX1 42 yX0_brightnessOn, Cond.static yX0_brightnessOn, Cond.initialized RX0, Cond.code yX0_brightnessOn cX0_brightnessOn 2 (some .int), Cond.methodLink RX0 9 yX0_phaseOn, Cond.static yX0_phaseOn, Cond.code yX0_phaseOn cX0_phaseOn 1 (some .int), Cond.methodLink RX1 48 yX2_rankAll, Cond.instanceMethod yX2_rankAll, Cond.selects RX2 yX2_rankAll yX2_rankAll, Cond.initialized RX2, Cond.code yX2_rankAll cX2_rankAll 3 none]
def wsX1_passDays_r2 : List Cond := [Cond.fieldLink RX2 30 "RuinViews$Ruins" "count" "I", Cond.fieldLink RX2 24 "RuinViews$Ruins" "merits" "[I", Cond.fieldLink RX2 27 "RuinViews$Ruins" "ranks" "[I", Cond.fieldLink RX2 9 "RuinViews$Ruins" "walls" "[I", Cond.methodLink RX2 57 yX2_merit, Cond.instanceMethod yX2_merit, Cond.selects RX2 yX2_merit yX2_merit, Cond.code yX2_merit cX2_merit 4 (some .int), Cond.fieldLink RX2 21 "RuinViews$Ruins" "price" "[I", Cond.methodLink RX2 54 yX2_view, Cond.instanceMethod yX2_view, Cond.selects RX2 yX2_view yX2_view, Cond.code yX2_view cX2_view 3 (some .int), Cond.fieldLink RX2 18 "RuinViews$Ruins" "ghosts" "[I", Cond.methodLink RX2 50 yX2_grade, Cond.instanceMethod yX2_grade, Cond.selects RX2 yX2_grade yX2_grade, Cond.code yX2_grade cX2_grade 3 (some .int), Cond.fieldLink RX2 15 "RuinViews$Ruins" "ivy" "[I", Cond.methodLink RX2 60 yX2_countAbove, Cond.instanceMethod yX2_countAbove, Cond.selects RX2 yX2_countAbove yX2_countAbove, Cond.code yX2_countAbove cX2_countAbove 4 (some .int), Cond.methodLink RX1 59 yX1_guestsAtRank]
def wsX1_passDays_r3 : List Cond := [Cond.instanceMethod yX1_guestsAtRank, Cond.selects RX1 yX1_guestsAtRank yX1_guestsAtRank, Cond.code yX1_guestsAtRank cX1_guestsAtRank 4 (some .int), Cond.fieldLink RX1 29 "RuinViews$Park" "guests" "I", Cond.methodLink RX1 69 yX3_settle, Cond.instanceMethod yX3_settle, Cond.selects RX3 yX3_settle yX3_settle, Cond.initialized RX3, Cond.code yX3_settle cX3_settle 5 (some .int), Cond.fieldLink RX3 24 "RuinViews$Tickets" "count" "I", Cond.fieldLink RX3 21 "RuinViews$Tickets" "fate" "[I", Cond.fieldLink RX3 15 "RuinViews$Tickets" "forDay" "[I", Cond.fieldLink RX3 9 "RuinViews$Tickets" "forRuin" "[I", Cond.fieldLink RX3 18 "RuinViews$Tickets" "paid" "[I", Cond.methodLink RX3 34 yX2_stands, Cond.instanceMethod yX2_stands, Cond.selects RX2 yX2_stands yX2_stands, Cond.code yX2_stands cX2_stands 2 (some .boolean), Cond.methodLink RX2 40 yX2_has, Cond.instanceMethod yX2_has, Cond.selects RX2 yX2_has yX2_has, Cond.code yX2_has cX2_has 2 (some .boolean), Cond.methodLink RX1 73 yX2_ageAll, Cond.instanceMethod yX2_ageAll]
def wsX1_passDays_r4 : List Cond := [Cond.selects RX2 yX2_ageAll yX2_ageAll, Cond.code yX2_ageAll cX2_ageAll 3 none, Cond.methodLink RX2 63 yX2_age, Cond.instanceMethod yX2_age, Cond.selects RX2 yX2_age yX2_age, Cond.code yX2_age cX2_age 3 none, Cond.methodLink RX2 67 yX2_growIvy, Cond.instanceMethod yX2_growIvy, Cond.selects RX2 yX2_growIvy yX2_growIvy, Cond.code yX2_growIvy cX2_growIvy 3 none, Cond.methodLink RX2 70 yX0_brightnessOn, Cond.methodLink RX2 75 yX2_moveGhosts, Cond.instanceMethod yX2_moveGhosts, Cond.selects RX2 yX2_moveGhosts yX2_moveGhosts, Cond.code yX2_moveGhosts cX2_moveGhosts 4 none]
def wsX1_passDays : List Cond := .code yX1_passDays cX1_passDays 3 none :: ((wsX1_passDays_r1 ++ (wsX1_passDays_r2 ++ (wsX1_passDays_r3 ++ wsX1_passDays_r4))) ++ wsX10 ++ wsX20 ++ wsX30)
def wsX2_build : List Cond := .code yX2_build cX2_build 6 (some .int) :: ([.fieldLink RX2 30 "RuinViews$Ruins" "count" "I", .fieldLink RX2 9 "RuinViews$Ruins" "walls" "[I", .fieldLink RX2 15 "RuinViews$Ruins" "ivy" "[I", .fieldLink RX2 18 "RuinViews$Ruins" "ghosts" "[I", .fieldLink RX2 21 "RuinViews$Ruins" "price" "[I"] ++ wsX20)
def wsX2_countStanding : List Cond := .code yX2_countStanding cX2_countStanding 3 (some .int) :: ([.fieldLink RX2 30 "RuinViews$Ruins" "count" "I", .fieldLink RX2 9 "RuinViews$Ruins" "walls" "[I"] ++ wsX20)
def wsX2_cut : List Cond := .code yX2_cut cX2_cut 3 none :: ([.fieldLink RX2 15 "RuinViews$Ruins" "ivy" "[I", .methodLink RX2 44 Lib.Math.max.name, .static Lib.Math.max.name, .initialized "java/lang/Math", .code Lib.Math.max.name Lib.Math.max.code 2 (some .int)] ++ wsX20)
def wsX2_sumViews : List Cond := .code yX2_sumViews cX2_sumViews 4 (some .int) :: ([.fieldLink RX2 30 "RuinViews$Ruins" "count" "I", .methodLink RX2 54 yX2_view, .instanceMethod yX2_view, .selects RX2 yX2_view yX2_view, .initialized RX2, .code yX2_view cX2_view 3 (some .int), .fieldLink RX2 9 "RuinViews$Ruins" "walls" "[I", .fieldLink RX2 18 "RuinViews$Ruins" "ghosts" "[I", .methodLink RX2 50 yX2_grade, .instanceMethod yX2_grade, .selects RX2 yX2_grade yX2_grade, .code yX2_grade cX2_grade 3 (some .int), .fieldLink RX2 15 "RuinViews$Ruins" "ivy" "[I"] ++ wsX20)
def wsX2_findRank : List Cond := .code yX2_findRank cX2_findRank 3 (some .int) :: ([.fieldLink RX2 30 "RuinViews$Ruins" "count" "I", .fieldLink RX2 27 "RuinViews$Ruins" "ranks" "[I"] ++ wsX20)
def wsX3_has : List Cond := .code yX3_has cX3_has 2 (some .boolean) :: ([.fieldLink RX3 24 "RuinViews$Tickets" "count" "I"] ++ wsX30)
def wsX3_issue : List Cond := .code yX3_issue cX3_issue 5 (some .int) :: ([.fieldLink RX3 24 "RuinViews$Tickets" "count" "I", .fieldLink RX3 9 "RuinViews$Tickets" "forRuin" "[I", .fieldLink RX3 15 "RuinViews$Tickets" "forDay" "[I", .fieldLink RX3 18 "RuinViews$Tickets" "paid" "[I", .fieldLink RX3 21 "RuinViews$Tickets" "fate" "[I"] ++ wsX30)
def wsX4_init_r1 : List Cond := [Cond.methodLink RX4 1 objectInit, Cond.instanceMethod objectInit, Cond.code objectInit ⟨#[0xb1]⟩ 1 none, Cond.classLink RX4 7 RX1, Cond.instantiable RX1 5, Cond.initialized RX1, Cond.fieldLink RX4 10 "RuinViews" "now" "LRuinViews$Park;", Cond.fieldLink RX4 16 "RuinViews" "ahead" "LRuinViews$Park;", Cond.instanceMethod yX1_init, Cond.code yX1_init cX1_init 1 none, Cond.methodLink RX1 3 objectInit, Cond.classLink RX1 9 RX2, Cond.instantiable RX2 7, Cond.initialized RX2, Cond.fieldLink RX1 12 "RuinViews$Park" "ruins" "LRuinViews$Ruins;", Cond.classLink RX1 18 RX3, Cond.instantiable RX3 5, Cond.initialized RX3, Cond.fieldLink RX1 21 "RuinViews$Park" "tickets" "LRuinViews$Tickets;", Cond.fieldLink RX1 25 "RuinViews$Park" "day" "I", Cond.fieldLink RX1 29 "RuinViews$Park" "guests" "I", Cond.fieldLink RX1 32 "RuinViews$Park" "purse" "I", Cond.instanceMethod yX2_init, Cond.code yX2_init cX2_init 1 none]
def wsX4_init_r2 : List Cond := [Cond.methodLink RX2 3 objectInit, Cond.arrayClass .int, Cond.fieldLink RX2 9 "RuinViews$Ruins" "walls" "[I", Cond.fieldLink RX2 15 "RuinViews$Ruins" "ivy" "[I", Cond.fieldLink RX2 18 "RuinViews$Ruins" "ghosts" "[I", Cond.fieldLink RX2 21 "RuinViews$Ruins" "price" "[I", Cond.fieldLink RX2 24 "RuinViews$Ruins" "merits" "[I", Cond.fieldLink RX2 27 "RuinViews$Ruins" "ranks" "[I", Cond.fieldLink RX2 30 "RuinViews$Ruins" "count" "I", Cond.instanceMethod yX3_init, Cond.code yX3_init cX3_init 1 none, Cond.methodLink RX3 3 objectInit, Cond.fieldLink RX3 9 "RuinViews$Tickets" "forRuin" "[I", Cond.fieldLink RX3 15 "RuinViews$Tickets" "forDay" "[I", Cond.fieldLink RX3 18 "RuinViews$Tickets" "paid" "[I", Cond.fieldLink RX3 21 "RuinViews$Tickets" "fate" "[I", Cond.fieldLink RX3 24 "RuinViews$Tickets" "count" "I"]
def wsX4_init : List Cond := .code yX4_init cX4_init 1 none :: ((wsX4_init_r1 ++ wsX4_init_r2) ++ wsX10 ++ wsX40 ++ wsX20 ++ wsX30)
def wsX4_isWithin : List Cond := .code yX4_isWithin cX4_isWithin 3 (some .boolean) :: ([])
def wsX4_addRuin : List Cond := .code yX4_addRuin cX4_addRuin 5 (some .int) :: ([.classLink RX4 23 "java/lang/IllegalArgumentException", .initialized "java/lang/IllegalArgumentException", .classLink RX4 40 "java/lang/IllegalStateException", .initialized "java/lang/IllegalStateException", .fieldLink RX4 10 "RuinViews" "now" "LRuinViews$Park;", .fieldLink RX4 30 "RuinViews$Park" "ruins" "LRuinViews$Ruins;", .fieldLink RX4 34 "RuinViews$Ruins" "count" "I", .methodLink RX4 19 yX4_isWithin, .static yX4_isWithin, .initialized RX4, .code yX4_isWithin cX4_isWithin 3 (some .boolean), .methodLink RX4 45 yX2_build, .instanceMethod yX2_build, .selects RX2 yX2_build yX2_build, .initialized RX2, .code yX2_build cX2_build 6 (some .int), .fieldLink RX2 30 "RuinViews$Ruins" "count" "I", .fieldLink RX2 9 "RuinViews$Ruins" "walls" "[I", .fieldLink RX2 15 "RuinViews$Ruins" "ivy" "[I", .fieldLink RX2 18 "RuinViews$Ruins" "ghosts" "[I", .fieldLink RX2 21 "RuinViews$Ruins" "price" "[I"] ++ wsX40 ++ wsX10 ++ wsX20 ++ (vx_atS RX4 27 "java/lang/IllegalArgumentException" ["java/lang/RuntimeException", "java/lang/Exception"]).filter goodWord ++ (vx_atS RX4 44 "java/lang/IllegalStateException" ["java/lang/RuntimeException", "java/lang/Exception"]).filter goodWord)
def wsX4_requireRuin : List Cond := .code yX4_requireRuin cX4_requireRuin 2 none :: ([.classLink RX4 141 "java/lang/IndexOutOfBoundsException", .initialized "java/lang/IndexOutOfBoundsException", .fieldLink RX4 10 "RuinViews" "now" "LRuinViews$Park;", .fieldLink RX4 30 "RuinViews$Park" "ruins" "LRuinViews$Ruins;", .methodLink RX4 200 yX2_has, .instanceMethod yX2_has, .selects RX2 yX2_has yX2_has, .initialized RX2, .code yX2_has cX2_has 2 (some .boolean), .fieldLink RX2 30 "RuinViews$Ruins" "count" "I"] ++ wsX40 ++ wsX10 ++ wsX20 ++ (vx_atS RX4 145 "java/lang/IndexOutOfBoundsException" ["java/lang/RuntimeException", "java/lang/Exception"]).filter goodWord)
def wsX4_cutIvy_r1 : List Cond := [Cond.classLink RX4 23 "java/lang/IllegalArgumentException", Cond.initialized "java/lang/IllegalArgumentException", Cond.fieldLink RX4 10 "RuinViews" "now" "LRuinViews$Park;", Cond.fieldLink RX4 30 "RuinViews$Park" "ruins" "LRuinViews$Ruins;", Cond.fieldLink RX4 59 "RuinViews$Ruins" "ivy" "[I", Cond.methodLink RX4 49 yX4_requireRuin, Cond.instanceMethod yX4_requireRuin, Cond.selects RX4 yX4_requireRuin yX4_requireRuin, Cond.initialized RX4, Cond.code yX4_requireRuin cX4_requireRuin 2 none, Cond.classLink RX4 141 "java/lang/IndexOutOfBoundsException", Cond.initialized "java/lang/IndexOutOfBoundsException", Cond.methodLink RX4 200 yX2_has, Cond.instanceMethod yX2_has, Cond.selects RX2 yX2_has yX2_has, Cond.initialized RX2, Cond.code yX2_has cX2_has 2 (some .boolean), Cond.fieldLink RX2 30 "RuinViews$Ruins" "count" "I", Cond.methodLink RX4 19 yX4_isWithin, Cond.static yX4_isWithin, Cond.code yX4_isWithin cX4_isWithin 3 (some .boolean), Cond.methodLink RX4 55 yX2_cut, Cond.instanceMethod yX2_cut, Cond.selects RX2 yX2_cut yX2_cut]
def wsX4_cutIvy_r2 : List Cond := [Cond.code yX2_cut cX2_cut 3 none, Cond.fieldLink RX2 15 "RuinViews$Ruins" "ivy" "[I", Cond.methodLink RX2 44 Lib.Math.max.name, Cond.static Lib.Math.max.name, Cond.initialized "java/lang/Math", Cond.code Lib.Math.max.name Lib.Math.max.code 2 (some .int)]
def wsX4_cutIvy : List Cond := .code yX4_cutIvy cX4_cutIvy 3 (some .int) :: ((wsX4_cutIvy_r1 ++ wsX4_cutIvy_r2) ++ wsX40 ++ wsX10 ++ wsX20 ++ (vx_atS RX4 27 "java/lang/IllegalArgumentException" ["java/lang/RuntimeException", "java/lang/Exception"]).filter goodWord ++ (vx_atS RX4 145 "java/lang/IndexOutOfBoundsException" ["java/lang/RuntimeException", "java/lang/Exception"]).filter goodWord)
def wsX4_prop_r1 : List Cond := [Cond.classLink RX4 40 "java/lang/IllegalStateException", Cond.initialized "java/lang/IllegalStateException", Cond.fieldLink RX4 10 "RuinViews" "now" "LRuinViews$Park;", Cond.fieldLink RX4 30 "RuinViews$Park" "ruins" "LRuinViews$Ruins;", Cond.fieldLink RX4 67 "RuinViews$Ruins" "walls" "[I", Cond.fieldLink RX4 70 "RuinViews$Park" "purse" "I", Cond.methodLink RX4 49 yX4_requireRuin, Cond.instanceMethod yX4_requireRuin, Cond.selects RX4 yX4_requireRuin yX4_requireRuin, Cond.initialized RX4, Cond.code yX4_requireRuin cX4_requireRuin 2 none, Cond.classLink RX4 141 "java/lang/IndexOutOfBoundsException", Cond.initialized "java/lang/IndexOutOfBoundsException", Cond.methodLink RX4 200 yX2_has, Cond.instanceMethod yX2_has, Cond.selects RX2 yX2_has yX2_has, Cond.initialized RX2, Cond.code yX2_has cX2_has 2 (some .boolean), Cond.fieldLink RX2 30 "RuinViews$Ruins" "count" "I", Cond.methodLink RX4 63 yX2_stands, Cond.instanceMethod yX2_stands, Cond.selects RX2 yX2_stands yX2_stands, Cond.code yX2_stands cX2_stands 2 (some .boolean), Cond.fieldLink RX2 9 "RuinViews$Ruins" "walls" "[I"]
def wsX4_prop_r2 : List Cond := [Cond.methodLink RX2 40 yX2_has]
def wsX4_prop : List Cond := .code yX4_prop cX4_prop 2 (some .int) :: ((wsX4_prop_r1 ++ wsX4_prop_r2) ++ wsX40 ++ wsX10 ++ wsX20 ++ (vx_atS RX4 44 "java/lang/IllegalStateException" ["java/lang/RuntimeException", "java/lang/Exception"]).filter goodWord ++ (vx_atS RX4 145 "java/lang/IndexOutOfBoundsException" ["java/lang/RuntimeException", "java/lang/Exception"]).filter goodWord)
def wsX4_setPrice : List Cond := .code yX4_setPrice cX4_setPrice 4 (some .int) :: ([.classLink RX4 23 "java/lang/IllegalArgumentException", .initialized "java/lang/IllegalArgumentException", .fieldLink RX4 10 "RuinViews" "now" "LRuinViews$Park;", .fieldLink RX4 30 "RuinViews$Park" "ruins" "LRuinViews$Ruins;", .fieldLink RX4 77 "RuinViews$Ruins" "price" "[I", .methodLink RX4 49 yX4_requireRuin, .instanceMethod yX4_requireRuin, .selects RX4 yX4_requireRuin yX4_requireRuin, .initialized RX4, .code yX4_requireRuin cX4_requireRuin 2 none, .classLink RX4 141 "java/lang/IndexOutOfBoundsException", .initialized "java/lang/IndexOutOfBoundsException", .methodLink RX4 200 yX2_has, .instanceMethod yX2_has, .selects RX2 yX2_has yX2_has, .initialized RX2, .code yX2_has cX2_has 2 (some .boolean), .fieldLink RX2 30 "RuinViews$Ruins" "count" "I", .methodLink RX4 19 yX4_isWithin, .static yX4_isWithin, .code yX4_isWithin cX4_isWithin 3 (some .boolean)] ++ wsX40 ++ wsX10 ++ wsX20 ++ (vx_atS RX4 27 "java/lang/IllegalArgumentException" ["java/lang/RuntimeException", "java/lang/Exception"]).filter goodWord ++ (vx_atS RX4 145 "java/lang/IndexOutOfBoundsException" ["java/lang/RuntimeException", "java/lang/Exception"]).filter goodWord)
def wsX4_setGuests : List Cond := .code yX4_setGuests cX4_setGuests 3 (some .int) :: ([.classLink RX4 23 "java/lang/IllegalArgumentException", .initialized "java/lang/IllegalArgumentException", .fieldLink RX4 10 "RuinViews" "now" "LRuinViews$Park;", .fieldLink RX4 82 "RuinViews$Park" "guests" "I", .methodLink RX4 19 yX4_isWithin, .static yX4_isWithin, .initialized RX4, .code yX4_isWithin cX4_isWithin 3 (some .boolean)] ++ wsX40 ++ wsX10 ++ (vx_atS RX4 27 "java/lang/IllegalArgumentException" ["java/lang/RuntimeException", "java/lang/Exception"]).filter goodWord)
def wsX4_sellTicket_r1 : List Cond := [Cond.classLink RX4 23 "java/lang/IllegalArgumentException", Cond.initialized "java/lang/IllegalArgumentException", Cond.classLink RX4 40 "java/lang/IllegalStateException", Cond.initialized "java/lang/IllegalStateException", Cond.fieldLink RX4 10 "RuinViews" "now" "LRuinViews$Park;", Cond.fieldLink RX4 30 "RuinViews$Park" "ruins" "LRuinViews$Ruins;", Cond.fieldLink RX4 87 "RuinViews$Park" "tickets" "LRuinViews$Tickets;", Cond.fieldLink RX4 91 "RuinViews$Tickets" "count" "I", Cond.fieldLink RX4 77 "RuinViews$Ruins" "price" "[I", Cond.fieldLink RX4 70 "RuinViews$Park" "purse" "I", Cond.fieldLink RX4 96 "RuinViews$Park" "day" "I", Cond.methodLink RX4 49 yX4_requireRuin, Cond.instanceMethod yX4_requireRuin, Cond.selects RX4 yX4_requireRuin yX4_requireRuin, Cond.initialized RX4, Cond.code yX4_requireRuin cX4_requireRuin 2 none, Cond.classLink RX4 141 "java/lang/IndexOutOfBoundsException", Cond.initialized "java/lang/IndexOutOfBoundsException", Cond.methodLink RX4 200 yX2_has, Cond.instanceMethod yX2_has, Cond.selects RX2 yX2_has yX2_has, Cond.initialized RX2, Cond.code yX2_has cX2_has 2 (some .boolean), Cond.fieldLink RX2 30 "RuinViews$Ruins" "count" "I"]
def wsX4_sellTicket_r2 : List Cond := [Cond.methodLink RX4 19 yX4_isWithin, Cond.static yX4_isWithin, Cond.code yX4_isWithin cX4_isWithin 3 (some .boolean), Cond.methodLink RX4 63 yX2_stands, Cond.instanceMethod yX2_stands, Cond.selects RX2 yX2_stands yX2_stands, Cond.code yX2_stands cX2_stands 2 (some .boolean), Cond.fieldLink RX2 9 "RuinViews$Ruins" "walls" "[I", Cond.methodLink RX2 40 yX2_has, Cond.methodLink RX4 99 yX3_issue, Cond.instanceMethod yX3_issue, Cond.selects RX3 yX3_issue yX3_issue, Cond.initialized RX3, Cond.code yX3_issue cX3_issue 5 (some .int), Cond.fieldLink RX3 24 "RuinViews$Tickets" "count" "I", Cond.fieldLink RX3 9 "RuinViews$Tickets" "forRuin" "[I", Cond.fieldLink RX3 15 "RuinViews$Tickets" "forDay" "[I", Cond.fieldLink RX3 18 "RuinViews$Tickets" "paid" "[I", Cond.fieldLink RX3 21 "RuinViews$Tickets" "fate" "[I"]
def wsX4_sellTicket : List Cond := .code yX4_sellTicket cX4_sellTicket 4 (some .int) :: ((wsX4_sellTicket_r1 ++ wsX4_sellTicket_r2) ++ wsX40 ++ wsX10 ++ wsX30 ++ wsX20 ++ (vx_atS RX4 27 "java/lang/IllegalArgumentException" ["java/lang/RuntimeException", "java/lang/Exception"]).filter goodWord ++ (vx_atS RX4 44 "java/lang/IllegalStateException" ["java/lang/RuntimeException", "java/lang/Exception"]).filter goodWord ++ (vx_atS RX4 145 "java/lang/IndexOutOfBoundsException" ["java/lang/RuntimeException", "java/lang/Exception"]).filter goodWord)
def wsX4_requireDaysToPass : List Cond := .code yX4_requireDaysToPass cX4_requireDaysToPass 1 none :: ([.classLink RX4 23 "java/lang/IllegalArgumentException", .initialized "java/lang/IllegalArgumentException", .methodLink RX4 19 yX4_isWithin, .static yX4_isWithin, .initialized RX4, .code yX4_isWithin cX4_isWithin 3 (some .boolean)] ++ (vx_atS RX4 27 "java/lang/IllegalArgumentException" ["java/lang/RuntimeException", "java/lang/Exception"]).filter goodWord)
def wsX4_pass_r1 : List Cond := [Cond.fieldLink RX4 10 "RuinViews" "now" "LRuinViews$Park;", Cond.fieldLink RX4 70 "RuinViews$Park" "purse" "I", Cond.methodLink RX4 103 yX4_requireDaysToPass, Cond.static yX4_requireDaysToPass, Cond.initialized RX4, Cond.code yX4_requireDaysToPass cX4_requireDaysToPass 1 none, Cond.classLink RX4 23 "java/lang/IllegalArgumentException", Cond.initialized "java/lang/IllegalArgumentException", Cond.methodLink RX4 19 yX4_isWithin, Cond.static yX4_isWithin, Cond.code yX4_isWithin cX4_isWithin 3 (some .boolean), Cond.methodLink RX4 106 yX1_passDays, Cond.instanceMethod yX1_passDays, Cond.selects RX1 yX1_passDays yX1_passDays, Cond.initialized RX1, Cond.code yX1_passDays cX1_passDays 3 none, Cond.fieldLink RX1 32 "RuinViews$Park" "purse" "I", Cond.fieldLink RX1 21 "RuinViews$Park" "tickets" "LRuinViews$Tickets;", Cond.fieldLink RX1 25 "RuinViews$Park" "day" "I", Cond.fieldLink RX1 12 "RuinViews$Park" "ruins" "LRuinViews$Ruins;", Cond.methodLink RX1 65 yX1_takings, Cond.instanceMethod yX1_takings, Cond.selects RX1 yX1_takings yX1_takings, Cond.code yX1_takings cX1_takings 3 (some .int)]
def wsX4_pass_r2 : List Cond := [Cond.fieldLink RX1 52 "RuinViews$Ruins" "count" "I", Cond.fieldLink RX1 55 "RuinViews$Ruins" "ranks" "[I", Cond.fieldLink RX1 62 "RuinViews$Ruins" "price" "[I", Cond.methodLink RX1 42 yX0_brightnessOn, Cond.static yX0_brightnessOn, Cond.initialized RX0, Cond.code yX0_brightnessOn cX0_brightnessOn 2 (some .int), Cond.methodLink RX0 9 yX0_phaseOn, Cond.static yX0_phaseOn, Cond.code yX0_phaseOn cX0_phaseOn 1 (some .int), Cond.methodLink RX1 48 yX2_rankAll, Cond.instanceMethod yX2_rankAll, Cond.selects RX2 yX2_rankAll yX2_rankAll, Cond.initialized RX2, Cond.code yX2_rankAll cX2_rankAll 3 none, Cond.fieldLink RX2 30 "RuinViews$Ruins" "count" "I", Cond.fieldLink RX2 24 "RuinViews$Ruins" "merits" "[I", Cond.fieldLink RX2 27 "RuinViews$Ruins" "ranks" "[I", Cond.fieldLink RX2 9 "RuinViews$Ruins" "walls" "[I", Cond.methodLink RX2 57 yX2_merit, Cond.instanceMethod yX2_merit, Cond.selects RX2 yX2_merit yX2_merit, Cond.code yX2_merit cX2_merit 4 (some .int), Cond.fieldLink RX2 21 "RuinViews$Ruins" "price" "[I"]
def wsX4_pass_r3 : List Cond := [Cond.methodLink RX2 54 yX2_view, Cond.instanceMethod yX2_view, Cond.selects RX2 yX2_view yX2_view, Cond.code yX2_view cX2_view 3 (some .int), Cond.fieldLink RX2 18 "RuinViews$Ruins" "ghosts" "[I", Cond.methodLink RX2 50 yX2_grade, Cond.instanceMethod yX2_grade, Cond.selects RX2 yX2_grade yX2_grade, Cond.code yX2_grade cX2_grade 3 (some .int), Cond.fieldLink RX2 15 "RuinViews$Ruins" "ivy" "[I", Cond.methodLink RX2 60 yX2_countAbove, Cond.instanceMethod yX2_countAbove, Cond.selects RX2 yX2_countAbove yX2_countAbove, Cond.code yX2_countAbove cX2_countAbove 4 (some .int), Cond.methodLink RX1 59 yX1_guestsAtRank, Cond.instanceMethod yX1_guestsAtRank, Cond.selects RX1 yX1_guestsAtRank yX1_guestsAtRank, Cond.code yX1_guestsAtRank cX1_guestsAtRank 4 (some .int), Cond.fieldLink RX1 29 "RuinViews$Park" "guests" "I", Cond.methodLink RX1 69 yX3_settle, Cond.instanceMethod yX3_settle, Cond.selects RX3 yX3_settle yX3_settle, Cond.initialized RX3, Cond.code yX3_settle cX3_settle 5 (some .int)]
def wsX4_pass_r4 : List Cond := [Cond.fieldLink RX3 24 "RuinViews$Tickets" "count" "I", Cond.fieldLink RX3 21 "RuinViews$Tickets" "fate" "[I", Cond.fieldLink RX3 15 "RuinViews$Tickets" "forDay" "[I", Cond.fieldLink RX3 9 "RuinViews$Tickets" "forRuin" "[I", Cond.fieldLink RX3 18 "RuinViews$Tickets" "paid" "[I", Cond.methodLink RX3 34 yX2_stands, Cond.instanceMethod yX2_stands, Cond.selects RX2 yX2_stands yX2_stands, Cond.code yX2_stands cX2_stands 2 (some .boolean), Cond.methodLink RX2 40 yX2_has, Cond.instanceMethod yX2_has, Cond.selects RX2 yX2_has yX2_has, Cond.code yX2_has cX2_has 2 (some .boolean), Cond.methodLink RX1 73 yX2_ageAll, Cond.instanceMethod yX2_ageAll, Cond.selects RX2 yX2_ageAll yX2_ageAll, Cond.code yX2_ageAll cX2_ageAll 3 none, Cond.methodLink RX2 63 yX2_age, Cond.instanceMethod yX2_age, Cond.selects RX2 yX2_age yX2_age, Cond.code yX2_age cX2_age 3 none, Cond.methodLink RX2 67 yX2_growIvy, Cond.instanceMethod yX2_growIvy, Cond.selects RX2 yX2_growIvy yX2_growIvy]
def wsX4_pass_r5 : List Cond := [Cond.code yX2_growIvy cX2_growIvy 3 none, Cond.methodLink RX2 70 yX0_brightnessOn, Cond.methodLink RX2 75 yX2_moveGhosts, Cond.instanceMethod yX2_moveGhosts, Cond.selects RX2 yX2_moveGhosts yX2_moveGhosts, Cond.code yX2_moveGhosts cX2_moveGhosts 4 none]
def wsX4_pass : List Cond := .code yX4_pass cX4_pass 3 (some .int) :: ((wsX4_pass_r1 ++ (wsX4_pass_r2 ++ (wsX4_pass_r3 ++ (wsX4_pass_r4 ++ wsX4_pass_r5)))) ++ wsX40 ++ wsX10 ++ wsX20 ++ wsX30 ++ (vx_atS RX4 27 "java/lang/IllegalArgumentException" ["java/lang/RuntimeException", "java/lang/Exception"]).filter goodWord)
def wsX4_day : List Cond := .code yX4_day cX4_day 1 (some .int) :: ([.fieldLink RX4 10 "RuinViews" "now" "LRuinViews$Park;", .fieldLink RX4 96 "RuinViews$Park" "day" "I"] ++ wsX40 ++ wsX10)
def wsX4_phase : List Cond := .code yX4_phase cX4_phase 1 (some .int) :: ([.fieldLink RX4 10 "RuinViews" "now" "LRuinViews$Park;", .fieldLink RX4 96 "RuinViews$Park" "day" "I", .methodLink RX4 109 yX0_phaseOn, .static yX0_phaseOn, .initialized RX0, .code yX0_phaseOn cX0_phaseOn 1 (some .int)] ++ wsX40 ++ wsX10)
def wsX4_brightness : List Cond := .code yX4_brightness cX4_brightness 1 (some .int) :: ([.fieldLink RX4 10 "RuinViews" "now" "LRuinViews$Park;", .fieldLink RX4 96 "RuinViews$Park" "day" "I", .methodLink RX4 115 yX0_brightnessOn, .static yX0_brightnessOn, .initialized RX0, .code yX0_brightnessOn cX0_brightnessOn 2 (some .int), .methodLink RX0 9 yX0_phaseOn, .static yX0_phaseOn, .code yX0_phaseOn cX0_phaseOn 1 (some .int)] ++ wsX40 ++ wsX10)
def wsX4_daysUntilFullMoon : List Cond := .code yX4_daysUntilFullMoon cX4_daysUntilFullMoon 1 (some .int) :: ([.fieldLink RX4 10 "RuinViews" "now" "LRuinViews$Park;", .fieldLink RX4 96 "RuinViews$Park" "day" "I", .methodLink RX4 118 yX0_daysUntilFullFrom, .static yX0_daysUntilFullFrom, .initialized RX0, .code yX0_daysUntilFullFrom cX0_daysUntilFullFrom 1 (some .int), .methodLink RX0 9 yX0_phaseOn, .static yX0_phaseOn, .code yX0_phaseOn cX0_phaseOn 1 (some .int)] ++ wsX40 ++ wsX10)
def wsX4_ruins : List Cond := .code yX4_ruins cX4_ruins 1 (some .int) :: ([.fieldLink RX4 10 "RuinViews" "now" "LRuinViews$Park;", .fieldLink RX4 30 "RuinViews$Park" "ruins" "LRuinViews$Ruins;", .fieldLink RX4 34 "RuinViews$Ruins" "count" "I"] ++ wsX40 ++ wsX10 ++ wsX20)
def wsX4_standing : List Cond := .code yX4_standing cX4_standing 1 (some .int) :: ([.fieldLink RX4 10 "RuinViews" "now" "LRuinViews$Park;", .fieldLink RX4 30 "RuinViews$Park" "ruins" "LRuinViews$Ruins;", .methodLink RX4 121 yX2_countStanding, .instanceMethod yX2_countStanding, .selects RX2 yX2_countStanding yX2_countStanding, .initialized RX2, .code yX2_countStanding cX2_countStanding 3 (some .int), .fieldLink RX2 30 "RuinViews$Ruins" "count" "I", .fieldLink RX2 9 "RuinViews$Ruins" "walls" "[I"] ++ wsX40 ++ wsX10 ++ wsX20)
def wsX4_purse : List Cond := .code yX4_purse cX4_purse 1 (some .int) :: ([.fieldLink RX4 10 "RuinViews" "now" "LRuinViews$Park;", .fieldLink RX4 70 "RuinViews$Park" "purse" "I"] ++ wsX40 ++ wsX10)
def wsX4_wallsOf : List Cond := .code yX4_wallsOf cX4_wallsOf 2 (some .int) :: ([.fieldLink RX4 10 "RuinViews" "now" "LRuinViews$Park;", .fieldLink RX4 30 "RuinViews$Park" "ruins" "LRuinViews$Ruins;", .fieldLink RX4 67 "RuinViews$Ruins" "walls" "[I", .methodLink RX4 49 yX4_requireRuin, .instanceMethod yX4_requireRuin, .selects RX4 yX4_requireRuin yX4_requireRuin, .initialized RX4, .code yX4_requireRuin cX4_requireRuin 2 none, .classLink RX4 141 "java/lang/IndexOutOfBoundsException", .initialized "java/lang/IndexOutOfBoundsException", .methodLink RX4 200 yX2_has, .instanceMethod yX2_has, .selects RX2 yX2_has yX2_has, .initialized RX2, .code yX2_has cX2_has 2 (some .boolean), .fieldLink RX2 30 "RuinViews$Ruins" "count" "I"] ++ wsX40 ++ wsX10 ++ wsX20 ++ (vx_atS RX4 145 "java/lang/IndexOutOfBoundsException" ["java/lang/RuntimeException", "java/lang/Exception"]).filter goodWord)
def wsX4_ivyOf : List Cond := .code yX4_ivyOf cX4_ivyOf 2 (some .int) :: ([.fieldLink RX4 10 "RuinViews" "now" "LRuinViews$Park;", .fieldLink RX4 30 "RuinViews$Park" "ruins" "LRuinViews$Ruins;", .fieldLink RX4 59 "RuinViews$Ruins" "ivy" "[I", .methodLink RX4 49 yX4_requireRuin, .instanceMethod yX4_requireRuin, .selects RX4 yX4_requireRuin yX4_requireRuin, .initialized RX4, .code yX4_requireRuin cX4_requireRuin 2 none, .classLink RX4 141 "java/lang/IndexOutOfBoundsException", .initialized "java/lang/IndexOutOfBoundsException", .methodLink RX4 200 yX2_has, .instanceMethod yX2_has, .selects RX2 yX2_has yX2_has, .initialized RX2, .code yX2_has cX2_has 2 (some .boolean), .fieldLink RX2 30 "RuinViews$Ruins" "count" "I"] ++ wsX40 ++ wsX10 ++ wsX20 ++ (vx_atS RX4 145 "java/lang/IndexOutOfBoundsException" ["java/lang/RuntimeException", "java/lang/Exception"]).filter goodWord)
def wsX4_gradeOf : List Cond := .code yX4_gradeOf cX4_gradeOf 2 (some .int) :: ([.fieldLink RX4 10 "RuinViews" "now" "LRuinViews$Park;", .fieldLink RX4 30 "RuinViews$Park" "ruins" "LRuinViews$Ruins;", .methodLink RX4 49 yX4_requireRuin, .instanceMethod yX4_requireRuin, .selects RX4 yX4_requireRuin yX4_requireRuin, .initialized RX4, .code yX4_requireRuin cX4_requireRuin 2 none, .classLink RX4 141 "java/lang/IndexOutOfBoundsException", .initialized "java/lang/IndexOutOfBoundsException", .methodLink RX4 200 yX2_has, .instanceMethod yX2_has, .selects RX2 yX2_has yX2_has, .initialized RX2, .code yX2_has cX2_has 2 (some .boolean), .fieldLink RX2 30 "RuinViews$Ruins" "count" "I", .methodLink RX4 125 yX2_grade, .instanceMethod yX2_grade, .selects RX2 yX2_grade yX2_grade, .code yX2_grade cX2_grade 3 (some .int), .fieldLink RX2 15 "RuinViews$Ruins" "ivy" "[I"] ++ wsX40 ++ wsX10 ++ wsX20 ++ (vx_atS RX4 145 "java/lang/IndexOutOfBoundsException" ["java/lang/RuntimeException", "java/lang/Exception"]).filter goodWord)
def wsX4_ghostsOf : List Cond := .code yX4_ghostsOf cX4_ghostsOf 2 (some .int) :: ([.fieldLink RX4 10 "RuinViews" "now" "LRuinViews$Park;", .fieldLink RX4 30 "RuinViews$Park" "ruins" "LRuinViews$Ruins;", .fieldLink RX4 128 "RuinViews$Ruins" "ghosts" "[I", .methodLink RX4 49 yX4_requireRuin, .instanceMethod yX4_requireRuin, .selects RX4 yX4_requireRuin yX4_requireRuin, .initialized RX4, .code yX4_requireRuin cX4_requireRuin 2 none, .classLink RX4 141 "java/lang/IndexOutOfBoundsException", .initialized "java/lang/IndexOutOfBoundsException", .methodLink RX4 200 yX2_has, .instanceMethod yX2_has, .selects RX2 yX2_has yX2_has, .initialized RX2, .code yX2_has cX2_has 2 (some .boolean), .fieldLink RX2 30 "RuinViews$Ruins" "count" "I"] ++ wsX40 ++ wsX10 ++ wsX20 ++ (vx_atS RX4 145 "java/lang/IndexOutOfBoundsException" ["java/lang/RuntimeException", "java/lang/Exception"]).filter goodWord)
def wsX4_hasCollapsed : List Cond := .code yX4_hasCollapsed cX4_hasCollapsed 2 (some .boolean) :: ([.fieldLink RX4 10 "RuinViews" "now" "LRuinViews$Park;", .fieldLink RX4 30 "RuinViews$Park" "ruins" "LRuinViews$Ruins;", .methodLink RX4 49 yX4_requireRuin, .instanceMethod yX4_requireRuin, .selects RX4 yX4_requireRuin yX4_requireRuin, .initialized RX4, .code yX4_requireRuin cX4_requireRuin 2 none, .classLink RX4 141 "java/lang/IndexOutOfBoundsException", .initialized "java/lang/IndexOutOfBoundsException", .methodLink RX4 200 yX2_has, .instanceMethod yX2_has, .selects RX2 yX2_has yX2_has, .initialized RX2, .code yX2_has cX2_has 2 (some .boolean), .fieldLink RX2 30 "RuinViews$Ruins" "count" "I", .methodLink RX4 63 yX2_stands, .instanceMethod yX2_stands, .selects RX2 yX2_stands yX2_stands, .code yX2_stands cX2_stands 2 (some .boolean), .fieldLink RX2 9 "RuinViews$Ruins" "walls" "[I", .methodLink RX2 40 yX2_has] ++ wsX40 ++ wsX10 ++ wsX20 ++ (vx_atS RX4 145 "java/lang/IndexOutOfBoundsException" ["java/lang/RuntimeException", "java/lang/Exception"]).filter goodWord)
def wsX4_viewOf_r1 : List Cond := [Cond.fieldLink RX4 10 "RuinViews" "now" "LRuinViews$Park;", Cond.fieldLink RX4 30 "RuinViews$Park" "ruins" "LRuinViews$Ruins;", Cond.fieldLink RX4 96 "RuinViews$Park" "day" "I", Cond.methodLink RX4 49 yX4_requireRuin, Cond.instanceMethod yX4_requireRuin, Cond.selects RX4 yX4_requireRuin yX4_requireRuin, Cond.initialized RX4, Cond.code yX4_requireRuin cX4_requireRuin 2 none, Cond.classLink RX4 141 "java/lang/IndexOutOfBoundsException", Cond.initialized "java/lang/IndexOutOfBoundsException", Cond.methodLink RX4 200 yX2_has, Cond.instanceMethod yX2_has, Cond.selects RX2 yX2_has yX2_has, Cond.initialized RX2, Cond.code yX2_has cX2_has 2 (some .boolean), Cond.fieldLink RX2 30 "RuinViews$Ruins" "count" "I", Cond.methodLink RX4 115 yX0_brightnessOn, Cond.static yX0_brightnessOn, Cond.initialized RX0, Cond.code yX0_brightnessOn cX0_brightnessOn 2 (some .int), Cond.methodLink RX0 9 yX0_phaseOn, Cond.static yX0_phaseOn, Cond.code yX0_phaseOn cX0_phaseOn 1 (some .int), Cond.methodLink RX4 131 yX2_view]
def wsX4_viewOf_r2 : List Cond := [Cond.instanceMethod yX2_view, Cond.selects RX2 yX2_view yX2_view, Cond.code yX2_view cX2_view 3 (some .int), Cond.fieldLink RX2 9 "RuinViews$Ruins" "walls" "[I", Cond.fieldLink RX2 18 "RuinViews$Ruins" "ghosts" "[I", Cond.methodLink RX2 50 yX2_grade, Cond.instanceMethod yX2_grade, Cond.selects RX2 yX2_grade yX2_grade, Cond.code yX2_grade cX2_grade 3 (some .int), Cond.fieldLink RX2 15 "RuinViews$Ruins" "ivy" "[I"]
def wsX4_viewOf : List Cond := .code yX4_viewOf cX4_viewOf 2 (some .int) :: ((wsX4_viewOf_r1 ++ wsX4_viewOf_r2) ++ wsX40 ++ wsX10 ++ wsX20 ++ (vx_atS RX4 145 "java/lang/IndexOutOfBoundsException" ["java/lang/RuntimeException", "java/lang/Exception"]).filter goodWord)
def wsX4_rankOf_r1 : List Cond := [Cond.fieldLink RX4 10 "RuinViews" "now" "LRuinViews$Park;", Cond.fieldLink RX4 30 "RuinViews$Park" "ruins" "LRuinViews$Ruins;", Cond.fieldLink RX4 138 "RuinViews$Ruins" "ranks" "[I", Cond.methodLink RX4 49 yX4_requireRuin, Cond.instanceMethod yX4_requireRuin, Cond.selects RX4 yX4_requireRuin yX4_requireRuin, Cond.initialized RX4, Cond.code yX4_requireRuin cX4_requireRuin 2 none, Cond.classLink RX4 141 "java/lang/IndexOutOfBoundsException", Cond.initialized "java/lang/IndexOutOfBoundsException", Cond.methodLink RX4 200 yX2_has, Cond.instanceMethod yX2_has, Cond.selects RX2 yX2_has yX2_has, Cond.initialized RX2, Cond.code yX2_has cX2_has 2 (some .boolean), Cond.fieldLink RX2 30 "RuinViews$Ruins" "count" "I", Cond.methodLink RX4 135 yX1_rankRuins, Cond.instanceMethod yX1_rankRuins, Cond.selects RX1 yX1_rankRuins yX1_rankRuins, Cond.initialized RX1, Cond.code yX1_rankRuins cX1_rankRuins 1 none, Cond.fieldLink RX1 12 "RuinViews$Park" "ruins" "LRuinViews$Ruins;", Cond.fieldLink RX1 25 "RuinViews$Park" "day" "I", Cond.methodLink RX1 42 yX0_brightnessOn]
def wsX4_rankOf_r2 : List Cond := [Cond.static yX0_brightnessOn, Cond.initialized RX0, Cond.code yX0_brightnessOn cX0_brightnessOn 2 (some .int), Cond.methodLink RX0 9 yX0_phaseOn, Cond.static yX0_phaseOn, Cond.code yX0_phaseOn cX0_phaseOn 1 (some .int), Cond.methodLink RX1 48 yX2_rankAll, Cond.instanceMethod yX2_rankAll, Cond.selects RX2 yX2_rankAll yX2_rankAll, Cond.code yX2_rankAll cX2_rankAll 3 none, Cond.fieldLink RX2 24 "RuinViews$Ruins" "merits" "[I", Cond.fieldLink RX2 27 "RuinViews$Ruins" "ranks" "[I", Cond.fieldLink RX2 9 "RuinViews$Ruins" "walls" "[I", Cond.methodLink RX2 57 yX2_merit, Cond.instanceMethod yX2_merit, Cond.selects RX2 yX2_merit yX2_merit, Cond.code yX2_merit cX2_merit 4 (some .int), Cond.fieldLink RX2 21 "RuinViews$Ruins" "price" "[I", Cond.methodLink RX2 54 yX2_view, Cond.instanceMethod yX2_view, Cond.selects RX2 yX2_view yX2_view, Cond.code yX2_view cX2_view 3 (some .int), Cond.fieldLink RX2 18 "RuinViews$Ruins" "ghosts" "[I", Cond.methodLink RX2 50 yX2_grade]
def wsX4_rankOf_r3 : List Cond := [Cond.instanceMethod yX2_grade, Cond.selects RX2 yX2_grade yX2_grade, Cond.code yX2_grade cX2_grade 3 (some .int), Cond.fieldLink RX2 15 "RuinViews$Ruins" "ivy" "[I", Cond.methodLink RX2 60 yX2_countAbove, Cond.instanceMethod yX2_countAbove, Cond.selects RX2 yX2_countAbove yX2_countAbove, Cond.code yX2_countAbove cX2_countAbove 4 (some .int)]
def wsX4_rankOf : List Cond := .code yX4_rankOf cX4_rankOf 2 (some .int) :: ((wsX4_rankOf_r1 ++ (wsX4_rankOf_r2 ++ wsX4_rankOf_r3)) ++ wsX40 ++ wsX10 ++ wsX20 ++ (vx_atS RX4 145 "java/lang/IndexOutOfBoundsException" ["java/lang/RuntimeException", "java/lang/Exception"]).filter goodWord)
def wsX4_ruinAt_r1 : List Cond := [Cond.classLink RX4 141 "java/lang/IndexOutOfBoundsException", Cond.initialized "java/lang/IndexOutOfBoundsException", Cond.fieldLink RX4 10 "RuinViews" "now" "LRuinViews$Park;", Cond.fieldLink RX4 30 "RuinViews$Park" "ruins" "LRuinViews$Ruins;", Cond.methodLink RX4 121 yX2_countStanding, Cond.instanceMethod yX2_countStanding, Cond.selects RX2 yX2_countStanding yX2_countStanding, Cond.initialized RX2, Cond.code yX2_countStanding cX2_countStanding 3 (some .int), Cond.fieldLink RX2 30 "RuinViews$Ruins" "count" "I", Cond.fieldLink RX2 9 "RuinViews$Ruins" "walls" "[I", Cond.methodLink RX4 19 yX4_isWithin, Cond.static yX4_isWithin, Cond.initialized RX4, Cond.code yX4_isWithin cX4_isWithin 3 (some .boolean), Cond.methodLink RX4 135 yX1_rankRuins, Cond.instanceMethod yX1_rankRuins, Cond.selects RX1 yX1_rankRuins yX1_rankRuins, Cond.initialized RX1, Cond.code yX1_rankRuins cX1_rankRuins 1 none, Cond.fieldLink RX1 12 "RuinViews$Park" "ruins" "LRuinViews$Ruins;", Cond.fieldLink RX1 25 "RuinViews$Park" "day" "I", Cond.methodLink RX1 42 yX0_brightnessOn, Cond.static yX0_brightnessOn]
def wsX4_ruinAt_r2 : List Cond := [Cond.initialized RX0, Cond.code yX0_brightnessOn cX0_brightnessOn 2 (some .int), Cond.methodLink RX0 9 yX0_phaseOn, Cond.static yX0_phaseOn, Cond.code yX0_phaseOn cX0_phaseOn 1 (some .int), Cond.methodLink RX1 48 yX2_rankAll, Cond.instanceMethod yX2_rankAll, Cond.selects RX2 yX2_rankAll yX2_rankAll, Cond.code yX2_rankAll cX2_rankAll 3 none, Cond.fieldLink RX2 24 "RuinViews$Ruins" "merits" "[I", Cond.fieldLink RX2 27 "RuinViews$Ruins" "ranks" "[I", Cond.methodLink RX2 57 yX2_merit, Cond.instanceMethod yX2_merit, Cond.selects RX2 yX2_merit yX2_merit, Cond.code yX2_merit cX2_merit 4 (some .int), Cond.fieldLink RX2 21 "RuinViews$Ruins" "price" "[I", Cond.methodLink RX2 54 yX2_view, Cond.instanceMethod yX2_view, Cond.selects RX2 yX2_view yX2_view, Cond.code yX2_view cX2_view 3 (some .int), Cond.fieldLink RX2 18 "RuinViews$Ruins" "ghosts" "[I", Cond.methodLink RX2 50 yX2_grade, Cond.instanceMethod yX2_grade, Cond.selects RX2 yX2_grade yX2_grade]
def wsX4_ruinAt_r3 : List Cond := [Cond.code yX2_grade cX2_grade 3 (some .int), Cond.fieldLink RX2 15 "RuinViews$Ruins" "ivy" "[I", Cond.methodLink RX2 60 yX2_countAbove, Cond.instanceMethod yX2_countAbove, Cond.selects RX2 yX2_countAbove yX2_countAbove, Cond.code yX2_countAbove cX2_countAbove 4 (some .int), Cond.methodLink RX4 146 yX2_findRank, Cond.instanceMethod yX2_findRank, Cond.selects RX2 yX2_findRank yX2_findRank, Cond.code yX2_findRank cX2_findRank 3 (some .int)]
def wsX4_ruinAt : List Cond := .code yX4_ruinAt cX4_ruinAt 2 (some .int) :: ((wsX4_ruinAt_r1 ++ (wsX4_ruinAt_r2 ++ wsX4_ruinAt_r3)) ++ wsX40 ++ wsX10 ++ wsX20 ++ (vx_atS RX4 145 "java/lang/IndexOutOfBoundsException" ["java/lang/RuntimeException", "java/lang/Exception"]).filter goodWord)
def wsX4_guestsOf_r1 : List Cond := [Cond.fieldLink RX4 10 "RuinViews" "now" "LRuinViews$Park;", Cond.fieldLink RX4 30 "RuinViews$Park" "ruins" "LRuinViews$Ruins;", Cond.fieldLink RX4 138 "RuinViews$Ruins" "ranks" "[I", Cond.methodLink RX4 49 yX4_requireRuin, Cond.instanceMethod yX4_requireRuin, Cond.selects RX4 yX4_requireRuin yX4_requireRuin, Cond.initialized RX4, Cond.code yX4_requireRuin cX4_requireRuin 2 none, Cond.classLink RX4 141 "java/lang/IndexOutOfBoundsException", Cond.initialized "java/lang/IndexOutOfBoundsException", Cond.methodLink RX4 200 yX2_has, Cond.instanceMethod yX2_has, Cond.selects RX2 yX2_has yX2_has, Cond.initialized RX2, Cond.code yX2_has cX2_has 2 (some .boolean), Cond.fieldLink RX2 30 "RuinViews$Ruins" "count" "I", Cond.methodLink RX4 135 yX1_rankRuins, Cond.instanceMethod yX1_rankRuins, Cond.selects RX1 yX1_rankRuins yX1_rankRuins, Cond.initialized RX1, Cond.code yX1_rankRuins cX1_rankRuins 1 none, Cond.fieldLink RX1 12 "RuinViews$Park" "ruins" "LRuinViews$Ruins;", Cond.fieldLink RX1 25 "RuinViews$Park" "day" "I", Cond.methodLink RX1 42 yX0_brightnessOn]
def wsX4_guestsOf_r2 : List Cond := [Cond.static yX0_brightnessOn, Cond.initialized RX0, Cond.code yX0_brightnessOn cX0_brightnessOn 2 (some .int), Cond.methodLink RX0 9 yX0_phaseOn, Cond.static yX0_phaseOn, Cond.code yX0_phaseOn cX0_phaseOn 1 (some .int), Cond.methodLink RX1 48 yX2_rankAll, Cond.instanceMethod yX2_rankAll, Cond.selects RX2 yX2_rankAll yX2_rankAll, Cond.code yX2_rankAll cX2_rankAll 3 none, Cond.fieldLink RX2 24 "RuinViews$Ruins" "merits" "[I", Cond.fieldLink RX2 27 "RuinViews$Ruins" "ranks" "[I", Cond.fieldLink RX2 9 "RuinViews$Ruins" "walls" "[I", Cond.methodLink RX2 57 yX2_merit, Cond.instanceMethod yX2_merit, Cond.selects RX2 yX2_merit yX2_merit, Cond.code yX2_merit cX2_merit 4 (some .int), Cond.fieldLink RX2 21 "RuinViews$Ruins" "price" "[I", Cond.methodLink RX2 54 yX2_view, Cond.instanceMethod yX2_view, Cond.selects RX2 yX2_view yX2_view, Cond.code yX2_view cX2_view 3 (some .int), Cond.fieldLink RX2 18 "RuinViews$Ruins" "ghosts" "[I", Cond.methodLink RX2 50 yX2_grade]
def wsX4_guestsOf_r3 : List Cond := [Cond.instanceMethod yX2_grade, Cond.selects RX2 yX2_grade yX2_grade, Cond.code yX2_grade cX2_grade 3 (some .int), Cond.fieldLink RX2 15 "RuinViews$Ruins" "ivy" "[I", Cond.methodLink RX2 60 yX2_countAbove, Cond.instanceMethod yX2_countAbove, Cond.selects RX2 yX2_countAbove yX2_countAbove, Cond.code yX2_countAbove cX2_countAbove 4 (some .int), Cond.methodLink RX4 149 yX1_guestsAtRank, Cond.instanceMethod yX1_guestsAtRank, Cond.selects RX1 yX1_guestsAtRank yX1_guestsAtRank, Cond.code yX1_guestsAtRank cX1_guestsAtRank 4 (some .int), Cond.fieldLink RX1 29 "RuinViews$Park" "guests" "I"]
def wsX4_guestsOf : List Cond := .code yX4_guestsOf cX4_guestsOf 2 (some .int) :: ((wsX4_guestsOf_r1 ++ (wsX4_guestsOf_r2 ++ wsX4_guestsOf_r3)) ++ wsX40 ++ wsX10 ++ wsX20 ++ (vx_atS RX4 145 "java/lang/IndexOutOfBoundsException" ["java/lang/RuntimeException", "java/lang/Exception"]).filter goodWord)
def wsX4_tickets : List Cond := .code yX4_tickets cX4_tickets 1 (some .int) :: ([.fieldLink RX4 10 "RuinViews" "now" "LRuinViews$Park;", .fieldLink RX4 87 "RuinViews$Park" "tickets" "LRuinViews$Tickets;", .fieldLink RX4 91 "RuinViews$Tickets" "count" "I"] ++ wsX40 ++ wsX10 ++ wsX30)
def wsX4_requireTicket : List Cond := .code yX4_requireTicket cX4_requireTicket 2 none :: ([.classLink RX4 141 "java/lang/IndexOutOfBoundsException", .initialized "java/lang/IndexOutOfBoundsException", .fieldLink RX4 10 "RuinViews" "now" "LRuinViews$Park;", .fieldLink RX4 87 "RuinViews$Park" "tickets" "LRuinViews$Tickets;", .methodLink RX4 205 yX3_has, .instanceMethod yX3_has, .selects RX3 yX3_has yX3_has, .initialized RX3, .code yX3_has cX3_has 2 (some .boolean), .fieldLink RX3 24 "RuinViews$Tickets" "count" "I"] ++ wsX40 ++ wsX10 ++ wsX30 ++ (vx_atS RX4 145 "java/lang/IndexOutOfBoundsException" ["java/lang/RuntimeException", "java/lang/Exception"]).filter goodWord)
def wsX4_dayOf : List Cond := .code yX4_dayOf cX4_dayOf 2 (some .int) :: ([.fieldLink RX4 10 "RuinViews" "now" "LRuinViews$Park;", .fieldLink RX4 87 "RuinViews$Park" "tickets" "LRuinViews$Tickets;", .fieldLink RX4 155 "RuinViews$Tickets" "forDay" "[I", .methodLink RX4 152 yX4_requireTicket, .instanceMethod yX4_requireTicket, .selects RX4 yX4_requireTicket yX4_requireTicket, .initialized RX4, .code yX4_requireTicket cX4_requireTicket 2 none, .classLink RX4 141 "java/lang/IndexOutOfBoundsException", .initialized "java/lang/IndexOutOfBoundsException", .methodLink RX4 205 yX3_has, .instanceMethod yX3_has, .selects RX3 yX3_has yX3_has, .initialized RX3, .code yX3_has cX3_has 2 (some .boolean), .fieldLink RX3 24 "RuinViews$Tickets" "count" "I"] ++ wsX40 ++ wsX10 ++ wsX30 ++ (vx_atS RX4 145 "java/lang/IndexOutOfBoundsException" ["java/lang/RuntimeException", "java/lang/Exception"]).filter goodWord)
def wsX4_isOpen : List Cond := .code yX4_isOpen cX4_isOpen 2 (some .boolean) :: ([.fieldLink RX4 10 "RuinViews" "now" "LRuinViews$Park;", .fieldLink RX4 87 "RuinViews$Park" "tickets" "LRuinViews$Tickets;", .fieldLink RX4 158 "RuinViews$Tickets" "fate" "[I", .methodLink RX4 152 yX4_requireTicket, .instanceMethod yX4_requireTicket, .selects RX4 yX4_requireTicket yX4_requireTicket, .initialized RX4, .code yX4_requireTicket cX4_requireTicket 2 none, .classLink RX4 141 "java/lang/IndexOutOfBoundsException", .initialized "java/lang/IndexOutOfBoundsException", .methodLink RX4 205 yX3_has, .instanceMethod yX3_has, .selects RX3 yX3_has yX3_has, .initialized RX3, .code yX3_has cX3_has 2 (some .boolean), .fieldLink RX3 24 "RuinViews$Tickets" "count" "I"] ++ wsX40 ++ wsX10 ++ wsX30 ++ (vx_atS RX4 145 "java/lang/IndexOutOfBoundsException" ["java/lang/RuntimeException", "java/lang/Exception"]).filter goodWord)
def wsX4_isPaidBack : List Cond := .code yX4_isPaidBack cX4_isPaidBack 2 (some .boolean) :: ([.fieldLink RX4 10 "RuinViews" "now" "LRuinViews$Park;", .fieldLink RX4 87 "RuinViews$Park" "tickets" "LRuinViews$Tickets;", .fieldLink RX4 158 "RuinViews$Tickets" "fate" "[I", .methodLink RX4 152 yX4_requireTicket, .instanceMethod yX4_requireTicket, .selects RX4 yX4_requireTicket yX4_requireTicket, .initialized RX4, .code yX4_requireTicket cX4_requireTicket 2 none, .classLink RX4 141 "java/lang/IndexOutOfBoundsException", .initialized "java/lang/IndexOutOfBoundsException", .methodLink RX4 205 yX3_has, .instanceMethod yX3_has, .selects RX3 yX3_has yX3_has, .initialized RX3, .code yX3_has cX3_has 2 (some .boolean), .fieldLink RX3 24 "RuinViews$Tickets" "count" "I"] ++ wsX40 ++ wsX10 ++ wsX30 ++ (vx_atS RX4 145 "java/lang/IndexOutOfBoundsException" ["java/lang/RuntimeException", "java/lang/Exception"]).filter goodWord)
def wsX4_meanView_r1 : List Cond := [Cond.fieldLink RX4 10 "RuinViews" "now" "LRuinViews$Park;", Cond.fieldLink RX4 30 "RuinViews$Park" "ruins" "LRuinViews$Ruins;", Cond.fieldLink RX4 96 "RuinViews$Park" "day" "I", Cond.methodLink RX4 121 yX2_countStanding, Cond.instanceMethod yX2_countStanding, Cond.selects RX2 yX2_countStanding yX2_countStanding, Cond.initialized RX2, Cond.code yX2_countStanding cX2_countStanding 3 (some .int), Cond.fieldLink RX2 30 "RuinViews$Ruins" "count" "I", Cond.fieldLink RX2 9 "RuinViews$Ruins" "walls" "[I", Cond.methodLink RX4 115 yX0_brightnessOn, Cond.static yX0_brightnessOn, Cond.initialized RX0, Cond.code yX0_brightnessOn cX0_brightnessOn 2 (some .int), Cond.methodLink RX0 9 yX0_phaseOn, Cond.static yX0_phaseOn, Cond.code yX0_phaseOn cX0_phaseOn 1 (some .int), Cond.methodLink RX4 182 yX2_sumViews, Cond.instanceMethod yX2_sumViews, Cond.selects RX2 yX2_sumViews yX2_sumViews, Cond.code yX2_sumViews cX2_sumViews 4 (some .int), Cond.methodLink RX2 54 yX2_view, Cond.instanceMethod yX2_view, Cond.selects RX2 yX2_view yX2_view]
def wsX4_meanView_r2 : List Cond := [Cond.code yX2_view cX2_view 3 (some .int), Cond.fieldLink RX2 18 "RuinViews$Ruins" "ghosts" "[I", Cond.methodLink RX2 50 yX2_grade, Cond.instanceMethod yX2_grade, Cond.selects RX2 yX2_grade yX2_grade, Cond.code yX2_grade cX2_grade 3 (some .int), Cond.fieldLink RX2 15 "RuinViews$Ruins" "ivy" "[I"]
def wsX4_meanView : List Cond := .code yX4_meanView cX4_meanView 2 (some .double) :: ((wsX4_meanView_r1 ++ wsX4_meanView_r2) ++ wsX40 ++ wsX10 ++ wsX20)
def wsX5_init : List Cond := .code yX5_init cX5_init 1 none :: ([.methodLink RX5 1 objectInit, .instanceMethod objectInit, .code objectInit ⟨#[0xb1]⟩ 1 none, .fieldLink RX5 7 "RuinViewsLaw$Sim" "guests" "I", .classLink RX5 13 "[I", .fieldLink RX5 15 "RuinViewsLaw$Sim" "ruins" "[[I", .fieldLink RX5 19 "RuinViewsLaw$Sim" "tickets" "[[I"] ++ wsX50)
def wsX5_with : List Cond := .code yX5_with cX5_with 4 (some (.array (.array .int))) :: ([.classLink RX5 13 "[I"])
def wsX5_moon : List Cond := .code yX5_moon cX5_moon 1 (some .int) :: ([.arrayClass .int, .fieldLink RX5 22 "RuinViewsLaw$Sim" "day" "I"] ++ wsX50)
def wsX5_grade : List Cond := .code yX5_grade cX5_grade 1 (some .int) :: ([])
def wsX5_view : List Cond := .code yX5_view cX5_view 4 (some .int) :: ([.fieldLink RX5 15 "RuinViewsLaw$Sim" "ruins" "[[I", .methodLink RX5 25 yX5_grade, .static yX5_grade, .initialized RX5, .code yX5_grade cX5_grade 1 (some .int)] ++ wsX50)
def wsX5_ranked : List Cond := .code yX5_ranked cX5_ranked 8 (some (.array .int)) :: ([.fieldLink RX5 15 "RuinViewsLaw$Sim" "ruins" "[[I", .arrayClass .int, .methodLink RX5 29 yX5_moon, .instanceMethod yX5_moon, .selects RX5 yX5_moon yX5_moon, .initialized RX5, .code yX5_moon cX5_moon 1 (some .int), .fieldLink RX5 22 "RuinViewsLaw$Sim" "day" "I", .methodLink RX5 33 yX5_view, .instanceMethod yX5_view, .selects RX5 yX5_view yX5_view, .code yX5_view cX5_view 4 (some .int), .methodLink RX5 25 yX5_grade, .static yX5_grade, .code yX5_grade cX5_grade 1 (some .int)] ++ wsX50)
def wsX5_pass : List Cond := .code yX5_pass cX5_pass 9 (some .int) :: ([.fieldLink RX5 37 "RuinViewsLaw$Sim" "purse" "I", .fieldLink RX5 7 "RuinViewsLaw$Sim" "guests" "I", .fieldLink RX5 15 "RuinViewsLaw$Sim" "ruins" "[[I", .fieldLink RX5 19 "RuinViewsLaw$Sim" "tickets" "[[I", .fieldLink RX5 22 "RuinViewsLaw$Sim" "day" "I", .methodLink RX5 40 yX5_ranked, .instanceMethod yX5_ranked, .selects RX5 yX5_ranked yX5_ranked, .initialized RX5, .code yX5_ranked cX5_ranked 8 (some (.array .int)), .arrayClass .int, .methodLink RX5 29 yX5_moon, .instanceMethod yX5_moon, .selects RX5 yX5_moon yX5_moon, .code yX5_moon cX5_moon 1 (some .int), .methodLink RX5 33 yX5_view, .instanceMethod yX5_view, .selects RX5 yX5_view yX5_view, .code yX5_view cX5_view 4 (some .int), .methodLink RX5 25 yX5_grade, .static yX5_grade, .code yX5_grade cX5_grade 1 (some .int)] ++ wsX50)
def wsX5_behind_r1 : List Cond := [Cond.methodLink RX5 44 yX5_pass, Cond.instanceMethod yX5_pass, Cond.selects RX5 yX5_pass yX5_pass, Cond.initialized RX5, Cond.code yX5_pass cX5_pass 9 (some .int), Cond.fieldLink RX5 37 "RuinViewsLaw$Sim" "purse" "I", Cond.fieldLink RX5 7 "RuinViewsLaw$Sim" "guests" "I", Cond.fieldLink RX5 15 "RuinViewsLaw$Sim" "ruins" "[[I", Cond.fieldLink RX5 19 "RuinViewsLaw$Sim" "tickets" "[[I", Cond.fieldLink RX5 22 "RuinViewsLaw$Sim" "day" "I", Cond.methodLink RX5 40 yX5_ranked, Cond.instanceMethod yX5_ranked, Cond.selects RX5 yX5_ranked yX5_ranked, Cond.code yX5_ranked cX5_ranked 8 (some (.array .int)), Cond.arrayClass .int, Cond.methodLink RX5 29 yX5_moon, Cond.instanceMethod yX5_moon, Cond.selects RX5 yX5_moon yX5_moon, Cond.code yX5_moon cX5_moon 1 (some .int), Cond.methodLink RX5 33 yX5_view, Cond.instanceMethod yX5_view, Cond.selects RX5 yX5_view yX5_view, Cond.code yX5_view cX5_view 4 (some .int), Cond.methodLink RX5 25 yX5_grade]
def wsX5_behind_r2 : List Cond := [Cond.static yX5_grade, Cond.code yX5_grade cX5_grade 1 (some .int)]
def wsX5_behind : List Cond := .code yX5_behind cX5_behind 4 (some .int) :: ((wsX5_behind_r1 ++ wsX5_behind_r2) ++ wsX50)
def wsX5_isSame_r1 : List Cond := [Cond.fieldLink RX5 22 "RuinViewsLaw$Sim" "day" "I", Cond.fieldLink RX5 15 "RuinViewsLaw$Sim" "ruins" "[[I", Cond.fieldLink RX5 37 "RuinViewsLaw$Sim" "purse" "I", Cond.fieldLink RX5 19 "RuinViewsLaw$Sim" "tickets" "[[I", Cond.fieldLink RX5 7 "RuinViewsLaw$Sim" "guests" "I", Cond.methodLink RX5 40 yX5_ranked, Cond.instanceMethod yX5_ranked, Cond.selects RX5 yX5_ranked yX5_ranked, Cond.initialized RX5, Cond.code yX5_ranked cX5_ranked 8 (some (.array .int)), Cond.arrayClass .int, Cond.methodLink RX5 29 yX5_moon, Cond.instanceMethod yX5_moon, Cond.selects RX5 yX5_moon yX5_moon, Cond.code yX5_moon cX5_moon 1 (some .int), Cond.methodLink RX5 33 yX5_view, Cond.instanceMethod yX5_view, Cond.selects RX5 yX5_view yX5_view, Cond.code yX5_view cX5_view 4 (some .int), Cond.methodLink RX5 25 yX5_grade, Cond.static yX5_grade, Cond.code yX5_grade cX5_grade 1 (some .int), Cond.methodLink RX5 52 yX4_day, Cond.instanceMethod yX4_day]
def wsX5_isSame_r2 : List Cond := [Cond.selects RX4 yX4_day yX4_day, Cond.initialized RX4, Cond.code yX4_day cX4_day 1 (some .int), Cond.fieldLink RX4 10 "RuinViews" "now" "LRuinViews$Park;", Cond.fieldLink RX4 96 "RuinViews$Park" "day" "I", Cond.methodLink RX5 56 yX4_phase, Cond.instanceMethod yX4_phase, Cond.selects RX4 yX4_phase yX4_phase, Cond.code yX4_phase cX4_phase 1 (some .int), Cond.methodLink RX4 109 yX0_phaseOn, Cond.static yX0_phaseOn, Cond.initialized RX0, Cond.code yX0_phaseOn cX0_phaseOn 1 (some .int), Cond.methodLink RX5 59 yX4_brightness, Cond.instanceMethod yX4_brightness, Cond.selects RX4 yX4_brightness yX4_brightness, Cond.code yX4_brightness cX4_brightness 1 (some .int), Cond.methodLink RX4 115 yX0_brightnessOn, Cond.static yX0_brightnessOn, Cond.code yX0_brightnessOn cX0_brightnessOn 2 (some .int), Cond.methodLink RX0 9 yX0_phaseOn, Cond.methodLink RX5 62 yX4_daysUntilFullMoon, Cond.instanceMethod yX4_daysUntilFullMoon, Cond.selects RX4 yX4_daysUntilFullMoon yX4_daysUntilFullMoon]
def wsX5_isSame_r3 : List Cond := [Cond.code yX4_daysUntilFullMoon cX4_daysUntilFullMoon 1 (some .int), Cond.methodLink RX4 118 yX0_daysUntilFullFrom, Cond.static yX0_daysUntilFullFrom, Cond.code yX0_daysUntilFullFrom cX0_daysUntilFullFrom 1 (some .int), Cond.methodLink RX5 65 yX4_ruins, Cond.instanceMethod yX4_ruins, Cond.selects RX4 yX4_ruins yX4_ruins, Cond.code yX4_ruins cX4_ruins 1 (some .int), Cond.fieldLink RX4 30 "RuinViews$Park" "ruins" "LRuinViews$Ruins;", Cond.fieldLink RX4 34 "RuinViews$Ruins" "count" "I", Cond.methodLink RX5 67 yX4_standing, Cond.instanceMethod yX4_standing, Cond.selects RX4 yX4_standing yX4_standing, Cond.code yX4_standing cX4_standing 1 (some .int), Cond.methodLink RX4 121 yX2_countStanding, Cond.instanceMethod yX2_countStanding, Cond.selects RX2 yX2_countStanding yX2_countStanding, Cond.initialized RX2, Cond.code yX2_countStanding cX2_countStanding 3 (some .int), Cond.fieldLink RX2 30 "RuinViews$Ruins" "count" "I", Cond.fieldLink RX2 9 "RuinViews$Ruins" "walls" "[I", Cond.methodLink RX5 70 yX4_purse, Cond.instanceMethod yX4_purse, Cond.selects RX4 yX4_purse yX4_purse]
def wsX5_isSame_r4 : List Cond := [Cond.code yX4_purse cX4_purse 1 (some .int), Cond.fieldLink RX4 70 "RuinViews$Park" "purse" "I", Cond.methodLink RX5 72 yX4_tickets, Cond.instanceMethod yX4_tickets, Cond.selects RX4 yX4_tickets yX4_tickets, Cond.code yX4_tickets cX4_tickets 1 (some .int), Cond.fieldLink RX4 87 "RuinViews$Park" "tickets" "LRuinViews$Tickets;", Cond.fieldLink RX4 91 "RuinViews$Tickets" "count" "I", Cond.methodLink RX5 74 yX4_ruinAt, Cond.instanceMethod yX4_ruinAt, Cond.selects RX4 yX4_ruinAt yX4_ruinAt, Cond.code yX4_ruinAt cX4_ruinAt 2 (some .int), Cond.classLink RX4 141 "java/lang/IndexOutOfBoundsException", Cond.initialized "java/lang/IndexOutOfBoundsException", Cond.methodLink RX4 19 yX4_isWithin, Cond.static yX4_isWithin, Cond.code yX4_isWithin cX4_isWithin 3 (some .boolean), Cond.methodLink RX4 135 yX1_rankRuins, Cond.instanceMethod yX1_rankRuins, Cond.selects RX1 yX1_rankRuins yX1_rankRuins, Cond.initialized RX1, Cond.code yX1_rankRuins cX1_rankRuins 1 none, Cond.fieldLink RX1 12 "RuinViews$Park" "ruins" "LRuinViews$Ruins;", Cond.fieldLink RX1 25 "RuinViews$Park" "day" "I"]
def wsX5_isSame_r5 : List Cond := [Cond.methodLink RX1 42 yX0_brightnessOn, Cond.methodLink RX1 48 yX2_rankAll, Cond.instanceMethod yX2_rankAll, Cond.selects RX2 yX2_rankAll yX2_rankAll, Cond.code yX2_rankAll cX2_rankAll 3 none, Cond.fieldLink RX2 24 "RuinViews$Ruins" "merits" "[I", Cond.fieldLink RX2 27 "RuinViews$Ruins" "ranks" "[I", Cond.methodLink RX2 57 yX2_merit, Cond.instanceMethod yX2_merit, Cond.selects RX2 yX2_merit yX2_merit, Cond.code yX2_merit cX2_merit 4 (some .int), Cond.fieldLink RX2 21 "RuinViews$Ruins" "price" "[I", Cond.methodLink RX2 54 yX2_view, Cond.instanceMethod yX2_view, Cond.selects RX2 yX2_view yX2_view, Cond.code yX2_view cX2_view 3 (some .int), Cond.fieldLink RX2 18 "RuinViews$Ruins" "ghosts" "[I", Cond.methodLink RX2 50 yX2_grade, Cond.instanceMethod yX2_grade, Cond.selects RX2 yX2_grade yX2_grade, Cond.code yX2_grade cX2_grade 3 (some .int), Cond.fieldLink RX2 15 "RuinViews$Ruins" "ivy" "[I", Cond.methodLink RX2 60 yX2_countAbove, Cond.instanceMethod yX2_countAbove]
def wsX5_isSame_r6 : List Cond := [Cond.selects RX2 yX2_countAbove yX2_countAbove, Cond.code yX2_countAbove cX2_countAbove 4 (some .int), Cond.methodLink RX4 146 yX2_findRank, Cond.instanceMethod yX2_findRank, Cond.selects RX2 yX2_findRank yX2_findRank, Cond.code yX2_findRank cX2_findRank 3 (some .int), Cond.methodLink RX5 77 yX4_rankOf, Cond.instanceMethod yX4_rankOf, Cond.selects RX4 yX4_rankOf yX4_rankOf, Cond.code yX4_rankOf cX4_rankOf 2 (some .int), Cond.fieldLink RX4 138 "RuinViews$Ruins" "ranks" "[I", Cond.methodLink RX4 49 yX4_requireRuin, Cond.instanceMethod yX4_requireRuin, Cond.selects RX4 yX4_requireRuin yX4_requireRuin, Cond.code yX4_requireRuin cX4_requireRuin 2 none, Cond.methodLink RX4 200 yX2_has, Cond.instanceMethod yX2_has, Cond.selects RX2 yX2_has yX2_has, Cond.code yX2_has cX2_has 2 (some .boolean), Cond.methodLink RX5 80 yX4_guestsOf, Cond.instanceMethod yX4_guestsOf, Cond.selects RX4 yX4_guestsOf yX4_guestsOf, Cond.code yX4_guestsOf cX4_guestsOf 2 (some .int), Cond.methodLink RX4 149 yX1_guestsAtRank]
def wsX5_isSame_r7 : List Cond := [Cond.instanceMethod yX1_guestsAtRank, Cond.selects RX1 yX1_guestsAtRank yX1_guestsAtRank, Cond.code yX1_guestsAtRank cX1_guestsAtRank 4 (some .int), Cond.fieldLink RX1 29 "RuinViews$Park" "guests" "I", Cond.methodLink RX5 83 yX4_wallsOf, Cond.instanceMethod yX4_wallsOf, Cond.selects RX4 yX4_wallsOf yX4_wallsOf, Cond.code yX4_wallsOf cX4_wallsOf 2 (some .int), Cond.fieldLink RX4 67 "RuinViews$Ruins" "walls" "[I", Cond.methodLink RX5 86 yX4_ivyOf, Cond.instanceMethod yX4_ivyOf, Cond.selects RX4 yX4_ivyOf yX4_ivyOf, Cond.code yX4_ivyOf cX4_ivyOf 2 (some .int), Cond.fieldLink RX4 59 "RuinViews$Ruins" "ivy" "[I", Cond.methodLink RX5 89 yX4_ghostsOf, Cond.instanceMethod yX4_ghostsOf, Cond.selects RX4 yX4_ghostsOf yX4_ghostsOf, Cond.code yX4_ghostsOf cX4_ghostsOf 2 (some .int), Cond.fieldLink RX4 128 "RuinViews$Ruins" "ghosts" "[I", Cond.methodLink RX5 92 yX4_gradeOf, Cond.instanceMethod yX4_gradeOf, Cond.selects RX4 yX4_gradeOf yX4_gradeOf, Cond.code yX4_gradeOf cX4_gradeOf 2 (some .int), Cond.methodLink RX4 125 yX2_grade]
def wsX5_isSame_r8 : List Cond := [Cond.methodLink RX5 95 yX4_viewOf, Cond.instanceMethod yX4_viewOf, Cond.selects RX4 yX4_viewOf yX4_viewOf, Cond.code yX4_viewOf cX4_viewOf 2 (some .int), Cond.methodLink RX4 131 yX2_view, Cond.methodLink RX5 98 yX4_hasCollapsed, Cond.instanceMethod yX4_hasCollapsed, Cond.selects RX4 yX4_hasCollapsed yX4_hasCollapsed, Cond.code yX4_hasCollapsed cX4_hasCollapsed 2 (some .boolean), Cond.methodLink RX4 63 yX2_stands, Cond.instanceMethod yX2_stands, Cond.selects RX2 yX2_stands yX2_stands, Cond.code yX2_stands cX2_stands 2 (some .boolean), Cond.methodLink RX2 40 yX2_has, Cond.methodLink RX5 102 yX4_dayOf, Cond.instanceMethod yX4_dayOf, Cond.selects RX4 yX4_dayOf yX4_dayOf, Cond.code yX4_dayOf cX4_dayOf 2 (some .int), Cond.fieldLink RX4 155 "RuinViews$Tickets" "forDay" "[I", Cond.methodLink RX4 152 yX4_requireTicket, Cond.instanceMethod yX4_requireTicket, Cond.selects RX4 yX4_requireTicket yX4_requireTicket, Cond.code yX4_requireTicket cX4_requireTicket 2 none, Cond.methodLink RX4 205 yX3_has]
def wsX5_isSame_r9 : List Cond := [Cond.instanceMethod yX3_has, Cond.selects RX3 yX3_has yX3_has, Cond.initialized RX3, Cond.code yX3_has cX3_has 2 (some .boolean), Cond.fieldLink RX3 24 "RuinViews$Tickets" "count" "I", Cond.methodLink RX5 105 yX4_isOpen, Cond.instanceMethod yX4_isOpen, Cond.selects RX4 yX4_isOpen yX4_isOpen, Cond.code yX4_isOpen cX4_isOpen 2 (some .boolean), Cond.fieldLink RX4 158 "RuinViews$Tickets" "fate" "[I", Cond.methodLink RX5 108 yX4_isPaidBack, Cond.instanceMethod yX4_isPaidBack, Cond.selects RX4 yX4_isPaidBack yX4_isPaidBack, Cond.code yX4_isPaidBack cX4_isPaidBack 2 (some .boolean), Cond.methodLink RX5 111 yX4_meanView, Cond.instanceMethod yX4_meanView, Cond.selects RX4 yX4_meanView yX4_meanView, Cond.code yX4_meanView cX4_meanView 2 (some .double), Cond.methodLink RX4 182 yX2_sumViews, Cond.instanceMethod yX2_sumViews, Cond.selects RX2 yX2_sumViews yX2_sumViews, Cond.code yX2_sumViews cX2_sumViews 4 (some .int)]
def wsX5_isSame : List Cond := .code yX5_isSame cX5_isSame 9 (some .boolean) :: ((wsX5_isSame_r1 ++ (wsX5_isSame_r2 ++ (wsX5_isSame_r3 ++ (wsX5_isSame_r4 ++ (wsX5_isSame_r5 ++ (wsX5_isSame_r6 ++ (wsX5_isSame_r7 ++ (wsX5_isSame_r8 ++ wsX5_isSame_r9)))))))) ++ wsX50 ++ wsX40 ++ wsX10 ++ wsX20 ++ wsX30 ++ (vx_atS RX4 145 "java/lang/IndexOutOfBoundsException" ["java/lang/RuntimeException", "java/lang/Exception"]).filter goodWord)
def wsJ9_max_7cf53 : List Cond := .code yJ9_max_7cf53 cJ9_max_7cf53 2 (some .int) :: ([])
def wsJ9_min_7cf53 : List Cond := .code yJ9_min_7cf53 cJ9_min_7cf53 2 (some .int) :: ([])
def wsL_below : List Cond := .code yL_below cL_below 2 (some .int) :: ([.constant RL 7 (2147483647)])
def wsL_cell : List Cond := .code yL_cell cL_cell 2 (some .int) :: ([.constant RL 8 (790386105)])
def wsL_act_r1 : List Cond := [Cond.fieldLink RL 9 "RuinViewsLaw$Sim" "ruins" "[[I", Cond.arrayClass .int, Cond.methodLink RL 31 Lib.Math.max.name, Cond.static Lib.Math.max.name, Cond.initialized "java/lang/Math", Cond.code Lib.Math.max.name Lib.Math.max.code 2 (some .int), Cond.fieldLink RL 39 "RuinViewsLaw$Sim" "purse" "I", Cond.fieldLink RL 50 "RuinViewsLaw$Sim" "guests" "I", Cond.fieldLink RL 56 "RuinViewsLaw$Sim" "tickets" "[[I", Cond.fieldLink RL 59 "RuinViewsLaw$Sim" "day" "I", Cond.methodLink RL 15 yL_below, Cond.static yL_below, Cond.initialized RL, Cond.code yL_below cL_below 2 (some .int), Cond.constant RL 7 (2147483647), Cond.methodLink RL 21 yX5_with, Cond.static yX5_with, Cond.initialized RX5, Cond.code yX5_with cX5_with 4 (some (.array (.array .int))), Cond.classLink RX5 13 "[I", Cond.methodLink RL 25 yX4_addRuin, Cond.instanceMethod yX4_addRuin, Cond.selects RX4 yX4_addRuin yX4_addRuin, Cond.initialized RX4]
def wsL_act_r2 : List Cond := [Cond.code yX4_addRuin cX4_addRuin 5 (some .int), Cond.classLink RX4 23 "java/lang/IllegalArgumentException", Cond.initialized "java/lang/IllegalArgumentException", Cond.classLink RX4 40 "java/lang/IllegalStateException", Cond.initialized "java/lang/IllegalStateException", Cond.fieldLink RX4 10 "RuinViews" "now" "LRuinViews$Park;", Cond.fieldLink RX4 30 "RuinViews$Park" "ruins" "LRuinViews$Ruins;", Cond.fieldLink RX4 34 "RuinViews$Ruins" "count" "I", Cond.methodLink RX4 19 yX4_isWithin, Cond.static yX4_isWithin, Cond.code yX4_isWithin cX4_isWithin 3 (some .boolean), Cond.methodLink RX4 45 yX2_build, Cond.instanceMethod yX2_build, Cond.selects RX2 yX2_build yX2_build, Cond.initialized RX2, Cond.code yX2_build cX2_build 6 (some .int), Cond.fieldLink RX2 30 "RuinViews$Ruins" "count" "I", Cond.fieldLink RX2 9 "RuinViews$Ruins" "walls" "[I", Cond.fieldLink RX2 15 "RuinViews$Ruins" "ivy" "[I", Cond.fieldLink RX2 18 "RuinViews$Ruins" "ghosts" "[I", Cond.fieldLink RX2 21 "RuinViews$Ruins" "price" "[I", Cond.methodLink RL 36 yX4_cutIvy, Cond.instanceMethod yX4_cutIvy, Cond.selects RX4 yX4_cutIvy yX4_cutIvy]
def wsL_act_r3 : List Cond := [Cond.code yX4_cutIvy cX4_cutIvy 3 (some .int), Cond.fieldLink RX4 59 "RuinViews$Ruins" "ivy" "[I", Cond.methodLink RX4 49 yX4_requireRuin, Cond.instanceMethod yX4_requireRuin, Cond.selects RX4 yX4_requireRuin yX4_requireRuin, Cond.code yX4_requireRuin cX4_requireRuin 2 none, Cond.classLink RX4 141 "java/lang/IndexOutOfBoundsException", Cond.initialized "java/lang/IndexOutOfBoundsException", Cond.methodLink RX4 200 yX2_has, Cond.instanceMethod yX2_has, Cond.selects RX2 yX2_has yX2_has, Cond.code yX2_has cX2_has 2 (some .boolean), Cond.methodLink RX4 55 yX2_cut, Cond.instanceMethod yX2_cut, Cond.selects RX2 yX2_cut yX2_cut, Cond.code yX2_cut cX2_cut 3 none, Cond.methodLink RX2 44 Lib.Math.max.name, Cond.methodLink RL 43 yX4_prop, Cond.instanceMethod yX4_prop, Cond.selects RX4 yX4_prop yX4_prop, Cond.code yX4_prop cX4_prop 2 (some .int), Cond.fieldLink RX4 67 "RuinViews$Ruins" "walls" "[I", Cond.fieldLink RX4 70 "RuinViews$Park" "purse" "I", Cond.methodLink RX4 63 yX2_stands]
def wsL_act_r4 : List Cond := [Cond.instanceMethod yX2_stands, Cond.selects RX2 yX2_stands yX2_stands, Cond.code yX2_stands cX2_stands 2 (some .boolean), Cond.methodLink RX2 40 yX2_has, Cond.methodLink RL 47 yX4_setPrice, Cond.instanceMethod yX4_setPrice, Cond.selects RX4 yX4_setPrice yX4_setPrice, Cond.code yX4_setPrice cX4_setPrice 4 (some .int), Cond.fieldLink RX4 77 "RuinViews$Ruins" "price" "[I", Cond.methodLink RL 53 yX4_setGuests, Cond.instanceMethod yX4_setGuests, Cond.selects RX4 yX4_setGuests yX4_setGuests, Cond.code yX4_setGuests cX4_setGuests 3 (some .int), Cond.fieldLink RX4 82 "RuinViews$Park" "guests" "I", Cond.methodLink RL 62 yX4_sellTicket, Cond.instanceMethod yX4_sellTicket, Cond.selects RX4 yX4_sellTicket yX4_sellTicket, Cond.code yX4_sellTicket cX4_sellTicket 4 (some .int), Cond.fieldLink RX4 87 "RuinViews$Park" "tickets" "LRuinViews$Tickets;", Cond.fieldLink RX4 91 "RuinViews$Tickets" "count" "I", Cond.fieldLink RX4 96 "RuinViews$Park" "day" "I", Cond.methodLink RX4 99 yX3_issue, Cond.instanceMethod yX3_issue, Cond.selects RX3 yX3_issue yX3_issue]
def wsL_act_r5 : List Cond := [Cond.initialized RX3, Cond.code yX3_issue cX3_issue 5 (some .int), Cond.fieldLink RX3 24 "RuinViews$Tickets" "count" "I", Cond.fieldLink RX3 9 "RuinViews$Tickets" "forRuin" "[I", Cond.fieldLink RX3 15 "RuinViews$Tickets" "forDay" "[I", Cond.fieldLink RX3 18 "RuinViews$Tickets" "paid" "[I", Cond.fieldLink RX3 21 "RuinViews$Tickets" "fate" "[I", Cond.methodLink RL 65 yX4_pass, Cond.instanceMethod yX4_pass, Cond.selects RX4 yX4_pass yX4_pass, Cond.code yX4_pass cX4_pass 3 (some .int), Cond.methodLink RX4 103 yX4_requireDaysToPass, Cond.static yX4_requireDaysToPass, Cond.code yX4_requireDaysToPass cX4_requireDaysToPass 1 none, Cond.methodLink RX4 106 yX1_passDays, Cond.instanceMethod yX1_passDays, Cond.selects RX1 yX1_passDays yX1_passDays, Cond.initialized RX1, Cond.code yX1_passDays cX1_passDays 3 none, Cond.fieldLink RX1 32 "RuinViews$Park" "purse" "I", Cond.fieldLink RX1 21 "RuinViews$Park" "tickets" "LRuinViews$Tickets;", Cond.fieldLink RX1 25 "RuinViews$Park" "day" "I", Cond.fieldLink RX1 12 "RuinViews$Park" "ruins" "LRuinViews$Ruins;", Cond.methodLink RX1 65 yX1_takings]
def wsL_act_r6 : List Cond := [Cond.instanceMethod yX1_takings, Cond.selects RX1 yX1_takings yX1_takings, Cond.code yX1_takings cX1_takings 3 (some .int), Cond.fieldLink RX1 52 "RuinViews$Ruins" "count" "I", Cond.fieldLink RX1 55 "RuinViews$Ruins" "ranks" "[I", Cond.fieldLink RX1 62 "RuinViews$Ruins" "price" "[I", Cond.methodLink RX1 42 yX0_brightnessOn, Cond.static yX0_brightnessOn, Cond.initialized RX0, Cond.code yX0_brightnessOn cX0_brightnessOn 2 (some .int), Cond.methodLink RX0 9 yX0_phaseOn, Cond.static yX0_phaseOn, Cond.code yX0_phaseOn cX0_phaseOn 1 (some .int), Cond.methodLink RX1 48 yX2_rankAll, Cond.instanceMethod yX2_rankAll, Cond.selects RX2 yX2_rankAll yX2_rankAll, Cond.code yX2_rankAll cX2_rankAll 3 none, Cond.fieldLink RX2 24 "RuinViews$Ruins" "merits" "[I", Cond.fieldLink RX2 27 "RuinViews$Ruins" "ranks" "[I", Cond.methodLink RX2 57 yX2_merit, Cond.instanceMethod yX2_merit, Cond.selects RX2 yX2_merit yX2_merit, Cond.code yX2_merit cX2_merit 4 (some .int), Cond.methodLink RX2 54 yX2_view]
def wsL_act_r7 : List Cond := [Cond.instanceMethod yX2_view, Cond.selects RX2 yX2_view yX2_view, Cond.code yX2_view cX2_view 3 (some .int), Cond.methodLink RX2 50 yX2_grade, Cond.instanceMethod yX2_grade, Cond.selects RX2 yX2_grade yX2_grade, Cond.code yX2_grade cX2_grade 3 (some .int), Cond.methodLink RX2 60 yX2_countAbove, Cond.instanceMethod yX2_countAbove, Cond.selects RX2 yX2_countAbove yX2_countAbove, Cond.code yX2_countAbove cX2_countAbove 4 (some .int), Cond.methodLink RX1 59 yX1_guestsAtRank, Cond.instanceMethod yX1_guestsAtRank, Cond.selects RX1 yX1_guestsAtRank yX1_guestsAtRank, Cond.code yX1_guestsAtRank cX1_guestsAtRank 4 (some .int), Cond.fieldLink RX1 29 "RuinViews$Park" "guests" "I", Cond.methodLink RX1 69 yX3_settle, Cond.instanceMethod yX3_settle, Cond.selects RX3 yX3_settle yX3_settle, Cond.code yX3_settle cX3_settle 5 (some .int), Cond.methodLink RX3 34 yX2_stands, Cond.methodLink RX1 73 yX2_ageAll, Cond.instanceMethod yX2_ageAll, Cond.selects RX2 yX2_ageAll yX2_ageAll]
def wsL_act_r8 : List Cond := [Cond.code yX2_ageAll cX2_ageAll 3 none, Cond.methodLink RX2 63 yX2_age, Cond.instanceMethod yX2_age, Cond.selects RX2 yX2_age yX2_age, Cond.code yX2_age cX2_age 3 none, Cond.methodLink RX2 67 yX2_growIvy, Cond.instanceMethod yX2_growIvy, Cond.selects RX2 yX2_growIvy yX2_growIvy, Cond.code yX2_growIvy cX2_growIvy 3 none, Cond.methodLink RX2 70 yX0_brightnessOn, Cond.methodLink RX2 75 yX2_moveGhosts, Cond.instanceMethod yX2_moveGhosts, Cond.selects RX2 yX2_moveGhosts yX2_moveGhosts, Cond.code yX2_moveGhosts cX2_moveGhosts 4 none, Cond.methodLink RL 68 yX5_behind, Cond.instanceMethod yX5_behind, Cond.selects RX5 yX5_behind yX5_behind, Cond.code yX5_behind cX5_behind 4 (some .int), Cond.methodLink RX5 44 yX5_pass, Cond.instanceMethod yX5_pass, Cond.selects RX5 yX5_pass yX5_pass, Cond.code yX5_pass cX5_pass 9 (some .int), Cond.fieldLink RX5 37 "RuinViewsLaw$Sim" "purse" "I", Cond.fieldLink RX5 7 "RuinViewsLaw$Sim" "guests" "I"]
def wsL_act_r9 : List Cond := [Cond.fieldLink RX5 15 "RuinViewsLaw$Sim" "ruins" "[[I", Cond.fieldLink RX5 19 "RuinViewsLaw$Sim" "tickets" "[[I", Cond.fieldLink RX5 22 "RuinViewsLaw$Sim" "day" "I", Cond.methodLink RX5 40 yX5_ranked, Cond.instanceMethod yX5_ranked, Cond.selects RX5 yX5_ranked yX5_ranked, Cond.code yX5_ranked cX5_ranked 8 (some (.array .int)), Cond.methodLink RX5 29 yX5_moon, Cond.instanceMethod yX5_moon, Cond.selects RX5 yX5_moon yX5_moon, Cond.code yX5_moon cX5_moon 1 (some .int), Cond.methodLink RX5 33 yX5_view, Cond.instanceMethod yX5_view, Cond.selects RX5 yX5_view yX5_view, Cond.code yX5_view cX5_view 4 (some .int), Cond.methodLink RX5 25 yX5_grade, Cond.static yX5_grade, Cond.code yX5_grade cX5_grade 1 (some .int)]
def wsL_act : List Cond := .code yL_act cL_act 13 (some .boolean) :: ((wsL_act_r1 ++ (wsL_act_r2 ++ (wsL_act_r3 ++ (wsL_act_r4 ++ (wsL_act_r5 ++ (wsL_act_r6 ++ (wsL_act_r7 ++ (wsL_act_r8 ++ wsL_act_r9)))))))) ++ wsX50 ++ wsX40 ++ wsX10 ++ wsX20 ++ wsX30 ++ (vx_atS RX4 27 "java/lang/IllegalArgumentException" ["java/lang/RuntimeException", "java/lang/Exception"]).filter goodWord ++ (vx_atS RX4 44 "java/lang/IllegalStateException" ["java/lang/RuntimeException", "java/lang/Exception"]).filter goodWord ++ (vx_atS RX4 145 "java/lang/IndexOutOfBoundsException" ["java/lang/RuntimeException", "java/lang/Exception"]).filter goodWord)
def wsL_build_r1 : List Cond := [Cond.classLink RL 10 RX5, Cond.instantiable RX5 5, Cond.initialized RX5, Cond.instanceMethod yX5_init, Cond.code yX5_init cX5_init 1 none, Cond.methodLink RX5 1 objectInit, Cond.instanceMethod objectInit, Cond.code objectInit ⟨#[0xb1]⟩ 1 none, Cond.fieldLink RX5 7 "RuinViewsLaw$Sim" "guests" "I", Cond.classLink RX5 13 "[I", Cond.fieldLink RX5 15 "RuinViewsLaw$Sim" "ruins" "[[I", Cond.fieldLink RX5 19 "RuinViewsLaw$Sim" "tickets" "[[I", Cond.methodLink RL 72 yL_cell, Cond.static yL_cell, Cond.initialized RL, Cond.code yL_cell cL_cell 2 (some .int), Cond.constant RL 8 (790386105), Cond.methodLink RL 15 yL_below, Cond.static yL_below, Cond.code yL_below cL_below 2 (some .int), Cond.constant RL 7 (2147483647), Cond.methodLink RL 76 yL_act, Cond.static yL_act, Cond.code yL_act cL_act 13 (some .boolean)]
def wsL_build_r2 : List Cond := [Cond.fieldLink RL 9 "RuinViewsLaw$Sim" "ruins" "[[I", Cond.arrayClass .int, Cond.methodLink RL 31 Lib.Math.max.name, Cond.static Lib.Math.max.name, Cond.initialized "java/lang/Math", Cond.code Lib.Math.max.name Lib.Math.max.code 2 (some .int), Cond.fieldLink RL 39 "RuinViewsLaw$Sim" "purse" "I", Cond.fieldLink RL 50 "RuinViewsLaw$Sim" "guests" "I", Cond.fieldLink RL 56 "RuinViewsLaw$Sim" "tickets" "[[I", Cond.fieldLink RL 59 "RuinViewsLaw$Sim" "day" "I", Cond.methodLink RL 21 yX5_with, Cond.static yX5_with, Cond.code yX5_with cX5_with 4 (some (.array (.array .int))), Cond.methodLink RL 25 yX4_addRuin, Cond.instanceMethod yX4_addRuin, Cond.selects RX4 yX4_addRuin yX4_addRuin, Cond.initialized RX4, Cond.code yX4_addRuin cX4_addRuin 5 (some .int), Cond.classLink RX4 23 "java/lang/IllegalArgumentException", Cond.initialized "java/lang/IllegalArgumentException", Cond.classLink RX4 40 "java/lang/IllegalStateException", Cond.initialized "java/lang/IllegalStateException", Cond.fieldLink RX4 10 "RuinViews" "now" "LRuinViews$Park;", Cond.fieldLink RX4 30 "RuinViews$Park" "ruins" "LRuinViews$Ruins;"]
def wsL_build_r3 : List Cond := [Cond.fieldLink RX4 34 "RuinViews$Ruins" "count" "I", Cond.methodLink RX4 19 yX4_isWithin, Cond.static yX4_isWithin, Cond.code yX4_isWithin cX4_isWithin 3 (some .boolean), Cond.methodLink RX4 45 yX2_build, Cond.instanceMethod yX2_build, Cond.selects RX2 yX2_build yX2_build, Cond.initialized RX2, Cond.code yX2_build cX2_build 6 (some .int), Cond.fieldLink RX2 30 "RuinViews$Ruins" "count" "I", Cond.fieldLink RX2 9 "RuinViews$Ruins" "walls" "[I", Cond.fieldLink RX2 15 "RuinViews$Ruins" "ivy" "[I", Cond.fieldLink RX2 18 "RuinViews$Ruins" "ghosts" "[I", Cond.fieldLink RX2 21 "RuinViews$Ruins" "price" "[I", Cond.methodLink RL 36 yX4_cutIvy, Cond.instanceMethod yX4_cutIvy, Cond.selects RX4 yX4_cutIvy yX4_cutIvy, Cond.code yX4_cutIvy cX4_cutIvy 3 (some .int), Cond.fieldLink RX4 59 "RuinViews$Ruins" "ivy" "[I", Cond.methodLink RX4 49 yX4_requireRuin, Cond.instanceMethod yX4_requireRuin, Cond.selects RX4 yX4_requireRuin yX4_requireRuin, Cond.code yX4_requireRuin cX4_requireRuin 2 none, Cond.classLink RX4 141 "java/lang/IndexOutOfBoundsException"]
def wsL_build_r4 : List Cond := [Cond.initialized "java/lang/IndexOutOfBoundsException", Cond.methodLink RX4 200 yX2_has, Cond.instanceMethod yX2_has, Cond.selects RX2 yX2_has yX2_has, Cond.code yX2_has cX2_has 2 (some .boolean), Cond.methodLink RX4 55 yX2_cut, Cond.instanceMethod yX2_cut, Cond.selects RX2 yX2_cut yX2_cut, Cond.code yX2_cut cX2_cut 3 none, Cond.methodLink RX2 44 Lib.Math.max.name, Cond.methodLink RL 43 yX4_prop, Cond.instanceMethod yX4_prop, Cond.selects RX4 yX4_prop yX4_prop, Cond.code yX4_prop cX4_prop 2 (some .int), Cond.fieldLink RX4 67 "RuinViews$Ruins" "walls" "[I", Cond.fieldLink RX4 70 "RuinViews$Park" "purse" "I", Cond.methodLink RX4 63 yX2_stands, Cond.instanceMethod yX2_stands, Cond.selects RX2 yX2_stands yX2_stands, Cond.code yX2_stands cX2_stands 2 (some .boolean), Cond.methodLink RX2 40 yX2_has, Cond.methodLink RL 47 yX4_setPrice, Cond.instanceMethod yX4_setPrice, Cond.selects RX4 yX4_setPrice yX4_setPrice]
def wsL_build_r5 : List Cond := [Cond.code yX4_setPrice cX4_setPrice 4 (some .int), Cond.fieldLink RX4 77 "RuinViews$Ruins" "price" "[I", Cond.methodLink RL 53 yX4_setGuests, Cond.instanceMethod yX4_setGuests, Cond.selects RX4 yX4_setGuests yX4_setGuests, Cond.code yX4_setGuests cX4_setGuests 3 (some .int), Cond.fieldLink RX4 82 "RuinViews$Park" "guests" "I", Cond.methodLink RL 62 yX4_sellTicket, Cond.instanceMethod yX4_sellTicket, Cond.selects RX4 yX4_sellTicket yX4_sellTicket, Cond.code yX4_sellTicket cX4_sellTicket 4 (some .int), Cond.fieldLink RX4 87 "RuinViews$Park" "tickets" "LRuinViews$Tickets;", Cond.fieldLink RX4 91 "RuinViews$Tickets" "count" "I", Cond.fieldLink RX4 96 "RuinViews$Park" "day" "I", Cond.methodLink RX4 99 yX3_issue, Cond.instanceMethod yX3_issue, Cond.selects RX3 yX3_issue yX3_issue, Cond.initialized RX3, Cond.code yX3_issue cX3_issue 5 (some .int), Cond.fieldLink RX3 24 "RuinViews$Tickets" "count" "I", Cond.fieldLink RX3 9 "RuinViews$Tickets" "forRuin" "[I", Cond.fieldLink RX3 15 "RuinViews$Tickets" "forDay" "[I", Cond.fieldLink RX3 18 "RuinViews$Tickets" "paid" "[I", Cond.fieldLink RX3 21 "RuinViews$Tickets" "fate" "[I"]
def wsL_build_r6 : List Cond := [Cond.methodLink RL 65 yX4_pass, Cond.instanceMethod yX4_pass, Cond.selects RX4 yX4_pass yX4_pass, Cond.code yX4_pass cX4_pass 3 (some .int), Cond.methodLink RX4 103 yX4_requireDaysToPass, Cond.static yX4_requireDaysToPass, Cond.code yX4_requireDaysToPass cX4_requireDaysToPass 1 none, Cond.methodLink RX4 106 yX1_passDays, Cond.instanceMethod yX1_passDays, Cond.selects RX1 yX1_passDays yX1_passDays, Cond.initialized RX1, Cond.code yX1_passDays cX1_passDays 3 none, Cond.fieldLink RX1 32 "RuinViews$Park" "purse" "I", Cond.fieldLink RX1 21 "RuinViews$Park" "tickets" "LRuinViews$Tickets;", Cond.fieldLink RX1 25 "RuinViews$Park" "day" "I", Cond.fieldLink RX1 12 "RuinViews$Park" "ruins" "LRuinViews$Ruins;", Cond.methodLink RX1 65 yX1_takings, Cond.instanceMethod yX1_takings, Cond.selects RX1 yX1_takings yX1_takings, Cond.code yX1_takings cX1_takings 3 (some .int), Cond.fieldLink RX1 52 "RuinViews$Ruins" "count" "I", Cond.fieldLink RX1 55 "RuinViews$Ruins" "ranks" "[I", Cond.fieldLink RX1 62 "RuinViews$Ruins" "price" "[I", Cond.methodLink RX1 42 yX0_brightnessOn]
def wsL_build_r7 : List Cond := [Cond.static yX0_brightnessOn, Cond.initialized RX0, Cond.code yX0_brightnessOn cX0_brightnessOn 2 (some .int), Cond.methodLink RX0 9 yX0_phaseOn, Cond.static yX0_phaseOn, Cond.code yX0_phaseOn cX0_phaseOn 1 (some .int), Cond.methodLink RX1 48 yX2_rankAll, Cond.instanceMethod yX2_rankAll, Cond.selects RX2 yX2_rankAll yX2_rankAll, Cond.code yX2_rankAll cX2_rankAll 3 none, Cond.fieldLink RX2 24 "RuinViews$Ruins" "merits" "[I", Cond.fieldLink RX2 27 "RuinViews$Ruins" "ranks" "[I", Cond.methodLink RX2 57 yX2_merit, Cond.instanceMethod yX2_merit, Cond.selects RX2 yX2_merit yX2_merit, Cond.code yX2_merit cX2_merit 4 (some .int), Cond.methodLink RX2 54 yX2_view, Cond.instanceMethod yX2_view, Cond.selects RX2 yX2_view yX2_view, Cond.code yX2_view cX2_view 3 (some .int), Cond.methodLink RX2 50 yX2_grade, Cond.instanceMethod yX2_grade, Cond.selects RX2 yX2_grade yX2_grade, Cond.code yX2_grade cX2_grade 3 (some .int)]
def wsL_build_r8 : List Cond := [Cond.methodLink RX2 60 yX2_countAbove, Cond.instanceMethod yX2_countAbove, Cond.selects RX2 yX2_countAbove yX2_countAbove, Cond.code yX2_countAbove cX2_countAbove 4 (some .int), Cond.methodLink RX1 59 yX1_guestsAtRank, Cond.instanceMethod yX1_guestsAtRank, Cond.selects RX1 yX1_guestsAtRank yX1_guestsAtRank, Cond.code yX1_guestsAtRank cX1_guestsAtRank 4 (some .int), Cond.fieldLink RX1 29 "RuinViews$Park" "guests" "I", Cond.methodLink RX1 69 yX3_settle, Cond.instanceMethod yX3_settle, Cond.selects RX3 yX3_settle yX3_settle, Cond.code yX3_settle cX3_settle 5 (some .int), Cond.methodLink RX3 34 yX2_stands, Cond.methodLink RX1 73 yX2_ageAll, Cond.instanceMethod yX2_ageAll, Cond.selects RX2 yX2_ageAll yX2_ageAll, Cond.code yX2_ageAll cX2_ageAll 3 none, Cond.methodLink RX2 63 yX2_age, Cond.instanceMethod yX2_age, Cond.selects RX2 yX2_age yX2_age, Cond.code yX2_age cX2_age 3 none, Cond.methodLink RX2 67 yX2_growIvy, Cond.instanceMethod yX2_growIvy]
def wsL_build_r9 : List Cond := [Cond.selects RX2 yX2_growIvy yX2_growIvy, Cond.code yX2_growIvy cX2_growIvy 3 none, Cond.methodLink RX2 70 yX0_brightnessOn, Cond.methodLink RX2 75 yX2_moveGhosts, Cond.instanceMethod yX2_moveGhosts, Cond.selects RX2 yX2_moveGhosts yX2_moveGhosts, Cond.code yX2_moveGhosts cX2_moveGhosts 4 none, Cond.methodLink RL 68 yX5_behind, Cond.instanceMethod yX5_behind, Cond.selects RX5 yX5_behind yX5_behind, Cond.code yX5_behind cX5_behind 4 (some .int), Cond.methodLink RX5 44 yX5_pass, Cond.instanceMethod yX5_pass, Cond.selects RX5 yX5_pass yX5_pass, Cond.code yX5_pass cX5_pass 9 (some .int), Cond.fieldLink RX5 37 "RuinViewsLaw$Sim" "purse" "I", Cond.fieldLink RX5 22 "RuinViewsLaw$Sim" "day" "I", Cond.methodLink RX5 40 yX5_ranked, Cond.instanceMethod yX5_ranked, Cond.selects RX5 yX5_ranked yX5_ranked, Cond.code yX5_ranked cX5_ranked 8 (some (.array .int)), Cond.methodLink RX5 29 yX5_moon, Cond.instanceMethod yX5_moon, Cond.selects RX5 yX5_moon yX5_moon]
def wsL_build_r10 : List Cond := [Cond.code yX5_moon cX5_moon 1 (some .int), Cond.methodLink RX5 33 yX5_view, Cond.instanceMethod yX5_view, Cond.selects RX5 yX5_view yX5_view, Cond.code yX5_view cX5_view 4 (some .int), Cond.methodLink RX5 25 yX5_grade, Cond.static yX5_grade, Cond.code yX5_grade cX5_grade 1 (some .int)]
def wsL_build : List Cond := .code yL_build cL_build 5 (some (.object "RuinViewsLaw$Sim")) :: ((wsL_build_r1 ++ (wsL_build_r2 ++ (wsL_build_r3 ++ (wsL_build_r4 ++ (wsL_build_r5 ++ (wsL_build_r6 ++ (wsL_build_r7 ++ (wsL_build_r8 ++ (wsL_build_r9 ++ wsL_build_r10))))))))) ++ wsX50 ++ wsX40 ++ wsX10 ++ wsX20 ++ wsX30 ++ (vx_atS RX4 27 "java/lang/IllegalArgumentException" ["java/lang/RuntimeException", "java/lang/Exception"]).filter goodWord ++ (vx_atS RX4 44 "java/lang/IllegalStateException" ["java/lang/RuntimeException", "java/lang/Exception"]).filter goodWord ++ (vx_atS RX4 145 "java/lang/IndexOutOfBoundsException" ["java/lang/RuntimeException", "java/lang/Exception"]).filter goodWord)
def wsL_law0_r1 : List Cond := [Cond.classLink RL 26 RX4, Cond.instantiable RX4 2, Cond.initialized RX4, Cond.classLink RL 91 "[I", Cond.arrayClass .int, Cond.fieldLink RL 9 "RuinViewsLaw$Sim" "ruins" "[[I", Cond.methodLink RL 131 Lib.Math.min.name, Cond.static Lib.Math.min.name, Cond.initialized "java/lang/Math", Cond.code Lib.Math.min.name Lib.Math.min.code 2 (some .int), Cond.arrayClass .boolean, Cond.fieldLink RL 56 "RuinViewsLaw$Sim" "tickets" "[[I", Cond.methodLink RL 80 yX4_init, Cond.instanceMethod yX4_init, Cond.code yX4_init cX4_init 1 none, Cond.methodLink RX4 1 objectInit, Cond.instanceMethod objectInit, Cond.code objectInit ⟨#[0xb1]⟩ 1 none, Cond.classLink RX4 7 RX1, Cond.instantiable RX1 5, Cond.initialized RX1, Cond.fieldLink RX4 10 "RuinViews" "now" "LRuinViews$Park;", Cond.fieldLink RX4 16 "RuinViews" "ahead" "LRuinViews$Park;", Cond.instanceMethod yX1_init]
def wsL_law0_r2 : List Cond := [Cond.code yX1_init cX1_init 1 none, Cond.methodLink RX1 3 objectInit, Cond.classLink RX1 9 RX2, Cond.instantiable RX2 7, Cond.initialized RX2, Cond.fieldLink RX1 12 "RuinViews$Park" "ruins" "LRuinViews$Ruins;", Cond.classLink RX1 18 RX3, Cond.instantiable RX3 5, Cond.initialized RX3, Cond.fieldLink RX1 21 "RuinViews$Park" "tickets" "LRuinViews$Tickets;", Cond.fieldLink RX1 25 "RuinViews$Park" "day" "I", Cond.fieldLink RX1 29 "RuinViews$Park" "guests" "I", Cond.fieldLink RX1 32 "RuinViews$Park" "purse" "I", Cond.instanceMethod yX2_init, Cond.code yX2_init cX2_init 1 none, Cond.methodLink RX2 3 objectInit, Cond.fieldLink RX2 9 "RuinViews$Ruins" "walls" "[I", Cond.fieldLink RX2 15 "RuinViews$Ruins" "ivy" "[I", Cond.fieldLink RX2 18 "RuinViews$Ruins" "ghosts" "[I", Cond.fieldLink RX2 21 "RuinViews$Ruins" "price" "[I", Cond.fieldLink RX2 24 "RuinViews$Ruins" "merits" "[I", Cond.fieldLink RX2 27 "RuinViews$Ruins" "ranks" "[I", Cond.fieldLink RX2 30 "RuinViews$Ruins" "count" "I", Cond.instanceMethod yX3_init]
def wsL_law0_r3 : List Cond := [Cond.code yX3_init cX3_init 1 none, Cond.methodLink RX3 3 objectInit, Cond.fieldLink RX3 9 "RuinViews$Tickets" "forRuin" "[I", Cond.fieldLink RX3 15 "RuinViews$Tickets" "forDay" "[I", Cond.fieldLink RX3 18 "RuinViews$Tickets" "paid" "[I", Cond.fieldLink RX3 21 "RuinViews$Tickets" "fate" "[I", Cond.fieldLink RX3 24 "RuinViews$Tickets" "count" "I", Cond.methodLink RL 81 yL_build, Cond.static yL_build, Cond.initialized RL, Cond.code yL_build cL_build 5 (some (.object "RuinViewsLaw$Sim")), Cond.classLink RL 10 RX5, Cond.instantiable RX5 5, Cond.initialized RX5, Cond.instanceMethod yX5_init, Cond.code yX5_init cX5_init 1 none, Cond.methodLink RX5 1 objectInit, Cond.fieldLink RX5 7 "RuinViewsLaw$Sim" "guests" "I", Cond.classLink RX5 13 "[I", Cond.fieldLink RX5 15 "RuinViewsLaw$Sim" "ruins" "[[I", Cond.fieldLink RX5 19 "RuinViewsLaw$Sim" "tickets" "[[I", Cond.methodLink RL 72 yL_cell, Cond.static yL_cell, Cond.code yL_cell cL_cell 2 (some .int)]
def wsL_law0_r4 : List Cond := [Cond.constant RL 8 (790386105), Cond.methodLink RL 15 yL_below, Cond.static yL_below, Cond.code yL_below cL_below 2 (some .int), Cond.constant RL 7 (2147483647), Cond.methodLink RL 76 yL_act, Cond.static yL_act, Cond.code yL_act cL_act 13 (some .boolean), Cond.methodLink RL 31 Lib.Math.max.name, Cond.static Lib.Math.max.name, Cond.code Lib.Math.max.name Lib.Math.max.code 2 (some .int), Cond.fieldLink RL 39 "RuinViewsLaw$Sim" "purse" "I", Cond.fieldLink RL 50 "RuinViewsLaw$Sim" "guests" "I", Cond.fieldLink RL 59 "RuinViewsLaw$Sim" "day" "I", Cond.methodLink RL 21 yX5_with, Cond.static yX5_with, Cond.code yX5_with cX5_with 4 (some (.array (.array .int))), Cond.methodLink RL 25 yX4_addRuin, Cond.instanceMethod yX4_addRuin, Cond.selects RX4 yX4_addRuin yX4_addRuin, Cond.code yX4_addRuin cX4_addRuin 5 (some .int), Cond.classLink RX4 23 "java/lang/IllegalArgumentException", Cond.initialized "java/lang/IllegalArgumentException", Cond.classLink RX4 40 "java/lang/IllegalStateException"]
def wsL_law0_r5 : List Cond := [Cond.initialized "java/lang/IllegalStateException", Cond.fieldLink RX4 30 "RuinViews$Park" "ruins" "LRuinViews$Ruins;", Cond.fieldLink RX4 34 "RuinViews$Ruins" "count" "I", Cond.methodLink RX4 19 yX4_isWithin, Cond.static yX4_isWithin, Cond.code yX4_isWithin cX4_isWithin 3 (some .boolean), Cond.methodLink RX4 45 yX2_build, Cond.instanceMethod yX2_build, Cond.selects RX2 yX2_build yX2_build, Cond.code yX2_build cX2_build 6 (some .int), Cond.methodLink RL 36 yX4_cutIvy, Cond.instanceMethod yX4_cutIvy, Cond.selects RX4 yX4_cutIvy yX4_cutIvy, Cond.code yX4_cutIvy cX4_cutIvy 3 (some .int), Cond.fieldLink RX4 59 "RuinViews$Ruins" "ivy" "[I", Cond.methodLink RX4 49 yX4_requireRuin, Cond.instanceMethod yX4_requireRuin, Cond.selects RX4 yX4_requireRuin yX4_requireRuin, Cond.code yX4_requireRuin cX4_requireRuin 2 none, Cond.classLink RX4 141 "java/lang/IndexOutOfBoundsException", Cond.initialized "java/lang/IndexOutOfBoundsException", Cond.methodLink RX4 200 yX2_has, Cond.instanceMethod yX2_has, Cond.selects RX2 yX2_has yX2_has]
def wsL_law0_r6 : List Cond := [Cond.code yX2_has cX2_has 2 (some .boolean), Cond.methodLink RX4 55 yX2_cut, Cond.instanceMethod yX2_cut, Cond.selects RX2 yX2_cut yX2_cut, Cond.code yX2_cut cX2_cut 3 none, Cond.methodLink RX2 44 Lib.Math.max.name, Cond.methodLink RL 43 yX4_prop, Cond.instanceMethod yX4_prop, Cond.selects RX4 yX4_prop yX4_prop, Cond.code yX4_prop cX4_prop 2 (some .int), Cond.fieldLink RX4 67 "RuinViews$Ruins" "walls" "[I", Cond.fieldLink RX4 70 "RuinViews$Park" "purse" "I", Cond.methodLink RX4 63 yX2_stands, Cond.instanceMethod yX2_stands, Cond.selects RX2 yX2_stands yX2_stands, Cond.code yX2_stands cX2_stands 2 (some .boolean), Cond.methodLink RX2 40 yX2_has, Cond.methodLink RL 47 yX4_setPrice, Cond.instanceMethod yX4_setPrice, Cond.selects RX4 yX4_setPrice yX4_setPrice, Cond.code yX4_setPrice cX4_setPrice 4 (some .int), Cond.fieldLink RX4 77 "RuinViews$Ruins" "price" "[I", Cond.methodLink RL 53 yX4_setGuests, Cond.instanceMethod yX4_setGuests]
def wsL_law0_r7 : List Cond := [Cond.selects RX4 yX4_setGuests yX4_setGuests, Cond.code yX4_setGuests cX4_setGuests 3 (some .int), Cond.fieldLink RX4 82 "RuinViews$Park" "guests" "I", Cond.methodLink RL 62 yX4_sellTicket, Cond.instanceMethod yX4_sellTicket, Cond.selects RX4 yX4_sellTicket yX4_sellTicket, Cond.code yX4_sellTicket cX4_sellTicket 4 (some .int), Cond.fieldLink RX4 87 "RuinViews$Park" "tickets" "LRuinViews$Tickets;", Cond.fieldLink RX4 91 "RuinViews$Tickets" "count" "I", Cond.fieldLink RX4 96 "RuinViews$Park" "day" "I", Cond.methodLink RX4 99 yX3_issue, Cond.instanceMethod yX3_issue, Cond.selects RX3 yX3_issue yX3_issue, Cond.code yX3_issue cX3_issue 5 (some .int), Cond.methodLink RL 65 yX4_pass, Cond.instanceMethod yX4_pass, Cond.selects RX4 yX4_pass yX4_pass, Cond.code yX4_pass cX4_pass 3 (some .int), Cond.methodLink RX4 103 yX4_requireDaysToPass, Cond.static yX4_requireDaysToPass, Cond.code yX4_requireDaysToPass cX4_requireDaysToPass 1 none, Cond.methodLink RX4 106 yX1_passDays, Cond.instanceMethod yX1_passDays, Cond.selects RX1 yX1_passDays yX1_passDays]
def wsL_law0_r8 : List Cond := [Cond.code yX1_passDays cX1_passDays 3 none, Cond.methodLink RX1 65 yX1_takings, Cond.instanceMethod yX1_takings, Cond.selects RX1 yX1_takings yX1_takings, Cond.code yX1_takings cX1_takings 3 (some .int), Cond.fieldLink RX1 52 "RuinViews$Ruins" "count" "I", Cond.fieldLink RX1 55 "RuinViews$Ruins" "ranks" "[I", Cond.fieldLink RX1 62 "RuinViews$Ruins" "price" "[I", Cond.methodLink RX1 42 yX0_brightnessOn, Cond.static yX0_brightnessOn, Cond.initialized RX0, Cond.code yX0_brightnessOn cX0_brightnessOn 2 (some .int), Cond.methodLink RX0 9 yX0_phaseOn, Cond.static yX0_phaseOn, Cond.code yX0_phaseOn cX0_phaseOn 1 (some .int), Cond.methodLink RX1 48 yX2_rankAll, Cond.instanceMethod yX2_rankAll, Cond.selects RX2 yX2_rankAll yX2_rankAll, Cond.code yX2_rankAll cX2_rankAll 3 none, Cond.methodLink RX2 57 yX2_merit, Cond.instanceMethod yX2_merit, Cond.selects RX2 yX2_merit yX2_merit, Cond.code yX2_merit cX2_merit 4 (some .int), Cond.methodLink RX2 54 yX2_view]
def wsL_law0_r9 : List Cond := [Cond.instanceMethod yX2_view, Cond.selects RX2 yX2_view yX2_view, Cond.code yX2_view cX2_view 3 (some .int), Cond.methodLink RX2 50 yX2_grade, Cond.instanceMethod yX2_grade, Cond.selects RX2 yX2_grade yX2_grade, Cond.code yX2_grade cX2_grade 3 (some .int), Cond.methodLink RX2 60 yX2_countAbove, Cond.instanceMethod yX2_countAbove, Cond.selects RX2 yX2_countAbove yX2_countAbove, Cond.code yX2_countAbove cX2_countAbove 4 (some .int), Cond.methodLink RX1 59 yX1_guestsAtRank, Cond.instanceMethod yX1_guestsAtRank, Cond.selects RX1 yX1_guestsAtRank yX1_guestsAtRank, Cond.code yX1_guestsAtRank cX1_guestsAtRank 4 (some .int), Cond.methodLink RX1 69 yX3_settle, Cond.instanceMethod yX3_settle, Cond.selects RX3 yX3_settle yX3_settle, Cond.code yX3_settle cX3_settle 5 (some .int), Cond.methodLink RX3 34 yX2_stands, Cond.methodLink RX1 73 yX2_ageAll, Cond.instanceMethod yX2_ageAll, Cond.selects RX2 yX2_ageAll yX2_ageAll, Cond.code yX2_ageAll cX2_ageAll 3 none]
def wsL_law0_r10 : List Cond := [Cond.methodLink RX2 63 yX2_age, Cond.instanceMethod yX2_age, Cond.selects RX2 yX2_age yX2_age, Cond.code yX2_age cX2_age 3 none, Cond.methodLink RX2 67 yX2_growIvy, Cond.instanceMethod yX2_growIvy, Cond.selects RX2 yX2_growIvy yX2_growIvy, Cond.code yX2_growIvy cX2_growIvy 3 none, Cond.methodLink RX2 70 yX0_brightnessOn, Cond.methodLink RX2 75 yX2_moveGhosts, Cond.instanceMethod yX2_moveGhosts, Cond.selects RX2 yX2_moveGhosts yX2_moveGhosts, Cond.code yX2_moveGhosts cX2_moveGhosts 4 none, Cond.methodLink RL 68 yX5_behind, Cond.instanceMethod yX5_behind, Cond.selects RX5 yX5_behind yX5_behind, Cond.code yX5_behind cX5_behind 4 (some .int), Cond.methodLink RX5 44 yX5_pass, Cond.instanceMethod yX5_pass, Cond.selects RX5 yX5_pass yX5_pass, Cond.code yX5_pass cX5_pass 9 (some .int), Cond.fieldLink RX5 37 "RuinViewsLaw$Sim" "purse" "I", Cond.fieldLink RX5 22 "RuinViewsLaw$Sim" "day" "I", Cond.methodLink RX5 40 yX5_ranked]
def wsL_law0_r11 : List Cond := [Cond.instanceMethod yX5_ranked, Cond.selects RX5 yX5_ranked yX5_ranked, Cond.code yX5_ranked cX5_ranked 8 (some (.array .int)), Cond.methodLink RX5 29 yX5_moon, Cond.instanceMethod yX5_moon, Cond.selects RX5 yX5_moon yX5_moon, Cond.code yX5_moon cX5_moon 1 (some .int), Cond.methodLink RX5 33 yX5_view, Cond.instanceMethod yX5_view, Cond.selects RX5 yX5_view yX5_view, Cond.code yX5_view cX5_view 4 (some .int), Cond.methodLink RX5 25 yX5_grade, Cond.static yX5_grade, Cond.code yX5_grade cX5_grade 1 (some .int), Cond.methodLink RL 85 yX4_ruins, Cond.instanceMethod yX4_ruins, Cond.selects RX4 yX4_ruins yX4_ruins, Cond.code yX4_ruins cX4_ruins 1 (some .int), Cond.methodLink RL 88 yX4_standing, Cond.instanceMethod yX4_standing, Cond.selects RX4 yX4_standing yX4_standing, Cond.code yX4_standing cX4_standing 1 (some .int), Cond.methodLink RX4 121 yX2_countStanding, Cond.instanceMethod yX2_countStanding]
def wsL_law0_r12 : List Cond := [Cond.selects RX2 yX2_countStanding yX2_countStanding, Cond.code yX2_countStanding cX2_countStanding 3 (some .int), Cond.methodLink RL 93 yX4_wallsOf, Cond.instanceMethod yX4_wallsOf, Cond.selects RX4 yX4_wallsOf yX4_wallsOf, Cond.code yX4_wallsOf cX4_wallsOf 2 (some .int), Cond.methodLink RL 96 yX4_ivyOf, Cond.instanceMethod yX4_ivyOf, Cond.selects RX4 yX4_ivyOf yX4_ivyOf, Cond.code yX4_ivyOf cX4_ivyOf 2 (some .int), Cond.methodLink RL 99 yX4_ghostsOf, Cond.instanceMethod yX4_ghostsOf, Cond.selects RX4 yX4_ghostsOf yX4_ghostsOf, Cond.code yX4_ghostsOf cX4_ghostsOf 2 (some .int), Cond.fieldLink RX4 128 "RuinViews$Ruins" "ghosts" "[I", Cond.methodLink RL 102 yX4_rankOf, Cond.instanceMethod yX4_rankOf, Cond.selects RX4 yX4_rankOf yX4_rankOf, Cond.code yX4_rankOf cX4_rankOf 2 (some .int), Cond.fieldLink RX4 138 "RuinViews$Ruins" "ranks" "[I", Cond.methodLink RX4 135 yX1_rankRuins, Cond.instanceMethod yX1_rankRuins, Cond.selects RX1 yX1_rankRuins yX1_rankRuins, Cond.code yX1_rankRuins cX1_rankRuins 1 none]
def wsL_law0_r13 : List Cond := [Cond.methodLink RL 105 yX4_hasCollapsed, Cond.instanceMethod yX4_hasCollapsed, Cond.selects RX4 yX4_hasCollapsed yX4_hasCollapsed, Cond.code yX4_hasCollapsed cX4_hasCollapsed 2 (some .boolean), Cond.methodLink RL 109 yX4_viewOf, Cond.instanceMethod yX4_viewOf, Cond.selects RX4 yX4_viewOf yX4_viewOf, Cond.code yX4_viewOf cX4_viewOf 2 (some .int), Cond.methodLink RX4 115 yX0_brightnessOn, Cond.methodLink RX4 131 yX2_view, Cond.methodLink RL 112 yX4_guestsOf, Cond.instanceMethod yX4_guestsOf, Cond.selects RX4 yX4_guestsOf yX4_guestsOf, Cond.code yX4_guestsOf cX4_guestsOf 2 (some .int), Cond.methodLink RX4 149 yX1_guestsAtRank, Cond.methodLink RL 115 yX4_gradeOf, Cond.instanceMethod yX4_gradeOf, Cond.selects RX4 yX4_gradeOf yX4_gradeOf, Cond.code yX4_gradeOf cX4_gradeOf 2 (some .int), Cond.methodLink RX4 125 yX2_grade, Cond.methodLink RL 118 yX4_brightness, Cond.instanceMethod yX4_brightness, Cond.selects RX4 yX4_brightness yX4_brightness, Cond.code yX4_brightness cX4_brightness 1 (some .int)]
def wsL_law0_r14 : List Cond := [Cond.methodLink RL 121 yX4_ruinAt, Cond.instanceMethod yX4_ruinAt, Cond.selects RX4 yX4_ruinAt yX4_ruinAt, Cond.code yX4_ruinAt cX4_ruinAt 2 (some .int), Cond.methodLink RX4 146 yX2_findRank, Cond.instanceMethod yX2_findRank, Cond.selects RX2 yX2_findRank yX2_findRank, Cond.code yX2_findRank cX2_findRank 3 (some .int), Cond.methodLink RL 124 yX4_meanView, Cond.instanceMethod yX4_meanView, Cond.selects RX4 yX4_meanView yX4_meanView, Cond.code yX4_meanView cX4_meanView 2 (some .double), Cond.methodLink RX4 182 yX2_sumViews, Cond.instanceMethod yX2_sumViews, Cond.selects RX2 yX2_sumViews yX2_sumViews, Cond.code yX2_sumViews cX2_sumViews 4 (some .int), Cond.methodLink RL 128 yX4_phase, Cond.instanceMethod yX4_phase, Cond.selects RX4 yX4_phase yX4_phase, Cond.code yX4_phase cX4_phase 1 (some .int), Cond.methodLink RX4 109 yX0_phaseOn, Cond.methodLink RL 134 yX4_daysUntilFullMoon, Cond.instanceMethod yX4_daysUntilFullMoon, Cond.selects RX4 yX4_daysUntilFullMoon yX4_daysUntilFullMoon]
def wsL_law0_r15 : List Cond := [Cond.code yX4_daysUntilFullMoon cX4_daysUntilFullMoon 1 (some .int), Cond.methodLink RX4 118 yX0_daysUntilFullFrom, Cond.static yX0_daysUntilFullFrom, Cond.code yX0_daysUntilFullFrom cX0_daysUntilFullFrom 1 (some .int), Cond.methodLink RL 137 yX4_tickets, Cond.instanceMethod yX4_tickets, Cond.selects RX4 yX4_tickets yX4_tickets, Cond.code yX4_tickets cX4_tickets 1 (some .int), Cond.methodLink RL 139 yX4_isOpen, Cond.instanceMethod yX4_isOpen, Cond.selects RX4 yX4_isOpen yX4_isOpen, Cond.code yX4_isOpen cX4_isOpen 2 (some .boolean), Cond.fieldLink RX4 158 "RuinViews$Tickets" "fate" "[I", Cond.methodLink RX4 152 yX4_requireTicket, Cond.instanceMethod yX4_requireTicket, Cond.selects RX4 yX4_requireTicket yX4_requireTicket, Cond.code yX4_requireTicket cX4_requireTicket 2 none, Cond.methodLink RX4 205 yX3_has, Cond.instanceMethod yX3_has, Cond.selects RX3 yX3_has yX3_has, Cond.code yX3_has cX3_has 2 (some .boolean), Cond.methodLink RL 142 yX4_isPaidBack, Cond.instanceMethod yX4_isPaidBack, Cond.selects RX4 yX4_isPaidBack yX4_isPaidBack]
def wsL_law0_r16 : List Cond := [Cond.code yX4_isPaidBack cX4_isPaidBack 2 (some .boolean), Cond.methodLink RL 145 yX4_dayOf, Cond.instanceMethod yX4_dayOf, Cond.selects RX4 yX4_dayOf yX4_dayOf, Cond.code yX4_dayOf cX4_dayOf 2 (some .int), Cond.fieldLink RX4 155 "RuinViews$Tickets" "forDay" "[I", Cond.methodLink RL 148 yX4_day, Cond.instanceMethod yX4_day, Cond.selects RX4 yX4_day yX4_day, Cond.code yX4_day cX4_day 1 (some .int), Cond.methodLink RL 150 yX4_purse, Cond.instanceMethod yX4_purse, Cond.selects RX4 yX4_purse yX4_purse, Cond.code yX4_purse cX4_purse 1 (some .int), Cond.methodLink RL 152 yX5_pass, Cond.methodLink RL 154 yX5_isSame, Cond.instanceMethod yX5_isSame, Cond.selects RX5 yX5_isSame yX5_isSame, Cond.code yX5_isSame cX5_isSame 9 (some .boolean), Cond.methodLink RX5 52 yX4_day, Cond.methodLink RX5 56 yX4_phase, Cond.methodLink RX5 59 yX4_brightness, Cond.methodLink RX5 62 yX4_daysUntilFullMoon, Cond.methodLink RX5 65 yX4_ruins]
def wsL_law0_r17 : List Cond := [Cond.methodLink RX5 67 yX4_standing, Cond.methodLink RX5 70 yX4_purse, Cond.methodLink RX5 72 yX4_tickets, Cond.methodLink RX5 74 yX4_ruinAt, Cond.methodLink RX5 77 yX4_rankOf, Cond.methodLink RX5 80 yX4_guestsOf, Cond.methodLink RX5 83 yX4_wallsOf, Cond.methodLink RX5 86 yX4_ivyOf, Cond.methodLink RX5 89 yX4_ghostsOf, Cond.methodLink RX5 92 yX4_gradeOf, Cond.methodLink RX5 95 yX4_viewOf, Cond.methodLink RX5 98 yX4_hasCollapsed, Cond.methodLink RX5 102 yX4_dayOf, Cond.methodLink RX5 105 yX4_isOpen, Cond.methodLink RX5 108 yX4_isPaidBack, Cond.methodLink RX5 111 yX4_meanView]
def wsL_law0 : List Cond := (wsL_law0_r1 ++ (wsL_law0_r2 ++ (wsL_law0_r3 ++ (wsL_law0_r4 ++ (wsL_law0_r5 ++ (wsL_law0_r6 ++ (wsL_law0_r7 ++ (wsL_law0_r8 ++ (wsL_law0_r9 ++ (wsL_law0_r10 ++ (wsL_law0_r11 ++ (wsL_law0_r12 ++ (wsL_law0_r13 ++ (wsL_law0_r14 ++ (wsL_law0_r15 ++ (wsL_law0_r16 ++ wsL_law0_r17)))))))))))))))) ++ wsX40 ++ wsX50 ++ wsX10 ++ wsX20 ++ wsX30 ++ ([] : List Cond)
def wsL_law : List Cond := wsL_law0 ++ (vx_atS RX4 27 "java/lang/IllegalArgumentException" ["java/lang/RuntimeException", "java/lang/Exception"]).filter goodWord ++ (vx_atS RX4 44 "java/lang/IllegalStateException" ["java/lang/RuntimeException", "java/lang/Exception"]).filter goodWord ++ (vx_atS RX4 145 "java/lang/IndexOutOfBoundsException" ["java/lang/RuntimeException", "java/lang/Exception"]).filter goodWord
end
section
theorem dX0_phaseOn_0 : decode cX0_phaseOn 0 = .ok (.iload_n 0, 1) := by decide +kernel
theorem dX0_phaseOn_1 : decode cX0_phaseOn 1 = .ok (.bipush 8, 2) := by decide +kernel
theorem dX0_phaseOn_3 : decode cX0_phaseOn 3 = .ok (.irem, 1) := by decide +kernel
theorem dX0_phaseOn_4 : decode cX0_phaseOn 4 = .ok (.ireturn, 1) := by decide +kernel
set_option maxRecDepth 20000 in
theorem ggX0_brightnessOn_X0_phaseOn : GoodIn wsX0_brightnessOn wsX0_phaseOn := goodIn_r _ [4] (by decide +kernel) (by decide +kernel)
set_option maxRecDepth 20000 in
theorem gX0_brightnessOn_X0_phaseOn : GoodIn wsX0_brightnessOn (va_wsS RX0 9 yX0_phaseOn wsX0_phaseOn) := goodIn_app (goodIn_of _ (by decide +kernel)) ggX0_brightnessOn_X0_phaseOn
theorem dX0_brightnessOn_0 : decode cX0_brightnessOn 0 = .ok (.iload_n 0, 1) := by decide +kernel
theorem dX0_brightnessOn_1 : decode cX0_brightnessOn 1 = .ok (.invokestatic 9, 3) := by decide +kernel
theorem dX0_brightnessOn_4 : decode cX0_brightnessOn 4 = .ok (.istore_n 1, 1) := by decide +kernel
theorem dX0_brightnessOn_5 : decode cX0_brightnessOn 5 = .ok (.iload_n 1, 1) := by decide +kernel
theorem dX0_brightnessOn_6 : decode cX0_brightnessOn 6 = .ok (.iconst 4, 1) := by decide +kernel
theorem dX0_brightnessOn_7 : decode cX0_brightnessOn 7 = .ok (.if_icmp .gt 7, 3) := by decide +kernel
theorem dX0_brightnessOn_10 : decode cX0_brightnessOn 10 = .ok (.iload_n 1, 1) := by decide +kernel
theorem dX0_brightnessOn_11 : decode cX0_brightnessOn 11 = .ok (.goto 7, 3) := by decide +kernel
theorem dX0_brightnessOn_14 : decode cX0_brightnessOn 14 = .ok (.bipush 8, 2) := by decide +kernel
theorem dX0_brightnessOn_16 : decode cX0_brightnessOn 16 = .ok (.iload_n 1, 1) := by decide +kernel
theorem dX0_brightnessOn_17 : decode cX0_brightnessOn 17 = .ok (.isub, 1) := by decide +kernel
theorem dX0_brightnessOn_18 : decode cX0_brightnessOn 18 = .ok (.ireturn, 1) := by decide +kernel
set_option maxRecDepth 20000 in
theorem ggX0_daysUntilFullFrom_X0_phaseOn : GoodIn wsX0_daysUntilFullFrom wsX0_phaseOn := goodIn_r _ [4] (by decide +kernel) (by decide +kernel)
set_option maxRecDepth 20000 in
theorem gX0_daysUntilFullFrom_X0_phaseOn : GoodIn wsX0_daysUntilFullFrom (va_wsS RX0 9 yX0_phaseOn wsX0_phaseOn) := goodIn_app (goodIn_of _ (by decide +kernel)) ggX0_daysUntilFullFrom_X0_phaseOn
theorem dX0_daysUntilFullFrom_0 : decode cX0_daysUntilFullFrom 0 = .ok (.bipush 12, 2) := by decide +kernel
theorem dX0_daysUntilFullFrom_2 : decode cX0_daysUntilFullFrom 2 = .ok (.iload_n 0, 1) := by decide +kernel
theorem dX0_daysUntilFullFrom_3 : decode cX0_daysUntilFullFrom 3 = .ok (.invokestatic 9, 3) := by decide +kernel
theorem dX0_daysUntilFullFrom_6 : decode cX0_daysUntilFullFrom 6 = .ok (.isub, 1) := by decide +kernel
theorem dX0_daysUntilFullFrom_7 : decode cX0_daysUntilFullFrom 7 = .ok (.bipush 8, 2) := by decide +kernel
theorem dX0_daysUntilFullFrom_9 : decode cX0_daysUntilFullFrom 9 = .ok (.irem, 1) := by decide +kernel
theorem dX0_daysUntilFullFrom_10 : decode cX0_daysUntilFullFrom 10 = .ok (.ireturn, 1) := by decide +kernel
set_option maxRecDepth 20000 in
theorem ggX1_init_X2_init : GoodIn wsX1_init wsX2_init := goodIn_r _ [16, 17, 2, 3, 18, 19, 20, 21, 22, 23, 24, 25, 34, 35, 36, 37, 38, 39, 40] (by decide +kernel) (by decide +kernel)
set_option maxRecDepth 20000 in
theorem gX1_init_X2_init_n11 : GoodIn wsX1_init (wsX2_init) := ggX1_init_X2_init
set_option maxRecDepth 20000 in
theorem ggX1_init_X3_init : GoodIn wsX1_init wsX3_init := goodIn_r _ [27, 28, 2, 3, 18, 29, 30, 31, 32, 33, 46, 47, 48, 49, 50] (by decide +kernel) (by decide +kernel)
set_option maxRecDepth 20000 in
theorem gX1_init_X3_init_n20 : GoodIn wsX1_init (wsX3_init) := ggX1_init_X3_init
theorem dX1_init_0 : decode cX1_init 0 = .ok (.aload_n 0, 1) := by decide +kernel
theorem dX1_init_1 : decode cX1_init 1 = .ok (.invokespecial 3, 3) := by decide +kernel
theorem dX1_init_4 : decode cX1_init 4 = .ok (.aload_n 0, 1) := by decide +kernel
theorem dX1_init_5 : decode cX1_init 5 = .ok (.new 9, 3) := by decide +kernel
theorem dX1_init_8 : decode cX1_init 8 = .ok (.dup, 1) := by decide +kernel
theorem dX1_init_9 : decode cX1_init 9 = .ok (.invokespecial 11, 3) := by decide +kernel
theorem dX1_init_12 : decode cX1_init 12 = .ok (.putfield 12, 3) := by decide +kernel
theorem dX1_init_15 : decode cX1_init 15 = .ok (.aload_n 0, 1) := by decide +kernel
theorem dX1_init_16 : decode cX1_init 16 = .ok (.new 18, 3) := by decide +kernel
theorem dX1_init_19 : decode cX1_init 19 = .ok (.dup, 1) := by decide +kernel
theorem dX1_init_20 : decode cX1_init 20 = .ok (.invokespecial 20, 3) := by decide +kernel
theorem dX1_init_23 : decode cX1_init 23 = .ok (.putfield 21, 3) := by decide +kernel
theorem dX1_init_26 : decode cX1_init 26 = .ok (.aload_n 0, 1) := by decide +kernel
theorem dX1_init_27 : decode cX1_init 27 = .ok (.iconst 0, 1) := by decide +kernel
theorem dX1_init_28 : decode cX1_init 28 = .ok (.putfield 25, 3) := by decide +kernel
theorem dX1_init_31 : decode cX1_init 31 = .ok (.aload_n 0, 1) := by decide +kernel
theorem dX1_init_32 : decode cX1_init 32 = .ok (.bipush 12, 2) := by decide +kernel
theorem dX1_init_34 : decode cX1_init 34 = .ok (.putfield 29, 3) := by decide +kernel
theorem dX1_init_37 : decode cX1_init 37 = .ok (.aload_n 0, 1) := by decide +kernel
theorem dX1_init_38 : decode cX1_init 38 = .ok (.iconst 0, 1) := by decide +kernel
theorem dX1_init_39 : decode cX1_init 39 = .ok (.putfield 32, 3) := by decide +kernel
theorem dX1_init_42 : decode cX1_init 42 = .ok (.return_, 1) := by decide +kernel
set_option maxRecDepth 20000 in
theorem ggX1_rankRuins_X0_brightnessOn : GoodIn wsX1_rankRuins wsX0_brightnessOn := goodIn_r _ [6, 7, 8, 5, 9] (by decide +kernel) (by decide +kernel)
set_option maxRecDepth 20000 in
theorem gX1_rankRuins_X0_brightnessOn : GoodIn wsX1_rankRuins (va_wsS RX1 42 yX0_brightnessOn wsX0_brightnessOn) := goodIn_app (goodIn_of _ (by decide +kernel)) ggX1_rankRuins_X0_brightnessOn
set_option maxRecDepth 20000 in
theorem ggX1_rankRuins_X2_rankAll : GoodIn wsX1_rankRuins wsX2_rankAll := goodIn_r _ [14, 15, 16, 17, 18, 19, 20, 21, 13, 22, 23, 24, 25, 26, 27, 28, 29, 30, 31, 32, 33, 34, 35, 36, 37, 43, 44, 45, 46, 47, 48, 49] (by decide +kernel) (by decide +kernel)
set_option maxRecDepth 20000 in
theorem gX1_rankRuins_X2_rankAll : GoodIn wsX1_rankRuins (wsV RX1 48 RX2 yX2_rankAll wsX2_rankAll) := goodIn_app (goodIn_of _ (by decide +kernel)) ggX1_rankRuins_X2_rankAll
theorem dX1_rankRuins_0 : decode cX1_rankRuins 0 = .ok (.aload_n 0, 1) := by decide +kernel
theorem dX1_rankRuins_1 : decode cX1_rankRuins 1 = .ok (.getfield 12, 3) := by decide +kernel
theorem dX1_rankRuins_4 : decode cX1_rankRuins 4 = .ok (.aload_n 0, 1) := by decide +kernel
theorem dX1_rankRuins_5 : decode cX1_rankRuins 5 = .ok (.getfield 25, 3) := by decide +kernel
theorem dX1_rankRuins_8 : decode cX1_rankRuins 8 = .ok (.invokestatic 42, 3) := by decide +kernel
theorem dX1_rankRuins_11 : decode cX1_rankRuins 11 = .ok (.invokevirtual 48, 3) := by decide +kernel
theorem dX1_rankRuins_14 : decode cX1_rankRuins 14 = .ok (.return_, 1) := by decide +kernel
theorem dX1_guestsAtRank_0 : decode cX1_guestsAtRank 0 = .ok (.iload_n 1, 1) := by decide +kernel
theorem dX1_guestsAtRank_1 : decode cX1_guestsAtRank 1 = .ok (.ifCond .ge 5, 3) := by decide +kernel
theorem dX1_guestsAtRank_4 : decode cX1_guestsAtRank 4 = .ok (.iconst 0, 1) := by decide +kernel
theorem dX1_guestsAtRank_5 : decode cX1_guestsAtRank 5 = .ok (.ireturn, 1) := by decide +kernel
theorem dX1_guestsAtRank_6 : decode cX1_guestsAtRank 6 = .ok (.aload_n 0, 1) := by decide +kernel
theorem dX1_guestsAtRank_7 : decode cX1_guestsAtRank 7 = .ok (.getfield 29, 3) := by decide +kernel
theorem dX1_guestsAtRank_10 : decode cX1_guestsAtRank 10 = .ok (.istore_n 2, 1) := by decide +kernel
theorem dX1_guestsAtRank_11 : decode cX1_guestsAtRank 11 = .ok (.iconst 0, 1) := by decide +kernel
theorem dX1_guestsAtRank_12 : decode cX1_guestsAtRank 12 = .ok (.istore_n 3, 1) := by decide +kernel
theorem dX1_guestsAtRank_13 : decode cX1_guestsAtRank 13 = .ok (.iload_n 3, 1) := by decide +kernel
theorem dX1_guestsAtRank_14 : decode cX1_guestsAtRank 14 = .ok (.iload_n 1, 1) := by decide +kernel
theorem dX1_guestsAtRank_15 : decode cX1_guestsAtRank 15 = .ok (.if_icmp .ge 13, 3) := by decide +kernel
theorem dX1_guestsAtRank_18 : decode cX1_guestsAtRank 18 = .ok (.iload_n 2, 1) := by decide +kernel
theorem dX1_guestsAtRank_19 : decode cX1_guestsAtRank 19 = .ok (.iconst 2, 1) := by decide +kernel
theorem dX1_guestsAtRank_20 : decode cX1_guestsAtRank 20 = .ok (.idiv, 1) := by decide +kernel
theorem dX1_guestsAtRank_21 : decode cX1_guestsAtRank 21 = .ok (.istore_n 2, 1) := by decide +kernel
theorem dX1_guestsAtRank_22 : decode cX1_guestsAtRank 22 = .ok (.iinc 3 1, 3) := by decide +kernel
theorem dX1_guestsAtRank_25 : decode cX1_guestsAtRank 25 = .ok (.goto (-12), 3) := by decide +kernel
theorem dX1_guestsAtRank_28 : decode cX1_guestsAtRank 28 = .ok (.iload_n 2, 1) := by decide +kernel
theorem dX1_guestsAtRank_29 : decode cX1_guestsAtRank 29 = .ok (.iload_n 2, 1) := by decide +kernel
theorem dX1_guestsAtRank_30 : decode cX1_guestsAtRank 30 = .ok (.iconst 2, 1) := by decide +kernel
theorem dX1_guestsAtRank_31 : decode cX1_guestsAtRank 31 = .ok (.idiv, 1) := by decide +kernel
theorem dX1_guestsAtRank_32 : decode cX1_guestsAtRank 32 = .ok (.isub, 1) := by decide +kernel
theorem dX1_guestsAtRank_33 : decode cX1_guestsAtRank 33 = .ok (.ireturn, 1) := by decide +kernel
set_option maxRecDepth 20000 in
theorem ggX1_takings_X0_brightnessOn : GoodIn wsX1_takings wsX0_brightnessOn := goodIn_r _ [9, 10, 11, 8, 12] (by decide +kernel) (by decide +kernel)
set_option maxRecDepth 20000 in
theorem gX1_takings_X0_brightnessOn : GoodIn wsX1_takings (va_wsS RX1 42 yX0_brightnessOn wsX0_brightnessOn) := goodIn_app (goodIn_of _ (by decide +kernel)) ggX1_takings_X0_brightnessOn
set_option maxRecDepth 20000 in
theorem ggX1_takings_X2_rankAll : GoodIn wsX1_takings wsX2_rankAll := goodIn_r _ [17, 18, 19, 20, 21, 22, 23, 24, 16, 25, 26, 27, 28, 29, 30, 31, 32, 33, 34, 35, 36, 37, 38, 39, 40, 52, 53, 54, 55, 56, 57, 58] (by decide +kernel) (by decide +kernel)
set_option maxRecDepth 20000 in
theorem gX1_takings_X2_rankAll : GoodIn wsX1_takings (wsV RX1 48 RX2 yX2_rankAll wsX2_rankAll) := goodIn_app (goodIn_of _ (by decide +kernel)) ggX1_takings_X2_rankAll
set_option maxRecDepth 20000 in
theorem ggX1_takings_X1_guestsAtRank : GoodIn wsX1_takings wsX1_guestsAtRank := goodIn_r _ [45, 46, 47, 48, 49, 50, 51] (by decide +kernel) (by decide +kernel)
set_option maxRecDepth 20000 in
theorem gX1_takings_X1_guestsAtRank : GoodIn wsX1_takings (wsV RX1 59 RX1 yX1_guestsAtRank wsX1_guestsAtRank) := goodIn_app (goodIn_of _ (by decide +kernel)) ggX1_takings_X1_guestsAtRank
theorem dX1_takings_0 : decode cX1_takings 0 = .ok (.aload_n 0, 1) := by decide +kernel
theorem dX1_takings_1 : decode cX1_takings 1 = .ok (.getfield 12, 3) := by decide +kernel
theorem dX1_takings_4 : decode cX1_takings 4 = .ok (.aload_n 0, 1) := by decide +kernel
theorem dX1_takings_5 : decode cX1_takings 5 = .ok (.getfield 25, 3) := by decide +kernel
theorem dX1_takings_8 : decode cX1_takings 8 = .ok (.invokestatic 42, 3) := by decide +kernel
theorem dX1_takings_11 : decode cX1_takings 11 = .ok (.invokevirtual 48, 3) := by decide +kernel
theorem dX1_takings_14 : decode cX1_takings 14 = .ok (.iconst 0, 1) := by decide +kernel
theorem dX1_takings_15 : decode cX1_takings 15 = .ok (.istore_n 1, 1) := by decide +kernel
theorem dX1_takings_16 : decode cX1_takings 16 = .ok (.iconst 0, 1) := by decide +kernel
theorem dX1_takings_17 : decode cX1_takings 17 = .ok (.istore_n 2, 1) := by decide +kernel
theorem dX1_takings_18 : decode cX1_takings 18 = .ok (.iload_n 2, 1) := by decide +kernel
theorem dX1_takings_19 : decode cX1_takings 19 = .ok (.aload_n 0, 1) := by decide +kernel
theorem dX1_takings_20 : decode cX1_takings 20 = .ok (.getfield 12, 3) := by decide +kernel
theorem dX1_takings_23 : decode cX1_takings 23 = .ok (.getfield 52, 3) := by decide +kernel
theorem dX1_takings_26 : decode cX1_takings 26 = .ok (.if_icmp .ge 35, 3) := by decide +kernel
theorem dX1_takings_29 : decode cX1_takings 29 = .ok (.iload_n 1, 1) := by decide +kernel
theorem dX1_takings_30 : decode cX1_takings 30 = .ok (.aload_n 0, 1) := by decide +kernel
theorem dX1_takings_31 : decode cX1_takings 31 = .ok (.aload_n 0, 1) := by decide +kernel
theorem dX1_takings_32 : decode cX1_takings 32 = .ok (.getfield 12, 3) := by decide +kernel
theorem dX1_takings_35 : decode cX1_takings 35 = .ok (.getfield 55, 3) := by decide +kernel
theorem dX1_takings_38 : decode cX1_takings 38 = .ok (.iload_n 2, 1) := by decide +kernel
theorem dX1_takings_39 : decode cX1_takings 39 = .ok (.iaload, 1) := by decide +kernel
theorem dX1_takings_40 : decode cX1_takings 40 = .ok (.invokevirtual 59, 3) := by decide +kernel
theorem dX1_takings_43 : decode cX1_takings 43 = .ok (.aload_n 0, 1) := by decide +kernel
theorem dX1_takings_44 : decode cX1_takings 44 = .ok (.getfield 12, 3) := by decide +kernel
theorem dX1_takings_47 : decode cX1_takings 47 = .ok (.getfield 62, 3) := by decide +kernel
theorem dX1_takings_50 : decode cX1_takings 50 = .ok (.iload_n 2, 1) := by decide +kernel
theorem dX1_takings_51 : decode cX1_takings 51 = .ok (.iaload, 1) := by decide +kernel
theorem dX1_takings_52 : decode cX1_takings 52 = .ok (.imul, 1) := by decide +kernel
theorem dX1_takings_53 : decode cX1_takings 53 = .ok (.iadd, 1) := by decide +kernel
theorem dX1_takings_54 : decode cX1_takings 54 = .ok (.istore_n 1, 1) := by decide +kernel
theorem dX1_takings_55 : decode cX1_takings 55 = .ok (.iinc 2 1, 3) := by decide +kernel
theorem dX1_takings_58 : decode cX1_takings 58 = .ok (.goto (-40), 3) := by decide +kernel
theorem dX1_takings_61 : decode cX1_takings 61 = .ok (.iload_n 1, 1) := by decide +kernel
theorem dX1_takings_62 : decode cX1_takings 62 = .ok (.ireturn, 1) := by decide +kernel
set_option maxRecDepth 20000 in
theorem ggX1_passDays_X1_takings : GoodIn wsX1_passDays wsX1_takings := goodIn_r _ [9, 4, 3, 10, 11, 12, 13, 14, 15, 16, 17, 18, 19, 20, 21, 22, 23, 24, 25, 26, 27, 28, 29, 30, 31, 32, 33, 34, 35, 36, 37, 38, 39, 40, 41, 42, 43, 44, 45, 46, 47, 48, 49, 50, 8, 51, 52, 88, 89, 90, 91, 92, 93, 94, 95, 96, 97, 98, 99] (by decide +kernel) (by decide +kernel)
set_option maxRecDepth 20000 in
theorem gX1_passDays_X1_takings : GoodIn wsX1_passDays (wsV RX1 65 RX1 yX1_takings wsX1_takings) := goodIn_app (goodIn_of _ (by decide +kernel)) ggX1_passDays_X1_takings
set_option maxRecDepth 20000 in
theorem ggX1_passDays_X3_settle : GoodIn wsX1_passDays wsX3_settle := goodIn_r _ [57, 58, 59, 60, 61, 62, 63, 64, 65, 23, 66, 28, 67, 68, 69, 70, 25, 100, 101, 102, 103, 104, 93, 94, 95, 96, 97, 98, 99] (by decide +kernel) (by decide +kernel)
set_option maxRecDepth 20000 in
theorem gX1_passDays_X3_settle : GoodIn wsX1_passDays (wsV RX1 69 RX3 yX3_settle wsX3_settle) := goodIn_app (goodIn_of _ (by decide +kernel)) ggX1_passDays_X3_settle
set_option maxRecDepth 20000 in
theorem ggX1_passDays_X2_ageAll : GoodIn wsX1_passDays wsX2_ageAll := goodIn_r _ [74, 25, 75, 76, 77, 23, 78, 28, 79, 80, 81, 82, 43, 83, 14, 15, 16, 17, 18, 19, 84, 85, 86, 87, 38, 39, 40, 41, 42, 93, 94, 95, 96, 97, 98, 99] (by decide +kernel) (by decide +kernel)
set_option maxRecDepth 20000 in
theorem gX1_passDays_X2_ageAll : GoodIn wsX1_passDays (wsV RX1 73 RX2 yX2_ageAll wsX2_ageAll) := goodIn_app (goodIn_of _ (by decide +kernel)) ggX1_passDays_X2_ageAll
theorem dX1_passDays_0 : decode cX1_passDays 0 = .ok (.iconst 0, 1) := by decide +kernel
theorem dX1_passDays_1 : decode cX1_passDays 1 = .ok (.istore_n 2, 1) := by decide +kernel
theorem dX1_passDays_2 : decode cX1_passDays 2 = .ok (.iload_n 2, 1) := by decide +kernel
theorem dX1_passDays_3 : decode cX1_passDays 3 = .ok (.iload_n 1, 1) := by decide +kernel
theorem dX1_passDays_4 : decode cX1_passDays 4 = .ok (.if_icmp .ge 67, 3) := by decide +kernel
theorem dX1_passDays_7 : decode cX1_passDays 7 = .ok (.aload_n 0, 1) := by decide +kernel
theorem dX1_passDays_8 : decode cX1_passDays 8 = .ok (.dup, 1) := by decide +kernel
theorem dX1_passDays_9 : decode cX1_passDays 9 = .ok (.getfield 32, 3) := by decide +kernel
theorem dX1_passDays_12 : decode cX1_passDays 12 = .ok (.aload_n 0, 1) := by decide +kernel
theorem dX1_passDays_13 : decode cX1_passDays 13 = .ok (.invokevirtual 65, 3) := by decide +kernel
theorem dX1_passDays_16 : decode cX1_passDays 16 = .ok (.iadd, 1) := by decide +kernel
theorem dX1_passDays_17 : decode cX1_passDays 17 = .ok (.putfield 32, 3) := by decide +kernel
theorem dX1_passDays_20 : decode cX1_passDays 20 = .ok (.aload_n 0, 1) := by decide +kernel
theorem dX1_passDays_21 : decode cX1_passDays 21 = .ok (.dup, 1) := by decide +kernel
theorem dX1_passDays_22 : decode cX1_passDays 22 = .ok (.getfield 32, 3) := by decide +kernel
theorem dX1_passDays_25 : decode cX1_passDays 25 = .ok (.aload_n 0, 1) := by decide +kernel
theorem dX1_passDays_26 : decode cX1_passDays 26 = .ok (.getfield 21, 3) := by decide +kernel
theorem dX1_passDays_29 : decode cX1_passDays 29 = .ok (.aload_n 0, 1) := by decide +kernel
theorem dX1_passDays_30 : decode cX1_passDays 30 = .ok (.getfield 25, 3) := by decide +kernel
theorem dX1_passDays_33 : decode cX1_passDays 33 = .ok (.aload_n 0, 1) := by decide +kernel
theorem dX1_passDays_34 : decode cX1_passDays 34 = .ok (.getfield 12, 3) := by decide +kernel
theorem dX1_passDays_37 : decode cX1_passDays 37 = .ok (.invokevirtual 69, 3) := by decide +kernel
theorem dX1_passDays_40 : decode cX1_passDays 40 = .ok (.isub, 1) := by decide +kernel
theorem dX1_passDays_41 : decode cX1_passDays 41 = .ok (.putfield 32, 3) := by decide +kernel
theorem dX1_passDays_44 : decode cX1_passDays 44 = .ok (.aload_n 0, 1) := by decide +kernel
theorem dX1_passDays_45 : decode cX1_passDays 45 = .ok (.getfield 12, 3) := by decide +kernel
theorem dX1_passDays_48 : decode cX1_passDays 48 = .ok (.aload_n 0, 1) := by decide +kernel
theorem dX1_passDays_49 : decode cX1_passDays 49 = .ok (.getfield 25, 3) := by decide +kernel
theorem dX1_passDays_52 : decode cX1_passDays 52 = .ok (.invokevirtual 73, 3) := by decide +kernel
theorem dX1_passDays_55 : decode cX1_passDays 55 = .ok (.aload_n 0, 1) := by decide +kernel
theorem dX1_passDays_56 : decode cX1_passDays 56 = .ok (.dup, 1) := by decide +kernel
theorem dX1_passDays_57 : decode cX1_passDays 57 = .ok (.getfield 25, 3) := by decide +kernel
theorem dX1_passDays_60 : decode cX1_passDays 60 = .ok (.iconst 1, 1) := by decide +kernel
theorem dX1_passDays_61 : decode cX1_passDays 61 = .ok (.iadd, 1) := by decide +kernel
theorem dX1_passDays_62 : decode cX1_passDays 62 = .ok (.putfield 25, 3) := by decide +kernel
theorem dX1_passDays_65 : decode cX1_passDays 65 = .ok (.iinc 2 1, 3) := by decide +kernel
theorem dX1_passDays_68 : decode cX1_passDays 68 = .ok (.goto (-66), 3) := by decide +kernel
theorem dX1_passDays_71 : decode cX1_passDays 71 = .ok (.return_, 1) := by decide +kernel
theorem dX2_init_0 : decode cX2_init 0 = .ok (.aload_n 0, 1) := by decide +kernel
theorem dX2_init_1 : decode cX2_init 1 = .ok (.invokespecial 3, 3) := by decide +kernel
theorem dX2_init_4 : decode cX2_init 4 = .ok (.aload_n 0, 1) := by decide +kernel
theorem dX2_init_5 : decode cX2_init 5 = .ok (.bipush 10, 2) := by decide +kernel
theorem dX2_init_7 : decode cX2_init 7 = .ok (.newarray .int, 2) := by decide +kernel
theorem dX2_init_9 : decode cX2_init 9 = .ok (.putfield 9, 3) := by decide +kernel
theorem dX2_init_12 : decode cX2_init 12 = .ok (.aload_n 0, 1) := by decide +kernel
theorem dX2_init_13 : decode cX2_init 13 = .ok (.bipush 10, 2) := by decide +kernel
theorem dX2_init_15 : decode cX2_init 15 = .ok (.newarray .int, 2) := by decide +kernel
theorem dX2_init_17 : decode cX2_init 17 = .ok (.putfield 15, 3) := by decide +kernel
theorem dX2_init_20 : decode cX2_init 20 = .ok (.aload_n 0, 1) := by decide +kernel
theorem dX2_init_21 : decode cX2_init 21 = .ok (.bipush 10, 2) := by decide +kernel
theorem dX2_init_23 : decode cX2_init 23 = .ok (.newarray .int, 2) := by decide +kernel
theorem dX2_init_25 : decode cX2_init 25 = .ok (.putfield 18, 3) := by decide +kernel
theorem dX2_init_28 : decode cX2_init 28 = .ok (.aload_n 0, 1) := by decide +kernel
theorem dX2_init_29 : decode cX2_init 29 = .ok (.bipush 10, 2) := by decide +kernel
theorem dX2_init_31 : decode cX2_init 31 = .ok (.newarray .int, 2) := by decide +kernel
theorem dX2_init_33 : decode cX2_init 33 = .ok (.putfield 21, 3) := by decide +kernel
theorem dX2_init_36 : decode cX2_init 36 = .ok (.aload_n 0, 1) := by decide +kernel
theorem dX2_init_37 : decode cX2_init 37 = .ok (.bipush 10, 2) := by decide +kernel
theorem dX2_init_39 : decode cX2_init 39 = .ok (.newarray .int, 2) := by decide +kernel
theorem dX2_init_41 : decode cX2_init 41 = .ok (.putfield 24, 3) := by decide +kernel
theorem dX2_init_44 : decode cX2_init 44 = .ok (.aload_n 0, 1) := by decide +kernel
theorem dX2_init_45 : decode cX2_init 45 = .ok (.bipush 10, 2) := by decide +kernel
theorem dX2_init_47 : decode cX2_init 47 = .ok (.newarray .int, 2) := by decide +kernel
theorem dX2_init_49 : decode cX2_init 49 = .ok (.putfield 27, 3) := by decide +kernel
theorem dX2_init_52 : decode cX2_init 52 = .ok (.aload_n 0, 1) := by decide +kernel
theorem dX2_init_53 : decode cX2_init 53 = .ok (.iconst 0, 1) := by decide +kernel
theorem dX2_init_54 : decode cX2_init 54 = .ok (.putfield 30, 3) := by decide +kernel
theorem dX2_init_57 : decode cX2_init 57 = .ok (.return_, 1) := by decide +kernel
theorem dX2_has_0 : decode cX2_has 0 = .ok (.iload_n 1, 1) := by decide +kernel
theorem dX2_has_1 : decode cX2_has 1 = .ok (.ifCond .lt 15, 3) := by decide +kernel
theorem dX2_has_4 : decode cX2_has 4 = .ok (.iload_n 1, 1) := by decide +kernel
theorem dX2_has_5 : decode cX2_has 5 = .ok (.aload_n 0, 1) := by decide +kernel
theorem dX2_has_6 : decode cX2_has 6 = .ok (.getfield 30, 3) := by decide +kernel
theorem dX2_has_9 : decode cX2_has 9 = .ok (.if_icmp .ge 7, 3) := by decide +kernel
theorem dX2_has_12 : decode cX2_has 12 = .ok (.iconst 1, 1) := by decide +kernel
theorem dX2_has_13 : decode cX2_has 13 = .ok (.goto 4, 3) := by decide +kernel
theorem dX2_has_16 : decode cX2_has 16 = .ok (.iconst 0, 1) := by decide +kernel
theorem dX2_has_17 : decode cX2_has 17 = .ok (.ireturn, 1) := by decide +kernel
theorem dX2_build_0 : decode cX2_build 0 = .ok (.aload_n 0, 1) := by decide +kernel
theorem dX2_build_1 : decode cX2_build 1 = .ok (.getfield 30, 3) := by decide +kernel
theorem dX2_build_4 : decode cX2_build 4 = .ok (.istore 5, 2) := by decide +kernel
theorem dX2_build_6 : decode cX2_build 6 = .ok (.iload 5, 2) := by decide +kernel
theorem dX2_build_8 : decode cX2_build 8 = .ok (.bipush 10, 2) := by decide +kernel
theorem dX2_build_10 : decode cX2_build 10 = .ok (.if_icmp .lt 5, 3) := by decide +kernel
theorem dX2_build_13 : decode cX2_build 13 = .ok (.iconst (-1), 1) := by decide +kernel
theorem dX2_build_14 : decode cX2_build 14 = .ok (.ireturn, 1) := by decide +kernel
theorem dX2_build_15 : decode cX2_build 15 = .ok (.aload_n 0, 1) := by decide +kernel
theorem dX2_build_16 : decode cX2_build 16 = .ok (.getfield 9, 3) := by decide +kernel
theorem dX2_build_19 : decode cX2_build 19 = .ok (.iload 5, 2) := by decide +kernel
theorem dX2_build_21 : decode cX2_build 21 = .ok (.iload_n 1, 1) := by decide +kernel
theorem dX2_build_22 : decode cX2_build 22 = .ok (.iastore, 1) := by decide +kernel
theorem dX2_build_23 : decode cX2_build 23 = .ok (.aload_n 0, 1) := by decide +kernel
theorem dX2_build_24 : decode cX2_build 24 = .ok (.getfield 15, 3) := by decide +kernel
theorem dX2_build_27 : decode cX2_build 27 = .ok (.iload 5, 2) := by decide +kernel
theorem dX2_build_29 : decode cX2_build 29 = .ok (.iload_n 2, 1) := by decide +kernel
theorem dX2_build_30 : decode cX2_build 30 = .ok (.iastore, 1) := by decide +kernel
theorem dX2_build_31 : decode cX2_build 31 = .ok (.aload_n 0, 1) := by decide +kernel
theorem dX2_build_32 : decode cX2_build 32 = .ok (.getfield 18, 3) := by decide +kernel
theorem dX2_build_35 : decode cX2_build 35 = .ok (.iload 5, 2) := by decide +kernel
theorem dX2_build_37 : decode cX2_build 37 = .ok (.iload_n 3, 1) := by decide +kernel
theorem dX2_build_38 : decode cX2_build 38 = .ok (.iastore, 1) := by decide +kernel
theorem dX2_build_39 : decode cX2_build 39 = .ok (.aload_n 0, 1) := by decide +kernel
theorem dX2_build_40 : decode cX2_build 40 = .ok (.getfield 21, 3) := by decide +kernel
theorem dX2_build_43 : decode cX2_build 43 = .ok (.iload 5, 2) := by decide +kernel
theorem dX2_build_45 : decode cX2_build 45 = .ok (.iload 4, 2) := by decide +kernel
theorem dX2_build_47 : decode cX2_build 47 = .ok (.iastore, 1) := by decide +kernel
theorem dX2_build_48 : decode cX2_build 48 = .ok (.aload_n 0, 1) := by decide +kernel
theorem dX2_build_49 : decode cX2_build 49 = .ok (.dup, 1) := by decide +kernel
theorem dX2_build_50 : decode cX2_build 50 = .ok (.getfield 30, 3) := by decide +kernel
theorem dX2_build_53 : decode cX2_build 53 = .ok (.iconst 1, 1) := by decide +kernel
theorem dX2_build_54 : decode cX2_build 54 = .ok (.iadd, 1) := by decide +kernel
theorem dX2_build_55 : decode cX2_build 55 = .ok (.putfield 30, 3) := by decide +kernel
theorem dX2_build_58 : decode cX2_build 58 = .ok (.iload 5, 2) := by decide +kernel
theorem dX2_build_60 : decode cX2_build 60 = .ok (.ireturn, 1) := by decide +kernel
set_option maxRecDepth 20000 in
theorem ggX2_stands_X2_has : GoodIn wsX2_stands wsX2_has := goodIn_r _ [6, 7, 8, 9, 10, 11, 12, 13, 14] (by decide +kernel) (by decide +kernel)
set_option maxRecDepth 20000 in
theorem gX2_stands_X2_has : GoodIn wsX2_stands (wsV RX2 40 RX2 yX2_has wsX2_has) := goodIn_app (goodIn_of _ (by decide +kernel)) ggX2_stands_X2_has
theorem dX2_stands_0 : decode cX2_stands 0 = .ok (.aload_n 0, 1) := by decide +kernel
theorem dX2_stands_1 : decode cX2_stands 1 = .ok (.iload_n 1, 1) := by decide +kernel
theorem dX2_stands_2 : decode cX2_stands 2 = .ok (.invokevirtual 40, 3) := by decide +kernel
theorem dX2_stands_5 : decode cX2_stands 5 = .ok (.ifCond .eq 16, 3) := by decide +kernel
theorem dX2_stands_8 : decode cX2_stands 8 = .ok (.aload_n 0, 1) := by decide +kernel
theorem dX2_stands_9 : decode cX2_stands 9 = .ok (.getfield 9, 3) := by decide +kernel
theorem dX2_stands_12 : decode cX2_stands 12 = .ok (.iload_n 1, 1) := by decide +kernel
theorem dX2_stands_13 : decode cX2_stands 13 = .ok (.iaload, 1) := by decide +kernel
theorem dX2_stands_14 : decode cX2_stands 14 = .ok (.ifCond .le 7, 3) := by decide +kernel
theorem dX2_stands_17 : decode cX2_stands 17 = .ok (.iconst 1, 1) := by decide +kernel
theorem dX2_stands_18 : decode cX2_stands 18 = .ok (.goto 4, 3) := by decide +kernel
theorem dX2_stands_21 : decode cX2_stands 21 = .ok (.iconst 0, 1) := by decide +kernel
theorem dX2_stands_22 : decode cX2_stands 22 = .ok (.ireturn, 1) := by decide +kernel
theorem dX2_countStanding_0 : decode cX2_countStanding 0 = .ok (.iconst 0, 1) := by decide +kernel
theorem dX2_countStanding_1 : decode cX2_countStanding 1 = .ok (.istore_n 1, 1) := by decide +kernel
theorem dX2_countStanding_2 : decode cX2_countStanding 2 = .ok (.iconst 0, 1) := by decide +kernel
theorem dX2_countStanding_3 : decode cX2_countStanding 3 = .ok (.istore_n 2, 1) := by decide +kernel
theorem dX2_countStanding_4 : decode cX2_countStanding 4 = .ok (.iload_n 2, 1) := by decide +kernel
theorem dX2_countStanding_5 : decode cX2_countStanding 5 = .ok (.aload_n 0, 1) := by decide +kernel
theorem dX2_countStanding_6 : decode cX2_countStanding 6 = .ok (.getfield 30, 3) := by decide +kernel
theorem dX2_countStanding_9 : decode cX2_countStanding 9 = .ok (.if_icmp .ge 21, 3) := by decide +kernel
theorem dX2_countStanding_12 : decode cX2_countStanding 12 = .ok (.aload_n 0, 1) := by decide +kernel
theorem dX2_countStanding_13 : decode cX2_countStanding 13 = .ok (.getfield 9, 3) := by decide +kernel
theorem dX2_countStanding_16 : decode cX2_countStanding 16 = .ok (.iload_n 2, 1) := by decide +kernel
theorem dX2_countStanding_17 : decode cX2_countStanding 17 = .ok (.iaload, 1) := by decide +kernel
theorem dX2_countStanding_18 : decode cX2_countStanding 18 = .ok (.ifCond .le 6, 3) := by decide +kernel
theorem dX2_countStanding_21 : decode cX2_countStanding 21 = .ok (.iinc 1 1, 3) := by decide +kernel
theorem dX2_countStanding_24 : decode cX2_countStanding 24 = .ok (.iinc 2 1, 3) := by decide +kernel
theorem dX2_countStanding_27 : decode cX2_countStanding 27 = .ok (.goto (-23), 3) := by decide +kernel
theorem dX2_countStanding_30 : decode cX2_countStanding 30 = .ok (.iload_n 1, 1) := by decide +kernel
theorem dX2_countStanding_31 : decode cX2_countStanding 31 = .ok (.ireturn, 1) := by decide +kernel
theorem dX2_cut_0 : decode cX2_cut 0 = .ok (.aload_n 0, 1) := by decide +kernel
theorem dX2_cut_1 : decode cX2_cut 1 = .ok (.getfield 15, 3) := by decide +kernel
theorem dX2_cut_4 : decode cX2_cut 4 = .ok (.iload_n 1, 1) := by decide +kernel
theorem dX2_cut_5 : decode cX2_cut 5 = .ok (.iconst 0, 1) := by decide +kernel
theorem dX2_cut_6 : decode cX2_cut 6 = .ok (.aload_n 0, 1) := by decide +kernel
theorem dX2_cut_7 : decode cX2_cut 7 = .ok (.getfield 15, 3) := by decide +kernel
theorem dX2_cut_10 : decode cX2_cut 10 = .ok (.iload_n 1, 1) := by decide +kernel
theorem dX2_cut_11 : decode cX2_cut 11 = .ok (.iaload, 1) := by decide +kernel
theorem dX2_cut_12 : decode cX2_cut 12 = .ok (.iload_n 2, 1) := by decide +kernel
theorem dX2_cut_13 : decode cX2_cut 13 = .ok (.isub, 1) := by decide +kernel
theorem dX2_cut_14 : decode cX2_cut 14 = .ok (.invokestatic 44, 3) := by decide +kernel
theorem dX2_cut_17 : decode cX2_cut 17 = .ok (.iastore, 1) := by decide +kernel
theorem dX2_cut_18 : decode cX2_cut 18 = .ok (.return_, 1) := by decide +kernel
theorem dX2_grade_0 : decode cX2_grade 0 = .ok (.aload_n 0, 1) := by decide +kernel
theorem dX2_grade_1 : decode cX2_grade 1 = .ok (.getfield 15, 3) := by decide +kernel
theorem dX2_grade_4 : decode cX2_grade 4 = .ok (.iload_n 1, 1) := by decide +kernel
theorem dX2_grade_5 : decode cX2_grade 5 = .ok (.iaload, 1) := by decide +kernel
theorem dX2_grade_6 : decode cX2_grade 6 = .ok (.istore_n 2, 1) := by decide +kernel
theorem dX2_grade_7 : decode cX2_grade 7 = .ok (.iload_n 2, 1) := by decide +kernel
theorem dX2_grade_8 : decode cX2_grade 8 = .ok (.bipush 10, 2) := by decide +kernel
theorem dX2_grade_10 : decode cX2_grade 10 = .ok (.if_icmp .lt 5, 3) := by decide +kernel
theorem dX2_grade_13 : decode cX2_grade 13 = .ok (.iconst 1, 1) := by decide +kernel
theorem dX2_grade_14 : decode cX2_grade 14 = .ok (.ireturn, 1) := by decide +kernel
theorem dX2_grade_15 : decode cX2_grade 15 = .ok (.iload_n 2, 1) := by decide +kernel
theorem dX2_grade_16 : decode cX2_grade 16 = .ok (.bipush 7, 2) := by decide +kernel
theorem dX2_grade_18 : decode cX2_grade 18 = .ok (.if_icmp .lt 5, 3) := by decide +kernel
theorem dX2_grade_21 : decode cX2_grade 21 = .ok (.iconst 3, 1) := by decide +kernel
theorem dX2_grade_22 : decode cX2_grade 22 = .ok (.ireturn, 1) := by decide +kernel
theorem dX2_grade_23 : decode cX2_grade 23 = .ok (.iload_n 2, 1) := by decide +kernel
theorem dX2_grade_24 : decode cX2_grade 24 = .ok (.iconst 4, 1) := by decide +kernel
theorem dX2_grade_25 : decode cX2_grade 25 = .ok (.if_icmp .lt 5, 3) := by decide +kernel
theorem dX2_grade_28 : decode cX2_grade 28 = .ok (.iconst 2, 1) := by decide +kernel
theorem dX2_grade_29 : decode cX2_grade 29 = .ok (.ireturn, 1) := by decide +kernel
theorem dX2_grade_30 : decode cX2_grade 30 = .ok (.iload_n 2, 1) := by decide +kernel
theorem dX2_grade_31 : decode cX2_grade 31 = .ok (.iconst 1, 1) := by decide +kernel
theorem dX2_grade_32 : decode cX2_grade 32 = .ok (.if_icmp .lt 7, 3) := by decide +kernel
theorem dX2_grade_35 : decode cX2_grade 35 = .ok (.iconst 1, 1) := by decide +kernel
theorem dX2_grade_36 : decode cX2_grade 36 = .ok (.goto 4, 3) := by decide +kernel
theorem dX2_grade_39 : decode cX2_grade 39 = .ok (.iconst 0, 1) := by decide +kernel
theorem dX2_grade_40 : decode cX2_grade 40 = .ok (.ireturn, 1) := by decide +kernel
set_option maxRecDepth 20000 in
theorem ggX2_view_X2_grade : GoodIn wsX2_view wsX2_grade := goodIn_r _ [7, 8, 9, 10, 11, 12, 13, 14, 15] (by decide +kernel) (by decide +kernel)
set_option maxRecDepth 20000 in
theorem gX2_view_X2_grade : GoodIn wsX2_view (wsV RX2 50 RX2 yX2_grade wsX2_grade) := goodIn_app (goodIn_of _ (by decide +kernel)) ggX2_view_X2_grade
theorem dX2_view_0 : decode cX2_view 0 = .ok (.aload_n 0, 1) := by decide +kernel
theorem dX2_view_1 : decode cX2_view 1 = .ok (.getfield 9, 3) := by decide +kernel
theorem dX2_view_4 : decode cX2_view 4 = .ok (.iload_n 1, 1) := by decide +kernel
theorem dX2_view_5 : decode cX2_view 5 = .ok (.iaload, 1) := by decide +kernel
theorem dX2_view_6 : decode cX2_view 6 = .ok (.ifCond .ne 5, 3) := by decide +kernel
theorem dX2_view_9 : decode cX2_view 9 = .ok (.iconst 0, 1) := by decide +kernel
theorem dX2_view_10 : decode cX2_view 10 = .ok (.ireturn, 1) := by decide +kernel
theorem dX2_view_11 : decode cX2_view 11 = .ok (.iconst 2, 1) := by decide +kernel
theorem dX2_view_12 : decode cX2_view 12 = .ok (.aload_n 0, 1) := by decide +kernel
theorem dX2_view_13 : decode cX2_view 13 = .ok (.getfield 9, 3) := by decide +kernel
theorem dX2_view_16 : decode cX2_view 16 = .ok (.iload_n 1, 1) := by decide +kernel
theorem dX2_view_17 : decode cX2_view 17 = .ok (.iaload, 1) := by decide +kernel
theorem dX2_view_18 : decode cX2_view 18 = .ok (.imul, 1) := by decide +kernel
theorem dX2_view_19 : decode cX2_view 19 = .ok (.iconst 3, 1) := by decide +kernel
theorem dX2_view_20 : decode cX2_view 20 = .ok (.aload_n 0, 1) := by decide +kernel
theorem dX2_view_21 : decode cX2_view 21 = .ok (.iload_n 1, 1) := by decide +kernel
theorem dX2_view_22 : decode cX2_view 22 = .ok (.invokevirtual 50, 3) := by decide +kernel
theorem dX2_view_25 : decode cX2_view 25 = .ok (.imul, 1) := by decide +kernel
theorem dX2_view_26 : decode cX2_view 26 = .ok (.iadd, 1) := by decide +kernel
theorem dX2_view_27 : decode cX2_view 27 = .ok (.aload_n 0, 1) := by decide +kernel
theorem dX2_view_28 : decode cX2_view 28 = .ok (.getfield 18, 3) := by decide +kernel
theorem dX2_view_31 : decode cX2_view 31 = .ok (.iload_n 1, 1) := by decide +kernel
theorem dX2_view_32 : decode cX2_view 32 = .ok (.iaload, 1) := by decide +kernel
theorem dX2_view_33 : decode cX2_view 33 = .ok (.iload_n 2, 1) := by decide +kernel
theorem dX2_view_34 : decode cX2_view 34 = .ok (.imul, 1) := by decide +kernel
theorem dX2_view_35 : decode cX2_view 35 = .ok (.iadd, 1) := by decide +kernel
theorem dX2_view_36 : decode cX2_view 36 = .ok (.ireturn, 1) := by decide +kernel
set_option maxRecDepth 20000 in
theorem ggX2_sumViews_X2_view : GoodIn wsX2_sumViews wsX2_view := goodIn_r _ [6, 7, 8, 9, 10, 11, 5, 12, 13, 14, 15, 16, 17, 18, 19, 20] (by decide +kernel) (by decide +kernel)
set_option maxRecDepth 20000 in
theorem gX2_sumViews_X2_view : GoodIn wsX2_sumViews (wsV RX2 54 RX2 yX2_view wsX2_view) := goodIn_app (goodIn_of _ (by decide +kernel)) ggX2_sumViews_X2_view
theorem dX2_sumViews_0 : decode cX2_sumViews 0 = .ok (.iconst 0, 1) := by decide +kernel
theorem dX2_sumViews_1 : decode cX2_sumViews 1 = .ok (.istore_n 2, 1) := by decide +kernel
theorem dX2_sumViews_2 : decode cX2_sumViews 2 = .ok (.iconst 0, 1) := by decide +kernel
theorem dX2_sumViews_3 : decode cX2_sumViews 3 = .ok (.istore_n 3, 1) := by decide +kernel
theorem dX2_sumViews_4 : decode cX2_sumViews 4 = .ok (.iload_n 3, 1) := by decide +kernel
theorem dX2_sumViews_5 : decode cX2_sumViews 5 = .ok (.aload_n 0, 1) := by decide +kernel
theorem dX2_sumViews_6 : decode cX2_sumViews 6 = .ok (.getfield 30, 3) := by decide +kernel
theorem dX2_sumViews_9 : decode cX2_sumViews 9 = .ok (.if_icmp .ge 18, 3) := by decide +kernel
theorem dX2_sumViews_12 : decode cX2_sumViews 12 = .ok (.iload_n 2, 1) := by decide +kernel
theorem dX2_sumViews_13 : decode cX2_sumViews 13 = .ok (.aload_n 0, 1) := by decide +kernel
theorem dX2_sumViews_14 : decode cX2_sumViews 14 = .ok (.iload_n 3, 1) := by decide +kernel
theorem dX2_sumViews_15 : decode cX2_sumViews 15 = .ok (.iload_n 1, 1) := by decide +kernel
theorem dX2_sumViews_16 : decode cX2_sumViews 16 = .ok (.invokevirtual 54, 3) := by decide +kernel
theorem dX2_sumViews_19 : decode cX2_sumViews 19 = .ok (.iadd, 1) := by decide +kernel
theorem dX2_sumViews_20 : decode cX2_sumViews 20 = .ok (.istore_n 2, 1) := by decide +kernel
theorem dX2_sumViews_21 : decode cX2_sumViews 21 = .ok (.iinc 3 1, 3) := by decide +kernel
theorem dX2_sumViews_24 : decode cX2_sumViews 24 = .ok (.goto (-20), 3) := by decide +kernel
theorem dX2_sumViews_27 : decode cX2_sumViews 27 = .ok (.iload_n 2, 1) := by decide +kernel
theorem dX2_sumViews_28 : decode cX2_sumViews 28 = .ok (.ireturn, 1) := by decide +kernel
set_option maxRecDepth 20000 in
theorem ggX2_merit_X2_view : GoodIn wsX2_merit wsX2_view := goodIn_r _ [7, 1, 8, 9, 10, 11, 6, 12, 13, 14, 15, 16, 17, 18, 19, 20] (by decide +kernel) (by decide +kernel)
set_option maxRecDepth 20000 in
theorem gX2_merit_X2_view : GoodIn wsX2_merit (wsV RX2 54 RX2 yX2_view wsX2_view) := goodIn_app (goodIn_of _ (by decide +kernel)) ggX2_merit_X2_view
theorem dX2_merit_0 : decode cX2_merit 0 = .ok (.aload_n 0, 1) := by decide +kernel
theorem dX2_merit_1 : decode cX2_merit 1 = .ok (.getfield 9, 3) := by decide +kernel
theorem dX2_merit_4 : decode cX2_merit 4 = .ok (.iload_n 1, 1) := by decide +kernel
theorem dX2_merit_5 : decode cX2_merit 5 = .ok (.iaload, 1) := by decide +kernel
theorem dX2_merit_6 : decode cX2_merit 6 = .ok (.ifCond .ne 5, 3) := by decide +kernel
theorem dX2_merit_9 : decode cX2_merit 9 = .ok (.iconst (-1), 1) := by decide +kernel
theorem dX2_merit_10 : decode cX2_merit 10 = .ok (.ireturn, 1) := by decide +kernel
theorem dX2_merit_11 : decode cX2_merit 11 = .ok (.aload_n 0, 1) := by decide +kernel
theorem dX2_merit_12 : decode cX2_merit 12 = .ok (.iload_n 1, 1) := by decide +kernel
theorem dX2_merit_13 : decode cX2_merit 13 = .ok (.iload_n 2, 1) := by decide +kernel
theorem dX2_merit_14 : decode cX2_merit 14 = .ok (.invokevirtual 54, 3) := by decide +kernel
theorem dX2_merit_17 : decode cX2_merit 17 = .ok (.bipush 10, 2) := by decide +kernel
theorem dX2_merit_19 : decode cX2_merit 19 = .ok (.imul, 1) := by decide +kernel
theorem dX2_merit_20 : decode cX2_merit 20 = .ok (.bipush 9, 2) := by decide +kernel
theorem dX2_merit_22 : decode cX2_merit 22 = .ok (.aload_n 0, 1) := by decide +kernel
theorem dX2_merit_23 : decode cX2_merit 23 = .ok (.getfield 21, 3) := by decide +kernel
theorem dX2_merit_26 : decode cX2_merit 26 = .ok (.iload_n 1, 1) := by decide +kernel
theorem dX2_merit_27 : decode cX2_merit 27 = .ok (.iaload, 1) := by decide +kernel
theorem dX2_merit_28 : decode cX2_merit 28 = .ok (.isub, 1) := by decide +kernel
theorem dX2_merit_29 : decode cX2_merit 29 = .ok (.iadd, 1) := by decide +kernel
theorem dX2_merit_30 : decode cX2_merit 30 = .ok (.istore_n 3, 1) := by decide +kernel
theorem dX2_merit_31 : decode cX2_merit 31 = .ok (.iload_n 3, 1) := by decide +kernel
theorem dX2_merit_32 : decode cX2_merit 32 = .ok (.bipush 10, 2) := by decide +kernel
theorem dX2_merit_34 : decode cX2_merit 34 = .ok (.imul, 1) := by decide +kernel
theorem dX2_merit_35 : decode cX2_merit 35 = .ok (.bipush 9, 2) := by decide +kernel
theorem dX2_merit_37 : decode cX2_merit 37 = .ok (.iload_n 1, 1) := by decide +kernel
theorem dX2_merit_38 : decode cX2_merit 38 = .ok (.isub, 1) := by decide +kernel
theorem dX2_merit_39 : decode cX2_merit 39 = .ok (.iadd, 1) := by decide +kernel
theorem dX2_merit_40 : decode cX2_merit 40 = .ok (.ireturn, 1) := by decide +kernel
set_option maxRecDepth 20000 in
theorem ggX2_rankAll_X2_merit : GoodIn wsX2_rankAll wsX2_merit := goodIn_r _ [9, 4, 10, 11, 12, 13, 8, 14, 15, 16, 17, 18, 19, 20, 25, 26, 27, 28, 29, 30, 31] (by decide +kernel) (by decide +kernel)
set_option maxRecDepth 20000 in
theorem gX2_rankAll_X2_merit : GoodIn wsX2_rankAll (wsV RX2 57 RX2 yX2_merit wsX2_merit) := goodIn_app (goodIn_of _ (by decide +kernel)) ggX2_rankAll_X2_merit
set_option maxRecDepth 20000 in
theorem ggX2_rankAll_X2_countAbove : GoodIn wsX2_rankAll wsX2_countAbove := goodIn_r _ [24, 1, 2, 25, 26, 27, 28, 29, 30, 31] (by decide +kernel) (by decide +kernel)
set_option maxRecDepth 20000 in
theorem gX2_rankAll_X2_countAbove : GoodIn wsX2_rankAll (wsV RX2 60 RX2 yX2_countAbove wsX2_countAbove) := goodIn_app (goodIn_of _ (by decide +kernel)) ggX2_rankAll_X2_countAbove
theorem dX2_rankAll_0 : decode cX2_rankAll 0 = .ok (.iconst 0, 1) := by decide +kernel
theorem dX2_rankAll_1 : decode cX2_rankAll 1 = .ok (.istore_n 2, 1) := by decide +kernel
theorem dX2_rankAll_2 : decode cX2_rankAll 2 = .ok (.iload_n 2, 1) := by decide +kernel
theorem dX2_rankAll_3 : decode cX2_rankAll 3 = .ok (.aload_n 0, 1) := by decide +kernel
theorem dX2_rankAll_4 : decode cX2_rankAll 4 = .ok (.getfield 30, 3) := by decide +kernel
theorem dX2_rankAll_7 : decode cX2_rankAll 7 = .ok (.if_icmp .ge 21, 3) := by decide +kernel
theorem dX2_rankAll_10 : decode cX2_rankAll 10 = .ok (.aload_n 0, 1) := by decide +kernel
theorem dX2_rankAll_11 : decode cX2_rankAll 11 = .ok (.getfield 24, 3) := by decide +kernel
theorem dX2_rankAll_14 : decode cX2_rankAll 14 = .ok (.iload_n 2, 1) := by decide +kernel
theorem dX2_rankAll_15 : decode cX2_rankAll 15 = .ok (.aload_n 0, 1) := by decide +kernel
theorem dX2_rankAll_16 : decode cX2_rankAll 16 = .ok (.iload_n 2, 1) := by decide +kernel
theorem dX2_rankAll_17 : decode cX2_rankAll 17 = .ok (.iload_n 1, 1) := by decide +kernel
theorem dX2_rankAll_18 : decode cX2_rankAll 18 = .ok (.invokevirtual 57, 3) := by decide +kernel
theorem dX2_rankAll_21 : decode cX2_rankAll 21 = .ok (.iastore, 1) := by decide +kernel
theorem dX2_rankAll_22 : decode cX2_rankAll 22 = .ok (.iinc 2 1, 3) := by decide +kernel
theorem dX2_rankAll_25 : decode cX2_rankAll 25 = .ok (.goto (-23), 3) := by decide +kernel
theorem dX2_rankAll_28 : decode cX2_rankAll 28 = .ok (.iconst 0, 1) := by decide +kernel
theorem dX2_rankAll_29 : decode cX2_rankAll 29 = .ok (.istore_n 2, 1) := by decide +kernel
theorem dX2_rankAll_30 : decode cX2_rankAll 30 = .ok (.iload_n 2, 1) := by decide +kernel
theorem dX2_rankAll_31 : decode cX2_rankAll 31 = .ok (.aload_n 0, 1) := by decide +kernel
theorem dX2_rankAll_32 : decode cX2_rankAll 32 = .ok (.getfield 30, 3) := by decide +kernel
theorem dX2_rankAll_35 : decode cX2_rankAll 35 = .ok (.if_icmp .ge 38, 3) := by decide +kernel
theorem dX2_rankAll_38 : decode cX2_rankAll 38 = .ok (.aload_n 0, 1) := by decide +kernel
theorem dX2_rankAll_39 : decode cX2_rankAll 39 = .ok (.getfield 27, 3) := by decide +kernel
theorem dX2_rankAll_42 : decode cX2_rankAll 42 = .ok (.iload_n 2, 1) := by decide +kernel
theorem dX2_rankAll_43 : decode cX2_rankAll 43 = .ok (.aload_n 0, 1) := by decide +kernel
theorem dX2_rankAll_44 : decode cX2_rankAll 44 = .ok (.getfield 9, 3) := by decide +kernel
theorem dX2_rankAll_47 : decode cX2_rankAll 47 = .ok (.iload_n 2, 1) := by decide +kernel
theorem dX2_rankAll_48 : decode cX2_rankAll 48 = .ok (.iaload, 1) := by decide +kernel
theorem dX2_rankAll_49 : decode cX2_rankAll 49 = .ok (.ifCond .ne 7, 3) := by decide +kernel
theorem dX2_rankAll_52 : decode cX2_rankAll 52 = .ok (.iconst (-1), 1) := by decide +kernel
theorem dX2_rankAll_53 : decode cX2_rankAll 53 = .ok (.goto 13, 3) := by decide +kernel
theorem dX2_rankAll_56 : decode cX2_rankAll 56 = .ok (.aload_n 0, 1) := by decide +kernel
theorem dX2_rankAll_57 : decode cX2_rankAll 57 = .ok (.aload_n 0, 1) := by decide +kernel
theorem dX2_rankAll_58 : decode cX2_rankAll 58 = .ok (.getfield 24, 3) := by decide +kernel
theorem dX2_rankAll_61 : decode cX2_rankAll 61 = .ok (.iload_n 2, 1) := by decide +kernel
theorem dX2_rankAll_62 : decode cX2_rankAll 62 = .ok (.iaload, 1) := by decide +kernel
theorem dX2_rankAll_63 : decode cX2_rankAll 63 = .ok (.invokevirtual 60, 3) := by decide +kernel
theorem dX2_rankAll_66 : decode cX2_rankAll 66 = .ok (.iastore, 1) := by decide +kernel
theorem dX2_rankAll_67 : decode cX2_rankAll 67 = .ok (.iinc 2 1, 3) := by decide +kernel
theorem dX2_rankAll_70 : decode cX2_rankAll 70 = .ok (.goto (-40), 3) := by decide +kernel
theorem dX2_rankAll_73 : decode cX2_rankAll 73 = .ok (.return_, 1) := by decide +kernel
theorem dX2_countAbove_0 : decode cX2_countAbove 0 = .ok (.iconst 0, 1) := by decide +kernel
theorem dX2_countAbove_1 : decode cX2_countAbove 1 = .ok (.istore_n 2, 1) := by decide +kernel
theorem dX2_countAbove_2 : decode cX2_countAbove 2 = .ok (.iconst 0, 1) := by decide +kernel
theorem dX2_countAbove_3 : decode cX2_countAbove 3 = .ok (.istore_n 3, 1) := by decide +kernel
theorem dX2_countAbove_4 : decode cX2_countAbove 4 = .ok (.iload_n 3, 1) := by decide +kernel
theorem dX2_countAbove_5 : decode cX2_countAbove 5 = .ok (.aload_n 0, 1) := by decide +kernel
theorem dX2_countAbove_6 : decode cX2_countAbove 6 = .ok (.getfield 30, 3) := by decide +kernel
theorem dX2_countAbove_9 : decode cX2_countAbove 9 = .ok (.if_icmp .ge 22, 3) := by decide +kernel
theorem dX2_countAbove_12 : decode cX2_countAbove 12 = .ok (.aload_n 0, 1) := by decide +kernel
theorem dX2_countAbove_13 : decode cX2_countAbove 13 = .ok (.getfield 24, 3) := by decide +kernel
theorem dX2_countAbove_16 : decode cX2_countAbove 16 = .ok (.iload_n 3, 1) := by decide +kernel
theorem dX2_countAbove_17 : decode cX2_countAbove 17 = .ok (.iaload, 1) := by decide +kernel
theorem dX2_countAbove_18 : decode cX2_countAbove 18 = .ok (.iload_n 1, 1) := by decide +kernel
theorem dX2_countAbove_19 : decode cX2_countAbove 19 = .ok (.if_icmp .le 6, 3) := by decide +kernel
theorem dX2_countAbove_22 : decode cX2_countAbove 22 = .ok (.iinc 2 1, 3) := by decide +kernel
theorem dX2_countAbove_25 : decode cX2_countAbove 25 = .ok (.iinc 3 1, 3) := by decide +kernel
theorem dX2_countAbove_28 : decode cX2_countAbove 28 = .ok (.goto (-24), 3) := by decide +kernel
theorem dX2_countAbove_31 : decode cX2_countAbove 31 = .ok (.iload_n 2, 1) := by decide +kernel
theorem dX2_countAbove_32 : decode cX2_countAbove 32 = .ok (.ireturn, 1) := by decide +kernel
theorem dX2_findRank_0 : decode cX2_findRank 0 = .ok (.iconst 0, 1) := by decide +kernel
theorem dX2_findRank_1 : decode cX2_findRank 1 = .ok (.istore_n 2, 1) := by decide +kernel
theorem dX2_findRank_2 : decode cX2_findRank 2 = .ok (.iload_n 2, 1) := by decide +kernel
theorem dX2_findRank_3 : decode cX2_findRank 3 = .ok (.aload_n 0, 1) := by decide +kernel
theorem dX2_findRank_4 : decode cX2_findRank 4 = .ok (.getfield 30, 3) := by decide +kernel
theorem dX2_findRank_7 : decode cX2_findRank 7 = .ok (.if_icmp .ge 21, 3) := by decide +kernel
theorem dX2_findRank_10 : decode cX2_findRank 10 = .ok (.aload_n 0, 1) := by decide +kernel
theorem dX2_findRank_11 : decode cX2_findRank 11 = .ok (.getfield 27, 3) := by decide +kernel
theorem dX2_findRank_14 : decode cX2_findRank 14 = .ok (.iload_n 2, 1) := by decide +kernel
theorem dX2_findRank_15 : decode cX2_findRank 15 = .ok (.iaload, 1) := by decide +kernel
theorem dX2_findRank_16 : decode cX2_findRank 16 = .ok (.iload_n 1, 1) := by decide +kernel
theorem dX2_findRank_17 : decode cX2_findRank 17 = .ok (.if_icmp .ne 5, 3) := by decide +kernel
theorem dX2_findRank_20 : decode cX2_findRank 20 = .ok (.iload_n 2, 1) := by decide +kernel
theorem dX2_findRank_21 : decode cX2_findRank 21 = .ok (.ireturn, 1) := by decide +kernel
theorem dX2_findRank_22 : decode cX2_findRank 22 = .ok (.iinc 2 1, 3) := by decide +kernel
theorem dX2_findRank_25 : decode cX2_findRank 25 = .ok (.goto (-23), 3) := by decide +kernel
theorem dX2_findRank_28 : decode cX2_findRank 28 = .ok (.iconst (-1), 1) := by decide +kernel
theorem dX2_findRank_29 : decode cX2_findRank 29 = .ok (.ireturn, 1) := by decide +kernel
set_option maxRecDepth 20000 in
theorem ggX2_ageAll_X2_age : GoodIn wsX2_ageAll wsX2_age := goodIn_r _ [6, 7, 8, 9, 10, 5, 11, 12, 13, 14, 15, 16, 17, 18, 19, 20, 21, 22, 23, 24, 25, 26, 27, 28, 29, 30, 31, 32, 33, 34, 35] (by decide +kernel) (by decide +kernel)
set_option maxRecDepth 20000 in
theorem gX2_ageAll_X2_age : GoodIn wsX2_ageAll (wsV RX2 63 RX2 yX2_age wsX2_age) := goodIn_app (goodIn_of _ (by decide +kernel)) ggX2_ageAll_X2_age
theorem dX2_ageAll_0 : decode cX2_ageAll 0 = .ok (.iconst 0, 1) := by decide +kernel
theorem dX2_ageAll_1 : decode cX2_ageAll 1 = .ok (.istore_n 2, 1) := by decide +kernel
theorem dX2_ageAll_2 : decode cX2_ageAll 2 = .ok (.iload_n 2, 1) := by decide +kernel
theorem dX2_ageAll_3 : decode cX2_ageAll 3 = .ok (.aload_n 0, 1) := by decide +kernel
theorem dX2_ageAll_4 : decode cX2_ageAll 4 = .ok (.getfield 30, 3) := by decide +kernel
theorem dX2_ageAll_7 : decode cX2_ageAll 7 = .ok (.if_icmp .ge 15, 3) := by decide +kernel
theorem dX2_ageAll_10 : decode cX2_ageAll 10 = .ok (.aload_n 0, 1) := by decide +kernel
theorem dX2_ageAll_11 : decode cX2_ageAll 11 = .ok (.iload_n 2, 1) := by decide +kernel
theorem dX2_ageAll_12 : decode cX2_ageAll 12 = .ok (.iload_n 1, 1) := by decide +kernel
theorem dX2_ageAll_13 : decode cX2_ageAll 13 = .ok (.invokevirtual 63, 3) := by decide +kernel
theorem dX2_ageAll_16 : decode cX2_ageAll 16 = .ok (.iinc 2 1, 3) := by decide +kernel
theorem dX2_ageAll_19 : decode cX2_ageAll 19 = .ok (.goto (-17), 3) := by decide +kernel
theorem dX2_ageAll_22 : decode cX2_ageAll 22 = .ok (.return_, 1) := by decide +kernel
set_option maxRecDepth 20000 in
theorem ggX2_age_X2_growIvy : GoodIn wsX2_age wsX2_growIvy := goodIn_r _ [6, 7, 1, 24, 25, 26, 27, 28, 29, 30] (by decide +kernel) (by decide +kernel)
set_option maxRecDepth 20000 in
theorem gX2_age_X2_growIvy : GoodIn wsX2_age (wsV RX2 67 RX2 yX2_growIvy wsX2_growIvy) := goodIn_app (goodIn_of _ (by decide +kernel)) ggX2_age_X2_growIvy
set_option maxRecDepth 20000 in
theorem ggX2_age_X0_brightnessOn : GoodIn wsX2_age wsX0_brightnessOn := goodIn_r _ [11, 12, 13, 10, 14] (by decide +kernel) (by decide +kernel)
set_option maxRecDepth 20000 in
theorem gX2_age_X0_brightnessOn : GoodIn wsX2_age (va_wsS RX2 70 yX0_brightnessOn wsX0_brightnessOn) := goodIn_app (goodIn_of _ (by decide +kernel)) ggX2_age_X0_brightnessOn
set_option maxRecDepth 20000 in
theorem ggX2_age_X2_moveGhosts : GoodIn wsX2_age wsX2_moveGhosts := goodIn_r _ [18, 1, 19, 20, 21, 22, 5, 23, 7, 24, 25, 26, 27, 28, 29, 30] (by decide +kernel) (by decide +kernel)
set_option maxRecDepth 20000 in
theorem gX2_age_X2_moveGhosts : GoodIn wsX2_age (wsV RX2 75 RX2 yX2_moveGhosts wsX2_moveGhosts) := goodIn_app (goodIn_of _ (by decide +kernel)) ggX2_age_X2_moveGhosts
theorem dX2_age_0 : decode cX2_age 0 = .ok (.aload_n 0, 1) := by decide +kernel
theorem dX2_age_1 : decode cX2_age 1 = .ok (.getfield 9, 3) := by decide +kernel
theorem dX2_age_4 : decode cX2_age 4 = .ok (.iload_n 1, 1) := by decide +kernel
theorem dX2_age_5 : decode cX2_age 5 = .ok (.iaload, 1) := by decide +kernel
theorem dX2_age_6 : decode cX2_age 6 = .ok (.ifCond .le 9, 3) := by decide +kernel
theorem dX2_age_9 : decode cX2_age 9 = .ok (.aload_n 0, 1) := by decide +kernel
theorem dX2_age_10 : decode cX2_age 10 = .ok (.iload_n 1, 1) := by decide +kernel
theorem dX2_age_11 : decode cX2_age 11 = .ok (.iload_n 2, 1) := by decide +kernel
theorem dX2_age_12 : decode cX2_age 12 = .ok (.invokevirtual 67, 3) := by decide +kernel
theorem dX2_age_15 : decode cX2_age 15 = .ok (.aload_n 0, 1) := by decide +kernel
theorem dX2_age_16 : decode cX2_age 16 = .ok (.iload_n 1, 1) := by decide +kernel
theorem dX2_age_17 : decode cX2_age 17 = .ok (.iload_n 2, 1) := by decide +kernel
theorem dX2_age_18 : decode cX2_age 18 = .ok (.invokestatic 70, 3) := by decide +kernel
theorem dX2_age_21 : decode cX2_age 21 = .ok (.invokevirtual 75, 3) := by decide +kernel
theorem dX2_age_24 : decode cX2_age 24 = .ok (.return_, 1) := by decide +kernel
theorem dX2_growIvy_0 : decode cX2_growIvy 0 = .ok (.iload_n 2, 1) := by decide +kernel
theorem dX2_growIvy_1 : decode cX2_growIvy 1 = .ok (.iconst 3, 1) := by decide +kernel
theorem dX2_growIvy_2 : decode cX2_growIvy 2 = .ok (.irem, 1) := by decide +kernel
theorem dX2_growIvy_3 : decode cX2_growIvy 3 = .ok (.iconst 2, 1) := by decide +kernel
theorem dX2_growIvy_4 : decode cX2_growIvy 4 = .ok (.if_icmp .ne 24, 3) := by decide +kernel
theorem dX2_growIvy_7 : decode cX2_growIvy 7 = .ok (.aload_n 0, 1) := by decide +kernel
theorem dX2_growIvy_8 : decode cX2_growIvy 8 = .ok (.getfield 15, 3) := by decide +kernel
theorem dX2_growIvy_11 : decode cX2_growIvy 11 = .ok (.iload_n 1, 1) := by decide +kernel
theorem dX2_growIvy_12 : decode cX2_growIvy 12 = .ok (.iaload, 1) := by decide +kernel
theorem dX2_growIvy_13 : decode cX2_growIvy 13 = .ok (.bipush 12, 2) := by decide +kernel
theorem dX2_growIvy_15 : decode cX2_growIvy 15 = .ok (.if_icmp .ge 13, 3) := by decide +kernel
theorem dX2_growIvy_18 : decode cX2_growIvy 18 = .ok (.aload_n 0, 1) := by decide +kernel
theorem dX2_growIvy_19 : decode cX2_growIvy 19 = .ok (.getfield 15, 3) := by decide +kernel
theorem dX2_growIvy_22 : decode cX2_growIvy 22 = .ok (.iload_n 1, 1) := by decide +kernel
theorem dX2_growIvy_23 : decode cX2_growIvy 23 = .ok (.dup2, 1) := by decide +kernel
theorem dX2_growIvy_24 : decode cX2_growIvy 24 = .ok (.iaload, 1) := by decide +kernel
theorem dX2_growIvy_25 : decode cX2_growIvy 25 = .ok (.iconst 1, 1) := by decide +kernel
theorem dX2_growIvy_26 : decode cX2_growIvy 26 = .ok (.iadd, 1) := by decide +kernel
theorem dX2_growIvy_27 : decode cX2_growIvy 27 = .ok (.iastore, 1) := by decide +kernel
theorem dX2_growIvy_28 : decode cX2_growIvy 28 = .ok (.aload_n 0, 1) := by decide +kernel
theorem dX2_growIvy_29 : decode cX2_growIvy 29 = .ok (.getfield 15, 3) := by decide +kernel
theorem dX2_growIvy_32 : decode cX2_growIvy 32 = .ok (.iload_n 1, 1) := by decide +kernel
theorem dX2_growIvy_33 : decode cX2_growIvy 33 = .ok (.iaload, 1) := by decide +kernel
theorem dX2_growIvy_34 : decode cX2_growIvy 34 = .ok (.bipush 10, 2) := by decide +kernel
theorem dX2_growIvy_36 : decode cX2_growIvy 36 = .ok (.if_icmp .lt 13, 3) := by decide +kernel
theorem dX2_growIvy_39 : decode cX2_growIvy 39 = .ok (.aload_n 0, 1) := by decide +kernel
theorem dX2_growIvy_40 : decode cX2_growIvy 40 = .ok (.getfield 9, 3) := by decide +kernel
theorem dX2_growIvy_43 : decode cX2_growIvy 43 = .ok (.iload_n 1, 1) := by decide +kernel
theorem dX2_growIvy_44 : decode cX2_growIvy 44 = .ok (.dup2, 1) := by decide +kernel
theorem dX2_growIvy_45 : decode cX2_growIvy 45 = .ok (.iaload, 1) := by decide +kernel
theorem dX2_growIvy_46 : decode cX2_growIvy 46 = .ok (.iconst 1, 1) := by decide +kernel
theorem dX2_growIvy_47 : decode cX2_growIvy 47 = .ok (.isub, 1) := by decide +kernel
theorem dX2_growIvy_48 : decode cX2_growIvy 48 = .ok (.iastore, 1) := by decide +kernel
theorem dX2_growIvy_49 : decode cX2_growIvy 49 = .ok (.return_, 1) := by decide +kernel
set_option maxRecDepth 20000 in
theorem ggX2_moveGhosts_X2_grade : GoodIn wsX2_moveGhosts wsX2_grade := goodIn_r _ [7, 8, 9, 10, 11, 12, 13, 14, 15] (by decide +kernel) (by decide +kernel)
set_option maxRecDepth 20000 in
theorem gX2_moveGhosts_X2_grade : GoodIn wsX2_moveGhosts (wsV RX2 50 RX2 yX2_grade wsX2_grade) := goodIn_app (goodIn_of _ (by decide +kernel)) ggX2_moveGhosts_X2_grade
theorem dX2_moveGhosts_0 : decode cX2_moveGhosts 0 = .ok (.aload_n 0, 1) := by decide +kernel
theorem dX2_moveGhosts_1 : decode cX2_moveGhosts 1 = .ok (.getfield 9, 3) := by decide +kernel
theorem dX2_moveGhosts_4 : decode cX2_moveGhosts 4 = .ok (.iload_n 1, 1) := by decide +kernel
theorem dX2_moveGhosts_5 : decode cX2_moveGhosts 5 = .ok (.iaload, 1) := by decide +kernel
theorem dX2_moveGhosts_6 : decode cX2_moveGhosts 6 = .ok (.ifCond .ne 7, 3) := by decide +kernel
theorem dX2_moveGhosts_9 : decode cX2_moveGhosts 9 = .ok (.iconst 1, 1) := by decide +kernel
theorem dX2_moveGhosts_10 : decode cX2_moveGhosts 10 = .ok (.goto 4, 3) := by decide +kernel
theorem dX2_moveGhosts_13 : decode cX2_moveGhosts 13 = .ok (.iconst 0, 1) := by decide +kernel
theorem dX2_moveGhosts_14 : decode cX2_moveGhosts 14 = .ok (.istore_n 3, 1) := by decide +kernel
theorem dX2_moveGhosts_15 : decode cX2_moveGhosts 15 = .ok (.iload_n 2, 1) := by decide +kernel
theorem dX2_moveGhosts_16 : decode cX2_moveGhosts 16 = .ok (.iconst 4, 1) := by decide +kernel
theorem dX2_moveGhosts_17 : decode cX2_moveGhosts 17 = .ok (.if_icmp .ne 39, 3) := by decide +kernel
theorem dX2_moveGhosts_20 : decode cX2_moveGhosts 20 = .ok (.iload_n 3, 1) := by decide +kernel
theorem dX2_moveGhosts_21 : decode cX2_moveGhosts 21 = .ok (.ifCond .ne 70, 3) := by decide +kernel
theorem dX2_moveGhosts_24 : decode cX2_moveGhosts 24 = .ok (.aload_n 0, 1) := by decide +kernel
theorem dX2_moveGhosts_25 : decode cX2_moveGhosts 25 = .ok (.iload_n 1, 1) := by decide +kernel
theorem dX2_moveGhosts_26 : decode cX2_moveGhosts 26 = .ok (.invokevirtual 50, 3) := by decide +kernel
theorem dX2_moveGhosts_29 : decode cX2_moveGhosts 29 = .ok (.iconst 3, 1) := by decide +kernel
theorem dX2_moveGhosts_30 : decode cX2_moveGhosts 30 = .ok (.if_icmp .ne 61, 3) := by decide +kernel
theorem dX2_moveGhosts_33 : decode cX2_moveGhosts 33 = .ok (.aload_n 0, 1) := by decide +kernel
theorem dX2_moveGhosts_34 : decode cX2_moveGhosts 34 = .ok (.getfield 18, 3) := by decide +kernel
theorem dX2_moveGhosts_37 : decode cX2_moveGhosts 37 = .ok (.iload_n 1, 1) := by decide +kernel
theorem dX2_moveGhosts_38 : decode cX2_moveGhosts 38 = .ok (.iaload, 1) := by decide +kernel
theorem dX2_moveGhosts_39 : decode cX2_moveGhosts 39 = .ok (.iconst 5, 1) := by decide +kernel
theorem dX2_moveGhosts_40 : decode cX2_moveGhosts 40 = .ok (.if_icmp .ge 51, 3) := by decide +kernel
theorem dX2_moveGhosts_43 : decode cX2_moveGhosts 43 = .ok (.aload_n 0, 1) := by decide +kernel
theorem dX2_moveGhosts_44 : decode cX2_moveGhosts 44 = .ok (.getfield 18, 3) := by decide +kernel
theorem dX2_moveGhosts_47 : decode cX2_moveGhosts 47 = .ok (.iload_n 1, 1) := by decide +kernel
theorem dX2_moveGhosts_48 : decode cX2_moveGhosts 48 = .ok (.dup2, 1) := by decide +kernel
theorem dX2_moveGhosts_49 : decode cX2_moveGhosts 49 = .ok (.iaload, 1) := by decide +kernel
theorem dX2_moveGhosts_50 : decode cX2_moveGhosts 50 = .ok (.iconst 1, 1) := by decide +kernel
theorem dX2_moveGhosts_51 : decode cX2_moveGhosts 51 = .ok (.iadd, 1) := by decide +kernel
theorem dX2_moveGhosts_52 : decode cX2_moveGhosts 52 = .ok (.iastore, 1) := by decide +kernel
theorem dX2_moveGhosts_53 : decode cX2_moveGhosts 53 = .ok (.goto 38, 3) := by decide +kernel
theorem dX2_moveGhosts_56 : decode cX2_moveGhosts 56 = .ok (.iload_n 2, 1) := by decide +kernel
theorem dX2_moveGhosts_57 : decode cX2_moveGhosts 57 = .ok (.ifCond .ne 34, 3) := by decide +kernel
theorem dX2_moveGhosts_60 : decode cX2_moveGhosts 60 = .ok (.aload_n 0, 1) := by decide +kernel
theorem dX2_moveGhosts_61 : decode cX2_moveGhosts 61 = .ok (.getfield 18, 3) := by decide +kernel
theorem dX2_moveGhosts_64 : decode cX2_moveGhosts 64 = .ok (.iload_n 1, 1) := by decide +kernel
theorem dX2_moveGhosts_65 : decode cX2_moveGhosts 65 = .ok (.iaload, 1) := by decide +kernel
theorem dX2_moveGhosts_66 : decode cX2_moveGhosts 66 = .ok (.ifCond .le 25, 3) := by decide +kernel
theorem dX2_moveGhosts_69 : decode cX2_moveGhosts 69 = .ok (.iload_n 3, 1) := by decide +kernel
theorem dX2_moveGhosts_70 : decode cX2_moveGhosts 70 = .ok (.ifCond .ne 11, 3) := by decide +kernel
theorem dX2_moveGhosts_73 : decode cX2_moveGhosts 73 = .ok (.aload_n 0, 1) := by decide +kernel
theorem dX2_moveGhosts_74 : decode cX2_moveGhosts 74 = .ok (.iload_n 1, 1) := by decide +kernel
theorem dX2_moveGhosts_75 : decode cX2_moveGhosts 75 = .ok (.invokevirtual 50, 3) := by decide +kernel
theorem dX2_moveGhosts_78 : decode cX2_moveGhosts 78 = .ok (.ifCond .ne 13, 3) := by decide +kernel
theorem dX2_moveGhosts_81 : decode cX2_moveGhosts 81 = .ok (.aload_n 0, 1) := by decide +kernel
theorem dX2_moveGhosts_82 : decode cX2_moveGhosts 82 = .ok (.getfield 18, 3) := by decide +kernel
theorem dX2_moveGhosts_85 : decode cX2_moveGhosts 85 = .ok (.iload_n 1, 1) := by decide +kernel
theorem dX2_moveGhosts_86 : decode cX2_moveGhosts 86 = .ok (.dup2, 1) := by decide +kernel
theorem dX2_moveGhosts_87 : decode cX2_moveGhosts 87 = .ok (.iaload, 1) := by decide +kernel
theorem dX2_moveGhosts_88 : decode cX2_moveGhosts 88 = .ok (.iconst 1, 1) := by decide +kernel
theorem dX2_moveGhosts_89 : decode cX2_moveGhosts 89 = .ok (.isub, 1) := by decide +kernel
theorem dX2_moveGhosts_90 : decode cX2_moveGhosts 90 = .ok (.iastore, 1) := by decide +kernel
theorem dX2_moveGhosts_91 : decode cX2_moveGhosts 91 = .ok (.return_, 1) := by decide +kernel
theorem dX3_init_0 : decode cX3_init 0 = .ok (.aload_n 0, 1) := by decide +kernel
theorem dX3_init_1 : decode cX3_init 1 = .ok (.invokespecial 3, 3) := by decide +kernel
theorem dX3_init_4 : decode cX3_init 4 = .ok (.aload_n 0, 1) := by decide +kernel
theorem dX3_init_5 : decode cX3_init 5 = .ok (.bipush 30, 2) := by decide +kernel
theorem dX3_init_7 : decode cX3_init 7 = .ok (.newarray .int, 2) := by decide +kernel
theorem dX3_init_9 : decode cX3_init 9 = .ok (.putfield 9, 3) := by decide +kernel
theorem dX3_init_12 : decode cX3_init 12 = .ok (.aload_n 0, 1) := by decide +kernel
theorem dX3_init_13 : decode cX3_init 13 = .ok (.bipush 30, 2) := by decide +kernel
theorem dX3_init_15 : decode cX3_init 15 = .ok (.newarray .int, 2) := by decide +kernel
theorem dX3_init_17 : decode cX3_init 17 = .ok (.putfield 15, 3) := by decide +kernel
theorem dX3_init_20 : decode cX3_init 20 = .ok (.aload_n 0, 1) := by decide +kernel
theorem dX3_init_21 : decode cX3_init 21 = .ok (.bipush 30, 2) := by decide +kernel
theorem dX3_init_23 : decode cX3_init 23 = .ok (.newarray .int, 2) := by decide +kernel
theorem dX3_init_25 : decode cX3_init 25 = .ok (.putfield 18, 3) := by decide +kernel
theorem dX3_init_28 : decode cX3_init 28 = .ok (.aload_n 0, 1) := by decide +kernel
theorem dX3_init_29 : decode cX3_init 29 = .ok (.bipush 30, 2) := by decide +kernel
theorem dX3_init_31 : decode cX3_init 31 = .ok (.newarray .int, 2) := by decide +kernel
theorem dX3_init_33 : decode cX3_init 33 = .ok (.putfield 21, 3) := by decide +kernel
theorem dX3_init_36 : decode cX3_init 36 = .ok (.aload_n 0, 1) := by decide +kernel
theorem dX3_init_37 : decode cX3_init 37 = .ok (.iconst 0, 1) := by decide +kernel
theorem dX3_init_38 : decode cX3_init 38 = .ok (.putfield 24, 3) := by decide +kernel
theorem dX3_init_41 : decode cX3_init 41 = .ok (.return_, 1) := by decide +kernel
theorem dX3_has_0 : decode cX3_has 0 = .ok (.iload_n 1, 1) := by decide +kernel
theorem dX3_has_1 : decode cX3_has 1 = .ok (.ifCond .lt 15, 3) := by decide +kernel
theorem dX3_has_4 : decode cX3_has 4 = .ok (.iload_n 1, 1) := by decide +kernel
theorem dX3_has_5 : decode cX3_has 5 = .ok (.aload_n 0, 1) := by decide +kernel
theorem dX3_has_6 : decode cX3_has 6 = .ok (.getfield 24, 3) := by decide +kernel
theorem dX3_has_9 : decode cX3_has 9 = .ok (.if_icmp .ge 7, 3) := by decide +kernel
theorem dX3_has_12 : decode cX3_has 12 = .ok (.iconst 1, 1) := by decide +kernel
theorem dX3_has_13 : decode cX3_has 13 = .ok (.goto 4, 3) := by decide +kernel
theorem dX3_has_16 : decode cX3_has 16 = .ok (.iconst 0, 1) := by decide +kernel
theorem dX3_has_17 : decode cX3_has 17 = .ok (.ireturn, 1) := by decide +kernel
theorem dX3_issue_0 : decode cX3_issue 0 = .ok (.aload_n 0, 1) := by decide +kernel
theorem dX3_issue_1 : decode cX3_issue 1 = .ok (.getfield 24, 3) := by decide +kernel
theorem dX3_issue_4 : decode cX3_issue 4 = .ok (.istore 4, 2) := by decide +kernel
theorem dX3_issue_6 : decode cX3_issue 6 = .ok (.iload 4, 2) := by decide +kernel
theorem dX3_issue_8 : decode cX3_issue 8 = .ok (.bipush 30, 2) := by decide +kernel
theorem dX3_issue_10 : decode cX3_issue 10 = .ok (.if_icmp .lt 5, 3) := by decide +kernel
theorem dX3_issue_13 : decode cX3_issue 13 = .ok (.iconst (-1), 1) := by decide +kernel
theorem dX3_issue_14 : decode cX3_issue 14 = .ok (.ireturn, 1) := by decide +kernel
theorem dX3_issue_15 : decode cX3_issue 15 = .ok (.aload_n 0, 1) := by decide +kernel
theorem dX3_issue_16 : decode cX3_issue 16 = .ok (.getfield 9, 3) := by decide +kernel
theorem dX3_issue_19 : decode cX3_issue 19 = .ok (.iload 4, 2) := by decide +kernel
theorem dX3_issue_21 : decode cX3_issue 21 = .ok (.iload_n 1, 1) := by decide +kernel
theorem dX3_issue_22 : decode cX3_issue 22 = .ok (.iastore, 1) := by decide +kernel
theorem dX3_issue_23 : decode cX3_issue 23 = .ok (.aload_n 0, 1) := by decide +kernel
theorem dX3_issue_24 : decode cX3_issue 24 = .ok (.getfield 15, 3) := by decide +kernel
theorem dX3_issue_27 : decode cX3_issue 27 = .ok (.iload 4, 2) := by decide +kernel
theorem dX3_issue_29 : decode cX3_issue 29 = .ok (.iload_n 2, 1) := by decide +kernel
theorem dX3_issue_30 : decode cX3_issue 30 = .ok (.iastore, 1) := by decide +kernel
theorem dX3_issue_31 : decode cX3_issue 31 = .ok (.aload_n 0, 1) := by decide +kernel
theorem dX3_issue_32 : decode cX3_issue 32 = .ok (.getfield 18, 3) := by decide +kernel
theorem dX3_issue_35 : decode cX3_issue 35 = .ok (.iload 4, 2) := by decide +kernel
theorem dX3_issue_37 : decode cX3_issue 37 = .ok (.iload_n 3, 1) := by decide +kernel
theorem dX3_issue_38 : decode cX3_issue 38 = .ok (.iastore, 1) := by decide +kernel
theorem dX3_issue_39 : decode cX3_issue 39 = .ok (.aload_n 0, 1) := by decide +kernel
theorem dX3_issue_40 : decode cX3_issue 40 = .ok (.getfield 21, 3) := by decide +kernel
theorem dX3_issue_43 : decode cX3_issue 43 = .ok (.iload 4, 2) := by decide +kernel
theorem dX3_issue_45 : decode cX3_issue 45 = .ok (.iconst 0, 1) := by decide +kernel
theorem dX3_issue_46 : decode cX3_issue 46 = .ok (.iastore, 1) := by decide +kernel
theorem dX3_issue_47 : decode cX3_issue 47 = .ok (.aload_n 0, 1) := by decide +kernel
theorem dX3_issue_48 : decode cX3_issue 48 = .ok (.dup, 1) := by decide +kernel
theorem dX3_issue_49 : decode cX3_issue 49 = .ok (.getfield 24, 3) := by decide +kernel
theorem dX3_issue_52 : decode cX3_issue 52 = .ok (.iconst 1, 1) := by decide +kernel
theorem dX3_issue_53 : decode cX3_issue 53 = .ok (.iadd, 1) := by decide +kernel
theorem dX3_issue_54 : decode cX3_issue 54 = .ok (.putfield 24, 3) := by decide +kernel
theorem dX3_issue_57 : decode cX3_issue 57 = .ok (.iload 4, 2) := by decide +kernel
theorem dX3_issue_59 : decode cX3_issue 59 = .ok (.ireturn, 1) := by decide +kernel
set_option maxRecDepth 20000 in
theorem ggX3_settle_X2_stands : GoodIn wsX3_settle wsX2_stands := goodIn_r _ [10, 11, 12, 13, 14, 9, 15, 16, 22, 23, 24, 25, 26, 27, 28] (by decide +kernel) (by decide +kernel)
set_option maxRecDepth 20000 in
theorem gX3_settle_X2_stands : GoodIn wsX3_settle (wsV RX3 34 RX2 yX2_stands wsX2_stands) := goodIn_app (goodIn_of _ (by decide +kernel)) ggX3_settle_X2_stands
theorem dX3_settle_0 : decode cX3_settle 0 = .ok (.iconst 0, 1) := by decide +kernel
theorem dX3_settle_1 : decode cX3_settle 1 = .ok (.istore_n 3, 1) := by decide +kernel
theorem dX3_settle_2 : decode cX3_settle 2 = .ok (.iconst 0, 1) := by decide +kernel
theorem dX3_settle_3 : decode cX3_settle 3 = .ok (.istore 4, 2) := by decide +kernel
theorem dX3_settle_5 : decode cX3_settle 5 = .ok (.iload 4, 2) := by decide +kernel
theorem dX3_settle_7 : decode cX3_settle 7 = .ok (.aload_n 0, 1) := by decide +kernel
theorem dX3_settle_8 : decode cX3_settle 8 = .ok (.getfield 24, 3) := by decide +kernel
theorem dX3_settle_11 : decode cX3_settle 11 = .ok (.if_icmp .ge 76, 3) := by decide +kernel
theorem dX3_settle_14 : decode cX3_settle 14 = .ok (.aload_n 0, 1) := by decide +kernel
theorem dX3_settle_15 : decode cX3_settle 15 = .ok (.getfield 21, 3) := by decide +kernel
theorem dX3_settle_18 : decode cX3_settle 18 = .ok (.iload 4, 2) := by decide +kernel
theorem dX3_settle_20 : decode cX3_settle 20 = .ok (.iaload, 1) := by decide +kernel
theorem dX3_settle_21 : decode cX3_settle 21 = .ok (.ifCond .ne 60, 3) := by decide +kernel
theorem dX3_settle_24 : decode cX3_settle 24 = .ok (.aload_n 0, 1) := by decide +kernel
theorem dX3_settle_25 : decode cX3_settle 25 = .ok (.getfield 15, 3) := by decide +kernel
theorem dX3_settle_28 : decode cX3_settle 28 = .ok (.iload 4, 2) := by decide +kernel
theorem dX3_settle_30 : decode cX3_settle 30 = .ok (.iaload, 1) := by decide +kernel
theorem dX3_settle_31 : decode cX3_settle 31 = .ok (.iload_n 1, 1) := by decide +kernel
theorem dX3_settle_32 : decode cX3_settle 32 = .ok (.if_icmp .eq 6, 3) := by decide +kernel
theorem dX3_settle_35 : decode cX3_settle 35 = .ok (.goto 46, 3) := by decide +kernel
theorem dX3_settle_38 : decode cX3_settle 38 = .ok (.aload_n 2, 1) := by decide +kernel
theorem dX3_settle_39 : decode cX3_settle 39 = .ok (.aload_n 0, 1) := by decide +kernel
theorem dX3_settle_40 : decode cX3_settle 40 = .ok (.getfield 9, 3) := by decide +kernel
theorem dX3_settle_43 : decode cX3_settle 43 = .ok (.iload 4, 2) := by decide +kernel
theorem dX3_settle_45 : decode cX3_settle 45 = .ok (.iaload, 1) := by decide +kernel
theorem dX3_settle_46 : decode cX3_settle 46 = .ok (.invokevirtual 34, 3) := by decide +kernel
theorem dX3_settle_49 : decode cX3_settle 49 = .ok (.ifCond .eq 14, 3) := by decide +kernel
theorem dX3_settle_52 : decode cX3_settle 52 = .ok (.aload_n 0, 1) := by decide +kernel
theorem dX3_settle_53 : decode cX3_settle 53 = .ok (.getfield 21, 3) := by decide +kernel
theorem dX3_settle_56 : decode cX3_settle 56 = .ok (.iload 4, 2) := by decide +kernel
theorem dX3_settle_58 : decode cX3_settle 58 = .ok (.iconst 1, 1) := by decide +kernel
theorem dX3_settle_59 : decode cX3_settle 59 = .ok (.iastore, 1) := by decide +kernel
theorem dX3_settle_60 : decode cX3_settle 60 = .ok (.goto 21, 3) := by decide +kernel
theorem dX3_settle_63 : decode cX3_settle 63 = .ok (.aload_n 0, 1) := by decide +kernel
theorem dX3_settle_64 : decode cX3_settle 64 = .ok (.getfield 21, 3) := by decide +kernel
theorem dX3_settle_67 : decode cX3_settle 67 = .ok (.iload 4, 2) := by decide +kernel
theorem dX3_settle_69 : decode cX3_settle 69 = .ok (.iconst 2, 1) := by decide +kernel
theorem dX3_settle_70 : decode cX3_settle 70 = .ok (.iastore, 1) := by decide +kernel
theorem dX3_settle_71 : decode cX3_settle 71 = .ok (.iload_n 3, 1) := by decide +kernel
theorem dX3_settle_72 : decode cX3_settle 72 = .ok (.aload_n 0, 1) := by decide +kernel
theorem dX3_settle_73 : decode cX3_settle 73 = .ok (.getfield 18, 3) := by decide +kernel
theorem dX3_settle_76 : decode cX3_settle 76 = .ok (.iload 4, 2) := by decide +kernel
theorem dX3_settle_78 : decode cX3_settle 78 = .ok (.iaload, 1) := by decide +kernel
theorem dX3_settle_79 : decode cX3_settle 79 = .ok (.iadd, 1) := by decide +kernel
theorem dX3_settle_80 : decode cX3_settle 80 = .ok (.istore_n 3, 1) := by decide +kernel
theorem dX3_settle_81 : decode cX3_settle 81 = .ok (.iinc 4 1, 3) := by decide +kernel
theorem dX3_settle_84 : decode cX3_settle 84 = .ok (.goto (-79), 3) := by decide +kernel
theorem dX3_settle_87 : decode cX3_settle 87 = .ok (.iload_n 3, 1) := by decide +kernel
theorem dX3_settle_88 : decode cX3_settle 88 = .ok (.ireturn, 1) := by decide +kernel
set_option maxRecDepth 20000 in
theorem ggX4_init_X1_init : GoodIn wsX4_init wsX1_init := goodIn_r _ [10, 11, 2, 3, 12, 13, 14, 15, 16, 17, 18, 19, 20, 21, 22, 23, 24, 25, 26, 27, 28, 29, 30, 31, 32, 33, 34, 35, 36, 37, 38, 39, 40, 41, 49, 50, 51, 52, 53, 54, 55, 42, 43, 44, 45, 46, 56, 57, 58, 59, 60] (by decide +kernel) (by decide +kernel)
set_option maxRecDepth 20000 in
theorem gX4_init_X1_init_n9 : GoodIn wsX4_init (wsX1_init) := ggX4_init_X1_init
theorem dX4_init_0 : decode cX4_init 0 = .ok (.aload_n 0, 1) := by decide +kernel
theorem dX4_init_1 : decode cX4_init 1 = .ok (.invokespecial 1, 3) := by decide +kernel
theorem dX4_init_4 : decode cX4_init 4 = .ok (.aload_n 0, 1) := by decide +kernel
theorem dX4_init_5 : decode cX4_init 5 = .ok (.new 7, 3) := by decide +kernel
theorem dX4_init_8 : decode cX4_init 8 = .ok (.dup, 1) := by decide +kernel
theorem dX4_init_9 : decode cX4_init 9 = .ok (.invokespecial 9, 3) := by decide +kernel
theorem dX4_init_12 : decode cX4_init 12 = .ok (.putfield 10, 3) := by decide +kernel
theorem dX4_init_15 : decode cX4_init 15 = .ok (.aload_n 0, 1) := by decide +kernel
theorem dX4_init_16 : decode cX4_init 16 = .ok (.new 7, 3) := by decide +kernel
theorem dX4_init_19 : decode cX4_init 19 = .ok (.dup, 1) := by decide +kernel
theorem dX4_init_20 : decode cX4_init 20 = .ok (.invokespecial 9, 3) := by decide +kernel
theorem dX4_init_23 : decode cX4_init 23 = .ok (.putfield 16, 3) := by decide +kernel
theorem dX4_init_26 : decode cX4_init 26 = .ok (.return_, 1) := by decide +kernel
set_option maxRecDepth 20000 in
theorem ggX4_addRuin_X4_isWithin : GoodIn wsX4_addRuin wsX4_isWithin := goodIn_r _ [11] (by decide +kernel) (by decide +kernel)
set_option maxRecDepth 20000 in
theorem gX4_addRuin_X4_isWithin : GoodIn wsX4_addRuin (va_wsS RX4 19 yX4_isWithin wsX4_isWithin) := goodIn_app (goodIn_of _ (by decide +kernel)) ggX4_addRuin_X4_isWithin
set_option maxRecDepth 20000 in
theorem ggX4_addRuin_X2_build : GoodIn wsX4_addRuin wsX2_build := goodIn_r _ [16, 17, 18, 19, 20, 21, 29, 30, 31, 32, 33, 34, 35] (by decide +kernel) (by decide +kernel)
set_option maxRecDepth 20000 in
theorem gX4_addRuin_X2_build : GoodIn wsX4_addRuin (wsV RX4 45 RX2 yX2_build wsX2_build) := goodIn_app (goodIn_of _ (by decide +kernel)) ggX4_addRuin_X2_build
theorem dX4_addRuin_0 : decode cX4_addRuin 0 = .ok (.iload_n 1, 1) := by decide +kernel
theorem dX4_addRuin_1 : decode cX4_addRuin 1 = .ok (.iconst 1, 1) := by decide +kernel
theorem dX4_addRuin_2 : decode cX4_addRuin 2 = .ok (.bipush 20, 2) := by decide +kernel
theorem dX4_addRuin_4 : decode cX4_addRuin 4 = .ok (.invokestatic 19, 3) := by decide +kernel
theorem dX4_addRuin_7 : decode cX4_addRuin 7 = .ok (.ifCond .eq 33, 3) := by decide +kernel
theorem dX4_addRuin_10 : decode cX4_addRuin 10 = .ok (.iload_n 2, 1) := by decide +kernel
theorem dX4_addRuin_11 : decode cX4_addRuin 11 = .ok (.iconst 0, 1) := by decide +kernel
theorem dX4_addRuin_12 : decode cX4_addRuin 12 = .ok (.bipush 12, 2) := by decide +kernel
theorem dX4_addRuin_14 : decode cX4_addRuin 14 = .ok (.invokestatic 19, 3) := by decide +kernel
theorem dX4_addRuin_17 : decode cX4_addRuin 17 = .ok (.ifCond .eq 23, 3) := by decide +kernel
theorem dX4_addRuin_20 : decode cX4_addRuin 20 = .ok (.iload_n 3, 1) := by decide +kernel
theorem dX4_addRuin_21 : decode cX4_addRuin 21 = .ok (.iconst 0, 1) := by decide +kernel
theorem dX4_addRuin_22 : decode cX4_addRuin 22 = .ok (.iconst 5, 1) := by decide +kernel
theorem dX4_addRuin_23 : decode cX4_addRuin 23 = .ok (.invokestatic 19, 3) := by decide +kernel
theorem dX4_addRuin_26 : decode cX4_addRuin 26 = .ok (.ifCond .eq 14, 3) := by decide +kernel
theorem dX4_addRuin_29 : decode cX4_addRuin 29 = .ok (.iload 4, 2) := by decide +kernel
theorem dX4_addRuin_31 : decode cX4_addRuin 31 = .ok (.iconst 0, 1) := by decide +kernel
theorem dX4_addRuin_32 : decode cX4_addRuin 32 = .ok (.bipush 9, 2) := by decide +kernel
theorem dX4_addRuin_34 : decode cX4_addRuin 34 = .ok (.invokestatic 19, 3) := by decide +kernel
theorem dX4_addRuin_37 : decode cX4_addRuin 37 = .ok (.ifCond .ne 13, 3) := by decide +kernel
theorem dX4_addRuin_40 : decode cX4_addRuin 40 = .ok (.new 23, 3) := by decide +kernel
theorem dX4_addRuin_43 : decode cX4_addRuin 43 = .ok (.dup, 1) := by decide +kernel
theorem dX4_addRuin_44 : decode cX4_addRuin 44 = .ok (.ldc 25, 2) := by decide +kernel
theorem dX4_addRuin_46 : decode cX4_addRuin 46 = .ok (.invokespecial 27, 3) := by decide +kernel
theorem dX4_addRuin_49 : decode cX4_addRuin 49 = .ok (.athrow, 1) := by decide +kernel
theorem dX4_addRuin_50 : decode cX4_addRuin 50 = .ok (.aload_n 0, 1) := by decide +kernel
theorem dX4_addRuin_51 : decode cX4_addRuin 51 = .ok (.getfield 10, 3) := by decide +kernel
theorem dX4_addRuin_54 : decode cX4_addRuin 54 = .ok (.getfield 30, 3) := by decide +kernel
theorem dX4_addRuin_57 : decode cX4_addRuin 57 = .ok (.getfield 34, 3) := by decide +kernel
theorem dX4_addRuin_60 : decode cX4_addRuin 60 = .ok (.bipush 10, 2) := by decide +kernel
theorem dX4_addRuin_62 : decode cX4_addRuin 62 = .ok (.if_icmp .lt 13, 3) := by decide +kernel
theorem dX4_addRuin_65 : decode cX4_addRuin 65 = .ok (.new 40, 3) := by decide +kernel
theorem dX4_addRuin_68 : decode cX4_addRuin 68 = .ok (.dup, 1) := by decide +kernel
theorem dX4_addRuin_69 : decode cX4_addRuin 69 = .ok (.ldc 42, 2) := by decide +kernel
theorem dX4_addRuin_71 : decode cX4_addRuin 71 = .ok (.invokespecial 44, 3) := by decide +kernel
theorem dX4_addRuin_74 : decode cX4_addRuin 74 = .ok (.athrow, 1) := by decide +kernel
theorem dX4_addRuin_75 : decode cX4_addRuin 75 = .ok (.aload_n 0, 1) := by decide +kernel
theorem dX4_addRuin_76 : decode cX4_addRuin 76 = .ok (.getfield 10, 3) := by decide +kernel
theorem dX4_addRuin_79 : decode cX4_addRuin 79 = .ok (.getfield 30, 3) := by decide +kernel
theorem dX4_addRuin_82 : decode cX4_addRuin 82 = .ok (.iload_n 1, 1) := by decide +kernel
theorem dX4_addRuin_83 : decode cX4_addRuin 83 = .ok (.iload_n 2, 1) := by decide +kernel
theorem dX4_addRuin_84 : decode cX4_addRuin 84 = .ok (.iload_n 3, 1) := by decide +kernel
theorem dX4_addRuin_85 : decode cX4_addRuin 85 = .ok (.iload 4, 2) := by decide +kernel
theorem dX4_addRuin_87 : decode cX4_addRuin 87 = .ok (.invokevirtual 45, 3) := by decide +kernel
theorem dX4_addRuin_90 : decode cX4_addRuin 90 = .ok (.ireturn, 1) := by decide +kernel
set_option maxRecDepth 20000 in
theorem ggX4_cutIvy_X4_requireRuin : GoodIn wsX4_cutIvy wsX4_requireRuin := goodIn_ca (goodIn_r _ [10, 11, 12, 3, 4, 13, 14, 15, 16, 17, 18, 31, 32, 33, 34, 35, 36, 37, 38, 39, 40, 41, 42, 43, 44] (by decide +kernel) (by decide +kernel)) (goodIn_sub (fun _ h => List.mem_cons_of_mem _ (List.mem_append_right _ h)) (by decide +kernel))
set_option maxRecDepth 20000 in
theorem gX4_cutIvy_X4_requireRuin : GoodIn wsX4_cutIvy (wsV RX4 49 RX4 yX4_requireRuin wsX4_requireRuin) := goodIn_app (goodIn_of _ (by decide +kernel)) ggX4_cutIvy_X4_requireRuin
set_option maxRecDepth 20000 in
theorem ggX4_cutIvy_X4_isWithin : GoodIn wsX4_cutIvy wsX4_isWithin := goodIn_r _ [21] (by decide +kernel) (by decide +kernel)
set_option maxRecDepth 20000 in
theorem gX4_cutIvy_X4_isWithin : GoodIn wsX4_cutIvy (va_wsS RX4 19 yX4_isWithin wsX4_isWithin) := goodIn_app (goodIn_of _ (by decide +kernel)) ggX4_cutIvy_X4_isWithin
set_option maxRecDepth 20000 in
theorem ggX4_cutIvy_X2_cut : GoodIn wsX4_cutIvy wsX2_cut := goodIn_r _ [25, 26, 27, 28, 29, 30, 38, 39, 40, 41, 42, 43, 44] (by decide +kernel) (by decide +kernel)
set_option maxRecDepth 20000 in
theorem gX4_cutIvy_X2_cut : GoodIn wsX4_cutIvy (wsV RX4 55 RX2 yX2_cut wsX2_cut) := goodIn_app (goodIn_of _ (by decide +kernel)) ggX4_cutIvy_X2_cut
theorem dX4_cutIvy_0 : decode cX4_cutIvy 0 = .ok (.aload_n 0, 1) := by decide +kernel
theorem dX4_cutIvy_1 : decode cX4_cutIvy 1 = .ok (.iload_n 1, 1) := by decide +kernel
theorem dX4_cutIvy_2 : decode cX4_cutIvy 2 = .ok (.invokevirtual 49, 3) := by decide +kernel
theorem dX4_cutIvy_5 : decode cX4_cutIvy 5 = .ok (.iload_n 2, 1) := by decide +kernel
theorem dX4_cutIvy_6 : decode cX4_cutIvy 6 = .ok (.iconst 1, 1) := by decide +kernel
theorem dX4_cutIvy_7 : decode cX4_cutIvy 7 = .ok (.bipush 12, 2) := by decide +kernel
theorem dX4_cutIvy_9 : decode cX4_cutIvy 9 = .ok (.invokestatic 19, 3) := by decide +kernel
theorem dX4_cutIvy_12 : decode cX4_cutIvy 12 = .ok (.ifCond .ne 13, 3) := by decide +kernel
theorem dX4_cutIvy_15 : decode cX4_cutIvy 15 = .ok (.new 23, 3) := by decide +kernel
theorem dX4_cutIvy_18 : decode cX4_cutIvy 18 = .ok (.dup, 1) := by decide +kernel
theorem dX4_cutIvy_19 : decode cX4_cutIvy 19 = .ok (.ldc 53, 2) := by decide +kernel
theorem dX4_cutIvy_21 : decode cX4_cutIvy 21 = .ok (.invokespecial 27, 3) := by decide +kernel
theorem dX4_cutIvy_24 : decode cX4_cutIvy 24 = .ok (.athrow, 1) := by decide +kernel
theorem dX4_cutIvy_25 : decode cX4_cutIvy 25 = .ok (.aload_n 0, 1) := by decide +kernel
theorem dX4_cutIvy_26 : decode cX4_cutIvy 26 = .ok (.getfield 10, 3) := by decide +kernel
theorem dX4_cutIvy_29 : decode cX4_cutIvy 29 = .ok (.getfield 30, 3) := by decide +kernel
theorem dX4_cutIvy_32 : decode cX4_cutIvy 32 = .ok (.iload_n 1, 1) := by decide +kernel
theorem dX4_cutIvy_33 : decode cX4_cutIvy 33 = .ok (.iload_n 2, 1) := by decide +kernel
theorem dX4_cutIvy_34 : decode cX4_cutIvy 34 = .ok (.invokevirtual 55, 3) := by decide +kernel
theorem dX4_cutIvy_37 : decode cX4_cutIvy 37 = .ok (.aload_n 0, 1) := by decide +kernel
theorem dX4_cutIvy_38 : decode cX4_cutIvy 38 = .ok (.getfield 10, 3) := by decide +kernel
theorem dX4_cutIvy_41 : decode cX4_cutIvy 41 = .ok (.getfield 30, 3) := by decide +kernel
theorem dX4_cutIvy_44 : decode cX4_cutIvy 44 = .ok (.getfield 59, 3) := by decide +kernel
theorem dX4_cutIvy_47 : decode cX4_cutIvy 47 = .ok (.iload_n 1, 1) := by decide +kernel
theorem dX4_cutIvy_48 : decode cX4_cutIvy 48 = .ok (.iaload, 1) := by decide +kernel
theorem dX4_cutIvy_49 : decode cX4_cutIvy 49 = .ok (.ireturn, 1) := by decide +kernel
set_option maxRecDepth 20000 in
theorem ggX4_prop_X4_requireRuin : GoodIn wsX4_prop wsX4_requireRuin := goodIn_ca (goodIn_r _ [11, 12, 13, 3, 4, 14, 15, 16, 17, 18, 19, 26, 27, 28, 29, 30, 31, 32, 33, 34, 35, 36, 37, 38, 39] (by decide +kernel) (by decide +kernel)) (goodIn_sub (fun _ h => List.mem_cons_of_mem _ (List.mem_append_right _ h)) (by decide +kernel))
set_option maxRecDepth 20000 in
theorem gX4_prop_X4_requireRuin : GoodIn wsX4_prop (wsV RX4 49 RX4 yX4_requireRuin wsX4_requireRuin) := goodIn_app (goodIn_of _ (by decide +kernel)) ggX4_prop_X4_requireRuin
set_option maxRecDepth 20000 in
theorem ggX4_prop_X2_stands : GoodIn wsX4_prop wsX2_stands := goodIn_r _ [23, 24, 25, 15, 16, 17, 18, 19, 33, 34, 35, 36, 37, 38, 39] (by decide +kernel) (by decide +kernel)
set_option maxRecDepth 20000 in
theorem gX4_prop_X2_stands : GoodIn wsX4_prop (wsV RX4 63 RX2 yX2_stands wsX2_stands) := goodIn_app (goodIn_of _ (by decide +kernel)) ggX4_prop_X2_stands
theorem dX4_prop_0 : decode cX4_prop 0 = .ok (.aload_n 0, 1) := by decide +kernel
theorem dX4_prop_1 : decode cX4_prop 1 = .ok (.iload_n 1, 1) := by decide +kernel
theorem dX4_prop_2 : decode cX4_prop 2 = .ok (.invokevirtual 49, 3) := by decide +kernel
theorem dX4_prop_5 : decode cX4_prop 5 = .ok (.aload_n 0, 1) := by decide +kernel
theorem dX4_prop_6 : decode cX4_prop 6 = .ok (.getfield 10, 3) := by decide +kernel
theorem dX4_prop_9 : decode cX4_prop 9 = .ok (.getfield 30, 3) := by decide +kernel
theorem dX4_prop_12 : decode cX4_prop 12 = .ok (.iload_n 1, 1) := by decide +kernel
theorem dX4_prop_13 : decode cX4_prop 13 = .ok (.invokevirtual 63, 3) := by decide +kernel
theorem dX4_prop_16 : decode cX4_prop 16 = .ok (.ifCond .eq 31, 3) := by decide +kernel
theorem dX4_prop_19 : decode cX4_prop 19 = .ok (.aload_n 0, 1) := by decide +kernel
theorem dX4_prop_20 : decode cX4_prop 20 = .ok (.getfield 10, 3) := by decide +kernel
theorem dX4_prop_23 : decode cX4_prop 23 = .ok (.getfield 30, 3) := by decide +kernel
theorem dX4_prop_26 : decode cX4_prop 26 = .ok (.getfield 67, 3) := by decide +kernel
theorem dX4_prop_29 : decode cX4_prop 29 = .ok (.iload_n 1, 1) := by decide +kernel
theorem dX4_prop_30 : decode cX4_prop 30 = .ok (.iaload, 1) := by decide +kernel
theorem dX4_prop_31 : decode cX4_prop 31 = .ok (.bipush 20, 2) := by decide +kernel
theorem dX4_prop_33 : decode cX4_prop 33 = .ok (.if_icmp .ge 14, 3) := by decide +kernel
theorem dX4_prop_36 : decode cX4_prop 36 = .ok (.aload_n 0, 1) := by decide +kernel
theorem dX4_prop_37 : decode cX4_prop 37 = .ok (.getfield 10, 3) := by decide +kernel
theorem dX4_prop_40 : decode cX4_prop 40 = .ok (.getfield 70, 3) := by decide +kernel
theorem dX4_prop_43 : decode cX4_prop 43 = .ok (.iconst 5, 1) := by decide +kernel
theorem dX4_prop_44 : decode cX4_prop 44 = .ok (.if_icmp .ge 13, 3) := by decide +kernel
theorem dX4_prop_47 : decode cX4_prop 47 = .ok (.new 40, 3) := by decide +kernel
theorem dX4_prop_50 : decode cX4_prop 50 = .ok (.dup, 1) := by decide +kernel
theorem dX4_prop_51 : decode cX4_prop 51 = .ok (.ldc 73, 2) := by decide +kernel
theorem dX4_prop_53 : decode cX4_prop 53 = .ok (.invokespecial 44, 3) := by decide +kernel
theorem dX4_prop_56 : decode cX4_prop 56 = .ok (.athrow, 1) := by decide +kernel
theorem dX4_prop_57 : decode cX4_prop 57 = .ok (.aload_n 0, 1) := by decide +kernel
theorem dX4_prop_58 : decode cX4_prop 58 = .ok (.getfield 10, 3) := by decide +kernel
theorem dX4_prop_61 : decode cX4_prop 61 = .ok (.dup, 1) := by decide +kernel
theorem dX4_prop_62 : decode cX4_prop 62 = .ok (.getfield 70, 3) := by decide +kernel
theorem dX4_prop_65 : decode cX4_prop 65 = .ok (.iconst 5, 1) := by decide +kernel
theorem dX4_prop_66 : decode cX4_prop 66 = .ok (.isub, 1) := by decide +kernel
theorem dX4_prop_67 : decode cX4_prop 67 = .ok (.putfield 70, 3) := by decide +kernel
theorem dX4_prop_70 : decode cX4_prop 70 = .ok (.aload_n 0, 1) := by decide +kernel
theorem dX4_prop_71 : decode cX4_prop 71 = .ok (.getfield 10, 3) := by decide +kernel
theorem dX4_prop_74 : decode cX4_prop 74 = .ok (.getfield 30, 3) := by decide +kernel
theorem dX4_prop_77 : decode cX4_prop 77 = .ok (.getfield 67, 3) := by decide +kernel
theorem dX4_prop_80 : decode cX4_prop 80 = .ok (.iload_n 1, 1) := by decide +kernel
theorem dX4_prop_81 : decode cX4_prop 81 = .ok (.dup2, 1) := by decide +kernel
theorem dX4_prop_82 : decode cX4_prop 82 = .ok (.iaload, 1) := by decide +kernel
theorem dX4_prop_83 : decode cX4_prop 83 = .ok (.iconst 1, 1) := by decide +kernel
theorem dX4_prop_84 : decode cX4_prop 84 = .ok (.iadd, 1) := by decide +kernel
theorem dX4_prop_85 : decode cX4_prop 85 = .ok (.iastore, 1) := by decide +kernel
theorem dX4_prop_86 : decode cX4_prop 86 = .ok (.aload_n 0, 1) := by decide +kernel
theorem dX4_prop_87 : decode cX4_prop 87 = .ok (.getfield 10, 3) := by decide +kernel
theorem dX4_prop_90 : decode cX4_prop 90 = .ok (.getfield 30, 3) := by decide +kernel
theorem dX4_prop_93 : decode cX4_prop 93 = .ok (.getfield 67, 3) := by decide +kernel
theorem dX4_prop_96 : decode cX4_prop 96 = .ok (.iload_n 1, 1) := by decide +kernel
theorem dX4_prop_97 : decode cX4_prop 97 = .ok (.iaload, 1) := by decide +kernel
theorem dX4_prop_98 : decode cX4_prop 98 = .ok (.ireturn, 1) := by decide +kernel
set_option maxRecDepth 20000 in
theorem ggX4_setPrice_X4_requireRuin : GoodIn wsX4_setPrice wsX4_requireRuin := goodIn_ca (goodIn_r _ [10, 11, 12, 3, 4, 13, 14, 15, 16, 17, 18, 22, 23, 24, 25, 26, 27, 28, 29, 30, 31, 32, 33, 34, 35] (by decide +kernel) (by decide +kernel)) (goodIn_sub (fun _ h => List.mem_cons_of_mem _ (List.mem_append_right _ h)) (by decide +kernel))
set_option maxRecDepth 20000 in
theorem gX4_setPrice_X4_requireRuin : GoodIn wsX4_setPrice (wsV RX4 49 RX4 yX4_requireRuin wsX4_requireRuin) := goodIn_app (goodIn_of _ (by decide +kernel)) ggX4_setPrice_X4_requireRuin
set_option maxRecDepth 20000 in
theorem ggX4_setPrice_X4_isWithin : GoodIn wsX4_setPrice wsX4_isWithin := goodIn_r _ [21] (by decide +kernel) (by decide +kernel)
set_option maxRecDepth 20000 in
theorem gX4_setPrice_X4_isWithin : GoodIn wsX4_setPrice (va_wsS RX4 19 yX4_isWithin wsX4_isWithin) := goodIn_app (goodIn_of _ (by decide +kernel)) ggX4_setPrice_X4_isWithin
theorem dX4_setPrice_0 : decode cX4_setPrice 0 = .ok (.aload_n 0, 1) := by decide +kernel
theorem dX4_setPrice_1 : decode cX4_setPrice 1 = .ok (.iload_n 1, 1) := by decide +kernel
theorem dX4_setPrice_2 : decode cX4_setPrice 2 = .ok (.invokevirtual 49, 3) := by decide +kernel
theorem dX4_setPrice_5 : decode cX4_setPrice 5 = .ok (.iload_n 2, 1) := by decide +kernel
theorem dX4_setPrice_6 : decode cX4_setPrice 6 = .ok (.iconst 0, 1) := by decide +kernel
theorem dX4_setPrice_7 : decode cX4_setPrice 7 = .ok (.bipush 9, 2) := by decide +kernel
theorem dX4_setPrice_9 : decode cX4_setPrice 9 = .ok (.invokestatic 19, 3) := by decide +kernel
theorem dX4_setPrice_12 : decode cX4_setPrice 12 = .ok (.ifCond .ne 13, 3) := by decide +kernel
theorem dX4_setPrice_15 : decode cX4_setPrice 15 = .ok (.new 23, 3) := by decide +kernel
theorem dX4_setPrice_18 : decode cX4_setPrice 18 = .ok (.dup, 1) := by decide +kernel
theorem dX4_setPrice_19 : decode cX4_setPrice 19 = .ok (.ldc 75, 2) := by decide +kernel
theorem dX4_setPrice_21 : decode cX4_setPrice 21 = .ok (.invokespecial 27, 3) := by decide +kernel
theorem dX4_setPrice_24 : decode cX4_setPrice 24 = .ok (.athrow, 1) := by decide +kernel
theorem dX4_setPrice_25 : decode cX4_setPrice 25 = .ok (.aload_n 0, 1) := by decide +kernel
theorem dX4_setPrice_26 : decode cX4_setPrice 26 = .ok (.getfield 10, 3) := by decide +kernel
theorem dX4_setPrice_29 : decode cX4_setPrice 29 = .ok (.getfield 30, 3) := by decide +kernel
theorem dX4_setPrice_32 : decode cX4_setPrice 32 = .ok (.getfield 77, 3) := by decide +kernel
theorem dX4_setPrice_35 : decode cX4_setPrice 35 = .ok (.iload_n 1, 1) := by decide +kernel
theorem dX4_setPrice_36 : decode cX4_setPrice 36 = .ok (.iaload, 1) := by decide +kernel
theorem dX4_setPrice_37 : decode cX4_setPrice 37 = .ok (.istore_n 3, 1) := by decide +kernel
theorem dX4_setPrice_38 : decode cX4_setPrice 38 = .ok (.aload_n 0, 1) := by decide +kernel
theorem dX4_setPrice_39 : decode cX4_setPrice 39 = .ok (.getfield 10, 3) := by decide +kernel
theorem dX4_setPrice_42 : decode cX4_setPrice 42 = .ok (.getfield 30, 3) := by decide +kernel
theorem dX4_setPrice_45 : decode cX4_setPrice 45 = .ok (.getfield 77, 3) := by decide +kernel
theorem dX4_setPrice_48 : decode cX4_setPrice 48 = .ok (.iload_n 1, 1) := by decide +kernel
theorem dX4_setPrice_49 : decode cX4_setPrice 49 = .ok (.iload_n 2, 1) := by decide +kernel
theorem dX4_setPrice_50 : decode cX4_setPrice 50 = .ok (.iastore, 1) := by decide +kernel
theorem dX4_setPrice_51 : decode cX4_setPrice 51 = .ok (.iload_n 3, 1) := by decide +kernel
theorem dX4_setPrice_52 : decode cX4_setPrice 52 = .ok (.ireturn, 1) := by decide +kernel
set_option maxRecDepth 20000 in
theorem ggX4_setGuests_X4_isWithin : GoodIn wsX4_setGuests wsX4_isWithin := goodIn_r _ [8] (by decide +kernel) (by decide +kernel)
set_option maxRecDepth 20000 in
theorem gX4_setGuests_X4_isWithin : GoodIn wsX4_setGuests (va_wsS RX4 19 yX4_isWithin wsX4_isWithin) := goodIn_app (goodIn_of _ (by decide +kernel)) ggX4_setGuests_X4_isWithin
theorem dX4_setGuests_0 : decode cX4_setGuests 0 = .ok (.iload_n 1, 1) := by decide +kernel
theorem dX4_setGuests_1 : decode cX4_setGuests 1 = .ok (.iconst 0, 1) := by decide +kernel
theorem dX4_setGuests_2 : decode cX4_setGuests 2 = .ok (.bipush 40, 2) := by decide +kernel
theorem dX4_setGuests_4 : decode cX4_setGuests 4 = .ok (.invokestatic 19, 3) := by decide +kernel
theorem dX4_setGuests_7 : decode cX4_setGuests 7 = .ok (.ifCond .ne 13, 3) := by decide +kernel
theorem dX4_setGuests_10 : decode cX4_setGuests 10 = .ok (.new 23, 3) := by decide +kernel
theorem dX4_setGuests_13 : decode cX4_setGuests 13 = .ok (.dup, 1) := by decide +kernel
theorem dX4_setGuests_14 : decode cX4_setGuests 14 = .ok (.ldc 80, 2) := by decide +kernel
theorem dX4_setGuests_16 : decode cX4_setGuests 16 = .ok (.invokespecial 27, 3) := by decide +kernel
theorem dX4_setGuests_19 : decode cX4_setGuests 19 = .ok (.athrow, 1) := by decide +kernel
theorem dX4_setGuests_20 : decode cX4_setGuests 20 = .ok (.aload_n 0, 1) := by decide +kernel
theorem dX4_setGuests_21 : decode cX4_setGuests 21 = .ok (.getfield 10, 3) := by decide +kernel
theorem dX4_setGuests_24 : decode cX4_setGuests 24 = .ok (.getfield 82, 3) := by decide +kernel
theorem dX4_setGuests_27 : decode cX4_setGuests 27 = .ok (.istore_n 2, 1) := by decide +kernel
theorem dX4_setGuests_28 : decode cX4_setGuests 28 = .ok (.aload_n 0, 1) := by decide +kernel
theorem dX4_setGuests_29 : decode cX4_setGuests 29 = .ok (.getfield 10, 3) := by decide +kernel
theorem dX4_setGuests_32 : decode cX4_setGuests 32 = .ok (.iload_n 1, 1) := by decide +kernel
theorem dX4_setGuests_33 : decode cX4_setGuests 33 = .ok (.putfield 82, 3) := by decide +kernel
theorem dX4_setGuests_36 : decode cX4_setGuests 36 = .ok (.iload_n 2, 1) := by decide +kernel
theorem dX4_setGuests_37 : decode cX4_setGuests 37 = .ok (.ireturn, 1) := by decide +kernel
set_option maxRecDepth 20000 in
theorem ggX4_sellTicket_X4_requireRuin : GoodIn wsX4_sellTicket wsX4_requireRuin := goodIn_ca (goodIn_r _ [16, 17, 18, 5, 6, 19, 20, 21, 22, 23, 24, 44, 45, 46, 47, 48, 49, 50, 56, 57, 58, 59, 60, 61, 62] (by decide +kernel) (by decide +kernel)) (goodIn_sub (fun _ h => List.mem_cons_of_mem _ (List.mem_append_right _ h)) (by decide +kernel))
set_option maxRecDepth 20000 in
theorem gX4_sellTicket_X4_requireRuin : GoodIn wsX4_sellTicket (wsV RX4 49 RX4 yX4_requireRuin wsX4_requireRuin) := goodIn_app (goodIn_of _ (by decide +kernel)) ggX4_sellTicket_X4_requireRuin
set_option maxRecDepth 20000 in
theorem ggX4_sellTicket_X4_isWithin : GoodIn wsX4_sellTicket wsX4_isWithin := goodIn_r _ [27] (by decide +kernel) (by decide +kernel)
set_option maxRecDepth 20000 in
theorem gX4_sellTicket_X4_isWithin : GoodIn wsX4_sellTicket (va_wsS RX4 19 yX4_isWithin wsX4_isWithin) := goodIn_app (goodIn_of _ (by decide +kernel)) ggX4_sellTicket_X4_isWithin
set_option maxRecDepth 20000 in
theorem ggX4_sellTicket_X2_stands : GoodIn wsX4_sellTicket wsX2_stands := goodIn_r _ [31, 32, 33, 20, 21, 22, 23, 24, 56, 57, 58, 59, 60, 61, 62] (by decide +kernel) (by decide +kernel)
set_option maxRecDepth 20000 in
theorem gX4_sellTicket_X2_stands : GoodIn wsX4_sellTicket (wsV RX4 63 RX2 yX2_stands wsX2_stands) := goodIn_app (goodIn_of _ (by decide +kernel)) ggX4_sellTicket_X2_stands
set_option maxRecDepth 20000 in
theorem ggX4_sellTicket_X3_issue : GoodIn wsX4_sellTicket wsX3_issue := goodIn_r _ [38, 39, 40, 41, 42, 43, 51, 52, 53, 54, 55] (by decide +kernel) (by decide +kernel)
set_option maxRecDepth 20000 in
theorem gX4_sellTicket_X3_issue : GoodIn wsX4_sellTicket (wsV RX4 99 RX3 yX3_issue wsX3_issue) := goodIn_app (goodIn_of _ (by decide +kernel)) ggX4_sellTicket_X3_issue
theorem dX4_sellTicket_0 : decode cX4_sellTicket 0 = .ok (.aload_n 0, 1) := by decide +kernel
theorem dX4_sellTicket_1 : decode cX4_sellTicket 1 = .ok (.iload_n 1, 1) := by decide +kernel
theorem dX4_sellTicket_2 : decode cX4_sellTicket 2 = .ok (.invokevirtual 49, 3) := by decide +kernel
theorem dX4_sellTicket_5 : decode cX4_sellTicket 5 = .ok (.iload_n 2, 1) := by decide +kernel
theorem dX4_sellTicket_6 : decode cX4_sellTicket 6 = .ok (.iconst 0, 1) := by decide +kernel
theorem dX4_sellTicket_7 : decode cX4_sellTicket 7 = .ok (.bipush 30, 2) := by decide +kernel
theorem dX4_sellTicket_9 : decode cX4_sellTicket 9 = .ok (.invokestatic 19, 3) := by decide +kernel
theorem dX4_sellTicket_12 : decode cX4_sellTicket 12 = .ok (.ifCond .ne 13, 3) := by decide +kernel
theorem dX4_sellTicket_15 : decode cX4_sellTicket 15 = .ok (.new 23, 3) := by decide +kernel
theorem dX4_sellTicket_18 : decode cX4_sellTicket 18 = .ok (.dup, 1) := by decide +kernel
theorem dX4_sellTicket_19 : decode cX4_sellTicket 19 = .ok (.ldc 85, 2) := by decide +kernel
theorem dX4_sellTicket_21 : decode cX4_sellTicket 21 = .ok (.invokespecial 27, 3) := by decide +kernel
theorem dX4_sellTicket_24 : decode cX4_sellTicket 24 = .ok (.athrow, 1) := by decide +kernel
theorem dX4_sellTicket_25 : decode cX4_sellTicket 25 = .ok (.aload_n 0, 1) := by decide +kernel
theorem dX4_sellTicket_26 : decode cX4_sellTicket 26 = .ok (.getfield 10, 3) := by decide +kernel
theorem dX4_sellTicket_29 : decode cX4_sellTicket 29 = .ok (.getfield 30, 3) := by decide +kernel
theorem dX4_sellTicket_32 : decode cX4_sellTicket 32 = .ok (.iload_n 1, 1) := by decide +kernel
theorem dX4_sellTicket_33 : decode cX4_sellTicket 33 = .ok (.invokevirtual 63, 3) := by decide +kernel
theorem dX4_sellTicket_36 : decode cX4_sellTicket 36 = .ok (.ifCond .eq 18, 3) := by decide +kernel
theorem dX4_sellTicket_39 : decode cX4_sellTicket 39 = .ok (.aload_n 0, 1) := by decide +kernel
theorem dX4_sellTicket_40 : decode cX4_sellTicket 40 = .ok (.getfield 10, 3) := by decide +kernel
theorem dX4_sellTicket_43 : decode cX4_sellTicket 43 = .ok (.getfield 87, 3) := by decide +kernel
theorem dX4_sellTicket_46 : decode cX4_sellTicket 46 = .ok (.getfield 91, 3) := by decide +kernel
theorem dX4_sellTicket_49 : decode cX4_sellTicket 49 = .ok (.bipush 30, 2) := by decide +kernel
theorem dX4_sellTicket_51 : decode cX4_sellTicket 51 = .ok (.if_icmp .lt 13, 3) := by decide +kernel
theorem dX4_sellTicket_54 : decode cX4_sellTicket 54 = .ok (.new 40, 3) := by decide +kernel
theorem dX4_sellTicket_57 : decode cX4_sellTicket 57 = .ok (.dup, 1) := by decide +kernel
theorem dX4_sellTicket_58 : decode cX4_sellTicket 58 = .ok (.ldc 94, 2) := by decide +kernel
theorem dX4_sellTicket_60 : decode cX4_sellTicket 60 = .ok (.invokespecial 44, 3) := by decide +kernel
theorem dX4_sellTicket_63 : decode cX4_sellTicket 63 = .ok (.athrow, 1) := by decide +kernel
theorem dX4_sellTicket_64 : decode cX4_sellTicket 64 = .ok (.aload_n 0, 1) := by decide +kernel
theorem dX4_sellTicket_65 : decode cX4_sellTicket 65 = .ok (.getfield 10, 3) := by decide +kernel
theorem dX4_sellTicket_68 : decode cX4_sellTicket 68 = .ok (.getfield 30, 3) := by decide +kernel
theorem dX4_sellTicket_71 : decode cX4_sellTicket 71 = .ok (.getfield 77, 3) := by decide +kernel
theorem dX4_sellTicket_74 : decode cX4_sellTicket 74 = .ok (.iload_n 1, 1) := by decide +kernel
theorem dX4_sellTicket_75 : decode cX4_sellTicket 75 = .ok (.iaload, 1) := by decide +kernel
theorem dX4_sellTicket_76 : decode cX4_sellTicket 76 = .ok (.istore_n 3, 1) := by decide +kernel
theorem dX4_sellTicket_77 : decode cX4_sellTicket 77 = .ok (.aload_n 0, 1) := by decide +kernel
theorem dX4_sellTicket_78 : decode cX4_sellTicket 78 = .ok (.getfield 10, 3) := by decide +kernel
theorem dX4_sellTicket_81 : decode cX4_sellTicket 81 = .ok (.dup, 1) := by decide +kernel
theorem dX4_sellTicket_82 : decode cX4_sellTicket 82 = .ok (.getfield 70, 3) := by decide +kernel
theorem dX4_sellTicket_85 : decode cX4_sellTicket 85 = .ok (.iload_n 3, 1) := by decide +kernel
theorem dX4_sellTicket_86 : decode cX4_sellTicket 86 = .ok (.iadd, 1) := by decide +kernel
theorem dX4_sellTicket_87 : decode cX4_sellTicket 87 = .ok (.putfield 70, 3) := by decide +kernel
theorem dX4_sellTicket_90 : decode cX4_sellTicket 90 = .ok (.aload_n 0, 1) := by decide +kernel
theorem dX4_sellTicket_91 : decode cX4_sellTicket 91 = .ok (.getfield 10, 3) := by decide +kernel
theorem dX4_sellTicket_94 : decode cX4_sellTicket 94 = .ok (.getfield 87, 3) := by decide +kernel
theorem dX4_sellTicket_97 : decode cX4_sellTicket 97 = .ok (.iload_n 1, 1) := by decide +kernel
theorem dX4_sellTicket_98 : decode cX4_sellTicket 98 = .ok (.aload_n 0, 1) := by decide +kernel
theorem dX4_sellTicket_99 : decode cX4_sellTicket 99 = .ok (.getfield 10, 3) := by decide +kernel
theorem dX4_sellTicket_102 : decode cX4_sellTicket 102 = .ok (.getfield 96, 3) := by decide +kernel
theorem dX4_sellTicket_105 : decode cX4_sellTicket 105 = .ok (.iload_n 2, 1) := by decide +kernel
theorem dX4_sellTicket_106 : decode cX4_sellTicket 106 = .ok (.iadd, 1) := by decide +kernel
theorem dX4_sellTicket_107 : decode cX4_sellTicket 107 = .ok (.iload_n 3, 1) := by decide +kernel
theorem dX4_sellTicket_108 : decode cX4_sellTicket 108 = .ok (.invokevirtual 99, 3) := by decide +kernel
theorem dX4_sellTicket_111 : decode cX4_sellTicket 111 = .ok (.ireturn, 1) := by decide +kernel
set_option maxRecDepth 20000 in
theorem ggX4_pass_X4_requireDaysToPass : GoodIn wsX4_pass wsX4_requireDaysToPass := goodIn_ca (goodIn_r _ [6, 7, 8, 9, 10, 5, 11] (by decide +kernel) (by decide +kernel)) (goodIn_sub (fun _ h => List.mem_cons_of_mem _ (List.mem_append_right _ h)) (by decide +kernel))
set_option maxRecDepth 20000 in
theorem gX4_pass_X4_requireDaysToPass : GoodIn wsX4_pass (va_wsS RX4 103 yX4_requireDaysToPass wsX4_requireDaysToPass) := goodIn_app (goodIn_of _ (by decide +kernel)) ggX4_pass_X4_requireDaysToPass
set_option maxRecDepth 20000 in
theorem ggX4_pass_X1_passDays : GoodIn wsX4_pass wsX1_passDays := goodIn_r _ [16, 17, 18, 19, 20, 21, 22, 23, 15, 24, 25, 26, 27, 28, 29, 30, 31, 32, 33, 34, 35, 36, 37, 38, 39, 40, 41, 42, 43, 44, 45, 46, 47, 48, 49, 50, 51, 52, 53, 54, 55, 56, 57, 58, 59, 60, 61, 62, 63, 64, 65, 66, 67, 68, 69, 70, 71, 72, 73, 74, 75, 76, 77, 78, 79, 80, 81, 82, 83, 84, 85, 86, 87, 88, 89, 90, 91, 92, 93, 94, 95, 96, 97, 98, 99, 100, 101, 102, 105, 106, 107, 108, 109, 110, 111, 112, 113, 114, 115, 116, 117, 118, 119, 120, 121] (by decide +kernel) (by decide +kernel)
set_option maxRecDepth 20000 in
theorem gX4_pass_X1_passDays : GoodIn wsX4_pass (wsV RX4 106 RX1 yX1_passDays wsX1_passDays) := goodIn_app (goodIn_of _ (by decide +kernel)) ggX4_pass_X1_passDays
theorem dX4_pass_0 : decode cX4_pass 0 = .ok (.iload_n 1, 1) := by decide +kernel
theorem dX4_pass_1 : decode cX4_pass 1 = .ok (.invokestatic 103, 3) := by decide +kernel
theorem dX4_pass_4 : decode cX4_pass 4 = .ok (.aload_n 0, 1) := by decide +kernel
theorem dX4_pass_5 : decode cX4_pass 5 = .ok (.getfield 10, 3) := by decide +kernel
theorem dX4_pass_8 : decode cX4_pass 8 = .ok (.getfield 70, 3) := by decide +kernel
theorem dX4_pass_11 : decode cX4_pass 11 = .ok (.istore_n 2, 1) := by decide +kernel
theorem dX4_pass_12 : decode cX4_pass 12 = .ok (.aload_n 0, 1) := by decide +kernel
theorem dX4_pass_13 : decode cX4_pass 13 = .ok (.getfield 10, 3) := by decide +kernel
theorem dX4_pass_16 : decode cX4_pass 16 = .ok (.iload_n 1, 1) := by decide +kernel
theorem dX4_pass_17 : decode cX4_pass 17 = .ok (.invokevirtual 106, 3) := by decide +kernel
theorem dX4_pass_20 : decode cX4_pass 20 = .ok (.aload_n 0, 1) := by decide +kernel
theorem dX4_pass_21 : decode cX4_pass 21 = .ok (.getfield 10, 3) := by decide +kernel
theorem dX4_pass_24 : decode cX4_pass 24 = .ok (.getfield 70, 3) := by decide +kernel
theorem dX4_pass_27 : decode cX4_pass 27 = .ok (.iload_n 2, 1) := by decide +kernel
theorem dX4_pass_28 : decode cX4_pass 28 = .ok (.isub, 1) := by decide +kernel
theorem dX4_pass_29 : decode cX4_pass 29 = .ok (.ireturn, 1) := by decide +kernel
theorem dX4_day_0 : decode cX4_day 0 = .ok (.aload_n 0, 1) := by decide +kernel
theorem dX4_day_1 : decode cX4_day 1 = .ok (.getfield 10, 3) := by decide +kernel
theorem dX4_day_4 : decode cX4_day 4 = .ok (.getfield 96, 3) := by decide +kernel
theorem dX4_day_7 : decode cX4_day 7 = .ok (.ireturn, 1) := by decide +kernel
set_option maxRecDepth 20000 in
theorem ggX4_phase_X0_phaseOn : GoodIn wsX4_phase wsX0_phaseOn := goodIn_r _ [6] (by decide +kernel) (by decide +kernel)
set_option maxRecDepth 20000 in
theorem gX4_phase_X0_phaseOn : GoodIn wsX4_phase (va_wsS RX4 109 yX0_phaseOn wsX0_phaseOn) := goodIn_app (goodIn_of _ (by decide +kernel)) ggX4_phase_X0_phaseOn
theorem dX4_phase_0 : decode cX4_phase 0 = .ok (.aload_n 0, 1) := by decide +kernel
theorem dX4_phase_1 : decode cX4_phase 1 = .ok (.getfield 10, 3) := by decide +kernel
theorem dX4_phase_4 : decode cX4_phase 4 = .ok (.getfield 96, 3) := by decide +kernel
theorem dX4_phase_7 : decode cX4_phase 7 = .ok (.invokestatic 109, 3) := by decide +kernel
theorem dX4_phase_10 : decode cX4_phase 10 = .ok (.ireturn, 1) := by decide +kernel
set_option maxRecDepth 20000 in
theorem ggX4_brightness_X0_brightnessOn : GoodIn wsX4_brightness wsX0_brightnessOn := goodIn_r _ [6, 7, 8, 5, 9] (by decide +kernel) (by decide +kernel)
set_option maxRecDepth 20000 in
theorem gX4_brightness_X0_brightnessOn : GoodIn wsX4_brightness (va_wsS RX4 115 yX0_brightnessOn wsX0_brightnessOn) := goodIn_app (goodIn_of _ (by decide +kernel)) ggX4_brightness_X0_brightnessOn
theorem dX4_brightness_0 : decode cX4_brightness 0 = .ok (.aload_n 0, 1) := by decide +kernel
theorem dX4_brightness_1 : decode cX4_brightness 1 = .ok (.getfield 10, 3) := by decide +kernel
theorem dX4_brightness_4 : decode cX4_brightness 4 = .ok (.getfield 96, 3) := by decide +kernel
theorem dX4_brightness_7 : decode cX4_brightness 7 = .ok (.invokestatic 115, 3) := by decide +kernel
theorem dX4_brightness_10 : decode cX4_brightness 10 = .ok (.ireturn, 1) := by decide +kernel
set_option maxRecDepth 20000 in
theorem ggX4_daysUntilFullMoon_X0_daysUntilFullFrom : GoodIn wsX4_daysUntilFullMoon wsX0_daysUntilFullFrom := goodIn_r _ [6, 7, 8, 5, 9] (by decide +kernel) (by decide +kernel)
set_option maxRecDepth 20000 in
theorem gX4_daysUntilFullMoon_X0_daysUntilFullFrom : GoodIn wsX4_daysUntilFullMoon (va_wsS RX4 118 yX0_daysUntilFullFrom wsX0_daysUntilFullFrom) := goodIn_app (goodIn_of _ (by decide +kernel)) ggX4_daysUntilFullMoon_X0_daysUntilFullFrom
theorem dX4_daysUntilFullMoon_0 : decode cX4_daysUntilFullMoon 0 = .ok (.aload_n 0, 1) := by decide +kernel
theorem dX4_daysUntilFullMoon_1 : decode cX4_daysUntilFullMoon 1 = .ok (.getfield 10, 3) := by decide +kernel
theorem dX4_daysUntilFullMoon_4 : decode cX4_daysUntilFullMoon 4 = .ok (.getfield 96, 3) := by decide +kernel
theorem dX4_daysUntilFullMoon_7 : decode cX4_daysUntilFullMoon 7 = .ok (.invokestatic 118, 3) := by decide +kernel
theorem dX4_daysUntilFullMoon_10 : decode cX4_daysUntilFullMoon 10 = .ok (.ireturn, 1) := by decide +kernel
theorem dX4_ruins_0 : decode cX4_ruins 0 = .ok (.aload_n 0, 1) := by decide +kernel
theorem dX4_ruins_1 : decode cX4_ruins 1 = .ok (.getfield 10, 3) := by decide +kernel
theorem dX4_ruins_4 : decode cX4_ruins 4 = .ok (.getfield 30, 3) := by decide +kernel
theorem dX4_ruins_7 : decode cX4_ruins 7 = .ok (.getfield 34, 3) := by decide +kernel
theorem dX4_ruins_10 : decode cX4_ruins 10 = .ok (.ireturn, 1) := by decide +kernel
set_option maxRecDepth 20000 in
theorem ggX4_standing_X2_countStanding : GoodIn wsX4_standing wsX2_countStanding := goodIn_r _ [7, 8, 9, 17, 18, 19, 20, 21, 22, 23] (by decide +kernel) (by decide +kernel)
set_option maxRecDepth 20000 in
theorem gX4_standing_X2_countStanding : GoodIn wsX4_standing (wsV RX4 121 RX2 yX2_countStanding wsX2_countStanding) := goodIn_app (goodIn_of _ (by decide +kernel)) ggX4_standing_X2_countStanding
theorem dX4_standing_0 : decode cX4_standing 0 = .ok (.aload_n 0, 1) := by decide +kernel
theorem dX4_standing_1 : decode cX4_standing 1 = .ok (.getfield 10, 3) := by decide +kernel
theorem dX4_standing_4 : decode cX4_standing 4 = .ok (.getfield 30, 3) := by decide +kernel
theorem dX4_standing_7 : decode cX4_standing 7 = .ok (.invokevirtual 121, 3) := by decide +kernel
theorem dX4_standing_10 : decode cX4_standing 10 = .ok (.ireturn, 1) := by decide +kernel
theorem dX4_purse_0 : decode cX4_purse 0 = .ok (.aload_n 0, 1) := by decide +kernel
theorem dX4_purse_1 : decode cX4_purse 1 = .ok (.getfield 10, 3) := by decide +kernel
theorem dX4_purse_4 : decode cX4_purse 4 = .ok (.getfield 70, 3) := by decide +kernel
theorem dX4_purse_7 : decode cX4_purse 7 = .ok (.ireturn, 1) := by decide +kernel
set_option maxRecDepth 20000 in
theorem ggX4_wallsOf_X4_requireRuin : GoodIn wsX4_wallsOf wsX4_requireRuin := goodIn_ca (goodIn_r _ [8, 9, 10, 1, 2, 11, 12, 13, 14, 15, 16, 17, 18, 19, 20, 21, 22, 23, 24, 25, 26, 27, 28, 29, 30] (by decide +kernel) (by decide +kernel)) (goodIn_sub (fun _ h => List.mem_cons_of_mem _ (List.mem_append_right _ h)) (by decide +kernel))
set_option maxRecDepth 20000 in
theorem gX4_wallsOf_X4_requireRuin : GoodIn wsX4_wallsOf (wsV RX4 49 RX4 yX4_requireRuin wsX4_requireRuin) := goodIn_app (goodIn_of _ (by decide +kernel)) ggX4_wallsOf_X4_requireRuin
theorem dX4_wallsOf_0 : decode cX4_wallsOf 0 = .ok (.aload_n 0, 1) := by decide +kernel
theorem dX4_wallsOf_1 : decode cX4_wallsOf 1 = .ok (.iload_n 1, 1) := by decide +kernel
theorem dX4_wallsOf_2 : decode cX4_wallsOf 2 = .ok (.invokevirtual 49, 3) := by decide +kernel
theorem dX4_wallsOf_5 : decode cX4_wallsOf 5 = .ok (.aload_n 0, 1) := by decide +kernel
theorem dX4_wallsOf_6 : decode cX4_wallsOf 6 = .ok (.getfield 10, 3) := by decide +kernel
theorem dX4_wallsOf_9 : decode cX4_wallsOf 9 = .ok (.getfield 30, 3) := by decide +kernel
theorem dX4_wallsOf_12 : decode cX4_wallsOf 12 = .ok (.getfield 67, 3) := by decide +kernel
theorem dX4_wallsOf_15 : decode cX4_wallsOf 15 = .ok (.iload_n 1, 1) := by decide +kernel
theorem dX4_wallsOf_16 : decode cX4_wallsOf 16 = .ok (.iaload, 1) := by decide +kernel
theorem dX4_wallsOf_17 : decode cX4_wallsOf 17 = .ok (.ireturn, 1) := by decide +kernel
set_option maxRecDepth 20000 in
theorem ggX4_ivyOf_X4_requireRuin : GoodIn wsX4_ivyOf wsX4_requireRuin := goodIn_ca (goodIn_r _ [8, 9, 10, 1, 2, 11, 12, 13, 14, 15, 16, 17, 18, 19, 20, 21, 22, 23, 24, 25, 26, 27, 28, 29, 30] (by decide +kernel) (by decide +kernel)) (goodIn_sub (fun _ h => List.mem_cons_of_mem _ (List.mem_append_right _ h)) (by decide +kernel))
set_option maxRecDepth 20000 in
theorem gX4_ivyOf_X4_requireRuin : GoodIn wsX4_ivyOf (wsV RX4 49 RX4 yX4_requireRuin wsX4_requireRuin) := goodIn_app (goodIn_of _ (by decide +kernel)) ggX4_ivyOf_X4_requireRuin
theorem dX4_ivyOf_0 : decode cX4_ivyOf 0 = .ok (.aload_n 0, 1) := by decide +kernel
theorem dX4_ivyOf_1 : decode cX4_ivyOf 1 = .ok (.iload_n 1, 1) := by decide +kernel
theorem dX4_ivyOf_2 : decode cX4_ivyOf 2 = .ok (.invokevirtual 49, 3) := by decide +kernel
theorem dX4_ivyOf_5 : decode cX4_ivyOf 5 = .ok (.aload_n 0, 1) := by decide +kernel
theorem dX4_ivyOf_6 : decode cX4_ivyOf 6 = .ok (.getfield 10, 3) := by decide +kernel
theorem dX4_ivyOf_9 : decode cX4_ivyOf 9 = .ok (.getfield 30, 3) := by decide +kernel
theorem dX4_ivyOf_12 : decode cX4_ivyOf 12 = .ok (.getfield 59, 3) := by decide +kernel
theorem dX4_ivyOf_15 : decode cX4_ivyOf 15 = .ok (.iload_n 1, 1) := by decide +kernel
theorem dX4_ivyOf_16 : decode cX4_ivyOf 16 = .ok (.iaload, 1) := by decide +kernel
theorem dX4_ivyOf_17 : decode cX4_ivyOf 17 = .ok (.ireturn, 1) := by decide +kernel
set_option maxRecDepth 20000 in
theorem ggX4_gradeOf_X4_requireRuin : GoodIn wsX4_gradeOf wsX4_requireRuin := goodIn_ca (goodIn_r _ [7, 8, 9, 1, 2, 10, 11, 12, 13, 14, 15, 21, 22, 23, 24, 25, 26, 27, 28, 29, 30, 31, 32, 33, 34] (by decide +kernel) (by decide +kernel)) (goodIn_sub (fun _ h => List.mem_cons_of_mem _ (List.mem_append_right _ h)) (by decide +kernel))
set_option maxRecDepth 20000 in
theorem gX4_gradeOf_X4_requireRuin : GoodIn wsX4_gradeOf (wsV RX4 49 RX4 yX4_requireRuin wsX4_requireRuin) := goodIn_app (goodIn_of _ (by decide +kernel)) ggX4_gradeOf_X4_requireRuin
set_option maxRecDepth 20000 in
theorem ggX4_gradeOf_X2_grade : GoodIn wsX4_gradeOf wsX2_grade := goodIn_r _ [19, 20, 28, 29, 30, 31, 32, 33, 34] (by decide +kernel) (by decide +kernel)
set_option maxRecDepth 20000 in
theorem gX4_gradeOf_X2_grade : GoodIn wsX4_gradeOf (wsV RX4 125 RX2 yX2_grade wsX2_grade) := goodIn_app (goodIn_of _ (by decide +kernel)) ggX4_gradeOf_X2_grade
theorem dX4_gradeOf_0 : decode cX4_gradeOf 0 = .ok (.aload_n 0, 1) := by decide +kernel
theorem dX4_gradeOf_1 : decode cX4_gradeOf 1 = .ok (.iload_n 1, 1) := by decide +kernel
theorem dX4_gradeOf_2 : decode cX4_gradeOf 2 = .ok (.invokevirtual 49, 3) := by decide +kernel
theorem dX4_gradeOf_5 : decode cX4_gradeOf 5 = .ok (.aload_n 0, 1) := by decide +kernel
theorem dX4_gradeOf_6 : decode cX4_gradeOf 6 = .ok (.getfield 10, 3) := by decide +kernel
theorem dX4_gradeOf_9 : decode cX4_gradeOf 9 = .ok (.getfield 30, 3) := by decide +kernel
theorem dX4_gradeOf_12 : decode cX4_gradeOf 12 = .ok (.iload_n 1, 1) := by decide +kernel
theorem dX4_gradeOf_13 : decode cX4_gradeOf 13 = .ok (.invokevirtual 125, 3) := by decide +kernel
theorem dX4_gradeOf_16 : decode cX4_gradeOf 16 = .ok (.ireturn, 1) := by decide +kernel
set_option maxRecDepth 20000 in
theorem ggX4_ghostsOf_X4_requireRuin : GoodIn wsX4_ghostsOf wsX4_requireRuin := goodIn_ca (goodIn_r _ [8, 9, 10, 1, 2, 11, 12, 13, 14, 15, 16, 17, 18, 19, 20, 21, 22, 23, 24, 25, 26, 27, 28, 29, 30] (by decide +kernel) (by decide +kernel)) (goodIn_sub (fun _ h => List.mem_cons_of_mem _ (List.mem_append_right _ h)) (by decide +kernel))
set_option maxRecDepth 20000 in
theorem gX4_ghostsOf_X4_requireRuin : GoodIn wsX4_ghostsOf (wsV RX4 49 RX4 yX4_requireRuin wsX4_requireRuin) := goodIn_app (goodIn_of _ (by decide +kernel)) ggX4_ghostsOf_X4_requireRuin
theorem dX4_ghostsOf_0 : decode cX4_ghostsOf 0 = .ok (.aload_n 0, 1) := by decide +kernel
theorem dX4_ghostsOf_1 : decode cX4_ghostsOf 1 = .ok (.iload_n 1, 1) := by decide +kernel
theorem dX4_ghostsOf_2 : decode cX4_ghostsOf 2 = .ok (.invokevirtual 49, 3) := by decide +kernel
theorem dX4_ghostsOf_5 : decode cX4_ghostsOf 5 = .ok (.aload_n 0, 1) := by decide +kernel
theorem dX4_ghostsOf_6 : decode cX4_ghostsOf 6 = .ok (.getfield 10, 3) := by decide +kernel
theorem dX4_ghostsOf_9 : decode cX4_ghostsOf 9 = .ok (.getfield 30, 3) := by decide +kernel
theorem dX4_ghostsOf_12 : decode cX4_ghostsOf 12 = .ok (.getfield 128, 3) := by decide +kernel
theorem dX4_ghostsOf_15 : decode cX4_ghostsOf 15 = .ok (.iload_n 1, 1) := by decide +kernel
theorem dX4_ghostsOf_16 : decode cX4_ghostsOf 16 = .ok (.iaload, 1) := by decide +kernel
theorem dX4_ghostsOf_17 : decode cX4_ghostsOf 17 = .ok (.ireturn, 1) := by decide +kernel
set_option maxRecDepth 20000 in
theorem ggX4_hasCollapsed_X4_requireRuin : GoodIn wsX4_hasCollapsed wsX4_requireRuin := goodIn_ca (goodIn_r _ [7, 8, 9, 1, 2, 10, 11, 12, 13, 14, 15, 22, 23, 24, 25, 26, 27, 28, 29, 30, 31, 32, 33, 34, 35] (by decide +kernel) (by decide +kernel)) (goodIn_sub (fun _ h => List.mem_cons_of_mem _ (List.mem_append_right _ h)) (by decide +kernel))
set_option maxRecDepth 20000 in
theorem gX4_hasCollapsed_X4_requireRuin : GoodIn wsX4_hasCollapsed (wsV RX4 49 RX4 yX4_requireRuin wsX4_requireRuin) := goodIn_app (goodIn_of _ (by decide +kernel)) ggX4_hasCollapsed_X4_requireRuin
set_option maxRecDepth 20000 in
theorem ggX4_hasCollapsed_X2_stands : GoodIn wsX4_hasCollapsed wsX2_stands := goodIn_r _ [19, 20, 21, 11, 12, 13, 14, 15, 29, 30, 31, 32, 33, 34, 35] (by decide +kernel) (by decide +kernel)
set_option maxRecDepth 20000 in
theorem gX4_hasCollapsed_X2_stands : GoodIn wsX4_hasCollapsed (wsV RX4 63 RX2 yX2_stands wsX2_stands) := goodIn_app (goodIn_of _ (by decide +kernel)) ggX4_hasCollapsed_X2_stands
theorem dX4_hasCollapsed_0 : decode cX4_hasCollapsed 0 = .ok (.aload_n 0, 1) := by decide +kernel
theorem dX4_hasCollapsed_1 : decode cX4_hasCollapsed 1 = .ok (.iload_n 1, 1) := by decide +kernel
theorem dX4_hasCollapsed_2 : decode cX4_hasCollapsed 2 = .ok (.invokevirtual 49, 3) := by decide +kernel
theorem dX4_hasCollapsed_5 : decode cX4_hasCollapsed 5 = .ok (.aload_n 0, 1) := by decide +kernel
theorem dX4_hasCollapsed_6 : decode cX4_hasCollapsed 6 = .ok (.getfield 10, 3) := by decide +kernel
theorem dX4_hasCollapsed_9 : decode cX4_hasCollapsed 9 = .ok (.getfield 30, 3) := by decide +kernel
theorem dX4_hasCollapsed_12 : decode cX4_hasCollapsed 12 = .ok (.iload_n 1, 1) := by decide +kernel
theorem dX4_hasCollapsed_13 : decode cX4_hasCollapsed 13 = .ok (.invokevirtual 63, 3) := by decide +kernel
theorem dX4_hasCollapsed_16 : decode cX4_hasCollapsed 16 = .ok (.ifCond .ne 7, 3) := by decide +kernel
theorem dX4_hasCollapsed_19 : decode cX4_hasCollapsed 19 = .ok (.iconst 1, 1) := by decide +kernel
theorem dX4_hasCollapsed_20 : decode cX4_hasCollapsed 20 = .ok (.goto 4, 3) := by decide +kernel
theorem dX4_hasCollapsed_23 : decode cX4_hasCollapsed 23 = .ok (.iconst 0, 1) := by decide +kernel
theorem dX4_hasCollapsed_24 : decode cX4_hasCollapsed 24 = .ok (.ireturn, 1) := by decide +kernel
set_option maxRecDepth 20000 in
theorem ggX4_viewOf_X4_requireRuin : GoodIn wsX4_viewOf wsX4_requireRuin := goodIn_ca (goodIn_r _ [8, 9, 10, 1, 2, 11, 12, 13, 14, 15, 16, 35, 36, 37, 38, 39, 40, 41, 42, 43, 44, 45, 46, 47, 48] (by decide +kernel) (by decide +kernel)) (goodIn_sub (fun _ h => List.mem_cons_of_mem _ (List.mem_append_right _ h)) (by decide +kernel))
set_option maxRecDepth 20000 in
theorem gX4_viewOf_X4_requireRuin : GoodIn wsX4_viewOf (wsV RX4 49 RX4 yX4_requireRuin wsX4_requireRuin) := goodIn_app (goodIn_of _ (by decide +kernel)) ggX4_viewOf_X4_requireRuin
set_option maxRecDepth 20000 in
theorem ggX4_viewOf_X0_brightnessOn : GoodIn wsX4_viewOf wsX0_brightnessOn := goodIn_r _ [20, 21, 22, 19, 23] (by decide +kernel) (by decide +kernel)
set_option maxRecDepth 20000 in
theorem gX4_viewOf_X0_brightnessOn : GoodIn wsX4_viewOf (va_wsS RX4 115 yX0_brightnessOn wsX0_brightnessOn) := goodIn_app (goodIn_of _ (by decide +kernel)) ggX4_viewOf_X0_brightnessOn
set_option maxRecDepth 20000 in
theorem ggX4_viewOf_X2_view : GoodIn wsX4_viewOf wsX2_view := goodIn_r _ [27, 28, 29, 30, 31, 32, 14, 33, 34, 42, 43, 44, 45, 46, 47, 48] (by decide +kernel) (by decide +kernel)
set_option maxRecDepth 20000 in
theorem gX4_viewOf_X2_view : GoodIn wsX4_viewOf (wsV RX4 131 RX2 yX2_view wsX2_view) := goodIn_app (goodIn_of _ (by decide +kernel)) ggX4_viewOf_X2_view
theorem dX4_viewOf_0 : decode cX4_viewOf 0 = .ok (.aload_n 0, 1) := by decide +kernel
theorem dX4_viewOf_1 : decode cX4_viewOf 1 = .ok (.iload_n 1, 1) := by decide +kernel
theorem dX4_viewOf_2 : decode cX4_viewOf 2 = .ok (.invokevirtual 49, 3) := by decide +kernel
theorem dX4_viewOf_5 : decode cX4_viewOf 5 = .ok (.aload_n 0, 1) := by decide +kernel
theorem dX4_viewOf_6 : decode cX4_viewOf 6 = .ok (.getfield 10, 3) := by decide +kernel
theorem dX4_viewOf_9 : decode cX4_viewOf 9 = .ok (.getfield 30, 3) := by decide +kernel
theorem dX4_viewOf_12 : decode cX4_viewOf 12 = .ok (.iload_n 1, 1) := by decide +kernel
theorem dX4_viewOf_13 : decode cX4_viewOf 13 = .ok (.aload_n 0, 1) := by decide +kernel
theorem dX4_viewOf_14 : decode cX4_viewOf 14 = .ok (.getfield 10, 3) := by decide +kernel
theorem dX4_viewOf_17 : decode cX4_viewOf 17 = .ok (.getfield 96, 3) := by decide +kernel
theorem dX4_viewOf_20 : decode cX4_viewOf 20 = .ok (.invokestatic 115, 3) := by decide +kernel
theorem dX4_viewOf_23 : decode cX4_viewOf 23 = .ok (.invokevirtual 131, 3) := by decide +kernel
theorem dX4_viewOf_26 : decode cX4_viewOf 26 = .ok (.ireturn, 1) := by decide +kernel
set_option maxRecDepth 20000 in
theorem ggX4_rankOf_X4_requireRuin : GoodIn wsX4_rankOf wsX4_requireRuin := goodIn_ca (goodIn_r _ [8, 9, 10, 1, 2, 11, 12, 13, 14, 15, 16, 57, 58, 59, 60, 61, 62, 63, 64, 65, 66, 67, 68, 69, 70] (by decide +kernel) (by decide +kernel)) (goodIn_sub (fun _ h => List.mem_cons_of_mem _ (List.mem_append_right _ h)) (by decide +kernel))
set_option maxRecDepth 20000 in
theorem gX4_rankOf_X4_requireRuin : GoodIn wsX4_rankOf (wsV RX4 49 RX4 yX4_requireRuin wsX4_requireRuin) := goodIn_app (goodIn_of _ (by decide +kernel)) ggX4_rankOf_X4_requireRuin
set_option maxRecDepth 20000 in
theorem ggX4_rankOf_X1_rankRuins : GoodIn wsX4_rankOf wsX1_rankRuins := goodIn_r _ [21, 22, 23, 24, 25, 26, 27, 28, 29, 30, 31, 32, 33, 14, 34, 16, 35, 36, 37, 38, 39, 40, 41, 42, 43, 44, 45, 46, 47, 48, 49, 50, 51, 52, 53, 54, 55, 56, 59, 60, 61, 62, 63, 64, 65, 66, 67, 68, 69, 70] (by decide +kernel) (by decide +kernel)
set_option maxRecDepth 20000 in
theorem gX4_rankOf_X1_rankRuins : GoodIn wsX4_rankOf (wsV RX4 135 RX1 yX1_rankRuins wsX1_rankRuins) := goodIn_app (goodIn_of _ (by decide +kernel)) ggX4_rankOf_X1_rankRuins
theorem dX4_rankOf_0 : decode cX4_rankOf 0 = .ok (.aload_n 0, 1) := by decide +kernel
theorem dX4_rankOf_1 : decode cX4_rankOf 1 = .ok (.iload_n 1, 1) := by decide +kernel
theorem dX4_rankOf_2 : decode cX4_rankOf 2 = .ok (.invokevirtual 49, 3) := by decide +kernel
theorem dX4_rankOf_5 : decode cX4_rankOf 5 = .ok (.aload_n 0, 1) := by decide +kernel
theorem dX4_rankOf_6 : decode cX4_rankOf 6 = .ok (.getfield 10, 3) := by decide +kernel
theorem dX4_rankOf_9 : decode cX4_rankOf 9 = .ok (.invokevirtual 135, 3) := by decide +kernel
theorem dX4_rankOf_12 : decode cX4_rankOf 12 = .ok (.aload_n 0, 1) := by decide +kernel
theorem dX4_rankOf_13 : decode cX4_rankOf 13 = .ok (.getfield 10, 3) := by decide +kernel
theorem dX4_rankOf_16 : decode cX4_rankOf 16 = .ok (.getfield 30, 3) := by decide +kernel
theorem dX4_rankOf_19 : decode cX4_rankOf 19 = .ok (.getfield 138, 3) := by decide +kernel
theorem dX4_rankOf_22 : decode cX4_rankOf 22 = .ok (.iload_n 1, 1) := by decide +kernel
theorem dX4_rankOf_23 : decode cX4_rankOf 23 = .ok (.iaload, 1) := by decide +kernel
theorem dX4_rankOf_24 : decode cX4_rankOf 24 = .ok (.ireturn, 1) := by decide +kernel
set_option maxRecDepth 20000 in
theorem ggX4_ruinAt_X2_countStanding : GoodIn wsX4_ruinAt wsX2_countStanding := goodIn_r _ [9, 10, 11, 66, 67, 68, 69, 70, 71, 72] (by decide +kernel) (by decide +kernel)
set_option maxRecDepth 20000 in
theorem gX4_ruinAt_X2_countStanding : GoodIn wsX4_ruinAt (wsV RX4 121 RX2 yX2_countStanding wsX2_countStanding) := goodIn_app (goodIn_of _ (by decide +kernel)) ggX4_ruinAt_X2_countStanding
set_option maxRecDepth 20000 in
theorem ggX4_ruinAt_X4_isWithin : GoodIn wsX4_ruinAt wsX4_isWithin := goodIn_r _ [15] (by decide +kernel) (by decide +kernel)
set_option maxRecDepth 20000 in
theorem gX4_ruinAt_X4_isWithin : GoodIn wsX4_ruinAt (va_wsS RX4 19 yX4_isWithin wsX4_isWithin) := goodIn_app (goodIn_of _ (by decide +kernel)) ggX4_ruinAt_X4_isWithin
set_option maxRecDepth 20000 in
theorem ggX4_ruinAt_X1_rankRuins : GoodIn wsX4_ruinAt wsX1_rankRuins := goodIn_r _ [20, 21, 22, 23, 24, 25, 26, 27, 28, 29, 30, 31, 32, 8, 33, 10, 34, 35, 11, 36, 37, 38, 39, 40, 41, 42, 43, 44, 45, 46, 47, 48, 49, 50, 51, 52, 53, 54, 61, 62, 63, 64, 65, 66, 67, 68, 69, 70, 71, 72] (by decide +kernel) (by decide +kernel)
set_option maxRecDepth 20000 in
theorem gX4_ruinAt_X1_rankRuins : GoodIn wsX4_ruinAt (wsV RX4 135 RX1 yX1_rankRuins wsX1_rankRuins) := goodIn_app (goodIn_of _ (by decide +kernel)) ggX4_ruinAt_X1_rankRuins
set_option maxRecDepth 20000 in
theorem ggX4_ruinAt_X2_findRank : GoodIn wsX4_ruinAt wsX2_findRank := goodIn_r _ [58, 10, 35, 66, 67, 68, 69, 70, 71, 72] (by decide +kernel) (by decide +kernel)
set_option maxRecDepth 20000 in
theorem gX4_ruinAt_X2_findRank : GoodIn wsX4_ruinAt (wsV RX4 146 RX2 yX2_findRank wsX2_findRank) := goodIn_app (goodIn_of _ (by decide +kernel)) ggX4_ruinAt_X2_findRank
theorem dX4_ruinAt_0 : decode cX4_ruinAt 0 = .ok (.iload_n 1, 1) := by decide +kernel
theorem dX4_ruinAt_1 : decode cX4_ruinAt 1 = .ok (.iconst 0, 1) := by decide +kernel
theorem dX4_ruinAt_2 : decode cX4_ruinAt 2 = .ok (.aload_n 0, 1) := by decide +kernel
theorem dX4_ruinAt_3 : decode cX4_ruinAt 3 = .ok (.getfield 10, 3) := by decide +kernel
theorem dX4_ruinAt_6 : decode cX4_ruinAt 6 = .ok (.getfield 30, 3) := by decide +kernel
theorem dX4_ruinAt_9 : decode cX4_ruinAt 9 = .ok (.invokevirtual 121, 3) := by decide +kernel
theorem dX4_ruinAt_12 : decode cX4_ruinAt 12 = .ok (.iconst 1, 1) := by decide +kernel
theorem dX4_ruinAt_13 : decode cX4_ruinAt 13 = .ok (.isub, 1) := by decide +kernel
theorem dX4_ruinAt_14 : decode cX4_ruinAt 14 = .ok (.invokestatic 19, 3) := by decide +kernel
theorem dX4_ruinAt_17 : decode cX4_ruinAt 17 = .ok (.ifCond .ne 13, 3) := by decide +kernel
theorem dX4_ruinAt_20 : decode cX4_ruinAt 20 = .ok (.new 141, 3) := by decide +kernel
theorem dX4_ruinAt_23 : decode cX4_ruinAt 23 = .ok (.dup, 1) := by decide +kernel
theorem dX4_ruinAt_24 : decode cX4_ruinAt 24 = .ok (.ldc 143, 2) := by decide +kernel
theorem dX4_ruinAt_26 : decode cX4_ruinAt 26 = .ok (.invokespecial 145, 3) := by decide +kernel
theorem dX4_ruinAt_29 : decode cX4_ruinAt 29 = .ok (.athrow, 1) := by decide +kernel
theorem dX4_ruinAt_30 : decode cX4_ruinAt 30 = .ok (.aload_n 0, 1) := by decide +kernel
theorem dX4_ruinAt_31 : decode cX4_ruinAt 31 = .ok (.getfield 10, 3) := by decide +kernel
theorem dX4_ruinAt_34 : decode cX4_ruinAt 34 = .ok (.invokevirtual 135, 3) := by decide +kernel
theorem dX4_ruinAt_37 : decode cX4_ruinAt 37 = .ok (.aload_n 0, 1) := by decide +kernel
theorem dX4_ruinAt_38 : decode cX4_ruinAt 38 = .ok (.getfield 10, 3) := by decide +kernel
theorem dX4_ruinAt_41 : decode cX4_ruinAt 41 = .ok (.getfield 30, 3) := by decide +kernel
theorem dX4_ruinAt_44 : decode cX4_ruinAt 44 = .ok (.iload_n 1, 1) := by decide +kernel
theorem dX4_ruinAt_45 : decode cX4_ruinAt 45 = .ok (.invokevirtual 146, 3) := by decide +kernel
theorem dX4_ruinAt_48 : decode cX4_ruinAt 48 = .ok (.ireturn, 1) := by decide +kernel
set_option maxRecDepth 20000 in
theorem ggX4_guestsOf_X4_requireRuin : GoodIn wsX4_guestsOf wsX4_requireRuin := goodIn_ca (goodIn_r _ [8, 9, 10, 1, 2, 11, 12, 13, 14, 15, 16, 62, 63, 64, 65, 66, 67, 68, 69, 70, 71, 72, 73, 74, 75] (by decide +kernel) (by decide +kernel)) (goodIn_sub (fun _ h => List.mem_cons_of_mem _ (List.mem_append_right _ h)) (by decide +kernel))
set_option maxRecDepth 20000 in
theorem gX4_guestsOf_X4_requireRuin : GoodIn wsX4_guestsOf (wsV RX4 49 RX4 yX4_requireRuin wsX4_requireRuin) := goodIn_app (goodIn_of _ (by decide +kernel)) ggX4_guestsOf_X4_requireRuin
set_option maxRecDepth 20000 in
theorem ggX4_guestsOf_X1_rankRuins : GoodIn wsX4_guestsOf wsX1_rankRuins := goodIn_r _ [21, 22, 23, 24, 25, 26, 27, 28, 29, 30, 31, 32, 33, 14, 34, 16, 35, 36, 37, 38, 39, 40, 41, 42, 43, 44, 45, 46, 47, 48, 49, 50, 51, 52, 53, 54, 55, 56, 64, 65, 66, 67, 68, 69, 70, 71, 72, 73, 74, 75] (by decide +kernel) (by decide +kernel)
set_option maxRecDepth 20000 in
theorem gX4_guestsOf_X1_rankRuins : GoodIn wsX4_guestsOf (wsV RX4 135 RX1 yX1_rankRuins wsX1_rankRuins) := goodIn_app (goodIn_of _ (by decide +kernel)) ggX4_guestsOf_X1_rankRuins
set_option maxRecDepth 20000 in
theorem ggX4_guestsOf_X1_guestsAtRank : GoodIn wsX4_guestsOf wsX1_guestsAtRank := goodIn_r _ [60, 61, 64, 65, 66, 67, 68] (by decide +kernel) (by decide +kernel)
set_option maxRecDepth 20000 in
theorem gX4_guestsOf_X1_guestsAtRank : GoodIn wsX4_guestsOf (wsV RX4 149 RX1 yX1_guestsAtRank wsX1_guestsAtRank) := goodIn_app (goodIn_of _ (by decide +kernel)) ggX4_guestsOf_X1_guestsAtRank
theorem dX4_guestsOf_0 : decode cX4_guestsOf 0 = .ok (.aload_n 0, 1) := by decide +kernel
theorem dX4_guestsOf_1 : decode cX4_guestsOf 1 = .ok (.iload_n 1, 1) := by decide +kernel
theorem dX4_guestsOf_2 : decode cX4_guestsOf 2 = .ok (.invokevirtual 49, 3) := by decide +kernel
theorem dX4_guestsOf_5 : decode cX4_guestsOf 5 = .ok (.aload_n 0, 1) := by decide +kernel
theorem dX4_guestsOf_6 : decode cX4_guestsOf 6 = .ok (.getfield 10, 3) := by decide +kernel
theorem dX4_guestsOf_9 : decode cX4_guestsOf 9 = .ok (.invokevirtual 135, 3) := by decide +kernel
theorem dX4_guestsOf_12 : decode cX4_guestsOf 12 = .ok (.aload_n 0, 1) := by decide +kernel
theorem dX4_guestsOf_13 : decode cX4_guestsOf 13 = .ok (.getfield 10, 3) := by decide +kernel
theorem dX4_guestsOf_16 : decode cX4_guestsOf 16 = .ok (.aload_n 0, 1) := by decide +kernel
theorem dX4_guestsOf_17 : decode cX4_guestsOf 17 = .ok (.getfield 10, 3) := by decide +kernel
theorem dX4_guestsOf_20 : decode cX4_guestsOf 20 = .ok (.getfield 30, 3) := by decide +kernel
theorem dX4_guestsOf_23 : decode cX4_guestsOf 23 = .ok (.getfield 138, 3) := by decide +kernel
theorem dX4_guestsOf_26 : decode cX4_guestsOf 26 = .ok (.iload_n 1, 1) := by decide +kernel
theorem dX4_guestsOf_27 : decode cX4_guestsOf 27 = .ok (.iaload, 1) := by decide +kernel
theorem dX4_guestsOf_28 : decode cX4_guestsOf 28 = .ok (.invokevirtual 149, 3) := by decide +kernel
theorem dX4_guestsOf_31 : decode cX4_guestsOf 31 = .ok (.ireturn, 1) := by decide +kernel
theorem dX4_tickets_0 : decode cX4_tickets 0 = .ok (.aload_n 0, 1) := by decide +kernel
theorem dX4_tickets_1 : decode cX4_tickets 1 = .ok (.getfield 10, 3) := by decide +kernel
theorem dX4_tickets_4 : decode cX4_tickets 4 = .ok (.getfield 87, 3) := by decide +kernel
theorem dX4_tickets_7 : decode cX4_tickets 7 = .ok (.getfield 91, 3) := by decide +kernel
theorem dX4_tickets_10 : decode cX4_tickets 10 = .ok (.ireturn, 1) := by decide +kernel
set_option maxRecDepth 20000 in
theorem ggX4_dayOf_X4_requireTicket : GoodIn wsX4_dayOf wsX4_requireTicket := goodIn_ca (goodIn_r _ [8, 9, 10, 1, 2, 11, 12, 13, 14, 15, 16, 17, 18, 19, 20, 21, 22, 23, 24, 25, 26, 27, 28] (by decide +kernel) (by decide +kernel)) (goodIn_sub (fun _ h => List.mem_cons_of_mem _ (List.mem_append_right _ h)) (by decide +kernel))
set_option maxRecDepth 20000 in
theorem gX4_dayOf_X4_requireTicket : GoodIn wsX4_dayOf (wsV RX4 152 RX4 yX4_requireTicket wsX4_requireTicket) := goodIn_app (goodIn_of _ (by decide +kernel)) ggX4_dayOf_X4_requireTicket
theorem dX4_dayOf_0 : decode cX4_dayOf 0 = .ok (.aload_n 0, 1) := by decide +kernel
theorem dX4_dayOf_1 : decode cX4_dayOf 1 = .ok (.iload_n 1, 1) := by decide +kernel
theorem dX4_dayOf_2 : decode cX4_dayOf 2 = .ok (.invokevirtual 152, 3) := by decide +kernel
theorem dX4_dayOf_5 : decode cX4_dayOf 5 = .ok (.aload_n 0, 1) := by decide +kernel
theorem dX4_dayOf_6 : decode cX4_dayOf 6 = .ok (.getfield 10, 3) := by decide +kernel
theorem dX4_dayOf_9 : decode cX4_dayOf 9 = .ok (.getfield 87, 3) := by decide +kernel
theorem dX4_dayOf_12 : decode cX4_dayOf 12 = .ok (.getfield 155, 3) := by decide +kernel
theorem dX4_dayOf_15 : decode cX4_dayOf 15 = .ok (.iload_n 1, 1) := by decide +kernel
theorem dX4_dayOf_16 : decode cX4_dayOf 16 = .ok (.iaload, 1) := by decide +kernel
theorem dX4_dayOf_17 : decode cX4_dayOf 17 = .ok (.ireturn, 1) := by decide +kernel
set_option maxRecDepth 20000 in
theorem ggX4_isOpen_X4_requireTicket : GoodIn wsX4_isOpen wsX4_requireTicket := goodIn_ca (goodIn_r _ [8, 9, 10, 1, 2, 11, 12, 13, 14, 15, 16, 17, 18, 19, 20, 21, 22, 23, 24, 25, 26, 27, 28] (by decide +kernel) (by decide +kernel)) (goodIn_sub (fun _ h => List.mem_cons_of_mem _ (List.mem_append_right _ h)) (by decide +kernel))
set_option maxRecDepth 20000 in
theorem gX4_isOpen_X4_requireTicket : GoodIn wsX4_isOpen (wsV RX4 152 RX4 yX4_requireTicket wsX4_requireTicket) := goodIn_app (goodIn_of _ (by decide +kernel)) ggX4_isOpen_X4_requireTicket
theorem dX4_isOpen_0 : decode cX4_isOpen 0 = .ok (.aload_n 0, 1) := by decide +kernel
theorem dX4_isOpen_1 : decode cX4_isOpen 1 = .ok (.iload_n 1, 1) := by decide +kernel
theorem dX4_isOpen_2 : decode cX4_isOpen 2 = .ok (.invokevirtual 152, 3) := by decide +kernel
theorem dX4_isOpen_5 : decode cX4_isOpen 5 = .ok (.aload_n 0, 1) := by decide +kernel
theorem dX4_isOpen_6 : decode cX4_isOpen 6 = .ok (.getfield 10, 3) := by decide +kernel
theorem dX4_isOpen_9 : decode cX4_isOpen 9 = .ok (.getfield 87, 3) := by decide +kernel
theorem dX4_isOpen_12 : decode cX4_isOpen 12 = .ok (.getfield 158, 3) := by decide +kernel
theorem dX4_isOpen_15 : decode cX4_isOpen 15 = .ok (.iload_n 1, 1) := by decide +kernel
theorem dX4_isOpen_16 : decode cX4_isOpen 16 = .ok (.iaload, 1) := by decide +kernel
theorem dX4_isOpen_17 : decode cX4_isOpen 17 = .ok (.ifCond .ne 7, 3) := by decide +kernel
theorem dX4_isOpen_20 : decode cX4_isOpen 20 = .ok (.iconst 1, 1) := by decide +kernel
theorem dX4_isOpen_21 : decode cX4_isOpen 21 = .ok (.goto 4, 3) := by decide +kernel
theorem dX4_isOpen_24 : decode cX4_isOpen 24 = .ok (.iconst 0, 1) := by decide +kernel
theorem dX4_isOpen_25 : decode cX4_isOpen 25 = .ok (.ireturn, 1) := by decide +kernel
set_option maxRecDepth 20000 in
theorem ggX4_isPaidBack_X4_requireTicket : GoodIn wsX4_isPaidBack wsX4_requireTicket := goodIn_ca (goodIn_r _ [8, 9, 10, 1, 2, 11, 12, 13, 14, 15, 16, 17, 18, 19, 20, 21, 22, 23, 24, 25, 26, 27, 28] (by decide +kernel) (by decide +kernel)) (goodIn_sub (fun _ h => List.mem_cons_of_mem _ (List.mem_append_right _ h)) (by decide +kernel))
set_option maxRecDepth 20000 in
theorem gX4_isPaidBack_X4_requireTicket : GoodIn wsX4_isPaidBack (wsV RX4 152 RX4 yX4_requireTicket wsX4_requireTicket) := goodIn_app (goodIn_of _ (by decide +kernel)) ggX4_isPaidBack_X4_requireTicket
theorem dX4_isPaidBack_0 : decode cX4_isPaidBack 0 = .ok (.aload_n 0, 1) := by decide +kernel
theorem dX4_isPaidBack_1 : decode cX4_isPaidBack 1 = .ok (.iload_n 1, 1) := by decide +kernel
theorem dX4_isPaidBack_2 : decode cX4_isPaidBack 2 = .ok (.invokevirtual 152, 3) := by decide +kernel
theorem dX4_isPaidBack_5 : decode cX4_isPaidBack 5 = .ok (.aload_n 0, 1) := by decide +kernel
theorem dX4_isPaidBack_6 : decode cX4_isPaidBack 6 = .ok (.getfield 10, 3) := by decide +kernel
theorem dX4_isPaidBack_9 : decode cX4_isPaidBack 9 = .ok (.getfield 87, 3) := by decide +kernel
theorem dX4_isPaidBack_12 : decode cX4_isPaidBack 12 = .ok (.getfield 158, 3) := by decide +kernel
theorem dX4_isPaidBack_15 : decode cX4_isPaidBack 15 = .ok (.iload_n 1, 1) := by decide +kernel
theorem dX4_isPaidBack_16 : decode cX4_isPaidBack 16 = .ok (.iaload, 1) := by decide +kernel
theorem dX4_isPaidBack_17 : decode cX4_isPaidBack 17 = .ok (.iconst 2, 1) := by decide +kernel
theorem dX4_isPaidBack_18 : decode cX4_isPaidBack 18 = .ok (.if_icmp .ne 7, 3) := by decide +kernel
theorem dX4_isPaidBack_21 : decode cX4_isPaidBack 21 = .ok (.iconst 1, 1) := by decide +kernel
theorem dX4_isPaidBack_22 : decode cX4_isPaidBack 22 = .ok (.goto 4, 3) := by decide +kernel
theorem dX4_isPaidBack_25 : decode cX4_isPaidBack 25 = .ok (.iconst 0, 1) := by decide +kernel
theorem dX4_isPaidBack_26 : decode cX4_isPaidBack 26 = .ok (.ireturn, 1) := by decide +kernel
set_option maxRecDepth 20000 in
theorem ggX4_meanView_X2_countStanding : GoodIn wsX4_meanView wsX2_countStanding := goodIn_r _ [8, 9, 10, 39, 40, 41, 42, 43, 44, 45] (by decide +kernel) (by decide +kernel)
set_option maxRecDepth 20000 in
theorem gX4_meanView_X2_countStanding : GoodIn wsX4_meanView (wsV RX4 121 RX2 yX2_countStanding wsX2_countStanding) := goodIn_app (goodIn_of _ (by decide +kernel)) ggX4_meanView_X2_countStanding
set_option maxRecDepth 20000 in
theorem ggX4_meanView_X0_brightnessOn : GoodIn wsX4_meanView wsX0_brightnessOn := goodIn_r _ [14, 15, 16, 13, 17] (by decide +kernel) (by decide +kernel)
set_option maxRecDepth 20000 in
theorem gX4_meanView_X0_brightnessOn : GoodIn wsX4_meanView (va_wsS RX4 115 yX0_brightnessOn wsX0_brightnessOn) := goodIn_app (goodIn_of _ (by decide +kernel)) ggX4_meanView_X0_brightnessOn
set_option maxRecDepth 20000 in
theorem ggX4_meanView_X2_sumViews : GoodIn wsX4_meanView wsX2_sumViews := goodIn_r _ [21, 9, 22, 23, 24, 7, 25, 10, 26, 27, 28, 29, 30, 31, 39, 40, 41, 42, 43, 44, 45] (by decide +kernel) (by decide +kernel)
set_option maxRecDepth 20000 in
theorem gX4_meanView_X2_sumViews : GoodIn wsX4_meanView (wsV RX4 182 RX2 yX2_sumViews wsX2_sumViews) := goodIn_app (goodIn_of _ (by decide +kernel)) ggX4_meanView_X2_sumViews
theorem dX4_meanView_0 : decode cX4_meanView 0 = .ok (.aload_n 0, 1) := by decide +kernel
theorem dX4_meanView_1 : decode cX4_meanView 1 = .ok (.getfield 10, 3) := by decide +kernel
theorem dX4_meanView_4 : decode cX4_meanView 4 = .ok (.getfield 30, 3) := by decide +kernel
theorem dX4_meanView_7 : decode cX4_meanView 7 = .ok (.invokevirtual 121, 3) := by decide +kernel
theorem dX4_meanView_10 : decode cX4_meanView 10 = .ok (.istore_n 1, 1) := by decide +kernel
theorem dX4_meanView_11 : decode cX4_meanView 11 = .ok (.iload_n 1, 1) := by decide +kernel
theorem dX4_meanView_12 : decode cX4_meanView 12 = .ok (.ifCond .ne 5, 3) := by decide +kernel
theorem dX4_meanView_15 : decode cX4_meanView 15 = .ok (.dconst 0, 1) := by decide +kernel
theorem dX4_meanView_16 : decode cX4_meanView 16 = .ok (.dreturn, 1) := by decide +kernel
theorem dX4_meanView_17 : decode cX4_meanView 17 = .ok (.aload_n 0, 1) := by decide +kernel
theorem dX4_meanView_18 : decode cX4_meanView 18 = .ok (.getfield 10, 3) := by decide +kernel
theorem dX4_meanView_21 : decode cX4_meanView 21 = .ok (.getfield 30, 3) := by decide +kernel
theorem dX4_meanView_24 : decode cX4_meanView 24 = .ok (.aload_n 0, 1) := by decide +kernel
theorem dX4_meanView_25 : decode cX4_meanView 25 = .ok (.getfield 10, 3) := by decide +kernel
theorem dX4_meanView_28 : decode cX4_meanView 28 = .ok (.getfield 96, 3) := by decide +kernel
theorem dX4_meanView_31 : decode cX4_meanView 31 = .ok (.invokestatic 115, 3) := by decide +kernel
theorem dX4_meanView_34 : decode cX4_meanView 34 = .ok (.invokevirtual 182, 3) := by decide +kernel
theorem dX4_meanView_37 : decode cX4_meanView 37 = .ok (.i2d, 1) := by decide +kernel
theorem dX4_meanView_38 : decode cX4_meanView 38 = .ok (.iload_n 1, 1) := by decide +kernel
theorem dX4_meanView_39 : decode cX4_meanView 39 = .ok (.i2d, 1) := by decide +kernel
theorem dX4_meanView_40 : decode cX4_meanView 40 = .ok (.ddiv, 1) := by decide +kernel
theorem dX4_meanView_41 : decode cX4_meanView 41 = .ok (.dreturn, 1) := by decide +kernel
theorem dX4_isWithin_0 : decode cX4_isWithin 0 = .ok (.iload_n 0, 1) := by decide +kernel
theorem dX4_isWithin_1 : decode cX4_isWithin 1 = .ok (.iload_n 1, 1) := by decide +kernel
theorem dX4_isWithin_2 : decode cX4_isWithin 2 = .ok (.if_icmp .lt 12, 3) := by decide +kernel
theorem dX4_isWithin_5 : decode cX4_isWithin 5 = .ok (.iload_n 0, 1) := by decide +kernel
theorem dX4_isWithin_6 : decode cX4_isWithin 6 = .ok (.iload_n 2, 1) := by decide +kernel
theorem dX4_isWithin_7 : decode cX4_isWithin 7 = .ok (.if_icmp .gt 7, 3) := by decide +kernel
theorem dX4_isWithin_10 : decode cX4_isWithin 10 = .ok (.iconst 1, 1) := by decide +kernel
theorem dX4_isWithin_11 : decode cX4_isWithin 11 = .ok (.goto 4, 3) := by decide +kernel
theorem dX4_isWithin_14 : decode cX4_isWithin 14 = .ok (.iconst 0, 1) := by decide +kernel
theorem dX4_isWithin_15 : decode cX4_isWithin 15 = .ok (.ireturn, 1) := by decide +kernel
set_option maxRecDepth 20000 in
theorem ggX4_requireRuin_X2_has : GoodIn wsX4_requireRuin wsX2_has := goodIn_r _ [9, 10, 18, 19, 20, 21, 22, 23, 24] (by decide +kernel) (by decide +kernel)
set_option maxRecDepth 20000 in
theorem gX4_requireRuin_X2_has : GoodIn wsX4_requireRuin (wsV RX4 200 RX2 yX2_has wsX2_has) := goodIn_app (goodIn_of _ (by decide +kernel)) ggX4_requireRuin_X2_has
theorem dX4_requireRuin_0 : decode cX4_requireRuin 0 = .ok (.aload_n 0, 1) := by decide +kernel
theorem dX4_requireRuin_1 : decode cX4_requireRuin 1 = .ok (.getfield 10, 3) := by decide +kernel
theorem dX4_requireRuin_4 : decode cX4_requireRuin 4 = .ok (.getfield 30, 3) := by decide +kernel
theorem dX4_requireRuin_7 : decode cX4_requireRuin 7 = .ok (.iload_n 1, 1) := by decide +kernel
theorem dX4_requireRuin_8 : decode cX4_requireRuin 8 = .ok (.invokevirtual 200, 3) := by decide +kernel
theorem dX4_requireRuin_11 : decode cX4_requireRuin 11 = .ok (.ifCond .ne 13, 3) := by decide +kernel
theorem dX4_requireRuin_14 : decode cX4_requireRuin 14 = .ok (.new 141, 3) := by decide +kernel
theorem dX4_requireRuin_17 : decode cX4_requireRuin 17 = .ok (.dup, 1) := by decide +kernel
theorem dX4_requireRuin_18 : decode cX4_requireRuin 18 = .ok (.ldc 203, 2) := by decide +kernel
theorem dX4_requireRuin_20 : decode cX4_requireRuin 20 = .ok (.invokespecial 145, 3) := by decide +kernel
theorem dX4_requireRuin_23 : decode cX4_requireRuin 23 = .ok (.athrow, 1) := by decide +kernel
theorem dX4_requireRuin_24 : decode cX4_requireRuin 24 = .ok (.return_, 1) := by decide +kernel
set_option maxRecDepth 20000 in
theorem ggX4_requireTicket_X3_has : GoodIn wsX4_requireTicket wsX3_has := goodIn_r _ [9, 10, 18, 19, 20, 21, 22] (by decide +kernel) (by decide +kernel)
set_option maxRecDepth 20000 in
theorem gX4_requireTicket_X3_has : GoodIn wsX4_requireTicket (wsV RX4 205 RX3 yX3_has wsX3_has) := goodIn_app (goodIn_of _ (by decide +kernel)) ggX4_requireTicket_X3_has
theorem dX4_requireTicket_0 : decode cX4_requireTicket 0 = .ok (.aload_n 0, 1) := by decide +kernel
theorem dX4_requireTicket_1 : decode cX4_requireTicket 1 = .ok (.getfield 10, 3) := by decide +kernel
theorem dX4_requireTicket_4 : decode cX4_requireTicket 4 = .ok (.getfield 87, 3) := by decide +kernel
theorem dX4_requireTicket_7 : decode cX4_requireTicket 7 = .ok (.iload_n 1, 1) := by decide +kernel
theorem dX4_requireTicket_8 : decode cX4_requireTicket 8 = .ok (.invokevirtual 205, 3) := by decide +kernel
theorem dX4_requireTicket_11 : decode cX4_requireTicket 11 = .ok (.ifCond .ne 13, 3) := by decide +kernel
theorem dX4_requireTicket_14 : decode cX4_requireTicket 14 = .ok (.new 141, 3) := by decide +kernel
theorem dX4_requireTicket_17 : decode cX4_requireTicket 17 = .ok (.dup, 1) := by decide +kernel
theorem dX4_requireTicket_18 : decode cX4_requireTicket 18 = .ok (.ldc 206, 2) := by decide +kernel
theorem dX4_requireTicket_20 : decode cX4_requireTicket 20 = .ok (.invokespecial 145, 3) := by decide +kernel
theorem dX4_requireTicket_23 : decode cX4_requireTicket 23 = .ok (.athrow, 1) := by decide +kernel
theorem dX4_requireTicket_24 : decode cX4_requireTicket 24 = .ok (.return_, 1) := by decide +kernel
set_option maxRecDepth 20000 in
theorem ggX4_requireDaysToPass_X4_isWithin : GoodIn wsX4_requireDaysToPass wsX4_isWithin := goodIn_r _ [6] (by decide +kernel) (by decide +kernel)
set_option maxRecDepth 20000 in
theorem gX4_requireDaysToPass_X4_isWithin : GoodIn wsX4_requireDaysToPass (va_wsS RX4 19 yX4_isWithin wsX4_isWithin) := goodIn_app (goodIn_of _ (by decide +kernel)) ggX4_requireDaysToPass_X4_isWithin
theorem dX4_requireDaysToPass_0 : decode cX4_requireDaysToPass 0 = .ok (.iload_n 0, 1) := by decide +kernel
theorem dX4_requireDaysToPass_1 : decode cX4_requireDaysToPass 1 = .ok (.iconst 1, 1) := by decide +kernel
theorem dX4_requireDaysToPass_2 : decode cX4_requireDaysToPass 2 = .ok (.bipush 60, 2) := by decide +kernel
theorem dX4_requireDaysToPass_4 : decode cX4_requireDaysToPass 4 = .ok (.invokestatic 19, 3) := by decide +kernel
theorem dX4_requireDaysToPass_7 : decode cX4_requireDaysToPass 7 = .ok (.ifCond .ne 13, 3) := by decide +kernel
theorem dX4_requireDaysToPass_10 : decode cX4_requireDaysToPass 10 = .ok (.new 23, 3) := by decide +kernel
theorem dX4_requireDaysToPass_13 : decode cX4_requireDaysToPass 13 = .ok (.dup, 1) := by decide +kernel
theorem dX4_requireDaysToPass_14 : decode cX4_requireDaysToPass 14 = .ok (.ldc 208, 2) := by decide +kernel
theorem dX4_requireDaysToPass_16 : decode cX4_requireDaysToPass 16 = .ok (.invokespecial 27, 3) := by decide +kernel
theorem dX4_requireDaysToPass_19 : decode cX4_requireDaysToPass 19 = .ok (.athrow, 1) := by decide +kernel
theorem dX4_requireDaysToPass_20 : decode cX4_requireDaysToPass 20 = .ok (.return_, 1) := by decide +kernel
end
section
theorem dX5_init_0 : decode cX5_init 0 = .ok (.aload_n 0, 1) := by decide +kernel
theorem dX5_init_1 : decode cX5_init 1 = .ok (.invokespecial 1, 3) := by decide +kernel
theorem dX5_init_4 : decode cX5_init 4 = .ok (.aload_n 0, 1) := by decide +kernel
theorem dX5_init_5 : decode cX5_init 5 = .ok (.bipush 12, 2) := by decide +kernel
theorem dX5_init_7 : decode cX5_init 7 = .ok (.putfield 7, 3) := by decide +kernel
theorem dX5_init_10 : decode cX5_init 10 = .ok (.aload_n 0, 1) := by decide +kernel
theorem dX5_init_11 : decode cX5_init 11 = .ok (.iconst 0, 1) := by decide +kernel
theorem dX5_init_12 : decode cX5_init 12 = .ok (.anewarray 13, 3) := by decide +kernel
theorem dX5_init_15 : decode cX5_init 15 = .ok (.putfield 15, 3) := by decide +kernel
theorem dX5_init_18 : decode cX5_init 18 = .ok (.aload_n 0, 1) := by decide +kernel
theorem dX5_init_19 : decode cX5_init 19 = .ok (.iconst 0, 1) := by decide +kernel
theorem dX5_init_20 : decode cX5_init 20 = .ok (.anewarray 13, 3) := by decide +kernel
theorem dX5_init_23 : decode cX5_init 23 = .ok (.putfield 19, 3) := by decide +kernel
theorem dX5_init_26 : decode cX5_init 26 = .ok (.return_, 1) := by decide +kernel
theorem dX5_with_0 : decode cX5_with 0 = .ok (.aload_n 0, 1) := by decide +kernel
theorem dX5_with_1 : decode cX5_with 1 = .ok (.arraylength, 1) := by decide +kernel
theorem dX5_with_2 : decode cX5_with 2 = .ok (.iconst 1, 1) := by decide +kernel
theorem dX5_with_3 : decode cX5_with 3 = .ok (.iadd, 1) := by decide +kernel
theorem dX5_with_4 : decode cX5_with 4 = .ok (.anewarray 13, 3) := by decide +kernel
theorem dX5_with_7 : decode cX5_with 7 = .ok (.astore_n 2, 1) := by decide +kernel
theorem dX5_with_8 : decode cX5_with 8 = .ok (.iconst 0, 1) := by decide +kernel
theorem dX5_with_9 : decode cX5_with 9 = .ok (.istore_n 3, 1) := by decide +kernel
theorem dX5_with_10 : decode cX5_with 10 = .ok (.iload_n 3, 1) := by decide +kernel
theorem dX5_with_11 : decode cX5_with 11 = .ok (.aload_n 0, 1) := by decide +kernel
theorem dX5_with_12 : decode cX5_with 12 = .ok (.arraylength, 1) := by decide +kernel
theorem dX5_with_13 : decode cX5_with 13 = .ok (.if_icmp .ge 15, 3) := by decide +kernel
theorem dX5_with_16 : decode cX5_with 16 = .ok (.aload_n 2, 1) := by decide +kernel
theorem dX5_with_17 : decode cX5_with 17 = .ok (.iload_n 3, 1) := by decide +kernel
theorem dX5_with_18 : decode cX5_with 18 = .ok (.aload_n 0, 1) := by decide +kernel
theorem dX5_with_19 : decode cX5_with 19 = .ok (.iload_n 3, 1) := by decide +kernel
theorem dX5_with_20 : decode cX5_with 20 = .ok (.aaload, 1) := by decide +kernel
theorem dX5_with_21 : decode cX5_with 21 = .ok (.aastore, 1) := by decide +kernel
theorem dX5_with_22 : decode cX5_with 22 = .ok (.iinc 3 1, 3) := by decide +kernel
theorem dX5_with_25 : decode cX5_with 25 = .ok (.goto (-15), 3) := by decide +kernel
theorem dX5_with_28 : decode cX5_with 28 = .ok (.aload_n 2, 1) := by decide +kernel
theorem dX5_with_29 : decode cX5_with 29 = .ok (.aload_n 0, 1) := by decide +kernel
theorem dX5_with_30 : decode cX5_with 30 = .ok (.arraylength, 1) := by decide +kernel
theorem dX5_with_31 : decode cX5_with 31 = .ok (.aload_n 1, 1) := by decide +kernel
theorem dX5_with_32 : decode cX5_with 32 = .ok (.aastore, 1) := by decide +kernel
theorem dX5_with_33 : decode cX5_with 33 = .ok (.aload_n 2, 1) := by decide +kernel
theorem dX5_with_34 : decode cX5_with 34 = .ok (.areturn, 1) := by decide +kernel
theorem dX5_moon_0 : decode cX5_moon 0 = .ok (.bipush 8, 2) := by decide +kernel
theorem dX5_moon_2 : decode cX5_moon 2 = .ok (.newarray .int, 2) := by decide +kernel
theorem dX5_moon_4 : decode cX5_moon 4 = .ok (.dup, 1) := by decide +kernel
theorem dX5_moon_5 : decode cX5_moon 5 = .ok (.iconst 0, 1) := by decide +kernel
theorem dX5_moon_6 : decode cX5_moon 6 = .ok (.iconst 0, 1) := by decide +kernel
theorem dX5_moon_7 : decode cX5_moon 7 = .ok (.iastore, 1) := by decide +kernel
theorem dX5_moon_8 : decode cX5_moon 8 = .ok (.dup, 1) := by decide +kernel
theorem dX5_moon_9 : decode cX5_moon 9 = .ok (.iconst 1, 1) := by decide +kernel
theorem dX5_moon_10 : decode cX5_moon 10 = .ok (.iconst 1, 1) := by decide +kernel
theorem dX5_moon_11 : decode cX5_moon 11 = .ok (.iastore, 1) := by decide +kernel
theorem dX5_moon_12 : decode cX5_moon 12 = .ok (.dup, 1) := by decide +kernel
theorem dX5_moon_13 : decode cX5_moon 13 = .ok (.iconst 2, 1) := by decide +kernel
theorem dX5_moon_14 : decode cX5_moon 14 = .ok (.iconst 2, 1) := by decide +kernel
theorem dX5_moon_15 : decode cX5_moon 15 = .ok (.iastore, 1) := by decide +kernel
theorem dX5_moon_16 : decode cX5_moon 16 = .ok (.dup, 1) := by decide +kernel
theorem dX5_moon_17 : decode cX5_moon 17 = .ok (.iconst 3, 1) := by decide +kernel
theorem dX5_moon_18 : decode cX5_moon 18 = .ok (.iconst 3, 1) := by decide +kernel
theorem dX5_moon_19 : decode cX5_moon 19 = .ok (.iastore, 1) := by decide +kernel
theorem dX5_moon_20 : decode cX5_moon 20 = .ok (.dup, 1) := by decide +kernel
theorem dX5_moon_21 : decode cX5_moon 21 = .ok (.iconst 4, 1) := by decide +kernel
theorem dX5_moon_22 : decode cX5_moon 22 = .ok (.iconst 4, 1) := by decide +kernel
theorem dX5_moon_23 : decode cX5_moon 23 = .ok (.iastore, 1) := by decide +kernel
theorem dX5_moon_24 : decode cX5_moon 24 = .ok (.dup, 1) := by decide +kernel
theorem dX5_moon_25 : decode cX5_moon 25 = .ok (.iconst 5, 1) := by decide +kernel
theorem dX5_moon_26 : decode cX5_moon 26 = .ok (.iconst 3, 1) := by decide +kernel
theorem dX5_moon_27 : decode cX5_moon 27 = .ok (.iastore, 1) := by decide +kernel
theorem dX5_moon_28 : decode cX5_moon 28 = .ok (.dup, 1) := by decide +kernel
theorem dX5_moon_29 : decode cX5_moon 29 = .ok (.bipush 6, 2) := by decide +kernel
theorem dX5_moon_31 : decode cX5_moon 31 = .ok (.iconst 2, 1) := by decide +kernel
theorem dX5_moon_32 : decode cX5_moon 32 = .ok (.iastore, 1) := by decide +kernel
theorem dX5_moon_33 : decode cX5_moon 33 = .ok (.dup, 1) := by decide +kernel
theorem dX5_moon_34 : decode cX5_moon 34 = .ok (.bipush 7, 2) := by decide +kernel
theorem dX5_moon_36 : decode cX5_moon 36 = .ok (.iconst 1, 1) := by decide +kernel
theorem dX5_moon_37 : decode cX5_moon 37 = .ok (.iastore, 1) := by decide +kernel
theorem dX5_moon_38 : decode cX5_moon 38 = .ok (.aload_n 0, 1) := by decide +kernel
theorem dX5_moon_39 : decode cX5_moon 39 = .ok (.getfield 22, 3) := by decide +kernel
theorem dX5_moon_42 : decode cX5_moon 42 = .ok (.bipush 8, 2) := by decide +kernel
theorem dX5_moon_44 : decode cX5_moon 44 = .ok (.irem, 1) := by decide +kernel
theorem dX5_moon_45 : decode cX5_moon 45 = .ok (.iaload, 1) := by decide +kernel
theorem dX5_moon_46 : decode cX5_moon 46 = .ok (.ireturn, 1) := by decide +kernel
theorem dX5_grade_0 : decode cX5_grade 0 = .ok (.iload_n 0, 1) := by decide +kernel
theorem dX5_grade_1 : decode cX5_grade 1 = .ok (.iconst 1, 1) := by decide +kernel
theorem dX5_grade_2 : decode cX5_grade 2 = .ok (.if_icmp .ge 7, 3) := by decide +kernel
theorem dX5_grade_5 : decode cX5_grade 5 = .ok (.iconst 0, 1) := by decide +kernel
theorem dX5_grade_6 : decode cX5_grade 6 = .ok (.goto 33, 3) := by decide +kernel
theorem dX5_grade_9 : decode cX5_grade 9 = .ok (.iload_n 0, 1) := by decide +kernel
theorem dX5_grade_10 : decode cX5_grade 10 = .ok (.iconst 4, 1) := by decide +kernel
theorem dX5_grade_11 : decode cX5_grade 11 = .ok (.if_icmp .ge 7, 3) := by decide +kernel
theorem dX5_grade_14 : decode cX5_grade 14 = .ok (.iconst 1, 1) := by decide +kernel
theorem dX5_grade_15 : decode cX5_grade 15 = .ok (.goto 24, 3) := by decide +kernel
theorem dX5_grade_18 : decode cX5_grade 18 = .ok (.iload_n 0, 1) := by decide +kernel
theorem dX5_grade_19 : decode cX5_grade 19 = .ok (.bipush 7, 2) := by decide +kernel
theorem dX5_grade_21 : decode cX5_grade 21 = .ok (.if_icmp .ge 7, 3) := by decide +kernel
theorem dX5_grade_24 : decode cX5_grade 24 = .ok (.iconst 2, 1) := by decide +kernel
theorem dX5_grade_25 : decode cX5_grade 25 = .ok (.goto 14, 3) := by decide +kernel
theorem dX5_grade_28 : decode cX5_grade 28 = .ok (.iload_n 0, 1) := by decide +kernel
theorem dX5_grade_29 : decode cX5_grade 29 = .ok (.bipush 10, 2) := by decide +kernel
theorem dX5_grade_31 : decode cX5_grade 31 = .ok (.if_icmp .ge 7, 3) := by decide +kernel
theorem dX5_grade_34 : decode cX5_grade 34 = .ok (.iconst 3, 1) := by decide +kernel
theorem dX5_grade_35 : decode cX5_grade 35 = .ok (.goto 4, 3) := by decide +kernel
theorem dX5_grade_38 : decode cX5_grade 38 = .ok (.iconst 1, 1) := by decide +kernel
theorem dX5_grade_39 : decode cX5_grade 39 = .ok (.ireturn, 1) := by decide +kernel
set_option maxRecDepth 20000 in
theorem ggX5_view_X5_grade : GoodIn wsX5_view wsX5_grade := goodIn_r _ [5] (by decide +kernel) (by decide +kernel)
set_option maxRecDepth 20000 in
theorem gX5_view_X5_grade : GoodIn wsX5_view (va_wsS RX5 25 yX5_grade wsX5_grade) := goodIn_app (goodIn_of _ (by decide +kernel)) ggX5_view_X5_grade
theorem dX5_view_0 : decode cX5_view 0 = .ok (.aload_n 0, 1) := by decide +kernel
theorem dX5_view_1 : decode cX5_view 1 = .ok (.getfield 15, 3) := by decide +kernel
theorem dX5_view_4 : decode cX5_view 4 = .ok (.iload_n 1, 1) := by decide +kernel
theorem dX5_view_5 : decode cX5_view 5 = .ok (.aaload, 1) := by decide +kernel
theorem dX5_view_6 : decode cX5_view 6 = .ok (.astore_n 3, 1) := by decide +kernel
theorem dX5_view_7 : decode cX5_view 7 = .ok (.aload_n 3, 1) := by decide +kernel
theorem dX5_view_8 : decode cX5_view 8 = .ok (.iconst 0, 1) := by decide +kernel
theorem dX5_view_9 : decode cX5_view 9 = .ok (.iaload, 1) := by decide +kernel
theorem dX5_view_10 : decode cX5_view 10 = .ok (.ifCond .ne 7, 3) := by decide +kernel
theorem dX5_view_13 : decode cX5_view 13 = .ok (.iconst 0, 1) := by decide +kernel
theorem dX5_view_14 : decode cX5_view 14 = .ok (.goto 25, 3) := by decide +kernel
theorem dX5_view_17 : decode cX5_view 17 = .ok (.aload_n 3, 1) := by decide +kernel
theorem dX5_view_18 : decode cX5_view 18 = .ok (.iconst 0, 1) := by decide +kernel
theorem dX5_view_19 : decode cX5_view 19 = .ok (.iaload, 1) := by decide +kernel
theorem dX5_view_20 : decode cX5_view 20 = .ok (.aload_n 3, 1) := by decide +kernel
theorem dX5_view_21 : decode cX5_view 21 = .ok (.iconst 0, 1) := by decide +kernel
theorem dX5_view_22 : decode cX5_view 22 = .ok (.iaload, 1) := by decide +kernel
theorem dX5_view_23 : decode cX5_view 23 = .ok (.iadd, 1) := by decide +kernel
theorem dX5_view_24 : decode cX5_view 24 = .ok (.iconst 3, 1) := by decide +kernel
theorem dX5_view_25 : decode cX5_view 25 = .ok (.aload_n 3, 1) := by decide +kernel
theorem dX5_view_26 : decode cX5_view 26 = .ok (.iconst 1, 1) := by decide +kernel
theorem dX5_view_27 : decode cX5_view 27 = .ok (.iaload, 1) := by decide +kernel
theorem dX5_view_28 : decode cX5_view 28 = .ok (.invokestatic 25, 3) := by decide +kernel
theorem dX5_view_31 : decode cX5_view 31 = .ok (.imul, 1) := by decide +kernel
theorem dX5_view_32 : decode cX5_view 32 = .ok (.iadd, 1) := by decide +kernel
theorem dX5_view_33 : decode cX5_view 33 = .ok (.iload_n 2, 1) := by decide +kernel
theorem dX5_view_34 : decode cX5_view 34 = .ok (.aload_n 3, 1) := by decide +kernel
theorem dX5_view_35 : decode cX5_view 35 = .ok (.iconst 2, 1) := by decide +kernel
theorem dX5_view_36 : decode cX5_view 36 = .ok (.iaload, 1) := by decide +kernel
theorem dX5_view_37 : decode cX5_view 37 = .ok (.imul, 1) := by decide +kernel
theorem dX5_view_38 : decode cX5_view 38 = .ok (.iadd, 1) := by decide +kernel
theorem dX5_view_39 : decode cX5_view 39 = .ok (.ireturn, 1) := by decide +kernel
set_option maxRecDepth 20000 in
theorem ggX5_ranked_X5_moon : GoodIn wsX5_ranked wsX5_moon := goodIn_r _ [7, 2, 8, 16, 17, 18, 19, 20] (by decide +kernel) (by decide +kernel)
set_option maxRecDepth 20000 in
theorem gX5_ranked_X5_moon : GoodIn wsX5_ranked (wsV RX5 29 RX5 yX5_moon wsX5_moon) := goodIn_app (goodIn_of _ (by decide +kernel)) ggX5_ranked_X5_moon
set_option maxRecDepth 20000 in
theorem ggX5_ranked_X5_view : GoodIn wsX5_ranked wsX5_view := goodIn_r _ [12, 1, 13, 14, 6, 15, 16, 17, 18, 19, 20] (by decide +kernel) (by decide +kernel)
set_option maxRecDepth 20000 in
theorem gX5_ranked_X5_view : GoodIn wsX5_ranked (wsV RX5 33 RX5 yX5_view wsX5_view) := goodIn_app (goodIn_of _ (by decide +kernel)) ggX5_ranked_X5_view
theorem dX5_ranked_0 : decode cX5_ranked 0 = .ok (.iconst 0, 1) := by decide +kernel
theorem dX5_ranked_1 : decode cX5_ranked 1 = .ok (.istore_n 1, 1) := by decide +kernel
theorem dX5_ranked_2 : decode cX5_ranked 2 = .ok (.aload_n 0, 1) := by decide +kernel
theorem dX5_ranked_3 : decode cX5_ranked 3 = .ok (.getfield 15, 3) := by decide +kernel
theorem dX5_ranked_6 : decode cX5_ranked 6 = .ok (.astore_n 2, 1) := by decide +kernel
theorem dX5_ranked_7 : decode cX5_ranked 7 = .ok (.aload_n 2, 1) := by decide +kernel
theorem dX5_ranked_8 : decode cX5_ranked 8 = .ok (.arraylength, 1) := by decide +kernel
theorem dX5_ranked_9 : decode cX5_ranked 9 = .ok (.istore_n 3, 1) := by decide +kernel
theorem dX5_ranked_10 : decode cX5_ranked 10 = .ok (.iconst 0, 1) := by decide +kernel
theorem dX5_ranked_11 : decode cX5_ranked 11 = .ok (.istore 4, 2) := by decide +kernel
theorem dX5_ranked_13 : decode cX5_ranked 13 = .ok (.iload 4, 2) := by decide +kernel
theorem dX5_ranked_15 : decode cX5_ranked 15 = .ok (.iload_n 3, 1) := by decide +kernel
theorem dX5_ranked_16 : decode cX5_ranked 16 = .ok (.if_icmp .ge 30, 3) := by decide +kernel
theorem dX5_ranked_19 : decode cX5_ranked 19 = .ok (.aload_n 2, 1) := by decide +kernel
theorem dX5_ranked_20 : decode cX5_ranked 20 = .ok (.iload 4, 2) := by decide +kernel
theorem dX5_ranked_22 : decode cX5_ranked 22 = .ok (.aaload, 1) := by decide +kernel
theorem dX5_ranked_23 : decode cX5_ranked 23 = .ok (.astore 5, 2) := by decide +kernel
theorem dX5_ranked_25 : decode cX5_ranked 25 = .ok (.iload_n 1, 1) := by decide +kernel
theorem dX5_ranked_26 : decode cX5_ranked 26 = .ok (.aload 5, 2) := by decide +kernel
theorem dX5_ranked_28 : decode cX5_ranked 28 = .ok (.iconst 0, 1) := by decide +kernel
theorem dX5_ranked_29 : decode cX5_ranked 29 = .ok (.iaload, 1) := by decide +kernel
theorem dX5_ranked_30 : decode cX5_ranked 30 = .ok (.ifCond .le 7, 3) := by decide +kernel
theorem dX5_ranked_33 : decode cX5_ranked 33 = .ok (.iconst 1, 1) := by decide +kernel
theorem dX5_ranked_34 : decode cX5_ranked 34 = .ok (.goto 4, 3) := by decide +kernel
theorem dX5_ranked_37 : decode cX5_ranked 37 = .ok (.iconst 0, 1) := by decide +kernel
theorem dX5_ranked_38 : decode cX5_ranked 38 = .ok (.iadd, 1) := by decide +kernel
theorem dX5_ranked_39 : decode cX5_ranked 39 = .ok (.istore_n 1, 1) := by decide +kernel
theorem dX5_ranked_40 : decode cX5_ranked 40 = .ok (.iinc 4 1, 3) := by decide +kernel
theorem dX5_ranked_43 : decode cX5_ranked 43 = .ok (.goto (-30), 3) := by decide +kernel
theorem dX5_ranked_46 : decode cX5_ranked 46 = .ok (.iload_n 1, 1) := by decide +kernel
theorem dX5_ranked_47 : decode cX5_ranked 47 = .ok (.newarray .int, 2) := by decide +kernel
theorem dX5_ranked_49 : decode cX5_ranked 49 = .ok (.astore_n 2, 1) := by decide +kernel
theorem dX5_ranked_50 : decode cX5_ranked 50 = .ok (.aload_n 0, 1) := by decide +kernel
theorem dX5_ranked_51 : decode cX5_ranked 51 = .ok (.getfield 15, 3) := by decide +kernel
theorem dX5_ranked_54 : decode cX5_ranked 54 = .ok (.arraylength, 1) := by decide +kernel
theorem dX5_ranked_55 : decode cX5_ranked 55 = .ok (.newarray .int, 2) := by decide +kernel
theorem dX5_ranked_57 : decode cX5_ranked 57 = .ok (.astore_n 3, 1) := by decide +kernel
theorem dX5_ranked_58 : decode cX5_ranked 58 = .ok (.aload_n 0, 1) := by decide +kernel
theorem dX5_ranked_59 : decode cX5_ranked 59 = .ok (.invokevirtual 29, 3) := by decide +kernel
theorem dX5_ranked_62 : decode cX5_ranked 62 = .ok (.istore 4, 2) := by decide +kernel
theorem dX5_ranked_64 : decode cX5_ranked 64 = .ok (.iconst 0, 1) := by decide +kernel
theorem dX5_ranked_65 : decode cX5_ranked 65 = .ok (.istore 5, 2) := by decide +kernel
theorem dX5_ranked_67 : decode cX5_ranked 67 = .ok (.iload 5, 2) := by decide +kernel
theorem dX5_ranked_69 : decode cX5_ranked 69 = .ok (.aload_n 0, 1) := by decide +kernel
theorem dX5_ranked_70 : decode cX5_ranked 70 = .ok (.getfield 15, 3) := by decide +kernel
theorem dX5_ranked_73 : decode cX5_ranked 73 = .ok (.arraylength, 1) := by decide +kernel
theorem dX5_ranked_74 : decode cX5_ranked 74 = .ok (.if_icmp .ge 63, 3) := by decide +kernel
theorem dX5_ranked_77 : decode cX5_ranked 77 = .ok (.aload_n 3, 1) := by decide +kernel
theorem dX5_ranked_78 : decode cX5_ranked 78 = .ok (.iload 5, 2) := by decide +kernel
theorem dX5_ranked_80 : decode cX5_ranked 80 = .ok (.aload_n 0, 1) := by decide +kernel
theorem dX5_ranked_81 : decode cX5_ranked 81 = .ok (.getfield 15, 3) := by decide +kernel
theorem dX5_ranked_84 : decode cX5_ranked 84 = .ok (.iload 5, 2) := by decide +kernel
theorem dX5_ranked_86 : decode cX5_ranked 86 = .ok (.aaload, 1) := by decide +kernel
theorem dX5_ranked_87 : decode cX5_ranked 87 = .ok (.iconst 0, 1) := by decide +kernel
theorem dX5_ranked_88 : decode cX5_ranked 88 = .ok (.iaload, 1) := by decide +kernel
theorem dX5_ranked_89 : decode cX5_ranked 89 = .ok (.ifCond .ne 7, 3) := by decide +kernel
theorem dX5_ranked_92 : decode cX5_ranked 92 = .ok (.iconst (-1), 1) := by decide +kernel
theorem dX5_ranked_93 : decode cX5_ranked 93 = .ok (.goto 37, 3) := by decide +kernel
theorem dX5_ranked_96 : decode cX5_ranked 96 = .ok (.sipush 1000, 3) := by decide +kernel
theorem dX5_ranked_99 : decode cX5_ranked 99 = .ok (.aload_n 0, 1) := by decide +kernel
theorem dX5_ranked_100 : decode cX5_ranked 100 = .ok (.iload 5, 2) := by decide +kernel
theorem dX5_ranked_102 : decode cX5_ranked 102 = .ok (.iload 4, 2) := by decide +kernel
theorem dX5_ranked_104 : decode cX5_ranked 104 = .ok (.invokevirtual 33, 3) := by decide +kernel
theorem dX5_ranked_107 : decode cX5_ranked 107 = .ok (.imul, 1) := by decide +kernel
theorem dX5_ranked_108 : decode cX5_ranked 108 = .ok (.bipush 100, 2) := by decide +kernel
theorem dX5_ranked_110 : decode cX5_ranked 110 = .ok (.bipush 9, 2) := by decide +kernel
theorem dX5_ranked_112 : decode cX5_ranked 112 = .ok (.aload_n 0, 1) := by decide +kernel
theorem dX5_ranked_113 : decode cX5_ranked 113 = .ok (.getfield 15, 3) := by decide +kernel
theorem dX5_ranked_116 : decode cX5_ranked 116 = .ok (.iload 5, 2) := by decide +kernel
theorem dX5_ranked_118 : decode cX5_ranked 118 = .ok (.aaload, 1) := by decide +kernel
theorem dX5_ranked_119 : decode cX5_ranked 119 = .ok (.iconst 3, 1) := by decide +kernel
theorem dX5_ranked_120 : decode cX5_ranked 120 = .ok (.iaload, 1) := by decide +kernel
theorem dX5_ranked_121 : decode cX5_ranked 121 = .ok (.isub, 1) := by decide +kernel
theorem dX5_ranked_122 : decode cX5_ranked 122 = .ok (.imul, 1) := by decide +kernel
theorem dX5_ranked_123 : decode cX5_ranked 123 = .ok (.iadd, 1) := by decide +kernel
theorem dX5_ranked_124 : decode cX5_ranked 124 = .ok (.bipush 10, 2) := by decide +kernel
theorem dX5_ranked_126 : decode cX5_ranked 126 = .ok (.iadd, 1) := by decide +kernel
theorem dX5_ranked_127 : decode cX5_ranked 127 = .ok (.iload 5, 2) := by decide +kernel
theorem dX5_ranked_129 : decode cX5_ranked 129 = .ok (.isub, 1) := by decide +kernel
theorem dX5_ranked_130 : decode cX5_ranked 130 = .ok (.iastore, 1) := by decide +kernel
theorem dX5_ranked_131 : decode cX5_ranked 131 = .ok (.iinc 5 1, 3) := by decide +kernel
theorem dX5_ranked_134 : decode cX5_ranked 134 = .ok (.goto (-67), 3) := by decide +kernel
theorem dX5_ranked_137 : decode cX5_ranked 137 = .ok (.iconst 0, 1) := by decide +kernel
theorem dX5_ranked_138 : decode cX5_ranked 138 = .ok (.istore 5, 2) := by decide +kernel
theorem dX5_ranked_140 : decode cX5_ranked 140 = .ok (.iload 5, 2) := by decide +kernel
theorem dX5_ranked_142 : decode cX5_ranked 142 = .ok (.iload_n 1, 1) := by decide +kernel
theorem dX5_ranked_143 : decode cX5_ranked 143 = .ok (.if_icmp .ge 54, 3) := by decide +kernel
theorem dX5_ranked_146 : decode cX5_ranked 146 = .ok (.iconst 0, 1) := by decide +kernel
theorem dX5_ranked_147 : decode cX5_ranked 147 = .ok (.istore 6, 2) := by decide +kernel
theorem dX5_ranked_149 : decode cX5_ranked 149 = .ok (.iconst 1, 1) := by decide +kernel
theorem dX5_ranked_150 : decode cX5_ranked 150 = .ok (.istore 7, 2) := by decide +kernel
theorem dX5_ranked_152 : decode cX5_ranked 152 = .ok (.iload 7, 2) := by decide +kernel
theorem dX5_ranked_154 : decode cX5_ranked 154 = .ok (.aload_n 3, 1) := by decide +kernel
theorem dX5_ranked_155 : decode cX5_ranked 155 = .ok (.arraylength, 1) := by decide +kernel
theorem dX5_ranked_156 : decode cX5_ranked 156 = .ok (.if_icmp .ge 24, 3) := by decide +kernel
theorem dX5_ranked_159 : decode cX5_ranked 159 = .ok (.aload_n 3, 1) := by decide +kernel
theorem dX5_ranked_160 : decode cX5_ranked 160 = .ok (.iload 7, 2) := by decide +kernel
theorem dX5_ranked_162 : decode cX5_ranked 162 = .ok (.iaload, 1) := by decide +kernel
theorem dX5_ranked_163 : decode cX5_ranked 163 = .ok (.aload_n 3, 1) := by decide +kernel
theorem dX5_ranked_164 : decode cX5_ranked 164 = .ok (.iload 6, 2) := by decide +kernel
theorem dX5_ranked_166 : decode cX5_ranked 166 = .ok (.iaload, 1) := by decide +kernel
theorem dX5_ranked_167 : decode cX5_ranked 167 = .ok (.if_icmp .le 7, 3) := by decide +kernel
theorem dX5_ranked_170 : decode cX5_ranked 170 = .ok (.iload 7, 2) := by decide +kernel
theorem dX5_ranked_172 : decode cX5_ranked 172 = .ok (.istore 6, 2) := by decide +kernel
theorem dX5_ranked_174 : decode cX5_ranked 174 = .ok (.iinc 7 1, 3) := by decide +kernel
theorem dX5_ranked_177 : decode cX5_ranked 177 = .ok (.goto (-25), 3) := by decide +kernel
theorem dX5_ranked_180 : decode cX5_ranked 180 = .ok (.aload_n 2, 1) := by decide +kernel
theorem dX5_ranked_181 : decode cX5_ranked 181 = .ok (.iload 5, 2) := by decide +kernel
theorem dX5_ranked_183 : decode cX5_ranked 183 = .ok (.iload 6, 2) := by decide +kernel
theorem dX5_ranked_185 : decode cX5_ranked 185 = .ok (.iastore, 1) := by decide +kernel
theorem dX5_ranked_186 : decode cX5_ranked 186 = .ok (.aload_n 3, 1) := by decide +kernel
theorem dX5_ranked_187 : decode cX5_ranked 187 = .ok (.iload 6, 2) := by decide +kernel
theorem dX5_ranked_189 : decode cX5_ranked 189 = .ok (.iconst (-1), 1) := by decide +kernel
theorem dX5_ranked_190 : decode cX5_ranked 190 = .ok (.iastore, 1) := by decide +kernel
theorem dX5_ranked_191 : decode cX5_ranked 191 = .ok (.iinc 5 1, 3) := by decide +kernel
theorem dX5_ranked_194 : decode cX5_ranked 194 = .ok (.goto (-54), 3) := by decide +kernel
theorem dX5_ranked_197 : decode cX5_ranked 197 = .ok (.aload_n 2, 1) := by decide +kernel
theorem dX5_ranked_198 : decode cX5_ranked 198 = .ok (.areturn, 1) := by decide +kernel
set_option maxRecDepth 20000 in
theorem ggX5_pass_X5_ranked : GoodIn wsX5_pass wsX5_ranked := goodIn_r _ [10, 3, 11, 12, 13, 14, 9, 15, 5, 16, 17, 18, 19, 20, 21, 22, 23, 24, 25, 26, 27] (by decide +kernel) (by decide +kernel)
set_option maxRecDepth 20000 in
theorem gX5_pass_X5_ranked : GoodIn wsX5_pass (wsV RX5 40 RX5 yX5_ranked wsX5_ranked) := goodIn_app (goodIn_of _ (by decide +kernel)) ggX5_pass_X5_ranked
set_option maxRecDepth 20000 in
theorem ggX5_pass_X5_moon : GoodIn wsX5_pass wsX5_moon := goodIn_r _ [15, 11, 5, 23, 24, 25, 26, 27] (by decide +kernel) (by decide +kernel)
set_option maxRecDepth 20000 in
theorem gX5_pass_X5_moon : GoodIn wsX5_pass (wsV RX5 29 RX5 yX5_moon wsX5_moon) := goodIn_app (goodIn_of _ (by decide +kernel)) ggX5_pass_X5_moon
set_option maxRecDepth 20000 in
theorem ggX5_pass_X5_grade : GoodIn wsX5_pass wsX5_grade := goodIn_r _ [22] (by decide +kernel) (by decide +kernel)
set_option maxRecDepth 20000 in
theorem gX5_pass_X5_grade : GoodIn wsX5_pass (va_wsS RX5 25 yX5_grade wsX5_grade) := goodIn_app (goodIn_of _ (by decide +kernel)) ggX5_pass_X5_grade
theorem dX5_pass_0 : decode cX5_pass 0 = .ok (.aload_n 0, 1) := by decide +kernel
theorem dX5_pass_1 : decode cX5_pass 1 = .ok (.getfield 37, 3) := by decide +kernel
theorem dX5_pass_4 : decode cX5_pass 4 = .ok (.istore_n 1, 1) := by decide +kernel
theorem dX5_pass_5 : decode cX5_pass 5 = .ok (.aload_n 0, 1) := by decide +kernel
theorem dX5_pass_6 : decode cX5_pass 6 = .ok (.getfield 7, 3) := by decide +kernel
theorem dX5_pass_9 : decode cX5_pass 9 = .ok (.istore_n 2, 1) := by decide +kernel
theorem dX5_pass_10 : decode cX5_pass 10 = .ok (.aload_n 0, 1) := by decide +kernel
theorem dX5_pass_11 : decode cX5_pass 11 = .ok (.invokevirtual 40, 3) := by decide +kernel
theorem dX5_pass_14 : decode cX5_pass 14 = .ok (.astore_n 3, 1) := by decide +kernel
theorem dX5_pass_15 : decode cX5_pass 15 = .ok (.aload_n 3, 1) := by decide +kernel
theorem dX5_pass_16 : decode cX5_pass 16 = .ok (.arraylength, 1) := by decide +kernel
theorem dX5_pass_17 : decode cX5_pass 17 = .ok (.istore 4, 2) := by decide +kernel
theorem dX5_pass_19 : decode cX5_pass 19 = .ok (.iconst 0, 1) := by decide +kernel
theorem dX5_pass_20 : decode cX5_pass 20 = .ok (.istore 5, 2) := by decide +kernel
theorem dX5_pass_22 : decode cX5_pass 22 = .ok (.iload 5, 2) := by decide +kernel
theorem dX5_pass_24 : decode cX5_pass 24 = .ok (.iload 4, 2) := by decide +kernel
theorem dX5_pass_26 : decode cX5_pass 26 = .ok (.if_icmp .ge 48, 3) := by decide +kernel
theorem dX5_pass_29 : decode cX5_pass 29 = .ok (.aload_n 3, 1) := by decide +kernel
theorem dX5_pass_30 : decode cX5_pass 30 = .ok (.iload 5, 2) := by decide +kernel
theorem dX5_pass_32 : decode cX5_pass 32 = .ok (.iaload, 1) := by decide +kernel
theorem dX5_pass_33 : decode cX5_pass 33 = .ok (.istore 6, 2) := by decide +kernel
theorem dX5_pass_35 : decode cX5_pass 35 = .ok (.iload_n 2, 1) := by decide +kernel
theorem dX5_pass_36 : decode cX5_pass 36 = .ok (.iconst 1, 1) := by decide +kernel
theorem dX5_pass_37 : decode cX5_pass 37 = .ok (.iadd, 1) := by decide +kernel
theorem dX5_pass_38 : decode cX5_pass 38 = .ok (.iconst 2, 1) := by decide +kernel
theorem dX5_pass_39 : decode cX5_pass 39 = .ok (.idiv, 1) := by decide +kernel
theorem dX5_pass_40 : decode cX5_pass 40 = .ok (.istore 7, 2) := by decide +kernel
theorem dX5_pass_42 : decode cX5_pass 42 = .ok (.aload_n 0, 1) := by decide +kernel
theorem dX5_pass_43 : decode cX5_pass 43 = .ok (.dup, 1) := by decide +kernel
theorem dX5_pass_44 : decode cX5_pass 44 = .ok (.getfield 37, 3) := by decide +kernel
theorem dX5_pass_47 : decode cX5_pass 47 = .ok (.iload 7, 2) := by decide +kernel
theorem dX5_pass_49 : decode cX5_pass 49 = .ok (.aload_n 0, 1) := by decide +kernel
theorem dX5_pass_50 : decode cX5_pass 50 = .ok (.getfield 15, 3) := by decide +kernel
theorem dX5_pass_53 : decode cX5_pass 53 = .ok (.iload 6, 2) := by decide +kernel
theorem dX5_pass_55 : decode cX5_pass 55 = .ok (.aaload, 1) := by decide +kernel
theorem dX5_pass_56 : decode cX5_pass 56 = .ok (.iconst 3, 1) := by decide +kernel
theorem dX5_pass_57 : decode cX5_pass 57 = .ok (.iaload, 1) := by decide +kernel
theorem dX5_pass_58 : decode cX5_pass 58 = .ok (.imul, 1) := by decide +kernel
theorem dX5_pass_59 : decode cX5_pass 59 = .ok (.iadd, 1) := by decide +kernel
theorem dX5_pass_60 : decode cX5_pass 60 = .ok (.putfield 37, 3) := by decide +kernel
theorem dX5_pass_63 : decode cX5_pass 63 = .ok (.iload_n 2, 1) := by decide +kernel
theorem dX5_pass_64 : decode cX5_pass 64 = .ok (.iload 7, 2) := by decide +kernel
theorem dX5_pass_66 : decode cX5_pass 66 = .ok (.isub, 1) := by decide +kernel
theorem dX5_pass_67 : decode cX5_pass 67 = .ok (.istore_n 2, 1) := by decide +kernel
theorem dX5_pass_68 : decode cX5_pass 68 = .ok (.iinc 5 1, 3) := by decide +kernel
theorem dX5_pass_71 : decode cX5_pass 71 = .ok (.goto (-49), 3) := by decide +kernel
theorem dX5_pass_74 : decode cX5_pass 74 = .ok (.aload_n 0, 1) := by decide +kernel
theorem dX5_pass_75 : decode cX5_pass 75 = .ok (.getfield 19, 3) := by decide +kernel
theorem dX5_pass_78 : decode cX5_pass 78 = .ok (.astore_n 3, 1) := by decide +kernel
theorem dX5_pass_79 : decode cX5_pass 79 = .ok (.aload_n 3, 1) := by decide +kernel
theorem dX5_pass_80 : decode cX5_pass 80 = .ok (.arraylength, 1) := by decide +kernel
theorem dX5_pass_81 : decode cX5_pass 81 = .ok (.istore 4, 2) := by decide +kernel
theorem dX5_pass_83 : decode cX5_pass 83 = .ok (.iconst 0, 1) := by decide +kernel
theorem dX5_pass_84 : decode cX5_pass 84 = .ok (.istore 5, 2) := by decide +kernel
theorem dX5_pass_86 : decode cX5_pass 86 = .ok (.iload 5, 2) := by decide +kernel
theorem dX5_pass_88 : decode cX5_pass 88 = .ok (.iload 4, 2) := by decide +kernel
theorem dX5_pass_90 : decode cX5_pass 90 = .ok (.if_icmp .ge 80, 3) := by decide +kernel
theorem dX5_pass_93 : decode cX5_pass 93 = .ok (.aload_n 3, 1) := by decide +kernel
theorem dX5_pass_94 : decode cX5_pass 94 = .ok (.iload 5, 2) := by decide +kernel
theorem dX5_pass_96 : decode cX5_pass 96 = .ok (.aaload, 1) := by decide +kernel
theorem dX5_pass_97 : decode cX5_pass 97 = .ok (.astore 6, 2) := by decide +kernel
theorem dX5_pass_99 : decode cX5_pass 99 = .ok (.aload 6, 2) := by decide +kernel
theorem dX5_pass_101 : decode cX5_pass 101 = .ok (.iconst 1, 1) := by decide +kernel
theorem dX5_pass_102 : decode cX5_pass 102 = .ok (.iaload, 1) := by decide +kernel
theorem dX5_pass_103 : decode cX5_pass 103 = .ok (.aload_n 0, 1) := by decide +kernel
theorem dX5_pass_104 : decode cX5_pass 104 = .ok (.getfield 22, 3) := by decide +kernel
theorem dX5_pass_107 : decode cX5_pass 107 = .ok (.if_icmp .ne 57, 3) := by decide +kernel
theorem dX5_pass_110 : decode cX5_pass 110 = .ok (.aload 6, 2) := by decide +kernel
theorem dX5_pass_112 : decode cX5_pass 112 = .ok (.iconst 3, 1) := by decide +kernel
theorem dX5_pass_113 : decode cX5_pass 113 = .ok (.iaload, 1) := by decide +kernel
theorem dX5_pass_114 : decode cX5_pass 114 = .ok (.ifCond .le 6, 3) := by decide +kernel
theorem dX5_pass_117 : decode cX5_pass 117 = .ok (.goto 47, 3) := by decide +kernel
theorem dX5_pass_120 : decode cX5_pass 120 = .ok (.aload 6, 2) := by decide +kernel
theorem dX5_pass_122 : decode cX5_pass 122 = .ok (.iconst 3, 1) := by decide +kernel
theorem dX5_pass_123 : decode cX5_pass 123 = .ok (.aload_n 0, 1) := by decide +kernel
theorem dX5_pass_124 : decode cX5_pass 124 = .ok (.getfield 15, 3) := by decide +kernel
theorem dX5_pass_127 : decode cX5_pass 127 = .ok (.aload 6, 2) := by decide +kernel
theorem dX5_pass_129 : decode cX5_pass 129 = .ok (.iconst 0, 1) := by decide +kernel
theorem dX5_pass_130 : decode cX5_pass 130 = .ok (.iaload, 1) := by decide +kernel
theorem dX5_pass_131 : decode cX5_pass 131 = .ok (.aaload, 1) := by decide +kernel
theorem dX5_pass_132 : decode cX5_pass 132 = .ok (.iconst 0, 1) := by decide +kernel
theorem dX5_pass_133 : decode cX5_pass 133 = .ok (.iaload, 1) := by decide +kernel
theorem dX5_pass_134 : decode cX5_pass 134 = .ok (.ifCond .le 7, 3) := by decide +kernel
theorem dX5_pass_137 : decode cX5_pass 137 = .ok (.iconst 1, 1) := by decide +kernel
theorem dX5_pass_138 : decode cX5_pass 138 = .ok (.goto 4, 3) := by decide +kernel
theorem dX5_pass_141 : decode cX5_pass 141 = .ok (.iconst 2, 1) := by decide +kernel
theorem dX5_pass_142 : decode cX5_pass 142 = .ok (.iastore, 1) := by decide +kernel
theorem dX5_pass_143 : decode cX5_pass 143 = .ok (.aload 6, 2) := by decide +kernel
theorem dX5_pass_145 : decode cX5_pass 145 = .ok (.iconst 3, 1) := by decide +kernel
theorem dX5_pass_146 : decode cX5_pass 146 = .ok (.iaload, 1) := by decide +kernel
theorem dX5_pass_147 : decode cX5_pass 147 = .ok (.iconst 2, 1) := by decide +kernel
theorem dX5_pass_148 : decode cX5_pass 148 = .ok (.if_icmp .ne 16, 3) := by decide +kernel
theorem dX5_pass_151 : decode cX5_pass 151 = .ok (.aload_n 0, 1) := by decide +kernel
theorem dX5_pass_152 : decode cX5_pass 152 = .ok (.dup, 1) := by decide +kernel
theorem dX5_pass_153 : decode cX5_pass 153 = .ok (.getfield 37, 3) := by decide +kernel
theorem dX5_pass_156 : decode cX5_pass 156 = .ok (.aload 6, 2) := by decide +kernel
theorem dX5_pass_158 : decode cX5_pass 158 = .ok (.iconst 2, 1) := by decide +kernel
theorem dX5_pass_159 : decode cX5_pass 159 = .ok (.iaload, 1) := by decide +kernel
theorem dX5_pass_160 : decode cX5_pass 160 = .ok (.isub, 1) := by decide +kernel
theorem dX5_pass_161 : decode cX5_pass 161 = .ok (.putfield 37, 3) := by decide +kernel
theorem dX5_pass_164 : decode cX5_pass 164 = .ok (.iinc 5 1, 3) := by decide +kernel
theorem dX5_pass_167 : decode cX5_pass 167 = .ok (.goto (-81), 3) := by decide +kernel
theorem dX5_pass_170 : decode cX5_pass 170 = .ok (.aload_n 0, 1) := by decide +kernel
theorem dX5_pass_171 : decode cX5_pass 171 = .ok (.invokevirtual 29, 3) := by decide +kernel
theorem dX5_pass_174 : decode cX5_pass 174 = .ok (.istore_n 3, 1) := by decide +kernel
theorem dX5_pass_175 : decode cX5_pass 175 = .ok (.aload_n 0, 1) := by decide +kernel
theorem dX5_pass_176 : decode cX5_pass 176 = .ok (.getfield 15, 3) := by decide +kernel
theorem dX5_pass_179 : decode cX5_pass 179 = .ok (.astore 4, 2) := by decide +kernel
theorem dX5_pass_181 : decode cX5_pass 181 = .ok (.aload 4, 2) := by decide +kernel
theorem dX5_pass_183 : decode cX5_pass 183 = .ok (.arraylength, 1) := by decide +kernel
theorem dX5_pass_184 : decode cX5_pass 184 = .ok (.istore 5, 2) := by decide +kernel
theorem dX5_pass_186 : decode cX5_pass 186 = .ok (.iconst 0, 1) := by decide +kernel
theorem dX5_pass_187 : decode cX5_pass 187 = .ok (.istore 6, 2) := by decide +kernel
theorem dX5_pass_189 : decode cX5_pass 189 = .ok (.iload 6, 2) := by decide +kernel
theorem dX5_pass_191 : decode cX5_pass 191 = .ok (.iload 5, 2) := by decide +kernel
theorem dX5_pass_193 : decode cX5_pass 193 = .ok (.if_icmp .ge 142, 3) := by decide +kernel
theorem dX5_pass_196 : decode cX5_pass 196 = .ok (.aload 4, 2) := by decide +kernel
theorem dX5_pass_198 : decode cX5_pass 198 = .ok (.iload 6, 2) := by decide +kernel
theorem dX5_pass_200 : decode cX5_pass 200 = .ok (.aaload, 1) := by decide +kernel
theorem dX5_pass_201 : decode cX5_pass 201 = .ok (.astore 7, 2) := by decide +kernel
theorem dX5_pass_203 : decode cX5_pass 203 = .ok (.aload 7, 2) := by decide +kernel
theorem dX5_pass_205 : decode cX5_pass 205 = .ok (.iconst 0, 1) := by decide +kernel
theorem dX5_pass_206 : decode cX5_pass 206 = .ok (.iaload, 1) := by decide +kernel
theorem dX5_pass_207 : decode cX5_pass 207 = .ok (.ifCond .le 48, 3) := by decide +kernel
theorem dX5_pass_210 : decode cX5_pass 210 = .ok (.aload_n 0, 1) := by decide +kernel
theorem dX5_pass_211 : decode cX5_pass 211 = .ok (.getfield 22, 3) := by decide +kernel
theorem dX5_pass_214 : decode cX5_pass 214 = .ok (.iconst 1, 1) := by decide +kernel
theorem dX5_pass_215 : decode cX5_pass 215 = .ok (.iadd, 1) := by decide +kernel
theorem dX5_pass_216 : decode cX5_pass 216 = .ok (.iconst 3, 1) := by decide +kernel
theorem dX5_pass_217 : decode cX5_pass 217 = .ok (.irem, 1) := by decide +kernel
theorem dX5_pass_218 : decode cX5_pass 218 = .ok (.ifCond .ne 20, 3) := by decide +kernel
theorem dX5_pass_221 : decode cX5_pass 221 = .ok (.aload 7, 2) := by decide +kernel
theorem dX5_pass_223 : decode cX5_pass 223 = .ok (.iconst 1, 1) := by decide +kernel
theorem dX5_pass_224 : decode cX5_pass 224 = .ok (.iaload, 1) := by decide +kernel
theorem dX5_pass_225 : decode cX5_pass 225 = .ok (.bipush 12, 2) := by decide +kernel
theorem dX5_pass_227 : decode cX5_pass 227 = .ok (.if_icmp .ge 11, 3) := by decide +kernel
theorem dX5_pass_230 : decode cX5_pass 230 = .ok (.aload 7, 2) := by decide +kernel
theorem dX5_pass_232 : decode cX5_pass 232 = .ok (.iconst 1, 1) := by decide +kernel
theorem dX5_pass_233 : decode cX5_pass 233 = .ok (.dup2, 1) := by decide +kernel
theorem dX5_pass_234 : decode cX5_pass 234 = .ok (.iaload, 1) := by decide +kernel
theorem dX5_pass_235 : decode cX5_pass 235 = .ok (.iconst 1, 1) := by decide +kernel
theorem dX5_pass_236 : decode cX5_pass 236 = .ok (.iadd, 1) := by decide +kernel
theorem dX5_pass_237 : decode cX5_pass 237 = .ok (.iastore, 1) := by decide +kernel
theorem dX5_pass_238 : decode cX5_pass 238 = .ok (.aload 7, 2) := by decide +kernel
theorem dX5_pass_240 : decode cX5_pass 240 = .ok (.iconst 1, 1) := by decide +kernel
theorem dX5_pass_241 : decode cX5_pass 241 = .ok (.iaload, 1) := by decide +kernel
theorem dX5_pass_242 : decode cX5_pass 242 = .ok (.bipush 10, 2) := by decide +kernel
theorem dX5_pass_244 : decode cX5_pass 244 = .ok (.if_icmp .lt 11, 3) := by decide +kernel
theorem dX5_pass_247 : decode cX5_pass 247 = .ok (.aload 7, 2) := by decide +kernel
theorem dX5_pass_249 : decode cX5_pass 249 = .ok (.iconst 0, 1) := by decide +kernel
theorem dX5_pass_250 : decode cX5_pass 250 = .ok (.dup2, 1) := by decide +kernel
theorem dX5_pass_251 : decode cX5_pass 251 = .ok (.iaload, 1) := by decide +kernel
theorem dX5_pass_252 : decode cX5_pass 252 = .ok (.iconst 1, 1) := by decide +kernel
theorem dX5_pass_253 : decode cX5_pass 253 = .ok (.isub, 1) := by decide +kernel
theorem dX5_pass_254 : decode cX5_pass 254 = .ok (.iastore, 1) := by decide +kernel
theorem dX5_pass_255 : decode cX5_pass 255 = .ok (.aload 7, 2) := by decide +kernel
theorem dX5_pass_257 : decode cX5_pass 257 = .ok (.iconst 1, 1) := by decide +kernel
theorem dX5_pass_258 : decode cX5_pass 258 = .ok (.iaload, 1) := by decide +kernel
theorem dX5_pass_259 : decode cX5_pass 259 = .ok (.invokestatic 25, 3) := by decide +kernel
theorem dX5_pass_262 : decode cX5_pass 262 = .ok (.istore 8, 2) := by decide +kernel
theorem dX5_pass_264 : decode cX5_pass 264 = .ok (.iload_n 3, 1) := by decide +kernel
theorem dX5_pass_265 : decode cX5_pass 265 = .ok (.iconst 4, 1) := by decide +kernel
theorem dX5_pass_266 : decode cX5_pass 266 = .ok (.if_icmp .ne 32, 3) := by decide +kernel
theorem dX5_pass_269 : decode cX5_pass 269 = .ok (.aload 7, 2) := by decide +kernel
theorem dX5_pass_271 : decode cX5_pass 271 = .ok (.iconst 0, 1) := by decide +kernel
theorem dX5_pass_272 : decode cX5_pass 272 = .ok (.iaload, 1) := by decide +kernel
theorem dX5_pass_273 : decode cX5_pass 273 = .ok (.ifCond .le 25, 3) := by decide +kernel
theorem dX5_pass_276 : decode cX5_pass 276 = .ok (.iload 8, 2) := by decide +kernel
theorem dX5_pass_278 : decode cX5_pass 278 = .ok (.iconst 3, 1) := by decide +kernel
theorem dX5_pass_279 : decode cX5_pass 279 = .ok (.if_icmp .ne 19, 3) := by decide +kernel
theorem dX5_pass_282 : decode cX5_pass 282 = .ok (.aload 7, 2) := by decide +kernel
theorem dX5_pass_284 : decode cX5_pass 284 = .ok (.iconst 2, 1) := by decide +kernel
theorem dX5_pass_285 : decode cX5_pass 285 = .ok (.iaload, 1) := by decide +kernel
theorem dX5_pass_286 : decode cX5_pass 286 = .ok (.iconst 5, 1) := by decide +kernel
theorem dX5_pass_287 : decode cX5_pass 287 = .ok (.if_icmp .ge 11, 3) := by decide +kernel
theorem dX5_pass_290 : decode cX5_pass 290 = .ok (.aload 7, 2) := by decide +kernel
theorem dX5_pass_292 : decode cX5_pass 292 = .ok (.iconst 2, 1) := by decide +kernel
theorem dX5_pass_293 : decode cX5_pass 293 = .ok (.dup2, 1) := by decide +kernel
theorem dX5_pass_294 : decode cX5_pass 294 = .ok (.iaload, 1) := by decide +kernel
theorem dX5_pass_295 : decode cX5_pass 295 = .ok (.iconst 1, 1) := by decide +kernel
theorem dX5_pass_296 : decode cX5_pass 296 = .ok (.iadd, 1) := by decide +kernel
theorem dX5_pass_297 : decode cX5_pass 297 = .ok (.iastore, 1) := by decide +kernel
theorem dX5_pass_298 : decode cX5_pass 298 = .ok (.iload_n 3, 1) := by decide +kernel
theorem dX5_pass_299 : decode cX5_pass 299 = .ok (.ifCond .ne 30, 3) := by decide +kernel
theorem dX5_pass_302 : decode cX5_pass 302 = .ok (.aload 7, 2) := by decide +kernel
theorem dX5_pass_304 : decode cX5_pass 304 = .ok (.iconst 2, 1) := by decide +kernel
theorem dX5_pass_305 : decode cX5_pass 305 = .ok (.iaload, 1) := by decide +kernel
theorem dX5_pass_306 : decode cX5_pass 306 = .ok (.ifCond .le 23, 3) := by decide +kernel
theorem dX5_pass_309 : decode cX5_pass 309 = .ok (.iload 8, 2) := by decide +kernel
theorem dX5_pass_311 : decode cX5_pass 311 = .ok (.ifCond .eq 10, 3) := by decide +kernel
theorem dX5_pass_314 : decode cX5_pass 314 = .ok (.aload 7, 2) := by decide +kernel
theorem dX5_pass_316 : decode cX5_pass 316 = .ok (.iconst 0, 1) := by decide +kernel
theorem dX5_pass_317 : decode cX5_pass 317 = .ok (.iaload, 1) := by decide +kernel
theorem dX5_pass_318 : decode cX5_pass 318 = .ok (.ifCond .ne 11, 3) := by decide +kernel
theorem dX5_pass_321 : decode cX5_pass 321 = .ok (.aload 7, 2) := by decide +kernel
theorem dX5_pass_323 : decode cX5_pass 323 = .ok (.iconst 2, 1) := by decide +kernel
theorem dX5_pass_324 : decode cX5_pass 324 = .ok (.dup2, 1) := by decide +kernel
theorem dX5_pass_325 : decode cX5_pass 325 = .ok (.iaload, 1) := by decide +kernel
theorem dX5_pass_326 : decode cX5_pass 326 = .ok (.iconst 1, 1) := by decide +kernel
theorem dX5_pass_327 : decode cX5_pass 327 = .ok (.isub, 1) := by decide +kernel
theorem dX5_pass_328 : decode cX5_pass 328 = .ok (.iastore, 1) := by decide +kernel
theorem dX5_pass_329 : decode cX5_pass 329 = .ok (.iinc 6 1, 3) := by decide +kernel
theorem dX5_pass_332 : decode cX5_pass 332 = .ok (.goto (-143), 3) := by decide +kernel
theorem dX5_pass_335 : decode cX5_pass 335 = .ok (.aload_n 0, 1) := by decide +kernel
theorem dX5_pass_336 : decode cX5_pass 336 = .ok (.dup, 1) := by decide +kernel
theorem dX5_pass_337 : decode cX5_pass 337 = .ok (.getfield 22, 3) := by decide +kernel
theorem dX5_pass_340 : decode cX5_pass 340 = .ok (.iconst 1, 1) := by decide +kernel
theorem dX5_pass_341 : decode cX5_pass 341 = .ok (.iadd, 1) := by decide +kernel
theorem dX5_pass_342 : decode cX5_pass 342 = .ok (.putfield 22, 3) := by decide +kernel
theorem dX5_pass_345 : decode cX5_pass 345 = .ok (.aload_n 0, 1) := by decide +kernel
theorem dX5_pass_346 : decode cX5_pass 346 = .ok (.getfield 37, 3) := by decide +kernel
theorem dX5_pass_349 : decode cX5_pass 349 = .ok (.iload_n 1, 1) := by decide +kernel
theorem dX5_pass_350 : decode cX5_pass 350 = .ok (.isub, 1) := by decide +kernel
theorem dX5_pass_351 : decode cX5_pass 351 = .ok (.ireturn, 1) := by decide +kernel
set_option maxRecDepth 20000 in
theorem ggX5_behind_X5_pass : GoodIn wsX5_behind wsX5_pass := goodIn_r _ [5, 6, 7, 8, 9, 10, 11, 12, 13, 4, 14, 15, 16, 17, 18, 19, 20, 21, 22, 23, 24, 25, 26, 27, 28, 29, 30, 31] (by decide +kernel) (by decide +kernel)
set_option maxRecDepth 20000 in
theorem gX5_behind_X5_pass : GoodIn wsX5_behind (wsV RX5 44 RX5 yX5_pass wsX5_pass) := goodIn_app (goodIn_of _ (by decide +kernel)) ggX5_behind_X5_pass
theorem dX5_behind_0 : decode cX5_behind 0 = .ok (.iconst 0, 1) := by decide +kernel
theorem dX5_behind_1 : decode cX5_behind 1 = .ok (.istore_n 2, 1) := by decide +kernel
theorem dX5_behind_2 : decode cX5_behind 2 = .ok (.iconst 0, 1) := by decide +kernel
theorem dX5_behind_3 : decode cX5_behind 3 = .ok (.istore_n 3, 1) := by decide +kernel
theorem dX5_behind_4 : decode cX5_behind 4 = .ok (.iload_n 3, 1) := by decide +kernel
theorem dX5_behind_5 : decode cX5_behind 5 = .ok (.iload_n 1, 1) := by decide +kernel
theorem dX5_behind_6 : decode cX5_behind 6 = .ok (.if_icmp .ge 16, 3) := by decide +kernel
theorem dX5_behind_9 : decode cX5_behind 9 = .ok (.iload_n 2, 1) := by decide +kernel
theorem dX5_behind_10 : decode cX5_behind 10 = .ok (.aload_n 0, 1) := by decide +kernel
theorem dX5_behind_11 : decode cX5_behind 11 = .ok (.invokevirtual 44, 3) := by decide +kernel
theorem dX5_behind_14 : decode cX5_behind 14 = .ok (.iadd, 1) := by decide +kernel
theorem dX5_behind_15 : decode cX5_behind 15 = .ok (.istore_n 2, 1) := by decide +kernel
theorem dX5_behind_16 : decode cX5_behind 16 = .ok (.iinc 3 1, 3) := by decide +kernel
theorem dX5_behind_19 : decode cX5_behind 19 = .ok (.goto (-15), 3) := by decide +kernel
theorem dX5_behind_22 : decode cX5_behind 22 = .ok (.iload_n 2, 1) := by decide +kernel
theorem dX5_behind_23 : decode cX5_behind 23 = .ok (.ireturn, 1) := by decide +kernel
set_option maxRecDepth 20000 in
theorem ggX5_isSame_X5_ranked : GoodIn wsX5_isSame wsX5_ranked := goodIn_r _ [10, 2, 11, 12, 13, 14, 9, 15, 1, 16, 17, 18, 19, 20, 21, 22, 215, 216, 217, 218, 219] (by decide +kernel) (by decide +kernel)
set_option maxRecDepth 20000 in
theorem gX5_isSame_X5_ranked : GoodIn wsX5_isSame (wsV RX5 40 RX5 yX5_ranked wsX5_ranked) := goodIn_app (goodIn_of _ (by decide +kernel)) ggX5_isSame_X5_ranked
set_option maxRecDepth 20000 in
theorem ggX5_isSame_X4_day : GoodIn wsX5_isSame wsX4_day := goodIn_r _ [27, 28, 29, 220, 221, 222, 223, 224, 225, 226] (by decide +kernel) (by decide +kernel)
set_option maxRecDepth 20000 in
theorem gX5_isSame_X4_day : GoodIn wsX5_isSame (wsV RX5 52 RX4 yX4_day wsX4_day) := goodIn_app (goodIn_of _ (by decide +kernel)) ggX5_isSame_X4_day
set_option maxRecDepth 20000 in
theorem ggX5_isSame_X4_phase : GoodIn wsX5_isSame wsX4_phase := goodIn_r _ [33, 28, 29, 34, 35, 36, 37, 220, 221, 222, 223, 224, 225, 226] (by decide +kernel) (by decide +kernel)
set_option maxRecDepth 20000 in
theorem gX5_isSame_X4_phase : GoodIn wsX5_isSame (wsV RX5 56 RX4 yX4_phase wsX4_phase) := goodIn_app (goodIn_of _ (by decide +kernel)) ggX5_isSame_X4_phase
set_option maxRecDepth 20000 in
theorem ggX5_isSame_X4_brightness : GoodIn wsX5_isSame wsX4_brightness := goodIn_r _ [41, 28, 29, 42, 43, 36, 44, 45, 35, 37, 220, 221, 222, 223, 224, 225, 226] (by decide +kernel) (by decide +kernel)
set_option maxRecDepth 20000 in
theorem gX5_isSame_X4_brightness : GoodIn wsX5_isSame (wsV RX5 59 RX4 yX4_brightness wsX4_brightness) := goodIn_app (goodIn_of _ (by decide +kernel)) ggX5_isSame_X4_brightness
set_option maxRecDepth 20000 in
theorem ggX5_isSame_X5_moon : GoodIn wsX5_isSame wsX5_moon := goodIn_r _ [15, 11, 1, 215, 216, 217, 218, 219] (by decide +kernel) (by decide +kernel)
set_option maxRecDepth 20000 in
theorem gX5_isSame_X5_moon : GoodIn wsX5_isSame (wsV RX5 29 RX5 yX5_moon wsX5_moon) := goodIn_app (goodIn_of _ (by decide +kernel)) ggX5_isSame_X5_moon
set_option maxRecDepth 20000 in
theorem ggX5_isSame_X4_daysUntilFullMoon : GoodIn wsX5_isSame wsX4_daysUntilFullMoon := goodIn_r _ [49, 28, 29, 50, 51, 36, 52, 45, 35, 37, 220, 221, 222, 223, 224, 225, 226] (by decide +kernel) (by decide +kernel)
set_option maxRecDepth 20000 in
theorem gX5_isSame_X4_daysUntilFullMoon : GoodIn wsX5_isSame (wsV RX5 62 RX4 yX4_daysUntilFullMoon wsX4_daysUntilFullMoon) := goodIn_app (goodIn_of _ (by decide +kernel)) ggX5_isSame_X4_daysUntilFullMoon
set_option maxRecDepth 20000 in
theorem ggX5_isSame_X4_ruins : GoodIn wsX5_isSame wsX4_ruins := goodIn_r _ [56, 28, 57, 58, 220, 221, 222, 223, 224, 225, 226, 227, 228, 229, 230, 231, 232, 233] (by decide +kernel) (by decide +kernel)
set_option maxRecDepth 20000 in
theorem gX5_isSame_X4_ruins : GoodIn wsX5_isSame (wsV RX5 65 RX4 yX4_ruins wsX4_ruins) := goodIn_app (goodIn_of _ (by decide +kernel)) ggX5_isSame_X4_ruins
set_option maxRecDepth 20000 in
theorem ggX5_isSame_X4_standing : GoodIn wsX5_isSame wsX4_standing := goodIn_r _ [62, 28, 57, 63, 64, 65, 66, 67, 68, 69, 220, 221, 222, 223, 224, 225, 226, 227, 228, 229, 230, 231, 232, 233] (by decide +kernel) (by decide +kernel)
set_option maxRecDepth 20000 in
theorem gX5_isSame_X4_standing : GoodIn wsX5_isSame (wsV RX5 67 RX4 yX4_standing wsX4_standing) := goodIn_app (goodIn_of _ (by decide +kernel)) ggX5_isSame_X4_standing
set_option maxRecDepth 20000 in
theorem ggX5_isSame_X4_purse : GoodIn wsX5_isSame wsX4_purse := goodIn_r _ [73, 28, 74, 220, 221, 222, 223, 224, 225, 226] (by decide +kernel) (by decide +kernel)
set_option maxRecDepth 20000 in
theorem gX5_isSame_X4_purse : GoodIn wsX5_isSame (wsV RX5 70 RX4 yX4_purse wsX4_purse) := goodIn_app (goodIn_of _ (by decide +kernel)) ggX5_isSame_X4_purse
set_option maxRecDepth 20000 in
theorem ggX5_isSame_X4_tickets : GoodIn wsX5_isSame wsX4_tickets := goodIn_r _ [78, 28, 79, 80, 220, 221, 222, 223, 224, 225, 226, 234, 235, 236, 237, 238] (by decide +kernel) (by decide +kernel)
set_option maxRecDepth 20000 in
theorem gX5_isSame_X4_tickets : GoodIn wsX5_isSame (wsV RX5 72 RX4 yX4_tickets wsX4_tickets) := goodIn_app (goodIn_of _ (by decide +kernel)) ggX5_isSame_X4_tickets
set_option maxRecDepth 20000 in
theorem ggX5_isSame_X5_view : GoodIn wsX5_isSame wsX5_view := goodIn_r _ [19, 2, 20, 21, 9, 22, 215, 216, 217, 218, 219] (by decide +kernel) (by decide +kernel)
set_option maxRecDepth 20000 in
theorem gX5_isSame_X5_view : GoodIn wsX5_isSame (wsV RX5 33 RX5 yX5_view wsX5_view) := goodIn_app (goodIn_of _ (by decide +kernel)) ggX5_isSame_X5_view
set_option maxRecDepth 20000 in
theorem ggX5_isSame_X4_ruinAt : GoodIn wsX5_isSame wsX4_ruinAt := goodIn_ca (goodIn_r _ [84, 85, 86, 28, 57, 63, 64, 65, 66, 67, 68, 69, 87, 88, 26, 89, 90, 91, 92, 93, 94, 95, 96, 97, 43, 36, 44, 45, 35, 37, 98, 99, 100, 101, 102, 103, 104, 105, 106, 107, 108, 109, 110, 111, 112, 113, 114, 115, 116, 117, 118, 119, 120, 121, 122, 123, 124, 125, 126, 220, 221, 222, 223, 224, 225, 226, 227, 228, 229, 230, 231, 232, 233] (by decide +kernel) (by decide +kernel)) (goodIn_sub (fun _ h => List.mem_cons_of_mem _ (List.mem_append_right _ h)) (by decide +kernel))
set_option maxRecDepth 20000 in
theorem gX5_isSame_X4_ruinAt : GoodIn wsX5_isSame (wsV RX5 74 RX4 yX4_ruinAt wsX4_ruinAt) := goodIn_app (goodIn_of _ (by decide +kernel)) ggX5_isSame_X4_ruinAt
set_option maxRecDepth 20000 in
theorem ggX5_isSame_X4_rankOf : GoodIn wsX5_isSame wsX4_rankOf := goodIn_ca (goodIn_r _ [130, 28, 57, 131, 132, 133, 134, 26, 135, 85, 86, 136, 137, 138, 66, 139, 68, 90, 91, 92, 93, 94, 95, 96, 97, 43, 36, 44, 45, 35, 37, 98, 99, 100, 101, 102, 103, 69, 104, 105, 106, 107, 108, 109, 110, 111, 112, 113, 114, 115, 116, 117, 118, 119, 120, 121, 122, 220, 221, 222, 223, 224, 225, 226, 227, 228, 229, 230, 231, 232, 233] (by decide +kernel) (by decide +kernel)) (goodIn_sub (fun _ h => List.mem_cons_of_mem _ (List.mem_append_right _ h)) (by decide +kernel))
set_option maxRecDepth 20000 in
theorem gX5_isSame_X4_rankOf : GoodIn wsX5_isSame (wsV RX5 77 RX4 yX4_rankOf wsX4_rankOf) := goodIn_app (goodIn_of _ (by decide +kernel)) ggX5_isSame_X4_rankOf
set_option maxRecDepth 20000 in
theorem ggX5_isSame_X4_guestsOf : GoodIn wsX5_isSame wsX4_guestsOf := goodIn_ca (goodIn_r _ [143, 28, 57, 131, 132, 133, 134, 26, 135, 85, 86, 136, 137, 138, 66, 139, 68, 90, 91, 92, 93, 94, 95, 96, 97, 43, 36, 44, 45, 35, 37, 98, 99, 100, 101, 102, 103, 69, 104, 105, 106, 107, 108, 109, 110, 111, 112, 113, 114, 115, 116, 117, 118, 119, 120, 121, 122, 144, 145, 146, 147, 148, 220, 221, 222, 223, 224, 225, 226, 227, 228, 229, 230, 231, 232, 233] (by decide +kernel) (by decide +kernel)) (goodIn_sub (fun _ h => List.mem_cons_of_mem _ (List.mem_append_right _ h)) (by decide +kernel))
set_option maxRecDepth 20000 in
theorem gX5_isSame_X4_guestsOf : GoodIn wsX5_isSame (wsV RX5 80 RX4 yX4_guestsOf wsX4_guestsOf) := goodIn_app (goodIn_of _ (by decide +kernel)) ggX5_isSame_X4_guestsOf
set_option maxRecDepth 20000 in
theorem ggX5_isSame_X4_wallsOf : GoodIn wsX5_isSame wsX4_wallsOf := goodIn_ca (goodIn_r _ [152, 28, 57, 153, 132, 133, 134, 26, 135, 85, 86, 136, 137, 138, 66, 139, 68, 220, 221, 222, 223, 224, 225, 226, 227, 228, 229, 230, 231, 232, 233] (by decide +kernel) (by decide +kernel)) (goodIn_sub (fun _ h => List.mem_cons_of_mem _ (List.mem_append_right _ h)) (by decide +kernel))
set_option maxRecDepth 20000 in
theorem gX5_isSame_X4_wallsOf : GoodIn wsX5_isSame (wsV RX5 83 RX4 yX4_wallsOf wsX4_wallsOf) := goodIn_app (goodIn_of _ (by decide +kernel)) ggX5_isSame_X4_wallsOf
set_option maxRecDepth 20000 in
theorem ggX5_isSame_X4_ivyOf : GoodIn wsX5_isSame wsX4_ivyOf := goodIn_ca (goodIn_r _ [157, 28, 57, 158, 132, 133, 134, 26, 135, 85, 86, 136, 137, 138, 66, 139, 68, 220, 221, 222, 223, 224, 225, 226, 227, 228, 229, 230, 231, 232, 233] (by decide +kernel) (by decide +kernel)) (goodIn_sub (fun _ h => List.mem_cons_of_mem _ (List.mem_append_right _ h)) (by decide +kernel))
set_option maxRecDepth 20000 in
theorem gX5_isSame_X4_ivyOf : GoodIn wsX5_isSame (wsV RX5 86 RX4 yX4_ivyOf wsX4_ivyOf) := goodIn_app (goodIn_of _ (by decide +kernel)) ggX5_isSame_X4_ivyOf
set_option maxRecDepth 20000 in
theorem ggX5_isSame_X4_ghostsOf : GoodIn wsX5_isSame wsX4_ghostsOf := goodIn_ca (goodIn_r _ [162, 28, 57, 163, 132, 133, 134, 26, 135, 85, 86, 136, 137, 138, 66, 139, 68, 220, 221, 222, 223, 224, 225, 226, 227, 228, 229, 230, 231, 232, 233] (by decide +kernel) (by decide +kernel)) (goodIn_sub (fun _ h => List.mem_cons_of_mem _ (List.mem_append_right _ h)) (by decide +kernel))
set_option maxRecDepth 20000 in
theorem gX5_isSame_X4_ghostsOf : GoodIn wsX5_isSame (wsV RX5 89 RX4 yX4_ghostsOf wsX4_ghostsOf) := goodIn_app (goodIn_of _ (by decide +kernel)) ggX5_isSame_X4_ghostsOf
set_option maxRecDepth 20000 in
theorem ggX5_isSame_X4_gradeOf : GoodIn wsX5_isSame wsX4_gradeOf := goodIn_ca (goodIn_r _ [167, 28, 57, 132, 133, 134, 26, 135, 85, 86, 136, 137, 138, 66, 139, 68, 168, 115, 116, 117, 118, 220, 221, 222, 223, 224, 225, 226, 227, 228, 229, 230, 231, 232, 233] (by decide +kernel) (by decide +kernel)) (goodIn_sub (fun _ h => List.mem_cons_of_mem _ (List.mem_append_right _ h)) (by decide +kernel))
set_option maxRecDepth 20000 in
theorem gX5_isSame_X4_gradeOf : GoodIn wsX5_isSame (wsV RX5 92 RX4 yX4_gradeOf wsX4_gradeOf) := goodIn_app (goodIn_of _ (by decide +kernel)) ggX5_isSame_X4_gradeOf
set_option maxRecDepth 20000 in
theorem ggX5_isSame_X5_grade : GoodIn wsX5_isSame wsX5_grade := goodIn_r _ [22] (by decide +kernel) (by decide +kernel)
set_option maxRecDepth 20000 in
theorem gX5_isSame_X5_grade : GoodIn wsX5_isSame (va_wsS RX5 25 yX5_grade wsX5_grade) := goodIn_app (goodIn_of _ (by decide +kernel)) ggX5_isSame_X5_grade
set_option maxRecDepth 20000 in
theorem ggX5_isSame_X4_viewOf : GoodIn wsX5_isSame wsX4_viewOf := goodIn_ca (goodIn_r _ [172, 28, 57, 29, 132, 133, 134, 26, 135, 85, 86, 136, 137, 138, 66, 139, 68, 42, 43, 36, 44, 45, 35, 37, 173, 110, 111, 112, 69, 113, 114, 115, 116, 117, 118, 220, 221, 222, 223, 224, 225, 226, 227, 228, 229, 230, 231, 232, 233] (by decide +kernel) (by decide +kernel)) (goodIn_sub (fun _ h => List.mem_cons_of_mem _ (List.mem_append_right _ h)) (by decide +kernel))
set_option maxRecDepth 20000 in
theorem gX5_isSame_X4_viewOf : GoodIn wsX5_isSame (wsV RX5 95 RX4 yX4_viewOf wsX4_viewOf) := goodIn_app (goodIn_of _ (by decide +kernel)) ggX5_isSame_X4_viewOf
set_option maxRecDepth 20000 in
theorem ggX5_isSame_X4_hasCollapsed : GoodIn wsX5_isSame wsX4_hasCollapsed := goodIn_ca (goodIn_r _ [177, 28, 57, 132, 133, 134, 26, 135, 85, 86, 136, 137, 138, 66, 139, 68, 178, 179, 180, 181, 69, 182, 220, 221, 222, 223, 224, 225, 226, 227, 228, 229, 230, 231, 232, 233] (by decide +kernel) (by decide +kernel)) (goodIn_sub (fun _ h => List.mem_cons_of_mem _ (List.mem_append_right _ h)) (by decide +kernel))
set_option maxRecDepth 20000 in
theorem gX5_isSame_X4_hasCollapsed : GoodIn wsX5_isSame (wsV RX5 98 RX4 yX4_hasCollapsed wsX4_hasCollapsed) := goodIn_app (goodIn_of _ (by decide +kernel)) ggX5_isSame_X4_hasCollapsed
set_option maxRecDepth 20000 in
theorem ggX5_isSame_X4_dayOf : GoodIn wsX5_isSame wsX4_dayOf := goodIn_ca (goodIn_r _ [186, 28, 79, 187, 188, 189, 190, 26, 191, 85, 86, 192, 193, 194, 195, 196, 197, 220, 221, 222, 223, 224, 225, 226, 234, 235, 236, 237, 238] (by decide +kernel) (by decide +kernel)) (goodIn_sub (fun _ h => List.mem_cons_of_mem _ (List.mem_append_right _ h)) (by decide +kernel))
set_option maxRecDepth 20000 in
theorem gX5_isSame_X4_dayOf : GoodIn wsX5_isSame (wsV RX5 102 RX4 yX4_dayOf wsX4_dayOf) := goodIn_app (goodIn_of _ (by decide +kernel)) ggX5_isSame_X4_dayOf
set_option maxRecDepth 20000 in
theorem ggX5_isSame_X4_isOpen : GoodIn wsX5_isSame wsX4_isOpen := goodIn_ca (goodIn_r _ [201, 28, 79, 202, 188, 189, 190, 26, 191, 85, 86, 192, 193, 194, 195, 196, 197, 220, 221, 222, 223, 224, 225, 226, 234, 235, 236, 237, 238] (by decide +kernel) (by decide +kernel)) (goodIn_sub (fun _ h => List.mem_cons_of_mem _ (List.mem_append_right _ h)) (by decide +kernel))
set_option maxRecDepth 20000 in
theorem gX5_isSame_X4_isOpen : GoodIn wsX5_isSame (wsV RX5 105 RX4 yX4_isOpen wsX4_isOpen) := goodIn_app (goodIn_of _ (by decide +kernel)) ggX5_isSame_X4_isOpen
set_option maxRecDepth 20000 in
theorem ggX5_isSame_X4_isPaidBack : GoodIn wsX5_isSame wsX4_isPaidBack := goodIn_ca (goodIn_r _ [206, 28, 79, 202, 188, 189, 190, 26, 191, 85, 86, 192, 193, 194, 195, 196, 197, 220, 221, 222, 223, 224, 225, 226, 234, 235, 236, 237, 238] (by decide +kernel) (by decide +kernel)) (goodIn_sub (fun _ h => List.mem_cons_of_mem _ (List.mem_append_right _ h)) (by decide +kernel))
set_option maxRecDepth 20000 in
theorem gX5_isSame_X4_isPaidBack : GoodIn wsX5_isSame (wsV RX5 108 RX4 yX4_isPaidBack wsX4_isPaidBack) := goodIn_app (goodIn_of _ (by decide +kernel)) ggX5_isSame_X4_isPaidBack
set_option maxRecDepth 20000 in
theorem ggX5_isSame_X4_meanView : GoodIn wsX5_isSame wsX4_meanView := goodIn_r _ [210, 28, 57, 29, 63, 64, 65, 66, 67, 68, 69, 42, 43, 36, 44, 45, 35, 37, 211, 212, 213, 214, 109, 110, 111, 112, 113, 114, 115, 116, 117, 118, 220, 221, 222, 223, 224, 225, 226, 227, 228, 229, 230, 231, 232, 233] (by decide +kernel) (by decide +kernel)
set_option maxRecDepth 20000 in
theorem gX5_isSame_X4_meanView : GoodIn wsX5_isSame (wsV RX5 111 RX4 yX4_meanView wsX4_meanView) := goodIn_app (goodIn_of _ (by decide +kernel)) ggX5_isSame_X4_meanView
theorem dX5_isSame_0 : decode cX5_isSame 0 = .ok (.aload_n 0, 1) := by decide +kernel
theorem dX5_isSame_1 : decode cX5_isSame 1 = .ok (.invokevirtual 40, 3) := by decide +kernel
theorem dX5_isSame_4 : decode cX5_isSame 4 = .ok (.astore_n 2, 1) := by decide +kernel
theorem dX5_isSame_5 : decode cX5_isSame 5 = .ok (.iconst 0, 1) := by decide +kernel
theorem dX5_isSame_6 : decode cX5_isSame 6 = .ok (.istore_n 3, 1) := by decide +kernel
theorem dX5_isSame_7 : decode cX5_isSame 7 = .ok (.aload_n 0, 1) := by decide +kernel
theorem dX5_isSame_8 : decode cX5_isSame 8 = .ok (.getfield 22, 3) := by decide +kernel
theorem dX5_isSame_11 : decode cX5_isSame 11 = .ok (.iload_n 3, 1) := by decide +kernel
theorem dX5_isSame_12 : decode cX5_isSame 12 = .ok (.iadd, 1) := by decide +kernel
theorem dX5_isSame_13 : decode cX5_isSame 13 = .ok (.bipush 8, 2) := by decide +kernel
theorem dX5_isSame_15 : decode cX5_isSame 15 = .ok (.irem, 1) := by decide +kernel
theorem dX5_isSame_16 : decode cX5_isSame 16 = .ok (.iconst 4, 1) := by decide +kernel
theorem dX5_isSame_17 : decode cX5_isSame 17 = .ok (.if_icmp .eq 9, 3) := by decide +kernel
theorem dX5_isSame_20 : decode cX5_isSame 20 = .ok (.iinc 3 1, 3) := by decide +kernel
theorem dX5_isSame_23 : decode cX5_isSame 23 = .ok (.goto (-16), 3) := by decide +kernel
theorem dX5_isSame_26 : decode cX5_isSame 26 = .ok (.aload_n 1, 1) := by decide +kernel
theorem dX5_isSame_27 : decode cX5_isSame 27 = .ok (.invokevirtual 52, 3) := by decide +kernel
theorem dX5_isSame_30 : decode cX5_isSame 30 = .ok (.aload_n 0, 1) := by decide +kernel
theorem dX5_isSame_31 : decode cX5_isSame 31 = .ok (.getfield 22, 3) := by decide +kernel
theorem dX5_isSame_34 : decode cX5_isSame 34 = .ok (.if_icmp .ne 80, 3) := by decide +kernel
theorem dX5_isSame_37 : decode cX5_isSame 37 = .ok (.aload_n 1, 1) := by decide +kernel
theorem dX5_isSame_38 : decode cX5_isSame 38 = .ok (.invokevirtual 56, 3) := by decide +kernel
theorem dX5_isSame_41 : decode cX5_isSame 41 = .ok (.aload_n 0, 1) := by decide +kernel
theorem dX5_isSame_42 : decode cX5_isSame 42 = .ok (.getfield 22, 3) := by decide +kernel
theorem dX5_isSame_45 : decode cX5_isSame 45 = .ok (.bipush 8, 2) := by decide +kernel
theorem dX5_isSame_47 : decode cX5_isSame 47 = .ok (.irem, 1) := by decide +kernel
theorem dX5_isSame_48 : decode cX5_isSame 48 = .ok (.if_icmp .ne 66, 3) := by decide +kernel
theorem dX5_isSame_51 : decode cX5_isSame 51 = .ok (.aload_n 1, 1) := by decide +kernel
theorem dX5_isSame_52 : decode cX5_isSame 52 = .ok (.invokevirtual 59, 3) := by decide +kernel
theorem dX5_isSame_55 : decode cX5_isSame 55 = .ok (.aload_n 0, 1) := by decide +kernel
theorem dX5_isSame_56 : decode cX5_isSame 56 = .ok (.invokevirtual 29, 3) := by decide +kernel
theorem dX5_isSame_59 : decode cX5_isSame 59 = .ok (.if_icmp .ne 55, 3) := by decide +kernel
theorem dX5_isSame_62 : decode cX5_isSame 62 = .ok (.aload_n 1, 1) := by decide +kernel
theorem dX5_isSame_63 : decode cX5_isSame 63 = .ok (.invokevirtual 62, 3) := by decide +kernel
theorem dX5_isSame_66 : decode cX5_isSame 66 = .ok (.iload_n 3, 1) := by decide +kernel
theorem dX5_isSame_67 : decode cX5_isSame 67 = .ok (.if_icmp .ne 47, 3) := by decide +kernel
theorem dX5_isSame_70 : decode cX5_isSame 70 = .ok (.aload_n 1, 1) := by decide +kernel
theorem dX5_isSame_71 : decode cX5_isSame 71 = .ok (.invokevirtual 65, 3) := by decide +kernel
theorem dX5_isSame_74 : decode cX5_isSame 74 = .ok (.aload_n 0, 1) := by decide +kernel
theorem dX5_isSame_75 : decode cX5_isSame 75 = .ok (.getfield 15, 3) := by decide +kernel
theorem dX5_isSame_78 : decode cX5_isSame 78 = .ok (.arraylength, 1) := by decide +kernel
theorem dX5_isSame_79 : decode cX5_isSame 79 = .ok (.if_icmp .ne 35, 3) := by decide +kernel
theorem dX5_isSame_82 : decode cX5_isSame 82 = .ok (.aload_n 1, 1) := by decide +kernel
theorem dX5_isSame_83 : decode cX5_isSame 83 = .ok (.invokevirtual 67, 3) := by decide +kernel
theorem dX5_isSame_86 : decode cX5_isSame 86 = .ok (.aload_n 2, 1) := by decide +kernel
theorem dX5_isSame_87 : decode cX5_isSame 87 = .ok (.arraylength, 1) := by decide +kernel
theorem dX5_isSame_88 : decode cX5_isSame 88 = .ok (.if_icmp .ne 26, 3) := by decide +kernel
theorem dX5_isSame_91 : decode cX5_isSame 91 = .ok (.aload_n 1, 1) := by decide +kernel
theorem dX5_isSame_92 : decode cX5_isSame 92 = .ok (.invokevirtual 70, 3) := by decide +kernel
theorem dX5_isSame_95 : decode cX5_isSame 95 = .ok (.aload_n 0, 1) := by decide +kernel
theorem dX5_isSame_96 : decode cX5_isSame 96 = .ok (.getfield 37, 3) := by decide +kernel
theorem dX5_isSame_99 : decode cX5_isSame 99 = .ok (.if_icmp .ne 15, 3) := by decide +kernel
theorem dX5_isSame_102 : decode cX5_isSame 102 = .ok (.aload_n 1, 1) := by decide +kernel
theorem dX5_isSame_103 : decode cX5_isSame 103 = .ok (.invokevirtual 72, 3) := by decide +kernel
theorem dX5_isSame_106 : decode cX5_isSame 106 = .ok (.aload_n 0, 1) := by decide +kernel
theorem dX5_isSame_107 : decode cX5_isSame 107 = .ok (.getfield 19, 3) := by decide +kernel
theorem dX5_isSame_110 : decode cX5_isSame 110 = .ok (.arraylength, 1) := by decide +kernel
theorem dX5_isSame_111 : decode cX5_isSame 111 = .ok (.if_icmp .eq 5, 3) := by decide +kernel
theorem dX5_isSame_114 : decode cX5_isSame 114 = .ok (.iconst 0, 1) := by decide +kernel
theorem dX5_isSame_115 : decode cX5_isSame 115 = .ok (.ireturn, 1) := by decide +kernel
theorem dX5_isSame_116 : decode cX5_isSame 116 = .ok (.aload_n 0, 1) := by decide +kernel
theorem dX5_isSame_117 : decode cX5_isSame 117 = .ok (.getfield 7, 3) := by decide +kernel
theorem dX5_isSame_120 : decode cX5_isSame 120 = .ok (.istore 4, 2) := by decide +kernel
theorem dX5_isSame_122 : decode cX5_isSame 122 = .ok (.iconst 0, 1) := by decide +kernel
theorem dX5_isSame_123 : decode cX5_isSame 123 = .ok (.istore 5, 2) := by decide +kernel
theorem dX5_isSame_125 : decode cX5_isSame 125 = .ok (.aload_n 0, 1) := by decide +kernel
theorem dX5_isSame_126 : decode cX5_isSame 126 = .ok (.invokevirtual 29, 3) := by decide +kernel
theorem dX5_isSame_129 : decode cX5_isSame 129 = .ok (.istore 6, 2) := by decide +kernel
theorem dX5_isSame_131 : decode cX5_isSame 131 = .ok (.iconst 0, 1) := by decide +kernel
theorem dX5_isSame_132 : decode cX5_isSame 132 = .ok (.istore 7, 2) := by decide +kernel
theorem dX5_isSame_134 : decode cX5_isSame 134 = .ok (.iload 7, 2) := by decide +kernel
theorem dX5_isSame_136 : decode cX5_isSame 136 = .ok (.aload_n 2, 1) := by decide +kernel
theorem dX5_isSame_137 : decode cX5_isSame 137 = .ok (.arraylength, 1) := by decide +kernel
theorem dX5_isSame_138 : decode cX5_isSame 138 = .ok (.if_icmp .ge 80, 3) := by decide +kernel
theorem dX5_isSame_141 : decode cX5_isSame 141 = .ok (.iload 4, 2) := by decide +kernel
theorem dX5_isSame_143 : decode cX5_isSame 143 = .ok (.iconst 1, 1) := by decide +kernel
theorem dX5_isSame_144 : decode cX5_isSame 144 = .ok (.iadd, 1) := by decide +kernel
theorem dX5_isSame_145 : decode cX5_isSame 145 = .ok (.iconst 2, 1) := by decide +kernel
theorem dX5_isSame_146 : decode cX5_isSame 146 = .ok (.idiv, 1) := by decide +kernel
theorem dX5_isSame_147 : decode cX5_isSame 147 = .ok (.istore 8, 2) := by decide +kernel
theorem dX5_isSame_149 : decode cX5_isSame 149 = .ok (.iload 4, 2) := by decide +kernel
theorem dX5_isSame_151 : decode cX5_isSame 151 = .ok (.iload 8, 2) := by decide +kernel
theorem dX5_isSame_153 : decode cX5_isSame 153 = .ok (.isub, 1) := by decide +kernel
theorem dX5_isSame_154 : decode cX5_isSame 154 = .ok (.istore 4, 2) := by decide +kernel
theorem dX5_isSame_156 : decode cX5_isSame 156 = .ok (.iload 5, 2) := by decide +kernel
theorem dX5_isSame_158 : decode cX5_isSame 158 = .ok (.aload_n 0, 1) := by decide +kernel
theorem dX5_isSame_159 : decode cX5_isSame 159 = .ok (.aload_n 2, 1) := by decide +kernel
theorem dX5_isSame_160 : decode cX5_isSame 160 = .ok (.iload 7, 2) := by decide +kernel
theorem dX5_isSame_162 : decode cX5_isSame 162 = .ok (.iaload, 1) := by decide +kernel
theorem dX5_isSame_163 : decode cX5_isSame 163 = .ok (.iload 6, 2) := by decide +kernel
theorem dX5_isSame_165 : decode cX5_isSame 165 = .ok (.invokevirtual 33, 3) := by decide +kernel
theorem dX5_isSame_168 : decode cX5_isSame 168 = .ok (.iadd, 1) := by decide +kernel
theorem dX5_isSame_169 : decode cX5_isSame 169 = .ok (.istore 5, 2) := by decide +kernel
theorem dX5_isSame_171 : decode cX5_isSame 171 = .ok (.aload_n 1, 1) := by decide +kernel
theorem dX5_isSame_172 : decode cX5_isSame 172 = .ok (.iload 7, 2) := by decide +kernel
theorem dX5_isSame_174 : decode cX5_isSame 174 = .ok (.invokevirtual 74, 3) := by decide +kernel
theorem dX5_isSame_177 : decode cX5_isSame 177 = .ok (.aload_n 2, 1) := by decide +kernel
theorem dX5_isSame_178 : decode cX5_isSame 178 = .ok (.iload 7, 2) := by decide +kernel
theorem dX5_isSame_180 : decode cX5_isSame 180 = .ok (.iaload, 1) := by decide +kernel
theorem dX5_isSame_181 : decode cX5_isSame 181 = .ok (.if_icmp .ne 29, 3) := by decide +kernel
theorem dX5_isSame_184 : decode cX5_isSame 184 = .ok (.aload_n 1, 1) := by decide +kernel
theorem dX5_isSame_185 : decode cX5_isSame 185 = .ok (.aload_n 2, 1) := by decide +kernel
theorem dX5_isSame_186 : decode cX5_isSame 186 = .ok (.iload 7, 2) := by decide +kernel
theorem dX5_isSame_188 : decode cX5_isSame 188 = .ok (.iaload, 1) := by decide +kernel
theorem dX5_isSame_189 : decode cX5_isSame 189 = .ok (.invokevirtual 77, 3) := by decide +kernel
theorem dX5_isSame_192 : decode cX5_isSame 192 = .ok (.iload 7, 2) := by decide +kernel
theorem dX5_isSame_194 : decode cX5_isSame 194 = .ok (.if_icmp .ne 16, 3) := by decide +kernel
theorem dX5_isSame_197 : decode cX5_isSame 197 = .ok (.aload_n 1, 1) := by decide +kernel
theorem dX5_isSame_198 : decode cX5_isSame 198 = .ok (.aload_n 2, 1) := by decide +kernel
theorem dX5_isSame_199 : decode cX5_isSame 199 = .ok (.iload 7, 2) := by decide +kernel
theorem dX5_isSame_201 : decode cX5_isSame 201 = .ok (.iaload, 1) := by decide +kernel
theorem dX5_isSame_202 : decode cX5_isSame 202 = .ok (.invokevirtual 80, 3) := by decide +kernel
theorem dX5_isSame_205 : decode cX5_isSame 205 = .ok (.iload 8, 2) := by decide +kernel
theorem dX5_isSame_207 : decode cX5_isSame 207 = .ok (.if_icmp .eq 5, 3) := by decide +kernel
theorem dX5_isSame_210 : decode cX5_isSame 210 = .ok (.iconst 0, 1) := by decide +kernel
theorem dX5_isSame_211 : decode cX5_isSame 211 = .ok (.ireturn, 1) := by decide +kernel
theorem dX5_isSame_212 : decode cX5_isSame 212 = .ok (.iinc 7 1, 3) := by decide +kernel
theorem dX5_isSame_215 : decode cX5_isSame 215 = .ok (.goto (-81), 3) := by decide +kernel
theorem dX5_isSame_218 : decode cX5_isSame 218 = .ok (.iconst 0, 1) := by decide +kernel
theorem dX5_isSame_219 : decode cX5_isSame 219 = .ok (.istore 7, 2) := by decide +kernel
theorem dX5_isSame_221 : decode cX5_isSame 221 = .ok (.iload 7, 2) := by decide +kernel
theorem dX5_isSame_223 : decode cX5_isSame 223 = .ok (.aload_n 0, 1) := by decide +kernel
theorem dX5_isSame_224 : decode cX5_isSame 224 = .ok (.getfield 15, 3) := by decide +kernel
theorem dX5_isSame_227 : decode cX5_isSame 227 = .ok (.arraylength, 1) := by decide +kernel
theorem dX5_isSame_228 : decode cX5_isSame 228 = .ok (.if_icmp .ge 139, 3) := by decide +kernel
theorem dX5_isSame_231 : decode cX5_isSame 231 = .ok (.aload_n 0, 1) := by decide +kernel
theorem dX5_isSame_232 : decode cX5_isSame 232 = .ok (.getfield 15, 3) := by decide +kernel
theorem dX5_isSame_235 : decode cX5_isSame 235 = .ok (.iload 7, 2) := by decide +kernel
theorem dX5_isSame_237 : decode cX5_isSame 237 = .ok (.aaload, 1) := by decide +kernel
theorem dX5_isSame_238 : decode cX5_isSame 238 = .ok (.astore 8, 2) := by decide +kernel
theorem dX5_isSame_240 : decode cX5_isSame 240 = .ok (.aload_n 1, 1) := by decide +kernel
theorem dX5_isSame_241 : decode cX5_isSame 241 = .ok (.iload 7, 2) := by decide +kernel
theorem dX5_isSame_243 : decode cX5_isSame 243 = .ok (.invokevirtual 83, 3) := by decide +kernel
theorem dX5_isSame_246 : decode cX5_isSame 246 = .ok (.aload 8, 2) := by decide +kernel
theorem dX5_isSame_248 : decode cX5_isSame 248 = .ok (.iconst 0, 1) := by decide +kernel
theorem dX5_isSame_249 : decode cX5_isSame 249 = .ok (.iaload, 1) := by decide +kernel
theorem dX5_isSame_250 : decode cX5_isSame 250 = .ok (.if_icmp .ne 109, 3) := by decide +kernel
theorem dX5_isSame_253 : decode cX5_isSame 253 = .ok (.aload_n 1, 1) := by decide +kernel
theorem dX5_isSame_254 : decode cX5_isSame 254 = .ok (.iload 7, 2) := by decide +kernel
theorem dX5_isSame_256 : decode cX5_isSame 256 = .ok (.invokevirtual 86, 3) := by decide +kernel
theorem dX5_isSame_259 : decode cX5_isSame 259 = .ok (.aload 8, 2) := by decide +kernel
theorem dX5_isSame_261 : decode cX5_isSame 261 = .ok (.iconst 1, 1) := by decide +kernel
theorem dX5_isSame_262 : decode cX5_isSame 262 = .ok (.iaload, 1) := by decide +kernel
theorem dX5_isSame_263 : decode cX5_isSame 263 = .ok (.if_icmp .ne 96, 3) := by decide +kernel
theorem dX5_isSame_266 : decode cX5_isSame 266 = .ok (.aload_n 1, 1) := by decide +kernel
theorem dX5_isSame_267 : decode cX5_isSame 267 = .ok (.iload 7, 2) := by decide +kernel
theorem dX5_isSame_269 : decode cX5_isSame 269 = .ok (.invokevirtual 89, 3) := by decide +kernel
theorem dX5_isSame_272 : decode cX5_isSame 272 = .ok (.aload 8, 2) := by decide +kernel
theorem dX5_isSame_274 : decode cX5_isSame 274 = .ok (.iconst 2, 1) := by decide +kernel
theorem dX5_isSame_275 : decode cX5_isSame 275 = .ok (.iaload, 1) := by decide +kernel
theorem dX5_isSame_276 : decode cX5_isSame 276 = .ok (.if_icmp .ne 83, 3) := by decide +kernel
theorem dX5_isSame_279 : decode cX5_isSame 279 = .ok (.aload_n 1, 1) := by decide +kernel
theorem dX5_isSame_280 : decode cX5_isSame 280 = .ok (.iload 7, 2) := by decide +kernel
theorem dX5_isSame_282 : decode cX5_isSame 282 = .ok (.invokevirtual 92, 3) := by decide +kernel
theorem dX5_isSame_285 : decode cX5_isSame 285 = .ok (.aload 8, 2) := by decide +kernel
theorem dX5_isSame_287 : decode cX5_isSame 287 = .ok (.iconst 1, 1) := by decide +kernel
theorem dX5_isSame_288 : decode cX5_isSame 288 = .ok (.iaload, 1) := by decide +kernel
theorem dX5_isSame_289 : decode cX5_isSame 289 = .ok (.invokestatic 25, 3) := by decide +kernel
theorem dX5_isSame_292 : decode cX5_isSame 292 = .ok (.if_icmp .ne 67, 3) := by decide +kernel
theorem dX5_isSame_295 : decode cX5_isSame 295 = .ok (.aload_n 1, 1) := by decide +kernel
theorem dX5_isSame_296 : decode cX5_isSame 296 = .ok (.iload 7, 2) := by decide +kernel
theorem dX5_isSame_298 : decode cX5_isSame 298 = .ok (.invokevirtual 95, 3) := by decide +kernel
theorem dX5_isSame_301 : decode cX5_isSame 301 = .ok (.aload_n 0, 1) := by decide +kernel
theorem dX5_isSame_302 : decode cX5_isSame 302 = .ok (.iload 7, 2) := by decide +kernel
theorem dX5_isSame_304 : decode cX5_isSame 304 = .ok (.iload 6, 2) := by decide +kernel
theorem dX5_isSame_306 : decode cX5_isSame 306 = .ok (.invokevirtual 33, 3) := by decide +kernel
theorem dX5_isSame_309 : decode cX5_isSame 309 = .ok (.if_icmp .ne 50, 3) := by decide +kernel
theorem dX5_isSame_312 : decode cX5_isSame 312 = .ok (.aload_n 1, 1) := by decide +kernel
theorem dX5_isSame_313 : decode cX5_isSame 313 = .ok (.iload 7, 2) := by decide +kernel
theorem dX5_isSame_315 : decode cX5_isSame 315 = .ok (.invokevirtual 98, 3) := by decide +kernel
theorem dX5_isSame_318 : decode cX5_isSame 318 = .ok (.aload 8, 2) := by decide +kernel
theorem dX5_isSame_320 : decode cX5_isSame 320 = .ok (.iconst 0, 1) := by decide +kernel
theorem dX5_isSame_321 : decode cX5_isSame 321 = .ok (.iaload, 1) := by decide +kernel
theorem dX5_isSame_322 : decode cX5_isSame 322 = .ok (.ifCond .ne 7, 3) := by decide +kernel
theorem dX5_isSame_325 : decode cX5_isSame 325 = .ok (.iconst 1, 1) := by decide +kernel
theorem dX5_isSame_326 : decode cX5_isSame 326 = .ok (.goto 4, 3) := by decide +kernel
theorem dX5_isSame_329 : decode cX5_isSame 329 = .ok (.iconst 0, 1) := by decide +kernel
theorem dX5_isSame_330 : decode cX5_isSame 330 = .ok (.if_icmp .ne 29, 3) := by decide +kernel
theorem dX5_isSame_333 : decode cX5_isSame 333 = .ok (.aload 8, 2) := by decide +kernel
theorem dX5_isSame_335 : decode cX5_isSame 335 = .ok (.iconst 0, 1) := by decide +kernel
theorem dX5_isSame_336 : decode cX5_isSame 336 = .ok (.iaload, 1) := by decide +kernel
theorem dX5_isSame_337 : decode cX5_isSame 337 = .ok (.ifCond .ne 24, 3) := by decide +kernel
theorem dX5_isSame_340 : decode cX5_isSame 340 = .ok (.aload_n 1, 1) := by decide +kernel
theorem dX5_isSame_341 : decode cX5_isSame 341 = .ok (.iload 7, 2) := by decide +kernel
theorem dX5_isSame_343 : decode cX5_isSame 343 = .ok (.invokevirtual 77, 3) := by decide +kernel
theorem dX5_isSame_346 : decode cX5_isSame 346 = .ok (.iconst (-1), 1) := by decide +kernel
theorem dX5_isSame_347 : decode cX5_isSame 347 = .ok (.if_icmp .ne 12, 3) := by decide +kernel
theorem dX5_isSame_350 : decode cX5_isSame 350 = .ok (.aload_n 1, 1) := by decide +kernel
theorem dX5_isSame_351 : decode cX5_isSame 351 = .ok (.iload 7, 2) := by decide +kernel
theorem dX5_isSame_353 : decode cX5_isSame 353 = .ok (.invokevirtual 80, 3) := by decide +kernel
theorem dX5_isSame_356 : decode cX5_isSame 356 = .ok (.ifCond .eq 5, 3) := by decide +kernel
theorem dX5_isSame_359 : decode cX5_isSame 359 = .ok (.iconst 0, 1) := by decide +kernel
theorem dX5_isSame_360 : decode cX5_isSame 360 = .ok (.ireturn, 1) := by decide +kernel
theorem dX5_isSame_361 : decode cX5_isSame 361 = .ok (.iinc 7 1, 3) := by decide +kernel
theorem dX5_isSame_364 : decode cX5_isSame 364 = .ok (.goto (-143), 3) := by decide +kernel
theorem dX5_isSame_367 : decode cX5_isSame 367 = .ok (.iconst 0, 1) := by decide +kernel
theorem dX5_isSame_368 : decode cX5_isSame 368 = .ok (.istore 7, 2) := by decide +kernel
theorem dX5_isSame_370 : decode cX5_isSame 370 = .ok (.iload 7, 2) := by decide +kernel
theorem dX5_isSame_372 : decode cX5_isSame 372 = .ok (.aload_n 0, 1) := by decide +kernel
theorem dX5_isSame_373 : decode cX5_isSame 373 = .ok (.getfield 19, 3) := by decide +kernel
theorem dX5_isSame_376 : decode cX5_isSame 376 = .ok (.arraylength, 1) := by decide +kernel
theorem dX5_isSame_377 : decode cX5_isSame 377 = .ok (.if_icmp .ge 82, 3) := by decide +kernel
theorem dX5_isSame_380 : decode cX5_isSame 380 = .ok (.aload_n 1, 1) := by decide +kernel
theorem dX5_isSame_381 : decode cX5_isSame 381 = .ok (.iload 7, 2) := by decide +kernel
theorem dX5_isSame_383 : decode cX5_isSame 383 = .ok (.invokevirtual 102, 3) := by decide +kernel
theorem dX5_isSame_386 : decode cX5_isSame 386 = .ok (.aload_n 0, 1) := by decide +kernel
theorem dX5_isSame_387 : decode cX5_isSame 387 = .ok (.getfield 19, 3) := by decide +kernel
theorem dX5_isSame_390 : decode cX5_isSame 390 = .ok (.iload 7, 2) := by decide +kernel
theorem dX5_isSame_392 : decode cX5_isSame 392 = .ok (.aaload, 1) := by decide +kernel
theorem dX5_isSame_393 : decode cX5_isSame 393 = .ok (.iconst 1, 1) := by decide +kernel
theorem dX5_isSame_394 : decode cX5_isSame 394 = .ok (.iaload, 1) := by decide +kernel
theorem dX5_isSame_395 : decode cX5_isSame 395 = .ok (.if_icmp .ne 56, 3) := by decide +kernel
theorem dX5_isSame_398 : decode cX5_isSame 398 = .ok (.aload_n 1, 1) := by decide +kernel
theorem dX5_isSame_399 : decode cX5_isSame 399 = .ok (.iload 7, 2) := by decide +kernel
theorem dX5_isSame_401 : decode cX5_isSame 401 = .ok (.invokevirtual 105, 3) := by decide +kernel
theorem dX5_isSame_404 : decode cX5_isSame 404 = .ok (.aload_n 0, 1) := by decide +kernel
theorem dX5_isSame_405 : decode cX5_isSame 405 = .ok (.getfield 19, 3) := by decide +kernel
theorem dX5_isSame_408 : decode cX5_isSame 408 = .ok (.iload 7, 2) := by decide +kernel
theorem dX5_isSame_410 : decode cX5_isSame 410 = .ok (.aaload, 1) := by decide +kernel
theorem dX5_isSame_411 : decode cX5_isSame 411 = .ok (.iconst 3, 1) := by decide +kernel
theorem dX5_isSame_412 : decode cX5_isSame 412 = .ok (.iaload, 1) := by decide +kernel
theorem dX5_isSame_413 : decode cX5_isSame 413 = .ok (.ifCond .ne 7, 3) := by decide +kernel
theorem dX5_isSame_416 : decode cX5_isSame 416 = .ok (.iconst 1, 1) := by decide +kernel
theorem dX5_isSame_417 : decode cX5_isSame 417 = .ok (.goto 4, 3) := by decide +kernel
theorem dX5_isSame_420 : decode cX5_isSame 420 = .ok (.iconst 0, 1) := by decide +kernel
theorem dX5_isSame_421 : decode cX5_isSame 421 = .ok (.if_icmp .ne 30, 3) := by decide +kernel
theorem dX5_isSame_424 : decode cX5_isSame 424 = .ok (.aload_n 1, 1) := by decide +kernel
theorem dX5_isSame_425 : decode cX5_isSame 425 = .ok (.iload 7, 2) := by decide +kernel
theorem dX5_isSame_427 : decode cX5_isSame 427 = .ok (.invokevirtual 108, 3) := by decide +kernel
theorem dX5_isSame_430 : decode cX5_isSame 430 = .ok (.aload_n 0, 1) := by decide +kernel
theorem dX5_isSame_431 : decode cX5_isSame 431 = .ok (.getfield 19, 3) := by decide +kernel
theorem dX5_isSame_434 : decode cX5_isSame 434 = .ok (.iload 7, 2) := by decide +kernel
theorem dX5_isSame_436 : decode cX5_isSame 436 = .ok (.aaload, 1) := by decide +kernel
theorem dX5_isSame_437 : decode cX5_isSame 437 = .ok (.iconst 3, 1) := by decide +kernel
theorem dX5_isSame_438 : decode cX5_isSame 438 = .ok (.iaload, 1) := by decide +kernel
theorem dX5_isSame_439 : decode cX5_isSame 439 = .ok (.iconst 2, 1) := by decide +kernel
theorem dX5_isSame_440 : decode cX5_isSame 440 = .ok (.if_icmp .ne 7, 3) := by decide +kernel
theorem dX5_isSame_443 : decode cX5_isSame 443 = .ok (.iconst 1, 1) := by decide +kernel
theorem dX5_isSame_444 : decode cX5_isSame 444 = .ok (.goto 4, 3) := by decide +kernel
theorem dX5_isSame_447 : decode cX5_isSame 447 = .ok (.iconst 0, 1) := by decide +kernel
theorem dX5_isSame_448 : decode cX5_isSame 448 = .ok (.if_icmp .eq 5, 3) := by decide +kernel
theorem dX5_isSame_451 : decode cX5_isSame 451 = .ok (.iconst 0, 1) := by decide +kernel
theorem dX5_isSame_452 : decode cX5_isSame 452 = .ok (.ireturn, 1) := by decide +kernel
theorem dX5_isSame_453 : decode cX5_isSame 453 = .ok (.iinc 7 1, 3) := by decide +kernel
theorem dX5_isSame_456 : decode cX5_isSame 456 = .ok (.goto (-86), 3) := by decide +kernel
theorem dX5_isSame_459 : decode cX5_isSame 459 = .ok (.aload_n 1, 1) := by decide +kernel
theorem dX5_isSame_460 : decode cX5_isSame 460 = .ok (.invokevirtual 111, 3) := by decide +kernel
theorem dX5_isSame_463 : decode cX5_isSame 463 = .ok (.aload_n 2, 1) := by decide +kernel
theorem dX5_isSame_464 : decode cX5_isSame 464 = .ok (.arraylength, 1) := by decide +kernel
theorem dX5_isSame_465 : decode cX5_isSame 465 = .ok (.ifCond .ne 7, 3) := by decide +kernel
theorem dX5_isSame_468 : decode cX5_isSame 468 = .ok (.dconst 0, 1) := by decide +kernel
theorem dX5_isSame_469 : decode cX5_isSame 469 = .ok (.goto 10, 3) := by decide +kernel
theorem dX5_isSame_472 : decode cX5_isSame 472 = .ok (.iload 5, 2) := by decide +kernel
theorem dX5_isSame_474 : decode cX5_isSame 474 = .ok (.i2d, 1) := by decide +kernel
theorem dX5_isSame_475 : decode cX5_isSame 475 = .ok (.aload_n 2, 1) := by decide +kernel
theorem dX5_isSame_476 : decode cX5_isSame 476 = .ok (.arraylength, 1) := by decide +kernel
theorem dX5_isSame_477 : decode cX5_isSame 477 = .ok (.i2d, 1) := by decide +kernel
theorem dX5_isSame_478 : decode cX5_isSame 478 = .ok (.ddiv, 1) := by decide +kernel
theorem dX5_isSame_479 : decode cX5_isSame 479 = .ok (.dcmp .l, 1) := by decide +kernel
theorem dX5_isSame_480 : decode cX5_isSame 480 = .ok (.ifCond .ne 7, 3) := by decide +kernel
theorem dX5_isSame_483 : decode cX5_isSame 483 = .ok (.iconst 1, 1) := by decide +kernel
theorem dX5_isSame_484 : decode cX5_isSame 484 = .ok (.goto 4, 3) := by decide +kernel
theorem dX5_isSame_487 : decode cX5_isSame 487 = .ok (.iconst 0, 1) := by decide +kernel
theorem dX5_isSame_488 : decode cX5_isSame 488 = .ok (.ireturn, 1) := by decide +kernel
theorem dJ9_max_7cf53_0 : decode cJ9_max_7cf53 0 = .ok (.iload_n 0, 1) := by decide +kernel
theorem dJ9_max_7cf53_1 : decode cJ9_max_7cf53 1 = .ok (.iload_n 1, 1) := by decide +kernel
theorem dJ9_max_7cf53_2 : decode cJ9_max_7cf53 2 = .ok (.if_icmp .lt 7, 3) := by decide +kernel
theorem dJ9_max_7cf53_5 : decode cJ9_max_7cf53 5 = .ok (.iload_n 0, 1) := by decide +kernel
theorem dJ9_max_7cf53_6 : decode cJ9_max_7cf53 6 = .ok (.goto 4, 3) := by decide +kernel
theorem dJ9_max_7cf53_9 : decode cJ9_max_7cf53 9 = .ok (.iload_n 1, 1) := by decide +kernel
theorem dJ9_max_7cf53_10 : decode cJ9_max_7cf53 10 = .ok (.ireturn, 1) := by decide +kernel
theorem dJ9_min_7cf53_0 : decode cJ9_min_7cf53 0 = .ok (.iload_n 0, 1) := by decide +kernel
theorem dJ9_min_7cf53_1 : decode cJ9_min_7cf53 1 = .ok (.iload_n 1, 1) := by decide +kernel
theorem dJ9_min_7cf53_2 : decode cJ9_min_7cf53 2 = .ok (.if_icmp .gt 7, 3) := by decide +kernel
theorem dJ9_min_7cf53_5 : decode cJ9_min_7cf53 5 = .ok (.iload_n 0, 1) := by decide +kernel
theorem dJ9_min_7cf53_6 : decode cJ9_min_7cf53 6 = .ok (.goto 4, 3) := by decide +kernel
theorem dJ9_min_7cf53_9 : decode cJ9_min_7cf53 9 = .ok (.iload_n 1, 1) := by decide +kernel
theorem dJ9_min_7cf53_10 : decode cJ9_min_7cf53 10 = .ok (.ireturn, 1) := by decide +kernel
end
section
abbrev vwCl : List vw_C := [(RX1, TX1, 5), (RX2, TX2, 7), (RX3, TX3, 5), (RX4, TX4, 2), (RX5, TX5, 5)]
end
section
/-! Rows of mine over the kit's: a number that stands on the stack as nI of a Nat. -/
def zup (f : Nat → Nat) (k x : Nat) : Nat → Nat := fun j => if j = k then x else f j
theorem zup_s (f : Nat → Nat) (k x : Nat) : zup f k x k = x := by simp [zup]
theorem zup_n (f : Nat → Nat) {k j : Nat} (x : Nat) (h : j ≠ k) : zup f k x j = f j := by simp [zup, h]
theorem zup_id (f : Nat → Nat) (k : Nat) : zup f k (f k) = f := by
  funext j
  by_cases h : j = k
  · subst h; simp [zup]
  · simp [zup, h]
theorem zup_eq (f : Nat → Nat) {k x : Nat} (h : x = f k) : zup f k x = f := by rw [h]; exact zup_id f k
def z0 : Nat → Nat := fun _ => 0
theorem zz_eq0 {a : Nat} (ha : a < 2 ^ 31) : nI a = 0 ↔ a = 0 := nI_eq (b := 0) ha (by decide)
theorem zz_lt0 {a : Nat} (ha : a < 2 ^ 31) : nI a < 0 ↔ a < 0 := nI_ltI (b := 0) ha (by decide)
theorem zz_le0 {a : Nat} (ha : a < 2 ^ 31) : 0 ≤ nI a ↔ 0 ≤ a := nI_leI (a := 0) (by decide) ha
theorem zz_ge0 {a : Nat} (ha : a < 2 ^ 31) : 0 ≤ nI a := (zz_le0 ha).mpr (Nat.zero_le a)
theorem zz_gt0 {a : Nat} (ha : a < 2 ^ 31) : 0 < nI a ↔ 0 < a := nI_ltI (a := 0) (by decide) ha
theorem zz_lez {a : Nat} (ha : a < 2 ^ 31) : nI a ≤ 0 ↔ a ≤ 0 := nI_leI (b := 0) ha (by decide)
theorem zz_max {a b : Nat} (ha : a < 2 ^ 31) (hb : b < 2 ^ 31) : (if nI a < nI b then nI b else nI a) = nI (max a b) := by
  by_cases h : a < b
  · rw [if_pos ((nI_ltI ha hb).mpr h), Nat.max_eq_right (Nat.le_of_lt h)]
  · rw [if_neg (mt (nI_ltI ha hb).mp h), Nat.max_eq_left (Nat.le_of_not_lt h)]
theorem zz_min {a b : Nat} (ha : a < 2 ^ 31) (hb : b < 2 ^ 31) : (if nI b < nI a then nI b else nI a) = nI (min a b) := by
  by_cases h : b < a
  · rw [if_pos ((nI_ltI hb ha).mpr h), Nat.min_eq_right (Nat.le_of_lt h)]
  · rw [if_neg (mt (nI_ltI hb ha).mp h), Nat.min_eq_left (Nat.le_of_not_lt h)]
theorem zz_upd (f : Nat → Nat) {k x : Nat} (hk : k < 2 ^ 31) : upd (fun j => nI (f j)) (nI k).toNatClampNeg (nI x) = fun j => nI (zup f k x j) := by
  funext j
  rw [nI_clamp hk]
  by_cases h : j = k
  · subst h; rw [pk_us, zup_s]
  · rw [pk_un h, zup_n f x h]
section ZR
variable {p : Program} {l : Launch} {e : Env} {R : Room} {s : State} {m : MethodId} {args : Array Value} {below : List Frame} {meth : Method} {c : Code} {H H0 : Heap} {locs : List Loc} {cells slots : Nat} {Q : State → Prop} {pc a : Nat} {ls : Array Slot} {rest : List Value} {cc : ByteArray} {D : va_G} {cl : List vw_C} {tys : List (ClassId × FieldType)} {ws : va_W} {A : Nat → Prop}
theorem zz_top {x y : Int32} (h : x = y) (k : W p l e R s m args below meth c H locs cells slots Q (F0 m pc ls (.int y :: rest))) : W p l e R s m args below meth c H locs cells slots Q (F0 m pc ls (.int x :: rest)) := by
  subst h; exact k
theorem zz_topl {x y : Int64} (h : x = y) (k : W p l e R s m args below meth c H locs cells slots Q (F0 m pc ls (.long y :: rest))) : W p l e R s m args below meth c H locs cells slots Q (F0 m pc ls (.long x :: rest)) := by
  subst h; exact k
theorem zz_ald (hexec : p.tables.exec = Jvm.exec) (hb : c.code = cc) (hK : va_K D cl tys s) (hP : va_P D cl ws H) (q0 : Nat) {cA : ClassId} {n : Nat} {f : Nat → Nat} (ha : ws[q0]? = some (a, .inl (cA, n, .inl (fun j => nI (f j))))) (ht : tys[0]? = some (cA, .int)) {j : Nat} (hj : j < n) (hn : n < 2 ^ 31) (hdg : decode cc pc = .ok (.iaload, 1))
    (kk : W p l e R s m args below meth c H locs cells slots Q (F0 m (pc + 1) ls (.int (nI (f j)) :: rest))) : W p l e R s m args below meth c H locs cells slots Q (F0 m pc ls (.int (nI j) :: .ref a :: rest)) := by
  refine va_iald hexec hb hK hP q0 0 ha ht (vp_in_nI hj hn) hdg ?_
  rw [nI_clamp (Nat.lt_trans hj hn)]
  exact kk
theorem zz_aldI (hexec : p.tables.exec = Jvm.exec) (hb : c.code = cc) (hK : va_K D cl tys s) (hP : va_P D cl ws H) (q0 : Nat) {cA : ClassId} {n : Nat} {f : Nat → Int32} (ha : ws[q0]? = some (a, .inl (cA, n, .inl f))) (ht : tys[0]? = some (cA, .int)) {j : Nat} (hj : j < n) (hn : n < 2 ^ 31) (hdg : decode cc pc = .ok (.iaload, 1))
    (kk : W p l e R s m args below meth c H locs cells slots Q (F0 m (pc + 1) ls (.int (f j) :: rest))) : W p l e R s m args below meth c H locs cells slots Q (F0 m pc ls (.int (nI j) :: .ref a :: rest)) := by
  refine va_iald hexec hb hK hP q0 0 ha ht (vp_in_nI hj hn) hdg ?_
  rw [nI_clamp (Nat.lt_trans hj hn)]
  exact kk
theorem zz_ast (hexec : p.tables.exec = Jvm.exec) (hb : c.code = cc) (hK : va_K D cl tys s) (hP : va_P D cl ws H) (hD : va_D A ws) (hS : va_S A H0 H locs) (q0 : Nat) {cA : ClassId} {n : Nat} {f : Nat → Nat} (ha : ws[q0]? = some (a, .inl (cA, n, .inl (fun j => nI (f j))))) (ht : tys[0]? = some (cA, .int)) {j x : Nat} (hj : j < n) (hn : n < 2 ^ 31) (hdg : decode cc pc = .ok (.iastore, 1))
    (kk : ∀ (H1 : Heap) (locs1 : List Loc), va_P D cl (ws.set q0 (a, .inl (cA, n, .inl (fun i => nI (zup f j x i))))) H1 → va_D A (ws.set q0 (a, .inl (cA, n, .inl (fun i => nI (zup f j x i))))) → va_S A H0 H1 locs1 → W p l e R s m args below meth c H1 locs1 cells slots Q (F0 m (pc + 1) ls rest)) : W p l e R s m args below meth c H locs cells slots Q (F0 m pc ls (.int (nI x) :: .int (nI j) :: .ref a :: rest)) := by
  refine va_iast hexec hb hK hP hD hS q0 0 ha ht (vp_in_nI hj hn) hdg (fun H1 locs1 h1 h2 h3 => ?_)
  rw [zz_upd f (Nat.lt_trans hj hn)] at h1 h2
  exact kk H1 locs1 h1 h2 h3
theorem zz_astI (hexec : p.tables.exec = Jvm.exec) (hb : c.code = cc) (hK : va_K D cl tys s) (hP : va_P D cl ws H) (hD : va_D A ws) (hS : va_S A H0 H locs) (q0 : Nat) {cA : ClassId} {n : Nat} {f : Nat → Int32} (ha : ws[q0]? = some (a, .inl (cA, n, .inl f))) (ht : tys[0]? = some (cA, .int)) {j : Nat} {x : Int32} (hj : j < n) (hn : n < 2 ^ 31) (hdg : decode cc pc = .ok (.iastore, 1))
    (kk : ∀ (H1 : Heap) (locs1 : List Loc), va_P D cl (ws.set q0 (a, .inl (cA, n, .inl (upd f j x)))) H1 → va_D A (ws.set q0 (a, .inl (cA, n, .inl (upd f j x)))) → va_S A H0 H1 locs1 → W p l e R s m args below meth c H1 locs1 cells slots Q (F0 m (pc + 1) ls rest)) : W p l e R s m args below meth c H locs cells slots Q (F0 m pc ls (.int x :: .int (nI j) :: .ref a :: rest)) := by
  refine va_iast hexec hb hK hP hD hS q0 0 ha ht (vp_in_nI hj hn) hdg (fun H1 locs1 h1 h2 h3 => ?_)
  rw [nI_clamp (Nat.lt_trans hj hn)] at h1 h2
  exact kk H1 locs1 h1 h2 h3
theorem zz_same {i j : Nat} {c1 c2 : ClassId} (hK : va_K D cl tys s) (h1 : tys[i]? = some (c1, .int)) (h2 : tys[j]? = some (c2, .int)) : c1 = c2 :=
  Option.some.inj ((hK.2 i _ h1).2.symm.trans (hK.2 j _ h2).2)
theorem zz_newa (hexec : p.tables.exec = Jvm.exec) (hb : c.code = cc) (harr : (Cond.arrayClass .int).before args s = true) {cA : ClassId} (hK : va_K D cl [(cA, .int)] s) (hP : va_P D cl ws H) (hD : va_D A ws) (hS : va_S A H0 H locs) (hA : ∀ q, H0.size ≤ q → A q)
    {n : Nat} (hn : n < 2 ^ 31) (hbytes : n * componentBytes .int ≤ 536870912) (hcells : cells + 1 ≤ R.cells) (hslots : slots + n ≤ R.slots) (hdg : decode cc pc = .ok (.newarray .int, 2))
    (kk : ∀ (q : Nat) (H1 : Heap), va_P D cl (ws ++ [(q, .inl (cA, n, .inl (fun j => nI (z0 j))))]) H1 → va_D A (ws ++ [(q, .inl (cA, n, .inl (fun j => nI (z0 j))))]) → va_S A H0 H1 locs →
      W p l e R s m args below meth c H1 locs (cells + 1) (slots + n) Q (F0 m (pc + 2) ls (.ref q :: rest))) : W p l e R s m args below meth c H locs cells slots Q (F0 m pc ls (.int (nI n) :: rest)) := by
  refine va_newa (atype := .int) (ty := .int) (a0 := (n, .inl (fun j => nI (z0 j)))) hexec hb harr rfl hK hP hD hS hA (fun cB => rfl) (nI_pos hn) (nI_clamp hn) hbytes hcells hslots hdg (fun q cB H1 hK1 hP1 hD1 hS1 => ?_)
  obtain rfl : cB = cA := zz_same hK1 (i := 1) (j := 0) rfl rfl
  exact kk q H1 hP1 hD1 hS1
theorem zz_cell {cI : ClassId} {n : Nat} {f g : Nat → Int32} (h : ∀ j, j < n → f j = g j) : vp_cell cI (n, .inl f) = vp_cell cI (n, .inl g) := by
  rw [vp_cell_i, vp_cell_i]
  have e : (Array.ofFn (n := n) fun j => Value.int (f j.val)) = (Array.ofFn (n := n) fun j => Value.int (g j.val)) := congrArg _ (funext fun j => by rw [h j.val j.isLt])
  unfold arrV
  rw [e]
theorem zz_setP {cI : ClassId} {q n : Nat} {f g : Nat → Int32} (h : ∀ j, j < n → f j = g j) (hP : va_P D cl (ws.set q (a, .inl (cI, n, .inl f))) H) : va_P D cl (ws.set q (a, .inl (cI, n, .inl g))) H := by
  intro k x hx
  by_cases hk : q = k
  · subst hk
    have hl : q < ws.length := by
      have := (List.getElem?_eq_some_iff.mp hx).1
      simpa using this
    rw [List.getElem?_set_self hl] at hx
    cases hx
    have h1 : H[a]? = some (vp_cell cI (n, .inl f)) := hP q (a, .inl (cI, n, .inl f)) (List.getElem?_set_self hl)
    show H[a]? = some (vp_cell cI (n, .inl g))
    rw [h1, zz_cell h]
  · rw [List.getElem?_set_ne hk] at hx
    exact hP k x (by rw [List.getElem?_set_ne hk]; exact hx)
theorem zz_setD {q : Nat} {x y : va_E} (hD : va_D A (ws.set q (a, x))) : va_D A (ws.set q (a, y)) := by
  have tr : ∀ (i : Nat) (p : Nat × va_E), (ws.set q (a, y))[i]? = some p → ∃ p', (ws.set q (a, x))[i]? = some p' ∧ p'.1 = p.1 := by
    intro i p hp
    by_cases hk : q = i
    · subst hk
      have hl : q < ws.length := by
        have := (List.getElem?_eq_some_iff.mp hp).1
        simpa using this
      rw [List.getElem?_set_self hl] at hp
      cases hp
      exact ⟨(a, x), List.getElem?_set_self hl, rfl⟩
    · rw [List.getElem?_set_ne hk] at hp
      exact ⟨p, by rw [List.getElem?_set_ne hk]; exact hp, rfl⟩
  refine ⟨fun i j p r hp hr hpr => ?_, fun k r hk => ?_⟩
  · obtain ⟨p', h1, h2⟩ := tr i p hp
    obtain ⟨r', h3, h4⟩ := tr j r hr
    exact hD.1 i j p' r' h1 h3 (by rw [h2, h4, hpr])
  · obtain ⟨r', h1, h2⟩ := tr k r hk
    rw [← h2]
    exact hD.2 k r' h1
theorem zz_copy (hexec : p.tables.exec = Jvm.exec) (hb : c.code = cc) (hml : c.maxLocals = ls.size) {own : String} {index : Nat} (hown : s.vm.findClass own = some m.cls) (hlink : (Cond.methodLink own index arraycopyName).before args s = true) (hnat : (Cond.native arraycopyName).before args s = true) (hstat : (Cond.static arraycopyName).before args s = true) (hini : (Cond.initialized "java/lang/System").before args s = true)
    (hK : va_K D cl tys s) (hP : va_P D cl ws H) (hD : va_D A ws) (hS : va_S A H0 H locs) (q0 q1 : Nat) {a0 : Nat} {cA : ClassId} {N : Nat} {f g : Nat → Int32} (ha0 : ws[q0]? = some (a0, .inl (cA, N, .inl f))) (ha1 : ws[q1]? = some (a, .inl (cA, N, .inl g))) (ht : tys[0]? = some (cA, .int)) (hN : N < 2 ^ 31)
    (hframes : 1 ≤ R.frames) (hlocals : (rest.map fun v => v.category).sum + (nativeFrameWords "java/lang/System" "arraycopy" 5 + 11) ≤ R.locals) (hdg : decode cc pc = .ok (.invokestatic index, 3))
    (kk : ∀ (H1 : Heap) (locs1 : List Loc), va_P D cl (ws.set q1 (a, .inl (cA, N, .inl f))) H1 → va_D A (ws.set q1 (a, .inl (cA, N, .inl f))) → va_S A H0 H1 locs1 → W p l e R s m args below meth c H1 locs1 cells slots Q (F0 m (pc + 3) ls rest)) : W p l e R s m args below meth c H locs cells slots Q (F0 m pc ls (.int (nI N) :: .int (nI 0) :: .ref a :: .int (nI 0) :: .ref a0 :: rest)) := by
  refine va_copyi hexec hb hml hown hlink hnat hstat hini hK hP hD hS q0 q1 0 0 (ty := .int) ha0 ha1 ht ht rfl (by decide) (by decide) (nI_pos hN) ?_ ?_ (fun i _ => rfl) hframes hlocals hdg (fun H1 locs1 h1 h2 h3 => ?_)
  · rw [nI_clamp hN, nI_clamp (n := 0) (by decide)]; omega
  · rw [nI_clamp hN, nI_clamp (n := 0) (by decide)]; omega
  · refine kk H1 locs1 (zz_setP (f := va_cpy f g (nI 0).toNatClampNeg (nI 0).toNatClampNeg (nI N).toNatClampNeg) (fun j hj => ?_) h1) (zz_setD h2) h3
    rw [nI_clamp hN, nI_clamp (n := 0) (by decide), pk_cpy_in (Nat.zero_le j) (by omega)]
    congr 1
    omega
end ZR
/-- the links of private constructors within the nests, and the class of int[][] -/
def zAO (U : State) : Prop := (Cond.arrayOver (.array .int)).before #[] U = true
theorem zAO.use {A : Array Value} {U : State} (h : zAO U) : (Cond.arrayOver (.array .int)).before A U = true := h
theorem zAO.of {A : Array Value} {U : State} (h : (Cond.arrayOver (.array .int)).before A U = true) : zAO U := h
theorem zAO.moved {u U : State} (hvm : u.vm.Alike U.vm) (h : zAO u) : zAO U := by
  obtain ⟨comp, c, k, h1, h2, h3, h4, h5⟩ := arrayOverA_spec h
  obtain ⟨k', hk', he⟩ := hvm.2.2 _ _ h3
  have hi : (U.vm.classes.findIdx? fun (x : Class) => match x.kind with | .array component _ => component == comp | _ => false) = some c := by
    rw [hvm.findIdx?_eq _ (fun _ => rfl)]; exact h2
  have hkind : k'.kind = .array comp (.array .int) := by rw [he]; exact h4
  have f1 : U.vm.findClass (FieldType.array .int).toString = some comp := by rw [hvm.findClass]; exact h1
  have f2 : U.vm.findClass ("[" ++ (FieldType.array .int).toString) = some c := by rw [hvm.findClass]; exact h5
  unfold zAO Cond.before Cond.holds
  simp only [Cond.value]
  rw [f1, Option.bind_some]
  refine (congrArg (fun o : Option Nat => (o.bind (fun c => (U.vm.classes[c]?).map fun (k : Class) => match k.kind with | .array _ ty => decide (ty = FieldType.array .int) && decide (U.vm.findClass ("[" ++ (FieldType.array .int).toString) = some c) | _ => false) == some true)) hi).trans ?_
  simp [hk', hkind, f2]
def zNest (U : State) : Prop := va_Nw (.methodLinkNest RX1 11 yX2_init RX4) U ∧ va_Nw (.methodLinkNest RX1 20 yX3_init RX4) U ∧ va_Nw (.methodLinkNest RX4 9 yX1_init RX4) U ∧ va_Nw (.methodLinkNest RL 71 yX5_init RL) U ∧ zAO U
theorem zNest.same {u U : State} (h : u.vm = U.vm) (q : zNest u) : zNest U := ⟨va_Nw.same rfl h q.1, va_Nw.same rfl h q.2.1, va_Nw.same rfl h q.2.2.1, va_Nw.same rfl h q.2.2.2.1, zAO.moved (by rw [h]; exact Vm.Alike.refl _) q.2.2.2.2⟩
theorem zNest.moved {s U : State} (hW : s.WarmedH U.vm) (q : zNest s) : zNest U := ⟨va_Nw.warmM hW q.1, va_Nw.warmM hW q.2.1, va_Nw.warmM hW q.2.2.1, va_Nw.warmM hW q.2.2.2.1, zAO.moved hW.alike q.2.2.2.2⟩
/-! The machine in numbers: moon, grade, view, ageing (pure). -/
def zb (d : Nat) : Nat := if d % 8 ≤ 4 then d % 8 else 8 - d % 8
def zg (i : Nat) : Nat := if 10 ≤ i then 1 else if 7 ≤ i then 3 else if 4 ≤ i then 2 else if 1 ≤ i then 1 else 0
def zv (w i g b : Nat) : Nat := if w = 0 then 0 else 2 * w + 3 * zg i + g * b
def zhas (x : Int32) (n : Nat) : Nat := if x < 0 then 0 else if nI n ≤ x then 0 else 1
def zcnt (wa : Nat → Nat) : Nat → Nat
  | 0 => 0
  | n + 1 => if wa n ≤ 0 then zcnt wa n else zcnt wa n + 1
def zsv (wa iv gh : Nat → Nat) (b : Nat) : Nat → Nat
  | 0 => 0
  | n + 1 => zsv wa iv gh b n + zv (wa n) (iv n) (gh n) b
def zme (w i g p r b : Nat) : Int32 := if w = 0 then (-1) else nI ((zv w i g b * 10 + (9 - p)) * 10 + (9 - r))
def zmf (wa iv gh pr : Nat → Nat) (b : Nat) : Nat → Int32 := fun j => zme (wa j) (iv j) (gh j) (pr j) j b
def zab (f : Nat → Int32) (v : Int32) : Nat → Nat
  | 0 => 0
  | n + 1 => if f n ≤ v then zab f v n else zab f v n + 1
def zmes (i : Nat) (wa iv gh pr : Nat → Nat) (b : Nat) (me : Nat → Int32) : Nat → Int32 := fun j => if j < i then zmf wa iv gh pr b j else me j
def zrks (i n : Nat) (mm : Nat → Int32) (wa : Nat → Nat) (rk : Nat → Int32) : Nat → Int32 := fun j => if j < i then (if wa j = 0 then (-1) else nI (zab mm (mm j) n)) else rk j
def zfr (f : Nat → Int32) (x : Int32) : Nat → Nat → Int32
  | 0, _ => (-1)
  | k + 1, i => if f i = x then nI i else zfr f x k (i + 1)
def z_iv (d w i : Nat) : Nat := if 0 < w ∧ d % 3 = 2 ∧ i < 12 then i + 1 else i
def z_wa (d w i : Nat) : Nat := if 0 < w ∧ 10 ≤ z_iv d w i then w - 1 else w
def z_gb (b w i g : Nat) : Nat := if b = 4 then (if w ≠ 0 ∧ zg i = 3 ∧ g < 5 then g + 1 else g) else if b = 0 then (if 0 < g ∧ (w = 0 ∨ zg i = 0) then g - 1 else g) else g
def z_gh (d w i g : Nat) : Nat := z_gb (zb d) (z_wa d w i) (z_iv d w i) g
def zAw (d i : Nat) (wa iv : Nat → Nat) : Nat → Nat := fun j => if j < i then z_wa d (wa j) (iv j) else wa j
def zAi (d i : Nat) (wa iv : Nat → Nat) : Nat → Nat := fun j => if j < i then z_iv d (wa j) (iv j) else iv j
def zAg (d i : Nat) (wa iv gh : Nat → Nat) : Nat → Nat := fun j => if j < i then z_gh d (wa j) (iv j) (gh j) else gh j
def zs1 (d : Nat) (t : Nat × Nat × Nat) : Nat × Nat × Nat := (z_wa d t.1 t.2.1, z_iv d t.1 t.2.1, z_gh d t.1 t.2.1 t.2.2)
def zon (d : Nat) (t : Nat × Nat × Nat) : Nat → Nat × Nat × Nat
  | 0 => t
  | k + 1 => zs1 (d + k) (zon d t k)
theorem zb_le (d : Nat) : zb d ≤ 4 := by unfold zb; split <;> omega
theorem zg_le (i : Nat) : zg i ≤ 3 := by unfold zg; (repeat' split) <;> omega
theorem zv_le {w i g b : Nat} (hw : w ≤ 20) (hg : g ≤ 5) (hb : b ≤ 4) : zv w i g b ≤ 69 := by
  have h1 : g * b ≤ 5 * 4 := Nat.mul_le_mul hg hb
  have h2 := zg_le i
  unfold zv
  split <;> omega
theorem zhas_in {r n : Nat} (h : r < n) (hn : n < 2 ^ 31) : zhas (nI r) n = 1 := by
  unfold zhas
  rw [if_neg (nI_pos (Nat.lt_trans h hn)), if_neg (nI_ge h hn)]
theorem zcnt_le (wa : Nat → Nat) : ∀ n, zcnt wa n ≤ n
  | 0 => Nat.le_refl 0
  | n + 1 => by
    have := zcnt_le wa n
    unfold zcnt
    split <;> omega
theorem zcnt_s0 {wa : Nat → Nat} {i : Nat} (h : wa i ≤ 0) : zcnt wa (i + 1) = zcnt wa i := by
  show (if wa i ≤ 0 then zcnt wa i else zcnt wa i + 1) = _
  rw [if_pos h]
theorem zcnt_s1 {wa : Nat → Nat} {i : Nat} (h : ¬ wa i ≤ 0) : zcnt wa (i + 1) = zcnt wa i + 1 := by
  show (if wa i ≤ 0 then zcnt wa i else zcnt wa i + 1) = _
  rw [if_neg h]
theorem zab_le (f : Nat → Int32) (v : Int32) : ∀ n, zab f v n ≤ n
  | 0 => Nat.le_refl 0
  | n + 1 => by
    have := zab_le f v n
    unfold zab
    split <;> omega
theorem zab_s0 {f : Nat → Int32} {v : Int32} {i : Nat} (h : f i ≤ v) : zab f v (i + 1) = zab f v i := by
  show (if f i ≤ v then zab f v i else zab f v i + 1) = _
  rw [if_pos h]
theorem zab_s1 {f : Nat → Int32} {v : Int32} {i : Nat} (h : ¬ f i ≤ v) : zab f v (i + 1) = zab f v i + 1 := by
  show (if f i ≤ v then zab f v i else zab f v i + 1) = _
  rw [if_neg h]
theorem zab_pos {f : Nat → Int32} {v : Int32} {i : Nat} (h : ¬ f i ≤ v) : ∀ n, i < n → ¬ zab f v n = 0
  | 0, hi => absurd hi (Nat.not_lt_zero _)
  | n + 1, hi => by
    by_cases e : i = n
    · subst e; rw [zab_s1 h]; omega
    · have := zab_pos h n (by omega)
      by_cases q : f n ≤ v
      · rw [zab_s0 q]; exact this
      · rw [zab_s1 q]; omega
theorem zab_congr {f g : Nat → Int32} {v : Int32} : ∀ n, (∀ j, j < n → f j = g j) → zab f v n = zab g v n
  | 0, _ => rfl
  | n + 1, h => by
    have := zab_congr (v := v) n (fun j hj => h j (by omega))
    show (if f n ≤ v then zab f v n else zab f v n + 1) = (if g n ≤ v then zab g v n else zab g v n + 1)
    rw [this, h n (Nat.lt_succ_self n)]
theorem zsv_le {wa iv gh : Nat → Nat} {b : Nat} (hw : ∀ j, wa j ≤ 20) (hg : ∀ j, gh j ≤ 5) (hb : b ≤ 4) : ∀ n, zsv wa iv gh b n ≤ 69 * n
  | 0 => Nat.le_refl 0
  | n + 1 => by
    have h1 := zsv_le (iv := iv) hw hg hb n
    have h2 : zv (wa n) (iv n) (gh n) b ≤ 69 := zv_le (hw n) (hg n) hb
    show zsv wa iv gh b n + zv (wa n) (iv n) (gh n) b ≤ _
    omega
theorem zmes_0 (wa iv gh pr : Nat → Nat) (b : Nat) (me : Nat → Int32) : zmes 0 wa iv gh pr b me = me := by
  funext j; simp [zmes]
theorem zmes_s (i : Nat) (wa iv gh pr : Nat → Nat) (b : Nat) (me : Nat → Int32) : zmes (i + 1) wa iv gh pr b me = upd (zmes i wa iv gh pr b me) i (zme (wa i) (iv i) (gh i) (pr i) i b) := by
  funext j
  by_cases h : j = i
  · subst h; rw [pk_us]; simp [zmes, zmf]
  · rw [pk_un h]
    by_cases h2 : j < i
    · simp [zmes, h2, Nat.lt_succ_of_lt h2]
    · simp [zmes, h2, show ¬ j < i + 1 by omega]
theorem zrks_0 (n : Nat) (mm : Nat → Int32) (wa : Nat → Nat) (rk : Nat → Int32) : zrks 0 n mm wa rk = rk := by
  funext j; simp [zrks]
theorem zrks_s {i n : Nat} {mm : Nat → Int32} {wa : Nat → Nat} {rk : Nat → Int32} {x : Int32} (hx : x = if wa i = 0 then (-1) else nI (zab mm (mm i) n)) : zrks (i + 1) n mm wa rk = upd (zrks i n mm wa rk) i x := by
  funext j
  by_cases h : j = i
  · subst h; rw [pk_us, hx]; simp [zrks]
  · rw [pk_un h]
    by_cases h2 : j < i
    · simp [zrks, h2, Nat.lt_succ_of_lt h2]
    · simp [zrks, h2, show ¬ j < i + 1 by omega]
theorem zfr_e {f : Nat → Int32} {x : Int32} {n i : Nat} (h : n ≤ i) : zfr f x (n - i) i = (-1) := by
  rw [Nat.sub_eq_zero_of_le h]; rfl
theorem zfr_s {f : Nat → Int32} {x : Int32} {n i : Nat} (h : i < n) : zfr f x (n - i) i = if f i = x then nI i else zfr f x (n - (i + 1)) (i + 1) := by
  rw [show n - i = (n - (i + 1)) + 1 by omega]; rfl
theorem z_wa_le (d w i : Nat) : z_wa d w i ≤ w := by unfold z_wa; split <;> omega
theorem z_iv_le {d w i : Nat} (h : i ≤ 12) : z_iv d w i ≤ 12 := by unfold z_iv; split <;> omega
theorem z_gb_le {b w i g : Nat} (h : g ≤ 5) : z_gb b w i g ≤ 5 := by unfold z_gb; (repeat' split) <;> omega
theorem z_gh_le {d w i g : Nat} (h : g ≤ 5) : z_gh d w i g ≤ 5 := z_gb_le h
theorem zup_up (f : Nat → Nat) (k x y : Nat) : zup (zup f k x) k y = zup f k y := by
  funext j
  by_cases h : j = k <;> simp [zup, h]
theorem zA_0 {f : Nat → Nat} {g : Nat → Nat} : (fun j => if j < 0 then g j else f j) = f := by
  funext j; simp
theorem zA_s {f g : Nat → Nat} {i x : Nat} (hx : x = g i) : (fun j => if j < i + 1 then g j else f j) = zup (fun j => if j < i then g j else f j) i x := by
  funext j
  by_cases h : j = i
  · subst h; rw [zup_s, hx]; simp
  · rw [zup_n _ _ h]
    by_cases h2 : j < i
    · simp [h2, Nat.lt_succ_of_lt h2]
    · simp [h2, show ¬ j < i + 1 by omega]
theorem zA_i {f g : Nat → Nat} {i : Nat} : (fun j => if j < i then g j else f j) i = f i := by simp
theorem zz_cut {a b : Nat} (ha : a < 2 ^ 30) (hb : b < 2 ^ 30) : (if nI 0 < nI a - nI b then nI a - nI b else nI 0) = nI (a - b) := by
  by_cases h : b ≤ a
  · rw [pk_sub h]
    by_cases h0 : a - b = 0
    · rw [h0]; simp
    · rw [if_pos (nI_lt (by omega) (by omega))]
  · have h1 : nI a - nI b < 0 := pk_sneg hb (by omega)
    rw [if_neg (fun q => ?_), Nat.sub_eq_zero_of_le (by omega)]
    rw [nI_0] at q
    exact Int32.lt_irrefl (Int32.lt_trans h1 q)
end
section
/-! Rows of four numbers, any number of them, behind an array of references. -/
def zpl (cA : ClassId) (ra : Nat → Nat) (F : Nat → Nat → Int32) (n : Nat) : va_W := (List.range n).map (fun j => (ra j, .inl (cA, 4, .inl (F j))))
theorem zpl_at {cA : ClassId} {ra : Nat → Nat} {F : Nat → Nat → Int32} (Y Z : va_W) {n r : Nat} (hr : r < n) : (Y ++ (zpl cA ra F n ++ Z))[Y.length + r]? = some (ra r, .inl (cA, 4, .inl (F r))) := by
  rw [List.getElem?_append_right (by omega), show Y.length + r - Y.length = r by omega, List.getElem?_append_left (by simp [zpl]; exact hr)]
  simp [zpl, hr]
theorem zpl_put {cA : ClassId} {ra : Nat → Nat} {F : Nat → Nat → Int32} (Y Z : va_W) {n r : Nat} (hr : r < n) (G : Nat → Int32) : (Y ++ (zpl cA ra F n ++ Z)).set (Y.length + r) (ra r, .inl (cA, 4, .inl G)) = Y ++ (zpl cA ra (fun j => if j = r then G else F j) n ++ Z) := by
  rw [List.set_append_right _ _ (by omega), show Y.length + r - Y.length = r by omega, List.set_append_left _ _ (by simp [zpl]; exact hr)]
  congr 2
  apply List.ext_getElem?
  intro i
  by_cases hi : i = r
  · subst hi
    rw [List.getElem?_set_self (by simp [zpl]; exact hr)]
    simp [zpl, hr]
  · rw [List.getElem?_set_ne (Ne.symm hi)]
    by_cases h : i < n
    · simp [zpl, h, hi]
    · simp [zpl, h]
theorem zpl_cg {cA : ClassId} {ra ra' : Nat → Nat} {F F' : Nat → Nat → Int32} {n : Nat} (h : ∀ j, j < n → ra j = ra' j) (h2 : ∀ j, j < n → F j = F' j) : zpl cA ra F n = zpl cA ra' F' n := by
  unfold zpl
  apply List.map_congr_left
  intro j hj
  have := List.mem_range.mp hj
  rw [h j this, h2 j this]
theorem zpl_push {cA : ClassId} {ra : Nat → Nat} {F : Nat → Nat → Int32} {n q : Nat} {g : Nat → Int32} {F' : Nat → Nat → Int32} (h : ∀ j, j < n → F j = F' j) (hg : g = F' n) : zpl cA ra F n ++ [(q, .inl (cA, 4, .inl g))] = zpl cA (zup ra n q) F' (n + 1) := by
  subst hg
  rw [zpl_cg (ra' := zup ra n q) (F' := F') (fun j hj => (zup_n _ _ (by omega)).symm) h]
  unfold zpl
  rw [List.range_succ, List.map_append]
  simp [zup_s]
def zrow (f0 f1 f2 f3 : Nat → Nat) : Nat → Nat → Int32 := fun r k => if k = 0 then nI (f0 r) else if k = 1 then nI (f1 r) else if k = 2 then nI (f2 r) else if k = 3 then nI (f3 r) else nI 0
def zroi (f0 f1 f2 : Nat → Nat) (f3 : Nat → Int32) : Nat → Nat → Int32 := fun r k => if k = 0 then nI (f0 r) else if k = 1 then nI (f1 r) else if k = 2 then nI (f2 r) else if k = 3 then f3 r else nI 0
theorem zrow_0 {f0 f1 f2 f3 : Nat → Nat} {r : Nat} : zrow f0 f1 f2 f3 r 0 = nI (f0 r) := rfl
theorem zrow_1 {f0 f1 f2 f3 : Nat → Nat} {r : Nat} : zrow f0 f1 f2 f3 r 1 = nI (f1 r) := rfl
theorem zrow_2 {f0 f1 f2 f3 : Nat → Nat} {r : Nat} : zrow f0 f1 f2 f3 r 2 = nI (f2 r) := rfl
theorem zrow_3 {f0 f1 f2 f3 : Nat → Nat} {r : Nat} : zrow f0 f1 f2 f3 r 3 = nI (f3 r) := rfl
theorem zrow_u {f0 f1 f2 f3 g0 g1 g2 g3 : Nat → Nat} {r k : Nat} {x : Int32} (hk : k < 4) (h0 : ∀ j, nI (g0 j) = if k = 0 ∧ j = r then x else nI (f0 j)) (h1 : ∀ j, nI (g1 j) = if k = 1 ∧ j = r then x else nI (f1 j)) (h2 : ∀ j, nI (g2 j) = if k = 2 ∧ j = r then x else nI (f2 j)) (h3 : ∀ j, nI (g3 j) = if k = 3 ∧ j = r then x else nI (f3 j)) :
    (fun j => if j = r then upd (zrow f0 f1 f2 f3 r) k x else zrow f0 f1 f2 f3 j) = zrow g0 g1 g2 g3 := by
  funext j i
  by_cases hj : j = r
  · subst hj
    simp only [if_true]
    by_cases hi : i = k
    · subst hi
      rw [pk_us]
      unfold zrow
      rcases (show i = 0 ∨ i = 1 ∨ i = 2 ∨ i = 3 by omega) with rfl | rfl | rfl | rfl
      · simp [h0]
      · simp [h1]
      · simp [h2]
      · simp [h3]
    · rw [pk_un hi]
      unfold zrow
      by_cases a0 : i = 0
      · subst a0; simp [h0, show ¬ k = 0 by omega]
      by_cases a1 : i = 1
      · subst a1; simp [h1, show ¬ k = 1 by omega]
      by_cases a2 : i = 2
      · subst a2; simp [h2, show ¬ k = 2 by omega]
      by_cases a3 : i = 3
      · subst a3; simp [h3, show ¬ k = 3 by omega]
      · simp [a0, a1, a2, a3]
  · rw [if_neg hj]
    unfold zrow
    simp [h0, h1, h2, h3, hj]
theorem zrow_h {f : Nat → Nat} {r x : Nat} (j : Nat) : nI (zup f r x j) = if j = r then nI x else nI (f j) := by
  unfold zup
  split <;> rfl
theorem zrow_u0 {f0 f1 f2 f3 : Nat → Nat} {r x : Nat} : (fun j => if j = r then upd (zrow f0 f1 f2 f3 r) 0 (nI x) else zrow f0 f1 f2 f3 j) = zrow (zup f0 r x) f1 f2 f3 := zrow_u (by decide) (fun j => by simp [zrow_h]) (fun j => by simp) (fun j => by simp) (fun j => by simp)
theorem zrow_u1 {f0 f1 f2 f3 : Nat → Nat} {r x : Nat} : (fun j => if j = r then upd (zrow f0 f1 f2 f3 r) 1 (nI x) else zrow f0 f1 f2 f3 j) = zrow f0 (zup f1 r x) f2 f3 := zrow_u (by decide) (fun j => by simp) (fun j => by simp [zrow_h]) (fun j => by simp) (fun j => by simp)
theorem zrow_u2 {f0 f1 f2 f3 : Nat → Nat} {r x : Nat} : (fun j => if j = r then upd (zrow f0 f1 f2 f3 r) 2 (nI x) else zrow f0 f1 f2 f3 j) = zrow f0 f1 (zup f2 r x) f3 := zrow_u (by decide) (fun j => by simp) (fun j => by simp) (fun j => by simp [zrow_h]) (fun j => by simp)
theorem zrow_u3 {f0 f1 f2 f3 : Nat → Nat} {r x : Nat} : (fun j => if j = r then upd (zrow f0 f1 f2 f3 r) 3 (nI x) else zrow f0 f1 f2 f3 j) = zrow f0 f1 f2 (zup f3 r x) := zrow_u (by decide) (fun j => by simp) (fun j => by simp) (fun j => by simp) (fun j => by simp [zrow_h])
/-- a new row -/
theorem zrow_new {f0 f1 f2 f3 : Nat → Nat} {n a b c d : Nat} : (fun j9 => nI (zup (zup (zup (zup z0 0 a) 1 b) 2 c) 3 d j9)) = zrow (zup f0 n a) (zup f1 n b) (zup f2 n c) (zup f3 n d) n := by
  funext k
  unfold zrow
  rw [zup_s, zup_s, zup_s, zup_s]
  unfold zup z0
  by_cases a3 : k = 3
  · subst a3; rfl
  by_cases a2 : k = 2
  · subst a2; rfl
  by_cases a1 : k = 1
  · subst a1; rfl
  by_cases a0 : k = 0
  · subst a0; rfl
  simp [a0, a1, a2, a3]
theorem zrow_old {f0 f1 f2 f3 : Nat → Nat} {n a b c d j : Nat} (hj : j < n) : zrow f0 f1 f2 f3 j = zrow (zup f0 n a) (zup f1 n b) (zup f2 n c) (zup f3 n d) j := by
  funext k
  unfold zrow
  rw [zup_n _ _ (by omega), zup_n _ _ (by omega), zup_n _ _ (by omega), zup_n _ _ (by omega)]
theorem zroi_new {f0 f1 f2 : Nat → Nat} {f3 : Nat → Int32} {n : Nat} : upd (upd (upd (upd (fun j9 => nI (z0 j9)) 0 (nI (f0 n))) 1 (nI (f1 n))) 2 (nI (f2 n))) 3 (f3 n) = zroi f0 f1 f2 f3 n := by
  funext k
  unfold zroi
  by_cases a3 : k = 3
  · subst a3; rw [pk_us]; rfl
  rw [pk_un a3]
  by_cases a2 : k = 2
  · subst a2; rw [pk_us]; rfl
  rw [pk_un a2]
  by_cases a1 : k = 1
  · subst a1; rw [pk_us]; rfl
  rw [pk_un a1]
  by_cases a0 : k = 0
  · subst a0; rw [pk_us]; rfl
  rw [pk_un a0]
  simp [a0, a1, a2, a3, z0]
/-- an array of references, its first k places filled -/
def zrf (k : Nat) (ra : Nat → Nat) : Nat → Option Nat := fun j => if j < k then some (ra j) else none
theorem zrf_0 (ra : Nat → Nat) : (fun _ => none) = zrf 0 ra := by
  funext j; simp [zrf]
theorem zrf_g {k j : Nat} {ra : Nat → Nat} (h : j < k) : zrf k ra j = some (ra j) := by simp [zrf, h]
theorem zrf_s {k q : Nat} {ra : Nat → Nat} (hq : q = ra k) : va_up (zrf k ra) k (some q) = zrf (k + 1) ra := by
  subst hq
  funext j
  by_cases h : j = k
  · subst h; rw [va_up_self]; simp [zrf]
  · rw [va_up_ne _ _ h]
    by_cases h2 : j < k
    · simp [zrf, h2, Nat.lt_succ_of_lt h2]
    · simp [zrf, h2, show ¬ j < k + 1 by omega]
theorem zrf_cg {k : Nat} {ra ra' : Nat → Nat} (h : ∀ j, j < k → ra j = ra' j) : zrf k ra = zrf k ra' := by
  funext j
  unfold zrf
  split
  · rw [h j (by assumption)]
  · rfl
theorem zrf_push {k q : Nat} {ra : Nat → Nat} : va_up (zrf k ra) k (some q) = zrf (k + 1) (zup ra k q) := by
  rw [zrf_cg (ra' := zup ra k q) (fun j hj => (zup_n _ _ (by omega)).symm)]
  exact zrf_s (zup_s _ _ _).symm
section ZPR
variable {p : Program} {l : Launch} {e : Env} {R : Room} {s : State} {m : MethodId} {args : Array Value} {below : List Frame} {meth : Method} {c : Code} {H H0 : Heap} {locs : List Loc} {cells slots : Nat} {Q : State → Prop} {pc a : Nat} {ls : Array Slot} {rest : List Value} {cc : ByteArray} {D : va_G} {cl : List vw_C} {tys : List (ClassId × FieldType)} {ws ws' : va_W} {A : Nat → Prop}
theorem zp_ld (hexec : p.tables.exec = Jvm.exec) (hb : c.code = cc) (hK : va_K D cl tys s) (hP : va_P D cl ws H) (Y Z : va_W) {cA : ClassId} {ra : Nat → Nat} {F : Nat → Nat → Int32} {n r k : Nat} {v : Int32} (hw : ws = Y ++ (zpl cA ra F n ++ Z)) (ht : tys[0]? = some (cA, .int)) (hr : r < n) (hk : k < 4) (hv : F r k = v) (hdg : decode cc pc = .ok (.iaload, 1))
    (kk : W p l e R s m args below meth c H locs cells slots Q (F0 m (pc + 1) ls (.int v :: rest))) : W p l e R s m args below meth c H locs cells slots Q (F0 m pc ls (.int (nI k) :: .ref (ra r) :: rest)) := by
  refine va_iald hexec hb hK hP (Y.length + r) 0 (by rw [hw]; exact zpl_at Y Z hr) ht (vp_in_nI hk (by decide)) hdg ?_
  rw [nI_clamp (by omega), hv]
  exact kk
theorem zp_st (hexec : p.tables.exec = Jvm.exec) (hb : c.code = cc) (hK : va_K D cl tys s) (hP : va_P D cl ws H) (hD : va_D A ws) (hS : va_S A H0 H locs) (Y Z : va_W) {cA : ClassId} {ra : Nat → Nat} {F F' : Nat → Nat → Int32} {n r k : Nat} {x : Int32} (hw : ws = Y ++ (zpl cA ra F n ++ Z)) (hw' : ws' = Y ++ (zpl cA ra F' n ++ Z)) (ht : tys[0]? = some (cA, .int)) (hr : r < n) (hk : k < 4) (hF : (fun j => if j = r then upd (F r) k x else F j) = F') (hdg : decode cc pc = .ok (.iastore, 1))
    (kk : ∀ (H1 : Heap) (locs1 : List Loc), va_P D cl ws' H1 → va_D A ws' → va_S A H0 H1 locs1 → W p l e R s m args below meth c H1 locs1 cells slots Q (F0 m (pc + 1) ls rest)) : W p l e R s m args below meth c H locs cells slots Q (F0 m pc ls (.int x :: .int (nI k) :: .ref (ra r) :: rest)) := by
  refine va_iast hexec hb hK hP hD hS (Y.length + r) 0 (by rw [hw]; exact zpl_at Y Z hr) ht (vp_in_nI hk (by decide)) hdg (fun H1 locs1 h1 h2 h3 => ?_)
  rw [nI_clamp (by omega), hw, zpl_put Y Z hr, hF, ← hw'] at h1 h2
  exact kk H1 locs1 h1 h2 h3
theorem zz_aald (hexec : p.tables.exec = Jvm.exec) (hb : c.code = cc) (hK : va_K D cl tys s) (hP : va_P D cl ws H) (q0 : Nat) {cB : ClassId} {n : Nat} {f : Nat → Option Nat} (ha : ws[q0]? = some (a, .inl (cB, n, .inr (.inr (.inr (.inr f)))))) (ht : tys[1]? = some (cB, .array .int)) {j v : Nat} (hj : j < n) (hn : n < 2 ^ 31) (hv : f j = some v) (hdg : decode cc pc = .ok (.aaload, 1))
    (kk : W p l e R s m args below meth c H locs cells slots Q (F0 m (pc + 1) ls (.ref v :: rest))) : W p l e R s m args below meth c H locs cells slots Q (F0 m pc ls (.int (nI j) :: .ref a :: rest)) := by
  have hc : (nI j).toNatClampNeg = j := nI_clamp (Nat.lt_trans hj hn)
  have hin : vp_in (nI j) n := vp_in_nI hj hn
  exact W.aald (v := .ref v) (ty := .array .int) hexec hb (hP q0 _ ha) ((hK.2 1 _ ht).1 n (fun j => va_rf (f j))) rfl (fun q => by cases q) (by show ¬ (nI j < 0 ∨ (arrV _ _ _).slots.size ≤ _); rw [arrV_size]; exact hin) (by show (arrV _ _ _).slots[_]? = _; rw [hc, arrV_read _ _ hj, hv]; rfl) rfl rfl hdg kk
theorem zAO.cls (hK : va_K D cl tys s) (hO : zAO s) {cA cB : ClassId} (h0 : tys[0]? = some (cA, .int)) (h1 : tys[1]? = some (cB, .array .int)) : ∃ k, s.vm.classes[cB]? = some k ∧ k.kind = .array cA (.array .int) := by
  obtain ⟨comp, c, k, q1, q2, q3, q4, q5⟩ := arrayOverA_spec hO
  have e0 : s.vm.findClass ("[" ++ FieldType.int.toString) = some cA := (hK.2 0 _ h0).2
  have e1 : s.vm.findClass ("[" ++ (FieldType.array .int).toString) = some cB := (hK.2 1 _ h1).2
  have e2 : (FieldType.array .int).toString = "[" ++ FieldType.int.toString := by decide +kernel
  rw [e2] at q1
  obtain rfl : comp = cA := Option.some.inj (q1.symm.trans e0)
  obtain rfl : c = cB := Option.some.inj (q5.symm.trans e1)
  exact ⟨k, q3, q4⟩
theorem zz_aast (hexec : p.tables.exec = Jvm.exec) (hb : c.code = cc) (hK : va_K D cl tys s) (hO : zAO s) (hP : va_P D cl ws H) (hD : va_D A ws) (hS : va_S A H0 H locs) (q0 qk : Nat) {cA cB : ClassId} {n v : Nat} {x : vp_A} {f : Nat → Option Nat} (ha : ws[q0]? = some (a, .inl (cB, n, .inr (.inr (.inr (.inr f)))))) (h0 : tys[0]? = some (cA, .int)) (h1 : tys[1]? = some (cB, .array .int)) (hv : ws[qk]? = some (v, .inl (cA, x))) {j : Nat} (hj : j < n) (hn : n < 2 ^ 31) {f' : Nat → Option Nat} (hf' : va_up f j (some v) = f') (hdg : decode cc pc = .ok (.aastore, 1))
    (kk : ∀ (H1 : Heap) (locs1 : List Loc), va_P D cl (ws.set q0 (a, .inl (cB, n, .inr (.inr (.inr (.inr f')))))) H1 → va_D A (ws.set q0 (a, .inl (cB, n, .inr (.inr (.inr (.inr f')))))) → va_S A H0 H1 locs1 → W p l e R s m args below meth c H1 locs1 cells slots Q (F0 m (pc + 1) ls rest)) : W p l e R s m args below meth c H locs cells slots Q (F0 m pc ls (.ref v :: .int (nI j) :: .ref a :: rest)) := by
  subst hf'
  have hc : (nI j).toNatClampNeg = j := nI_clamp (Nat.lt_trans hj hn)
  have hlt : (nI j).toNatClampNeg < n := by rw [hc]; exact hj
  obtain ⟨k, k1, k2⟩ := hO.cls hK h0 h1
  obtain ⟨-, kA, hkA, -⟩ := (hK.2 0 _ h0).1 0 (fun _ => .null)
  have hcell : H[v]? = some (vp_cell cA x) := hP qk _ hv
  have hvm0 : (vp_cell cA x).vm = .none := by
    obtain ⟨n, f | f | f | f | f⟩ := x <;> rfl
  have hcl0 : (vp_cell cA x).cls = cA := by
    obtain ⟨n, f | f | f | f | f⟩ := x <;> rfl
  refine W.aast hexec hb (hP q0 _ ha) (fun q h => by cases h) (fun h => by cases h) k1 k2 rfl hkA ⟨nI_pos (Nat.lt_trans hj hn), by show _ < (arrV _ _ _).slots.size; rw [arrV_size]; exact hlt⟩ hcell (fun q h => by rw [hvm0] at h; cases h) (by rw [hcl0]; exact hkA) (by rw [hcl0]; exact va_asg _ _) rfl rfl hdg fun H1 e z oq => ?_
  refine kk H1 _ (hP.set hD ha ?_ oq) (hD.set ha) (hS.put z oq (hD.2 q0 _ ha))
  show H1[a]? = some (vp_cell _ _)
  rw [e]
  rw [vp_cell_q, vp_cell_q, arrV_store, hc]
  congr 2
  funext q
  by_cases hq : q = j
  · subst hq
    simp [updV, va_up, va_rf]
  · simp [updV, va_up, hq]
theorem zz_newA (hexec : p.tables.exec = Jvm.exec) (hb : c.code = cc) {own : String} {index : Nat} (hown : s.vm.findClass own = some m.cls) (hclink : (Cond.classLink own index "[I").before args s = true) (hK : va_K D cl tys s) (hO : zAO s) (hP : va_P D cl ws H) (hD : va_D A ws) (hS : va_S A H0 H locs) (hA : ∀ q, H0.size ≤ q → A q)
    {cB : ClassId} (h1 : tys[1]? = some (cB, .array .int)) {n : Nat} (hn : n < 2 ^ 20) (hcells : cells + 1 ≤ R.cells) (hslots : slots + n ≤ R.slots) (hdg : decode cc pc = .ok (.anewarray index, 3))
    (kk : ∀ (q : Nat) (H1 : Heap), va_P D cl (ws ++ [(q, .inl (cB, n, .inr (.inr (.inr (.inr (fun _ => none))))))]) H1 → va_D A (ws ++ [(q, .inl (cB, n, .inr (.inr (.inr (.inr (fun _ => none))))))]) → va_S A H0 H1 locs →
      W p l e R s m args below meth c H1 locs (cells + 1) (slots + n) Q (F0 m (pc + 3) ls (.ref q :: rest))) : W p l e R s m args below meth c H locs cells slots Q (F0 m pc ls (.int (nI n) :: rest)) := by
  have e2 : (FieldType.array .int).toString = "[I" := by decide +kernel
  have hc : (nI n).toNatClampNeg = n := nI_clamp (by omega)
  refine W.anewA (t := .int) hexec hb hown (by rw [e2]; exact hclink) hO.use rfl hdg rfl (nI_pos (by omega)) (by rw [hc]; omega) hcells (by rw [hc]; exact hslots) fun cA kA comp f1 f2 f3 f4 => ?_
  obtain rfl : cA = cB := Option.some.inj (f1.symm.trans (hK.2 1 _ h1).2)
  rw [hc]
  generalize hH1 : H.push ({ cls := cA, slots := Array.replicate n .null, vm := .none } : Cell) = H1
  have z1 : H1.size = H.size + 1 := by rw [← hH1, Array.size_push]
  have e1 : H1[H.size]? = some (arrV cA n (fun _ => .null)) := by rw [← hH1, Array.getElem?_push_size, ← arrV_new]
  have o1 : ∀ q : Nat, q < H.size → H1[q]? = H[q]? := fun q hq => by rw [← hH1, Array.getElem?_push, if_neg (Nat.ne_of_lt hq)]
  have hk : ∀ (k : Nat) (x : Nat × va_E), ws[k]? = some x → H1[x.1]? = H[x.1]? := fun k x hx => o1 x.1 ((hP k x hx).lt)
  refine kk H.size H1 ((hP.kept hk).app (fun k x hx => ?_)) (hD.push hP rfl (hA _ hS.1)) ⟨Nat.le_trans hS.1 (by omega), fun x h1 h2 => (o1 x (Nat.lt_of_lt_of_le h1 hS.1)).trans (hS.2.1 x h1 h2), hS.2.2⟩
  have hz : k < 1 := (List.getElem?_eq_some_iff.mp hx).1
  rw [show k = 0 by omega] at hx
  cases hx
  show H1[H.size]? = some (vp_cell _ _)
  rw [vp_cell_q]
  exact e1
theorem zp_pushP {X Y Z : va_W} {cA : ClassId} {ra : Nat → Nat} {F F' : Nat → Nat → Int32} {n q : Nat} {g : Nat → Int32} (hP : va_P D cl ws H) (hw : ws = (X ++ [(q, .inl (cA, 4, .inl g))]) ++ (Y ++ (zpl cA ra F n ++ Z))) (hw' : ws' = X ++ (Y ++ (zpl cA (zup ra n q) F' (n + 1) ++ Z))) (h : ∀ j, j < n → F j = F' j) (hg : g = F' n) : va_P D cl ws' H := by
  subst hw
  have h1 := hP.swap
  rw [show (X ++ (Y ++ (zpl cA ra F n ++ Z))) ++ [(q, .inl (cA, 4, .inl g))] = ((X ++ (Y ++ zpl cA ra F n)) ++ Z) ++ [(q, .inl (cA, 4, .inl g))] by simp only [List.append_assoc]] at h1
  have h2 := h1.swap
  rw [hw', ← zpl_push h hg]
  rw [show X ++ (Y ++ (zpl cA ra F n ++ [(q, .inl (cA, 4, .inl g))] ++ Z)) = ((X ++ (Y ++ zpl cA ra F n)) ++ [(q, .inl (cA, 4, .inl g))]) ++ Z by simp only [List.append_assoc]]
  exact h2
theorem zp_pushD {X Y Z : va_W} {cA : ClassId} {ra : Nat → Nat} {F F' : Nat → Nat → Int32} {n q : Nat} {g : Nat → Int32} (hD : va_D A ws) (hw : ws = (X ++ [(q, .inl (cA, 4, .inl g))]) ++ (Y ++ (zpl cA ra F n ++ Z))) (hw' : ws' = X ++ (Y ++ (zpl cA (zup ra n q) F' (n + 1) ++ Z))) (h : ∀ j, j < n → F j = F' j) (hg : g = F' n) : va_D A ws' := by
  subst hw
  have h1 := hD.swap
  rw [show (X ++ (Y ++ (zpl cA ra F n ++ Z))) ++ [(q, .inl (cA, 4, .inl g))] = ((X ++ (Y ++ zpl cA ra F n)) ++ Z) ++ [(q, .inl (cA, 4, .inl g))] by simp only [List.append_assoc]] at h1
  have h2 := h1.swap
  rw [hw', ← zpl_push h hg]
  rw [show X ++ (Y ++ (zpl cA ra F n ++ [(q, .inl (cA, 4, .inl g))] ++ Z)) = ((X ++ (Y ++ zpl cA ra F n)) ++ [(q, .inl (cA, 4, .inl g))]) ++ Z by simp only [List.append_assoc]]
  exact h2
theorem va_P.pre {a b : va_W} (h : va_P D cl (a ++ b) H) : va_P D cl a H := fun k q hk => h k q (by rw [List.getElem?_append_left (List.getElem?_eq_some_iff.mp hk).1]; exact hk)
theorem va_D.pre {a b : va_W} (h : va_D A (a ++ b)) : va_D A a := h.by id (fun k q hk => by show (a ++ b)[k]? = some q; rw [List.getElem?_append_left (List.getElem?_eq_some_iff.mp hk).1]; exact hk) (fun _ _ _ _ e => e)
/-- behind a call that had all pools but one, which stays -/
theorem zz_joinR {A0 : Nat → Prop} {X cx wr rx pl pl1 pz : va_W} {H1 : Heap} (hP : va_P D cl ((X ++ pl) ++ pz) H) (hD : va_D A0 ((X ++ pl) ++ pz)) (isC isR : List Nat) (hC : isC.map (fun i => X[i]?) = cx.map some) (hR : isR.map (fun i => X[i]?) = wr.map some) (hn : va_nd isR = true) (hdis : ∀ i ∈ isR, i ∉ isC)
    (hk : ∀ q : Nat, q < H.size → ¬ va_A (cx ++ pl) H.size q → H1[q]? = H[q]?) (hF : ∀ q, va_A (cx ++ pl) H.size q → A0 q) (hP1 : va_P D cl (rx ++ pl1) H1) (hD1 : va_D (va_A (cx ++ pl) H.size) (rx ++ pl1)) : va_P D cl (((wr ++ rx) ++ pl1) ++ pz) H1 ∧ va_D A0 (((wr ++ rx) ++ pl1) ++ pz) := by
  obtain ⟨j1, j2⟩ := va_joinP hP.pre hD.pre isC isR hC hR hn hdis hk hF hP1 hD1
  have at2 : ∀ (k : Nat) (q : Nat × va_E), pz[k]? = some q → ((X ++ pl) ++ pz)[(X ++ pl).length + k]? = some q := fun k q hq => by
    rw [List.getElem?_append_right (by omega), show (X ++ pl).length + k - (X ++ pl).length = k by omega]; exact hq
  have apart : ∀ (k : Nat) (q : Nat × va_E), pz[k]? = some q → q.1 < H.size ∧ ¬ va_A (cx ++ pl) H.size q.1 := by
    intro k q hq
    have h2 := at2 k q hq
    have hl := (hP _ q h2).lt
    refine ⟨hl, fun h => ?_⟩
    rcases h with ⟨k2, e, h⟩ | h
    · have h3 := va_part isC hC k2 _ h
      have hl3 := (List.getElem?_eq_some_iff.mp h3).1
      have h4 : ((X ++ pl) ++ pz)[if k2 < cx.length then (isC[k2]?).getD 0 else X.length + (k2 - cx.length)]? = some (q.1, e) := by
        rw [List.getElem?_append_left hl3]; exact h3
      have := hD.1 _ _ q (q.1, e) h2 h4 rfl
      omega
    · omega
  have hDz : va_D A0 pz := hD.by (fun k => (X ++ pl).length + k) at2 (fun i j _ _ e => by have e' : (X ++ pl).length + i = (X ++ pl).length + j := e; omega)
  have wrin : ∀ (i : Nat) (x : Nat × va_E), wr[i]? = some x → ∃ i', i' < (X ++ pl).length ∧ ((X ++ pl) ++ pz)[i']? = some x := fun i x hx => by
    obtain ⟨i', h1, h2⟩ := va_in_of isR hR hx
    have hi : i' < X.length := (List.getElem?_eq_some_iff.mp h2).1
    refine ⟨i', by rw [List.length_append]; omega, ?_⟩
    rw [List.getElem?_append_left (by rw [List.length_append]; omega), List.getElem?_append_left hi]
    exact h2
  refine ⟨j1.app (fun k q hq => (hP _ q (at2 k q hq)).kept (hk q.1 (apart k q hq).1 (apart k q hq).2)), va_D.app j2 hDz (fun i j x y hx hy hxy => ?_)⟩
  rw [List.append_assoc] at hx
  by_cases hi : i < wr.length
  · rw [List.getElem?_append_left hi] at hx
    obtain ⟨i', h1, h2⟩ := wrin i x hx
    have := hD.1 _ _ x y h2 (at2 j y hy) hxy
    omega
  · rw [List.getElem?_append_right (by omega)] at hx
    exact (apart j y hy).2 (by rw [← hxy]; exact hD1.2 _ x hx)
end ZPR
end
