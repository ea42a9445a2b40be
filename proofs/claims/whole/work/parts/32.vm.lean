/-! What a throw needs of the tables: the texts, castable, declares; and of the heap: two statics of Throwable. -/
def zStrs (U : State) : Prop := (∃ a, vk_R RX4 25 "walls, ivy, ghosts or price out of bounds" a U) ∧ (∃ a, vk_R RX4 42 "there are 10 ruins" a U) ∧ (∃ a, vk_R RX4 203 "no such ruin" a U) ∧ (∃ a, vk_R RX4 53 "ivy is not 1 to 12" a U) ∧ (∃ a, vk_R RX4 73 "the ruin has collapsed or has 20 walls, or there are too few coins" a U) ∧ (∃ a, vk_R RX4 75 "price is not 0 to 9" a U) ∧ (∃ a, vk_R RX4 80 "guests is not 0 to 40" a U) ∧ (∃ a, vk_R RX4 85 "days is not 0 to 30" a U) ∧ (∃ a, vk_R RX4 94 "the ruin has collapsed, or there are 30 tickets" a U) ∧ (∃ a, vk_R RX4 208 "days is not 1 to 60" a U) ∧ (∃ a, vk_R RX4 143 "rank is not 0 to standing() - 1" a U) ∧ (∃ a, vk_R RX4 206 "no such ticket" a U)
def zNws (U : State) : Prop := va_Nw (.castable "java/lang/IllegalArgumentException" "java/lang/IllegalArgumentException") U ∧ va_Nw (.castable "java/lang/IllegalStateException" "java/lang/IllegalStateException") U ∧ va_Nw (.castable "java/lang/IndexOutOfBoundsException" "java/lang/IndexOutOfBoundsException") U ∧ va_Nw (.declares (Bundle.initS "java/lang/RuntimeException")) U ∧ va_Nw (.declares (Bundle.initS "java/lang/Exception")) U ∧ va_Nw (.declares (Bundle.initS "java/lang/Throwable")) U
def zNcs (U : State) : Prop := va_Nc "java/lang/IllegalArgumentException" "java/lang/IllegalStateException" U ∧ va_Nc "java/lang/IllegalArgumentException" "java/lang/IndexOutOfBoundsException" U ∧ va_Nc "java/lang/IllegalStateException" "java/lang/IllegalArgumentException" U ∧ va_Nc "java/lang/IllegalStateException" "java/lang/IndexOutOfBoundsException" U ∧ va_Nc "java/lang/IndexOutOfBoundsException" "java/lang/IllegalArgumentException" U ∧ va_Nc "java/lang/IndexOutOfBoundsException" "java/lang/IllegalStateException" U
def zVm (U : State) : Prop := zStrs U ∧ zNws U ∧ zNcs U
theorem zNw_D {x : MethodName} {s U : State} (hW : s.WarmedH U.vm) (hZ : va_Nw (.declares x) s) : va_Nw (.declares x) U := va_tabs rfl (rfl : (s.setVm U.vm).vm = U.vm) (by rw [Cond.declares_setVm hW.alike]; exact hZ)
theorem zStr_m {k : Nat} {t : String} {s U : State} (hW : s.WarmedH U.vm) (h : ∃ a, vk_R RX4 k t a s) : ∃ a, vk_R RX4 k t a U := h.elim fun a q => ⟨a, vk_R.warm hW q⟩
theorem zStr_s {k : Nat} {t : String} {u U : State} (hv : u.vm = U.vm) (h : ∃ a, vk_R RX4 k t a u) : ∃ a, vk_R RX4 k t a U := h.elim fun a q => ⟨a, vk_R.same hv.symm q⟩
theorem zVm.moved {s U : State} (hW : s.WarmedH U.vm) (h : zVm s) : zVm U := ⟨⟨zStr_m hW h.1.1, zStr_m hW h.1.2.1, zStr_m hW h.1.2.2.1, zStr_m hW h.1.2.2.2.1, zStr_m hW h.1.2.2.2.2.1, zStr_m hW h.1.2.2.2.2.2.1, zStr_m hW h.1.2.2.2.2.2.2.1, zStr_m hW h.1.2.2.2.2.2.2.2.1, zStr_m hW h.1.2.2.2.2.2.2.2.2.1, zStr_m hW h.1.2.2.2.2.2.2.2.2.2.1, zStr_m hW h.1.2.2.2.2.2.2.2.2.2.2.1, zStr_m hW h.1.2.2.2.2.2.2.2.2.2.2.2⟩, ⟨va_Nw.warmC hW h.2.1.1, va_Nw.warmC hW h.2.1.2.1, va_Nw.warmC hW h.2.1.2.2.1, zNw_D hW h.2.1.2.2.2.1, zNw_D hW h.2.1.2.2.2.2.1, zNw_D hW h.2.1.2.2.2.2.2⟩, ⟨va_Nc.moved hW.alike h.2.2.1, va_Nc.moved hW.alike h.2.2.2.1, va_Nc.moved hW.alike h.2.2.2.2.1, va_Nc.moved hW.alike h.2.2.2.2.2.1, va_Nc.moved hW.alike h.2.2.2.2.2.2.1, va_Nc.moved hW.alike h.2.2.2.2.2.2.2⟩⟩
theorem zVm.same {u U : State} (hv : u.vm = U.vm) (h : zVm u) : zVm U := ⟨⟨zStr_s hv h.1.1, zStr_s hv h.1.2.1, zStr_s hv h.1.2.2.1, zStr_s hv h.1.2.2.2.1, zStr_s hv h.1.2.2.2.2.1, zStr_s hv h.1.2.2.2.2.2.1, zStr_s hv h.1.2.2.2.2.2.2.1, zStr_s hv h.1.2.2.2.2.2.2.2.1, zStr_s hv h.1.2.2.2.2.2.2.2.2.1, zStr_s hv h.1.2.2.2.2.2.2.2.2.2.1, zStr_s hv h.1.2.2.2.2.2.2.2.2.2.2.1, zStr_s hv h.1.2.2.2.2.2.2.2.2.2.2.2⟩, ⟨va_Nw.same rfl hv h.2.1.1, va_Nw.same rfl hv h.2.1.2.1, va_Nw.same rfl hv h.2.1.2.2.1, va_Nw.same rfl hv h.2.1.2.2.2.1, va_Nw.same rfl hv h.2.1.2.2.2.2.1, va_Nw.same rfl hv h.2.1.2.2.2.2.2⟩, ⟨va_Nc.moved (by rw [hv]; exact Vm.Alike.refl _) h.2.2.1, va_Nc.moved (by rw [hv]; exact Vm.Alike.refl _) h.2.2.2.1, va_Nc.moved (by rw [hv]; exact Vm.Alike.refl _) h.2.2.2.2.1, va_Nc.moved (by rw [hv]; exact Vm.Alike.refl _) h.2.2.2.2.2.1, va_Nc.moved (by rw [hv]; exact Vm.Alike.refl _) h.2.2.2.2.2.2.1, va_Nc.moved (by rw [hv]; exact Vm.Alike.refl _) h.2.2.2.2.2.2.2⟩⟩
def zBiae : List Cond := [.declares (Bundle.initS "java/lang/RuntimeException"), .declares (Bundle.initS "java/lang/Exception"), .declares (Bundle.initS "java/lang/Throwable"), .castable "java/lang/IllegalArgumentException" "java/lang/IllegalArgumentException"]
theorem zVm.iae {args : Array Value} {s : State} (h : zVm s) : ∀ w ∈ zBiae, w.before args s = true := vx_c (va_Nw.use rfl h.2.1.2.2.2.1) (vx_c (va_Nw.use rfl h.2.1.2.2.2.2.1) (vx_c (va_Nw.use rfl h.2.1.2.2.2.2.2) (vx_c (va_Nw.use rfl h.2.1.1) vx_n)))
def zBise : List Cond := [.declares (Bundle.initS "java/lang/RuntimeException"), .declares (Bundle.initS "java/lang/Exception"), .declares (Bundle.initS "java/lang/Throwable"), .castable "java/lang/IllegalStateException" "java/lang/IllegalStateException"]
theorem zVm.ise {args : Array Value} {s : State} (h : zVm s) : ∀ w ∈ zBise, w.before args s = true := vx_c (va_Nw.use rfl h.2.1.2.2.2.1) (vx_c (va_Nw.use rfl h.2.1.2.2.2.2.1) (vx_c (va_Nw.use rfl h.2.1.2.2.2.2.2) (vx_c (va_Nw.use rfl h.2.1.2.1) vx_n)))
def zBioe : List Cond := [.declares (Bundle.initS "java/lang/RuntimeException"), .declares (Bundle.initS "java/lang/Exception"), .declares (Bundle.initS "java/lang/Throwable"), .castable "java/lang/IndexOutOfBoundsException" "java/lang/IndexOutOfBoundsException"]
theorem zVm.ioe {args : Array Value} {s : State} (h : zVm s) : ∀ w ∈ zBioe, w.before args s = true := vx_c (va_Nw.use rfl h.2.1.2.2.2.1) (vx_c (va_Nw.use rfl h.2.1.2.2.2.2.1) (vx_c (va_Nw.use rfl h.2.1.2.2.2.2.2) (vx_c (va_Nw.use rfl h.2.1.2.2.1) vx_n)))
def zSt (A : Nat → Prop) (U : State) : Prop := vx_Zq Bundle.tN "UNASSIGNED_STACK" Bundle.steD A U U.heap ∧ vx_Zq Bundle.tN "SUPPRESSED_SENTINEL" Bundle.listD A U U.heap
theorem zSt.moved {A : Nat → Prop} {s U : State} (hW : s.WarmedH U.vm) (hU : U.heap = s.heap) (h : zSt A s) : zSt A U := by
  unfold zSt
  rw [hU]
  exact ⟨vx_Zq.moved hW.alike h.1, vx_Zq.moved hW.alike h.2⟩
theorem zSt.same {A : Nat → Prop} {u U : State} (hv : u.vm = U.vm) (hU : U.heap = u.heap) (h : zSt A u) : zSt A U := by
  unfold zSt
  rw [hU]
  exact ⟨vx_Zq.moved (by rw [hv]; exact Vm.Alike.refl _) h.1, vx_Zq.moved (by rw [hv]; exact Vm.Alike.refl _) h.2⟩
theorem zSt.at {A B : Nat → Prop} {s U : State} {H : Heap} {locs : List Loc} (hW : s.WarmedH U.vm) (hU : U.heap = H) (hS : va_S A s.heap H locs) (hAB : ∀ q, B q → A q) (h : zSt A s) : zSt B U := by
  unfold zSt
  rw [hU]
  exact ⟨vx_Zq.narrow (vx_Zq.moved hW.alike (h.1.kept hS.2.1)) hAB, vx_Zq.narrow (vx_Zq.moved hW.alike (h.2.kept hS.2.1)) hAB⟩
theorem zz_keepP {D : va_G} {cl : List vw_C} {ws : va_W} {H H1 : Heap} (h : ∀ q : Nat, q < H.size → H1[q]? = H[q]?) (hP : va_P D cl ws H) : va_P D cl ws H1 := fun k q hk => (hP k q hk).kept (h q.1 (hP k q hk).lt)
theorem zz_ofWH {l : Launch} {y : MethodName} {ws ws' : List Cond} {rm : Room} {Pc : Array Value → State → Prop} {Qc : Array Value → State → Outcome → State → Prop} {mc ms : Nat} {free : Addr → Prop} {cc : ByteArray} {maxL : Nat} {ret : Option FieldType} {hh : List (Nat × Nat × Nat × Nat)}
    (hy : plainName y.cls = true) (hw : ws = Cond.codeWith y cc maxL ret hh :: ws')
    (body : ∀ p e s m args below meth c s₁, BodyLoose p l y (headSpec ws rm) cc maxL ret e s m args below meth c s₁ → c.maxLocals = maxL → Pc args s →
      W p l e (headSpec ws rm).room s m args below meth c s.heap [] 0 0 (MQ below Qc args s mc ms free) (entryFrame m args maxL)) : Met l y ws rm Pc Qc mc ms free := by
  refine MetFree.of_bodyS (code := cc) (maxLocals := maxL) (ret := ret) hy ?_ ?_
  · intro args s m h hn
    obtain ⟨m9, meth, c, hn9, h1, h2, h3, h4, -, h5, h6, -⟩ := Cond.codeWith_spec (atoms_spec (ws := ws) h _ (by rw [hw]; exact List.mem_cons_self))
    cases hn.symm.trans hn9
    exact ⟨meth, c, h1, h2, h3, h4, h5, h6⟩
  · intro p e s m args below meth c s₁ B hml hP _
    have hh0 : s₁.heap = s.heap := by rw [B.state]; rfl
    obtain ⟨t, a1, o, b1, b2, b3⟩ := body p e s m args below meth c s₁ B hml hP s₁ hh0 (Stand.of_body B)
    exact ⟨t, o, a1, b1, b2, ⟨b3.1, b3.2⟩⟩
