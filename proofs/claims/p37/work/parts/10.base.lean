/-! Rows of mine over the kit's: a number that stands on the stack as nI of a Nat. -/
def zup (f : Nat → Nat) (k x : Nat) : Nat → Nat := fun j => if j = k then x else f j
theorem zup_s (f : Nat → Nat) (k x : Nat) : zup f k x k = x := by simp [zup]
theorem zup_n (f : Nat → Nat) {k j : Nat} (x : Nat) (h : j ≠ k) : zup f k x j = f j := by simp [zup, h]
theorem zup_id (f : Nat → Nat) (k : Nat) : zup f k (f k) = f := by
  funext j
  by_cases h : j = k
  · subst h; simp [zup]
  · simp [zup, h]
theorem zup_eq (f : Nat → Nat) {k x : Nat} (h : x = f k) : zup f k x = f := by rw [h]; exact zup_id f k
def z0 : Nat → Nat := fun _ => 0
theorem zz_eq0 {a : Nat} (ha : a < 2 ^ 31) : nI a = 0 ↔ a = 0 := nI_eq (b := 0) ha (by decide)
theorem zz_lt0 {a : Nat} (ha : a < 2 ^ 31) : nI a < 0 ↔ a < 0 := nI_ltI (b := 0) ha (by decide)
theorem zz_le0 {a : Nat} (ha : a < 2 ^ 31) : 0 ≤ nI a ↔ 0 ≤ a := nI_leI (a := 0) (by decide) ha
theorem zz_ge0 {a : Nat} (ha : a < 2 ^ 31) : 0 ≤ nI a := (zz_le0 ha).mpr (Nat.zero_le a)
theorem zz_gt0 {a : Nat} (ha : a < 2 ^ 31) : 0 < nI a ↔ 0 < a := nI_ltI (a := 0) (by decide) ha
theorem zz_lez {a : Nat} (ha : a < 2 ^ 31) : nI a ≤ 0 ↔ a ≤ 0 := nI_leI (b := 0) ha (by decide)
theorem zz_max {a b : Nat} (ha : a < 2 ^ 31) (hb : b < 2 ^ 31) : (if nI a < nI b then nI b else nI a) = nI (max a b) := by
  by_cases h : a < b
  · rw [if_pos ((nI_ltI ha hb).mpr h), Nat.max_eq_right (Nat.le_of_lt h)]
  · rw [if_neg (mt (nI_ltI ha hb).mp h), Nat.max_eq_left (Nat.le_of_not_lt h)]
theorem zz_min {a b : Nat} (ha : a < 2 ^ 31) (hb : b < 2 ^ 31) : (if nI b < nI a then nI b else nI a) = nI (min a b) := by
  by_cases h : b < a
  · rw [if_pos ((nI_ltI hb ha).mpr h), Nat.min_eq_right (Nat.le_of_lt h)]
  · rw [if_neg (mt (nI_ltI hb ha).mp h), Nat.min_eq_left (Nat.le_of_not_lt h)]
theorem zz_upd (f : Nat → Nat) {k x : Nat} (hk : k < 2 ^ 31) : upd (fun j => nI (f j)) (nI k).toNatClampNeg (nI x) = fun j => nI (zup f k x j) := by
  funext j
  rw [nI_clamp hk]
  by_cases h : j = k
  · subst h; rw [pk_us, zup_s]
  · rw [pk_un h, zup_n f x h]
section ZR
variable {p : Program} {l : Launch} {e : Env} {R : Room} {s : State} {m : MethodId} {args : Array Value} {below : List Frame} {meth : Method} {c : Code} {H H0 : Heap} {locs : List Loc} {cells slots : Nat} {Q : State → Prop} {pc a : Nat} {ls : Array Slot} {rest : List Value} {cc : ByteArray} {D : va_G} {cl : List vw_C} {tys : List (ClassId × FieldType)} {ws : va_W} {A : Nat → Prop}
theorem zz_top {x y : Int32} (h : x = y) (k : W p l e R s m args below meth c H locs cells slots Q (F0 m pc ls (.int y :: rest))) : W p l e R s m args below meth c H locs cells slots Q (F0 m pc ls (.int x :: rest)) := by
  subst h; exact k
theorem zz_topl {x y : Int64} (h : x = y) (k : W p l e R s m args below meth c H locs cells slots Q (F0 m pc ls (.long y :: rest))) : W p l e R s m args below meth c H locs cells slots Q (F0 m pc ls (.long x :: rest)) := by
  subst h; exact k
theorem zz_ald (hexec : p.tables.exec = Jvm.exec) (hb : c.code = cc) (hK : va_K D cl tys s) (hP : va_P D cl ws H) (q0 : Nat) {cA : ClassId} {n : Nat} {f : Nat → Nat} (ha : ws[q0]? = some (a, .inl (cA, n, .inl (fun j => nI (f j))))) (ht : tys[0]? = some (cA, .int)) {j : Nat} (hj : j < n) (hn : n < 2 ^ 31) (hdg : decode cc pc = .ok (.iaload, 1))
    (kk : W p l e R s m args below meth c H locs cells slots Q (F0 m (pc + 1) ls (.int (nI (f j)) :: rest))) : W p l e R s m args below meth c H locs cells slots Q (F0 m pc ls (.int (nI j) :: .ref a :: rest)) := by
  refine va_iald hexec hb hK hP q0 0 ha ht (vp_in_nI hj hn) hdg ?_
  rw [nI_clamp (Nat.lt_trans hj hn)]
  exact kk
theorem zz_aldI (hexec : p.tables.exec = Jvm.exec) (hb : c.code = cc) (hK : va_K D cl tys s) (hP : va_P D cl ws H) (q0 : Nat) {cA : ClassId} {n : Nat} {f : Nat → Int32} (ha : ws[q0]? = some (a, .inl (cA, n, .inl f))) (ht : tys[0]? = some (cA, .int)) {j : Nat} (hj : j < n) (hn : n < 2 ^ 31) (hdg : decode cc pc = .ok (.iaload, 1))
    (kk : W p l e R s m args below meth c H locs cells slots Q (F0 m (pc + 1) ls (.int (f j) :: rest))) : W p l e R s m args below meth c H locs cells slots Q (F0 m pc ls (.int (nI j) :: .ref a :: rest)) := by
  refine va_iald hexec hb hK hP q0 0 ha ht (vp_in_nI hj hn) hdg ?_
  rw [nI_clamp (Nat.lt_trans hj hn)]
  exact kk
theorem zz_ast (hexec : p.tables.exec = Jvm.exec) (hb : c.code = cc) (hK : va_K D cl tys s) (hP : va_P D cl ws H) (hD : va_D A ws) (hS : va_S A H0 H locs) (q0 : Nat) {cA : ClassId} {n : Nat} {f : Nat → Nat} (ha : ws[q0]? = some (a, .inl (cA, n, .inl (fun j => nI (f j))))) (ht : tys[0]? = some (cA, .int)) {j x : Nat} (hj : j < n) (hn : n < 2 ^ 31) (hdg : decode cc pc = .ok (.iastore, 1))
    (kk : ∀ (H1 : Heap) (locs1 : List Loc), va_P D cl (ws.set q0 (a, .inl (cA, n, .inl (fun i => nI (zup f j x i))))) H1 → va_D A (ws.set q0 (a, .inl (cA, n, .inl (fun i => nI (zup f j x i))))) → va_S A H0 H1 locs1 → W p l e R s m args below meth c H1 locs1 cells slots Q (F0 m (pc + 1) ls rest)) : W p l e R s m args below meth c H locs cells slots Q (F0 m pc ls (.int (nI x) :: .int (nI j) :: .ref a :: rest)) := by
  refine va_iast hexec hb hK hP hD hS q0 0 ha ht (vp_in_nI hj hn) hdg (fun H1 locs1 h1 h2 h3 => ?_)
  rw [zz_upd f (Nat.lt_trans hj hn)] at h1 h2
  exact kk H1 locs1 h1 h2 h3
theorem zz_astI (hexec : p.tables.exec = Jvm.exec) (hb : c.code = cc) (hK : va_K D cl tys s) (hP : va_P D cl ws H) (hD : va_D A ws) (hS : va_S A H0 H locs) (q0 : Nat) {cA : ClassId} {n : Nat} {f : Nat → Int32} (ha : ws[q0]? = some (a, .inl (cA, n, .inl f))) (ht : tys[0]? = some (cA, .int)) {j : Nat} {x : Int32} (hj : j < n) (hn : n < 2 ^ 31) (hdg : decode cc pc = .ok (.iastore, 1))
    (kk : ∀ (H1 : Heap) (locs1 : List Loc), va_P D cl (ws.set q0 (a, .inl (cA, n, .inl (upd f j x)))) H1 → va_D A (ws.set q0 (a, .inl (cA, n, .inl (upd f j x)))) → va_S A H0 H1 locs1 → W p l e R s m args below meth c H1 locs1 cells slots Q (F0 m (pc + 1) ls rest)) : W p l e R s m args below meth c H locs cells slots Q (F0 m pc ls (.int x :: .int (nI j) :: .ref a :: rest)) := by
  refine va_iast hexec hb hK hP hD hS q0 0 ha ht (vp_in_nI hj hn) hdg (fun H1 locs1 h1 h2 h3 => ?_)
  rw [nI_clamp (Nat.lt_trans hj hn)] at h1 h2
  exact kk H1 locs1 h1 h2 h3
theorem zz_same {i j : Nat} {c1 c2 : ClassId} (hK : va_K D cl tys s) (h1 : tys[i]? = some (c1, .int)) (h2 : tys[j]? = some (c2, .int)) : c1 = c2 :=
  Option.some.inj ((hK.2 i _ h1).2.symm.trans (hK.2 j _ h2).2)
theorem zz_newa (hexec : p.tables.exec = Jvm.exec) (hb : c.code = cc) (harr : (Cond.arrayClass .int).before args s = true) {cA : ClassId} (hK : va_K D cl [(cA, .int)] s) (hP : va_P D cl ws H) (hD : va_D A ws) (hS : va_S A H0 H locs) (hA : ∀ q, H0.size ≤ q → A q)
    {n : Nat} (hn : n < 2 ^ 31) (hbytes : n * componentBytes .int ≤ 536870912) (hcells : cells + 1 ≤ R.cells) (hslots : slots + n ≤ R.slots) (hdg : decode cc pc = .ok (.newarray .int, 2))
    (kk : ∀ (q : Nat) (H1 : Heap), va_P D cl (ws ++ [(q, .inl (cA, n, .inl (fun j => nI (z0 j))))]) H1 → va_D A (ws ++ [(q, .inl (cA, n, .inl (fun j => nI (z0 j))))]) → va_S A H0 H1 locs →
      W p l e R s m args below meth c H1 locs (cells + 1) (slots + n) Q (F0 m (pc + 2) ls (.ref q :: rest))) : W p l e R s m args below meth c H locs cells slots Q (F0 m pc ls (.int (nI n) :: rest)) := by
  refine va_newa (atype := .int) (ty := .int) (a0 := (n, .inl (fun j => nI (z0 j)))) hexec hb harr rfl hK hP hD hS hA (fun cB => rfl) (nI_pos hn) (nI_clamp hn) hbytes hcells hslots hdg (fun q cB H1 hK1 hP1 hD1 hS1 => ?_)
  obtain rfl : cB = cA := zz_same hK1 (i := 1) (j := 0) rfl rfl
  exact kk q H1 hP1 hD1 hS1
theorem zz_cell {cI : ClassId} {n : Nat} {f g : Nat → Int32} (h : ∀ j, j < n → f j = g j) : vp_cell cI (n, .inl f) = vp_cell cI (n, .inl g) := by
  rw [vp_cell_i, vp_cell_i]
  have e : (Array.ofFn (n := n) fun j => Value.int (f j.val)) = (Array.ofFn (n := n) fun j => Value.int (g j.val)) := congrArg _ (funext fun j => by rw [h j.val j.isLt])
  unfold arrV
  rw [e]
theorem zz_setP {cI : ClassId} {q n : Nat} {f g : Nat → Int32} (h : ∀ j, j < n → f j = g j) (hP : va_P D cl (ws.set q (a, .inl (cI, n, .inl f))) H) : va_P D cl (ws.set q (a, .inl (cI, n, .inl g))) H := by
  intro k x hx
  by_cases hk : q = k
  · subst hk
    have hl : q < ws.length := by
      have := (List.getElem?_eq_some_iff.mp hx).1
      simpa using this
    rw [List.getElem?_set_self hl] at hx
    cases hx
    have h1 : H[a]? = some (vp_cell cI (n, .inl f)) := hP q (a, .inl (cI, n, .inl f)) (List.getElem?_set_self hl)
    show H[a]? = some (vp_cell cI (n, .inl g))
    rw [h1, zz_cell h]
  · rw [List.getElem?_set_ne hk] at hx
    exact hP k x (by rw [List.getElem?_set_ne hk]; exact hx)
theorem zz_setD {q : Nat} {x y : va_E} (hD : va_D A (ws.set q (a, x))) : va_D A (ws.set q (a, y)) := by
  have tr : ∀ (i : Nat) (p : Nat × va_E), (ws.set q (a, y))[i]? = some p → ∃ p', (ws.set q (a, x))[i]? = some p' ∧ p'.1 = p.1 := by
    intro i p hp
    by_cases hk : q = i
    · subst hk
      have hl : q < ws.length := by
        have := (List.getElem?_eq_some_iff.mp hp).1
        simpa using this
      rw [List.getElem?_set_self hl] at hp
      cases hp
      exact ⟨(a, x), List.getElem?_set_self hl, rfl⟩
    · rw [List.getElem?_set_ne hk] at hp
      exact ⟨p, by rw [List.getElem?_set_ne hk]; exact hp, rfl⟩
  refine ⟨fun i j p r hp hr hpr => ?_, fun k r hk => ?_⟩
  · obtain ⟨p', h1, h2⟩ := tr i p hp
    obtain ⟨r', h3, h4⟩ := tr j r hr
    exact hD.1 i j p' r' h1 h3 (by rw [h2, h4, hpr])
  · obtain ⟨r', h1, h2⟩ := tr k r hk
    rw [← h2]
    exact hD.2 k r' h1
theorem zz_copy (hexec : p.tables.exec = Jvm.exec) (hb : c.code = cc) (hml : c.maxLocals = ls.size) {own : String} {index : Nat} (hown : s.vm.findClass own = some m.cls) (hlink : (Cond.methodLink own index arraycopyName).before args s = true) (hnat : (Cond.native arraycopyName).before args s = true) (hstat : (Cond.static arraycopyName).before args s = true) (hini : (Cond.initialized "java/lang/System").before args s = true)
    (hK : va_K D cl tys s) (hP : va_P D cl ws H) (hD : va_D A ws) (hS : va_S A H0 H locs) (q0 q1 : Nat) {a0 : Nat} {cA : ClassId} {N : Nat} {f g : Nat → Int32} (ha0 : ws[q0]? = some (a0, .inl (cA, N, .inl f))) (ha1 : ws[q1]? = some (a, .inl (cA, N, .inl g))) (ht : tys[0]? = some (cA, .int)) (hN : N < 2 ^ 31)
    (hframes : 1 ≤ R.frames) (hlocals : (rest.map fun v => v.category).sum + (nativeFrameWords "java/lang/System" "arraycopy" 5 + 11) ≤ R.locals) (hdg : decode cc pc = .ok (.invokestatic index, 3))
    (kk : ∀ (H1 : Heap) (locs1 : List Loc), va_P D cl (ws.set q1 (a, .inl (cA, N, .inl f))) H1 → va_D A (ws.set q1 (a, .inl (cA, N, .inl f))) → va_S A H0 H1 locs1 → W p l e R s m args below meth c H1 locs1 cells slots Q (F0 m (pc + 3) ls rest)) : W p l e R s m args below meth c H locs cells slots Q (F0 m pc ls (.int (nI N) :: .int (nI 0) :: .ref a :: .int (nI 0) :: .ref a0 :: rest)) := by
  refine va_copyi hexec hb hml hown hlink hnat hstat hini hK hP hD hS q0 q1 0 0 (ty := .int) ha0 ha1 ht ht rfl (by decide) (by decide) (nI_pos hN) ?_ ?_ (fun i _ => rfl) hframes hlocals hdg (fun H1 locs1 h1 h2 h3 => ?_)
  · rw [nI_clamp hN, nI_clamp (n := 0) (by decide)]; omega
  · rw [nI_clamp hN, nI_clamp (n := 0) (by decide)]; omega
  · refine kk H1 locs1 (zz_setP (f := va_cpy f g (nI 0).toNatClampNeg (nI 0).toNatClampNeg (nI N).toNatClampNeg) (fun j hj => ?_) h1) (zz_setD h2) h3
    rw [nI_clamp hN, nI_clamp (n := 0) (by decide), pk_cpy_in (Nat.zero_le j) (by omega)]
    congr 1
    omega
end ZR
/-- the links of private constructors within the nests, and the class of int[][] -/
def zAO (U : State) : Prop := (Cond.arrayOver (.array .int)).before #[] U = true
theorem zAO.use {A : Array Value} {U : State} (h : zAO U) : (Cond.arrayOver (.array .int)).before A U = true := h
theorem zAO.of {A : Array Value} {U : State} (h : (Cond.arrayOver (.array .int)).before A U = true) : zAO U := h
theorem zAO.moved {u U : State} (hvm : u.vm.Alike U.vm) (h : zAO u) : zAO U := by
  obtain ⟨comp, c, k, h1, h2, h3, h4, h5⟩ := arrayOverA_spec h
  obtain ⟨k', hk', he⟩ := hvm.2.2 _ _ h3
  have hi : (U.vm.classes.findIdx? fun (x : Class) => match x.kind with | .array component _ => component == comp | _ => false) = some c := by
    rw [hvm.findIdx?_eq _ (fun _ => rfl)]; exact h2
  have hkind : k'.kind = .array comp (.array .int) := by rw [he]; exact h4
  have f1 : U.vm.findClass (FieldType.array .int).toString = some comp := by rw [hvm.findClass]; exact h1
  have f2 : U.vm.findClass ("[" ++ (FieldType.array .int).toString) = some c := by rw [hvm.findClass]; exact h5
  unfold zAO Cond.before Cond.holds
  simp only [Cond.value]
  rw [f1, Option.bind_some]
  refine (congrArg (fun o : Option Nat => (o.bind (fun c => (U.vm.classes[c]?).map fun (k : Class) => match k.kind with | .array _ ty => decide (ty = FieldType.array .int) && decide (U.vm.findClass ("[" ++ (FieldType.array .int).toString) = some c) | _ => false) == some true)) hi).trans ?_
  simp [hk', hkind, f2]
def zNest (U : State) : Prop := va_Nw (.methodLinkNest RX1 11 yX2_init RX4) U ∧ va_Nw (.methodLinkNest RX1 20 yX3_init RX4) U ∧ va_Nw (.methodLinkNest RX4 9 yX1_init RX4) U ∧ va_Nw (.methodLinkNest RL 71 yX5_init RL) U ∧ zAO U
theorem zNest.same {u U : State} (h : u.vm = U.vm) (q : zNest u) : zNest U := ⟨va_Nw.same rfl h q.1, va_Nw.same rfl h q.2.1, va_Nw.same rfl h q.2.2.1, va_Nw.same rfl h q.2.2.2.1, zAO.moved (by rw [h]; exact Vm.Alike.refl _) q.2.2.2.2⟩
theorem zNest.moved {s U : State} (hW : s.WarmedH U.vm) (q : zNest s) : zNest U := ⟨va_Nw.warmM hW q.1, va_Nw.warmM hW q.2.1, va_Nw.warmM hW q.2.2.1, va_Nw.warmM hW q.2.2.2.1, zAO.moved hW.alike q.2.2.2.2⟩
/-! The machine in numbers: moon, grade, view, ageing (pure). -/
def zb (d : Nat) : Nat := if d % 8 ≤ 4 then d % 8 else 8 - d % 8
def zg (i : Nat) : Nat := if 10 ≤ i then 1 else if 7 ≤ i then 3 else if 4 ≤ i then 2 else if 1 ≤ i then 1 else 0
def zv (w i g b : Nat) : Nat := if w = 0 then 0 else 2 * w + 3 * zg i + g * b
def zhas (x : Int32) (n : Nat) : Nat := if x < 0 then 0 else if nI n ≤ x then 0 else 1
def zcnt (wa : Nat → Nat) : Nat → Nat
  | 0 => 0
  | n + 1 => if wa n ≤ 0 then zcnt wa n else zcnt wa n + 1
def zsv (wa iv gh : Nat → Nat) (b : Nat) : Nat → Nat
  | 0 => 0
  | n + 1 => zsv wa iv gh b n + zv (wa n) (iv n) (gh n) b
def zme (w i g p r b : Nat) : Int32 := if w = 0 then (-1) else nI ((zv w i g b * 10 + (9 - p)) * 10 + (9 - r))
def zmf (wa iv gh pr : Nat → Nat) (b : Nat) : Nat → Int32 := fun j => zme (wa j) (iv j) (gh j) (pr j) j b
def zab (f : Nat → Int32) (v : Int32) : Nat → Nat
  | 0 => 0
  | n + 1 => if f n ≤ v then zab f v n else zab f v n + 1
def zmes (i : Nat) (wa iv gh pr : Nat → Nat) (b : Nat) (me : Nat → Int32) : Nat → Int32 := fun j => if j < i then zmf wa iv gh pr b j else me j
def zrks (i n : Nat) (mm : Nat → Int32) (wa : Nat → Nat) (rk : Nat → Int32) : Nat → Int32 := fun j => if j < i then (if wa j = 0 then (-1) else nI (zab mm (mm j) n)) else rk j
def zfr (f : Nat → Int32) (x : Int32) : Nat → Nat → Int32
  | 0, _ => (-1)
  | k + 1, i => if f i = x then nI i else zfr f x k (i + 1)
def z_iv (d w i : Nat) : Nat := if 0 < w ∧ d % 3 = 2 ∧ i < 12 then i + 1 else i
def z_wa (d w i : Nat) : Nat := if 0 < w ∧ 10 ≤ z_iv d w i then w - 1 else w
def z_gb (b w i g : Nat) : Nat := if b = 4 then (if w ≠ 0 ∧ zg i = 3 ∧ g < 5 then g + 1 else g) else if b = 0 then (if 0 < g ∧ (w = 0 ∨ zg i = 0) then g - 1 else g) else g
def z_gh (d w i g : Nat) : Nat := z_gb (zb d) (z_wa d w i) (z_iv d w i) g
def zAw (d i : Nat) (wa iv : Nat → Nat) : Nat → Nat := fun j => if j < i then z_wa d (wa j) (iv j) else wa j
def zAi (d i : Nat) (wa iv : Nat → Nat) : Nat → Nat := fun j => if j < i then z_iv d (wa j) (iv j) else iv j
def zAg (d i : Nat) (wa iv gh : Nat → Nat) : Nat → Nat := fun j => if j < i then z_gh d (wa j) (iv j) (gh j) else gh j
def zs1 (d : Nat) (t : Nat × Nat × Nat) : Nat × Nat × Nat := (z_wa d t.1 t.2.1, z_iv d t.1 t.2.1, z_gh d t.1 t.2.1 t.2.2)
def zon (d : Nat) (t : Nat × Nat × Nat) : Nat → Nat × Nat × Nat
  | 0 => t
  | k + 1 => zs1 (d + k) (zon d t k)
theorem zb_le (d : Nat) : zb d ≤ 4 := by unfold zb; split <;> omega
theorem zg_le (i : Nat) : zg i ≤ 3 := by unfold zg; (repeat' split) <;> omega
theorem zv_le {w i g b : Nat} (hw : w ≤ 20) (hg : g ≤ 5) (hb : b ≤ 4) : zv w i g b ≤ 69 := by
  have h1 : g * b ≤ 5 * 4 := Nat.mul_le_mul hg hb
  have h2 := zg_le i
  unfold zv
  split <;> omega
theorem zhas_in {r n : Nat} (h : r < n) (hn : n < 2 ^ 31) : zhas (nI r) n = 1 := by
  unfold zhas
  rw [if_neg (nI_pos (Nat.lt_trans h hn)), if_neg (nI_ge h hn)]
theorem zcnt_le (wa : Nat → Nat) : ∀ n, zcnt wa n ≤ n
  | 0 => Nat.le_refl 0
  | n + 1 => by
    have := zcnt_le wa n
    unfold zcnt
    split <;> omega
theorem zcnt_s0 {wa : Nat → Nat} {i : Nat} (h : wa i ≤ 0) : zcnt wa (i + 1) = zcnt wa i := by
  show (if wa i ≤ 0 then zcnt wa i else zcnt wa i + 1) = _
  rw [if_pos h]
theorem zcnt_s1 {wa : Nat → Nat} {i : Nat} (h : ¬ wa i ≤ 0) : zcnt wa (i + 1) = zcnt wa i + 1 := by
  show (if wa i ≤ 0 then zcnt wa i else zcnt wa i + 1) = _
  rw [if_neg h]
theorem zab_le (f : Nat → Int32) (v : Int32) : ∀ n, zab f v n ≤ n
  | 0 => Nat.le_refl 0
  | n + 1 => by
    have := zab_le f v n
    unfold zab
    split <;> omega
theorem zab_s0 {f : Nat → Int32} {v : Int32} {i : Nat} (h : f i ≤ v) : zab f v (i + 1) = zab f v i := by
  show (if f i ≤ v then zab f v i else zab f v i + 1) = _
  rw [if_pos h]
theorem zab_s1 {f : Nat → Int32} {v : Int32} {i : Nat} (h : ¬ f i ≤ v) : zab f v (i + 1) = zab f v i + 1 := by
  show (if f i ≤ v then zab f v i else zab f v i + 1) = _
  rw [if_neg h]
theorem zab_pos {f : Nat → Int32} {v : Int32} {i : Nat} (h : ¬ f i ≤ v) : ∀ n, i < n → ¬ zab f v n = 0
  | 0, hi => absurd hi (Nat.not_lt_zero _)
  | n + 1, hi => by
    by_cases e : i = n
    · subst e; rw [zab_s1 h]; omega
    · have := zab_pos h n (by omega)
      by_cases q : f n ≤ v
      · rw [zab_s0 q]; exact this
      · rw [zab_s1 q]; omega
theorem zab_congr {f g : Nat → Int32} {v : Int32} : ∀ n, (∀ j, j < n → f j = g j) → zab f v n = zab g v n
  | 0, _ => rfl
  | n + 1, h => by
    have := zab_congr (v := v) n (fun j hj => h j (by omega))
    show (if f n ≤ v then zab f v n else zab f v n + 1) = (if g n ≤ v then zab g v n else zab g v n + 1)
    rw [this, h n (Nat.lt_succ_self n)]
theorem zsv_le {wa iv gh : Nat → Nat} {b : Nat} (hw : ∀ j, wa j ≤ 20) (hg : ∀ j, gh j ≤ 5) (hb : b ≤ 4) : ∀ n, zsv wa iv gh b n ≤ 69 * n
  | 0 => Nat.le_refl 0
  | n + 1 => by
    have h1 := zsv_le (iv := iv) hw hg hb n
    have h2 : zv (wa n) (iv n) (gh n) b ≤ 69 := zv_le (hw n) (hg n) hb
    show zsv wa iv gh b n + zv (wa n) (iv n) (gh n) b ≤ _
    omega
theorem zmes_0 (wa iv gh pr : Nat → Nat) (b : Nat) (me : Nat → Int32) : zmes 0 wa iv gh pr b me = me := by
  funext j; simp [zmes]
theorem zmes_s (i : Nat) (wa iv gh pr : Nat → Nat) (b : Nat) (me : Nat → Int32) : zmes (i + 1) wa iv gh pr b me = upd (zmes i wa iv gh pr b me) i (zme (wa i) (iv i) (gh i) (pr i) i b) := by
  funext j
  by_cases h : j = i
  · subst h; rw [pk_us]; simp [zmes, zmf]
  · rw [pk_un h]
    by_cases h2 : j < i
    · simp [zmes, h2, Nat.lt_succ_of_lt h2]
    · simp [zmes, h2, show ¬ j < i + 1 by omega]
theorem zrks_0 (n : Nat) (mm : Nat → Int32) (wa : Nat → Nat) (rk : Nat → Int32) : zrks 0 n mm wa rk = rk := by
  funext j; simp [zrks]
theorem zrks_s {i n : Nat} {mm : Nat → Int32} {wa : Nat → Nat} {rk : Nat → Int32} {x : Int32} (hx : x = if wa i = 0 then (-1) else nI (zab mm (mm i) n)) : zrks (i + 1) n mm wa rk = upd (zrks i n mm wa rk) i x := by
  funext j
  by_cases h : j = i
  · subst h; rw [pk_us, hx]; simp [zrks]
  · rw [pk_un h]
    by_cases h2 : j < i
    · simp [zrks, h2, Nat.lt_succ_of_lt h2]
    · simp [zrks, h2, show ¬ j < i + 1 by omega]
theorem zfr_e {f : Nat → Int32} {x : Int32} {n i : Nat} (h : n ≤ i) : zfr f x (n - i) i = (-1) := by
  rw [Nat.sub_eq_zero_of_le h]; rfl
theorem zfr_s {f : Nat → Int32} {x : Int32} {n i : Nat} (h : i < n) : zfr f x (n - i) i = if f i = x then nI i else zfr f x (n - (i + 1)) (i + 1) := by
  rw [show n - i = (n - (i + 1)) + 1 by omega]; rfl
theorem z_wa_le (d w i : Nat) : z_wa d w i ≤ w := by unfold z_wa; split <;> omega
theorem z_iv_le {d w i : Nat} (h : i ≤ 12) : z_iv d w i ≤ 12 := by unfold z_iv; split <;> omega
theorem z_gb_le {b w i g : Nat} (h : g ≤ 5) : z_gb b w i g ≤ 5 := by unfold z_gb; (repeat' split) <;> omega
theorem z_gh_le {d w i g : Nat} (h : g ≤ 5) : z_gh d w i g ≤ 5 := z_gb_le h
theorem zup_up (f : Nat → Nat) (k x y : Nat) : zup (zup f k x) k y = zup f k y := by
  funext j
  by_cases h : j = k <;> simp [zup, h]
theorem zA_0 {f : Nat → Nat} {g : Nat → Nat} : (fun j => if j < 0 then g j else f j) = f := by
  funext j; simp
theorem zA_s {f g : Nat → Nat} {i x : Nat} (hx : x = g i) : (fun j => if j < i + 1 then g j else f j) = zup (fun j => if j < i then g j else f j) i x := by
  funext j
  by_cases h : j = i
  · subst h; rw [zup_s, hx]; simp
  · rw [zup_n _ _ h]
    by_cases h2 : j < i
    · simp [h2, Nat.lt_succ_of_lt h2]
    · simp [h2, show ¬ j < i + 1 by omega]
theorem zA_i {f g : Nat → Nat} {i : Nat} : (fun j => if j < i then g j else f j) i = f i := by simp
theorem zz_cut {a b : Nat} (ha : a < 2 ^ 30) (hb : b < 2 ^ 30) : (if nI 0 < nI a - nI b then nI a - nI b else nI 0) = nI (a - b) := by
  by_cases h : b ≤ a
  · rw [pk_sub h]
    by_cases h0 : a - b = 0
    · rw [h0]; simp
    · rw [if_pos (nI_lt (by omega) (by omega))]
  · have h1 : nI a - nI b < 0 := pk_sneg hb (by omega)
    rw [if_neg (fun q => ?_), Nat.sub_eq_zero_of_le (by omega)]
    rw [nI_0] at q
    exact Int32.lt_irrefl (Int32.lt_trans h1 q)
