/-! Rows of four numbers, any number of them, behind an array of references. -/
def zpl (cA : ClassId) (ra : Nat → Nat) (F : Nat → Nat → Int32) (n : Nat) : va_W := (List.range n).map (fun j => (ra j, .inl (cA, 4, .inl (F j))))
theorem zpl_at {cA : ClassId} {ra : Nat → Nat} {F : Nat → Nat → Int32} (Y Z : va_W) {n r : Nat} (hr : r < n) : (Y ++ (zpl cA ra F n ++ Z))[Y.length + r]? = some (ra r, .inl (cA, 4, .inl (F r))) := by
  rw [List.getElem?_append_right (by omega), show Y.length + r - Y.length = r by omega, List.getElem?_append_left (by simp [zpl]; exact hr)]
  simp [zpl, hr]
theorem zpl_put {cA : ClassId} {ra : Nat → Nat} {F : Nat → Nat → Int32} (Y Z : va_W) {n r : Nat} (hr : r < n) (G : Nat → Int32) : (Y ++ (zpl cA ra F n ++ Z)).set (Y.length + r) (ra r, .inl (cA, 4, .inl G)) = Y ++ (zpl cA ra (fun j => if j = r then G else F j) n ++ Z) := by
  rw [List.set_append_right _ _ (by omega), show Y.length + r - Y.length = r by omega, List.set_append_left _ _ (by simp [zpl]; exact hr)]
  congr 2
  apply List.ext_getElem?
  intro i
  by_cases hi : i = r
  · subst hi
    rw [List.getElem?_set_self (by simp [zpl]; exact hr)]
    simp [zpl, hr]
  · rw [List.getElem?_set_ne (Ne.symm hi)]
    by_cases h : i < n
    · simp [zpl, h, hi]
    · simp [zpl, h]
theorem zpl_cg {cA : ClassId} {ra ra' : Nat → Nat} {F F' : Nat → Nat → Int32} {n : Nat} (h : ∀ j, j < n → ra j = ra' j) (h2 : ∀ j, j < n → F j = F' j) : zpl cA ra F n = zpl cA ra' F' n := by
  unfold zpl
  apply List.map_congr_left
  intro j hj
  have := List.mem_range.mp hj
  rw [h j this, h2 j this]
theorem zpl_push {cA : ClassId} {ra : Nat → Nat} {F : Nat → Nat → Int32} {n q : Nat} {g : Nat → Int32} {F' : Nat → Nat → Int32} (h : ∀ j, j < n → F j = F' j) (hg : g = F' n) : zpl cA ra F n ++ [(q, .inl (cA, 4, .inl g))] = zpl cA (zup ra n q) F' (n + 1) := by
  subst hg
  rw [zpl_cg (ra' := zup ra n q) (F' := F') (fun j hj => (zup_n _ _ (by omega)).symm) h]
  unfold zpl
  rw [List.range_succ, List.map_append]
  simp [zup_s]
def zrow (f0 f1 f2 f3 : Nat → Nat) : Nat → Nat → Int32 := fun r k => if k = 0 then nI (f0 r) else if k = 1 then nI (f1 r) else if k = 2 then nI (f2 r) else if k = 3 then nI (f3 r) else nI 0
def zroi (f0 f1 f2 : Nat → Nat) (f3 : Nat → Int32) : Nat → Nat → Int32 := fun r k => if k = 0 then nI (f0 r) else if k = 1 then nI (f1 r) else if k = 2 then nI (f2 r) else if k = 3 then f3 r else nI 0
theorem zrow_0 {f0 f1 f2 f3 : Nat → Nat} {r : Nat} : zrow f0 f1 f2 f3 r 0 = nI (f0 r) := rfl
theorem zrow_1 {f0 f1 f2 f3 : Nat → Nat} {r : Nat} : zrow f0 f1 f2 f3 r 1 = nI (f1 r) := rfl
theorem zrow_2 {f0 f1 f2 f3 : Nat → Nat} {r : Nat} : zrow f0 f1 f2 f3 r 2 = nI (f2 r) := rfl
theorem zrow_3 {f0 f1 f2 f3 : Nat → Nat} {r : Nat} : zrow f0 f1 f2 f3 r 3 = nI (f3 r) := rfl
theorem zrow_u {f0 f1 f2 f3 g0 g1 g2 g3 : Nat → Nat} {r k : Nat} {x : Int32} (hk : k < 4) (h0 : ∀ j, nI (g0 j) = if k = 0 ∧ j = r then x else nI (f0 j)) (h1 : ∀ j, nI (g1 j) = if k = 1 ∧ j = r then x else nI (f1 j)) (h2 : ∀ j, nI (g2 j) = if k = 2 ∧ j = r then x else nI (f2 j)) (h3 : ∀ j, nI (g3 j) = if k = 3 ∧ j = r then x else nI (f3 j)) :
    (fun j => if j = r then upd (zrow f0 f1 f2 f3 r) k x else zrow f0 f1 f2 f3 j) = zrow g0 g1 g2 g3 := by
  funext j i
  by_cases hj : j = r
  · subst hj
    simp only [if_true]
    by_cases hi : i = k
    · subst hi
      rw [pk_us]
      unfold zrow
      rcases (show i = 0 ∨ i = 1 ∨ i = 2 ∨ i = 3 by omega) with rfl | rfl | rfl | rfl
      · simp [h0]
      · simp [h1]
      · simp [h2]
      · simp [h3]
    · rw [pk_un hi]
      unfold zrow
      by_cases a0 : i = 0
      · subst a0; simp [h0, show ¬ k = 0 by omega]
      by_cases a1 : i = 1
      · subst a1; simp [h1, show ¬ k = 1 by omega]
      by_cases a2 : i = 2
      · subst a2; simp [h2, show ¬ k = 2 by omega]
      by_cases a3 : i = 3
      · subst a3; simp [h3, show ¬ k = 3 by omega]
      · simp [a0, a1, a2, a3]
  · rw [if_neg hj]
    unfold zrow
    simp [h0, h1, h2, h3, hj]
theorem zrow_h {f : Nat → Nat} {r x : Nat} (j : Nat) : nI (zup f r x j) = if j = r then nI x else nI (f j) := by
  unfold zup
  split <;> rfl
theorem zrow_u0 {f0 f1 f2 f3 : Nat → Nat} {r x : Nat} : (fun j => if j = r then upd (zrow f0 f1 f2 f3 r) 0 (nI x) else zrow f0 f1 f2 f3 j) = zrow (zup f0 r x) f1 f2 f3 := zrow_u (by decide) (fun j => by simp [zrow_h]) (fun j => by simp) (fun j => by simp) (fun j => by simp)
theorem zrow_u1 {f0 f1 f2 f3 : Nat → Nat} {r x : Nat} : (fun j => if j = r then upd (zrow f0 f1 f2 f3 r) 1 (nI x) else zrow f0 f1 f2 f3 j) = zrow f0 (zup f1 r x) f2 f3 := zrow_u (by decide) (fun j => by simp) (fun j => by simp [zrow_h]) (fun j => by simp) (fun j => by simp)
theorem zrow_u2 {f0 f1 f2 f3 : Nat → Nat} {r x : Nat} : (fun j => if j = r then upd (zrow f0 f1 f2 f3 r) 2 (nI x) else zrow f0 f1 f2 f3 j) = zrow f0 f1 (zup f2 r x) f3 := zrow_u (by decide) (fun j => by simp) (fun j => by simp) (fun j => by simp [zrow_h]) (fun j => by simp)
theorem zrow_u3 {f0 f1 f2 f3 : Nat → Nat} {r x : Nat} : (fun j => if j = r then upd (zrow f0 f1 f2 f3 r) 3 (nI x) else zrow f0 f1 f2 f3 j) = zrow f0 f1 f2 (zup f3 r x) := zrow_u (by decide) (fun j => by simp) (fun j => by simp) (fun j => by simp) (fun j => by simp [zrow_h])
/-- a new row -/
theorem zrow_new {f0 f1 f2 f3 : Nat → Nat} {n a b c d : Nat} : (fun j9 => nI (zup (zup (zup (zup z0 0 a) 1 b) 2 c) 3 d j9)) = zrow (zup f0 n a) (zup f1 n b) (zup f2 n c) (zup f3 n d) n := by
  funext k
  unfold zrow
  rw [zup_s, zup_s, zup_s, zup_s]
  unfold zup z0
  by_cases a3 : k = 3
  · subst a3; rfl
  by_cases a2 : k = 2
  · subst a2; rfl
  by_cases a1 : k = 1
  · subst a1; rfl
  by_cases a0 : k = 0
  · subst a0; rfl
  simp [a0, a1, a2, a3]
theorem zrow_old {f0 f1 f2 f3 : Nat → Nat} {n a b c d j : Nat} (hj : j < n) : zrow f0 f1 f2 f3 j = zrow (zup f0 n a) (zup f1 n b) (zup f2 n c) (zup f3 n d) j := by
  funext k
  unfold zrow
  rw [zup_n _ _ (by omega), zup_n _ _ (by omega), zup_n _ _ (by omega), zup_n _ _ (by omega)]
theorem zroi_new {f0 f1 f2 : Nat → Nat} {f3 : Nat → Int32} {n : Nat} : upd (upd (upd (upd (fun j9 => nI (z0 j9)) 0 (nI (f0 n))) 1 (nI (f1 n))) 2 (nI (f2 n))) 3 (f3 n) = zroi f0 f1 f2 f3 n := by
  funext k
  unfold zroi
  by_cases a3 : k = 3
  · subst a3; rw [pk_us]; rfl
  rw [pk_un a3]
  by_cases a2 : k = 2
  · subst a2; rw [pk_us]; rfl
  rw [pk_un a2]
  by_cases a1 : k = 1
  · subst a1; rw [pk_us]; rfl
  rw [pk_un a1]
  by_cases a0 : k = 0
  · subst a0; rw [pk_us]; rfl
  rw [pk_un a0]
  simp [a0, a1, a2, a3, z0]
/-- an array of references, its first k places filled -/
def zrf (k : Nat) (ra : Nat → Nat) : Nat → Option Nat := fun j => if j < k then some (ra j) else none
theorem zrf_0 (ra : Nat → Nat) : (fun _ => none) = zrf 0 ra := by
  funext j; simp [zrf]
theorem zrf_g {k j : Nat} {ra : Nat → Nat} (h : j < k) : zrf k ra j = some (ra j) := by simp [zrf, h]
theorem zrf_s {k q : Nat} {ra : Nat → Nat} (hq : q = ra k) : va_up (zrf k ra) k (some q) = zrf (k + 1) ra := by
  subst hq
  funext j
  by_cases h : j = k
  · subst h; rw [va_up_self]; simp [zrf]
  · rw [va_up_ne _ _ h]
    by_cases h2 : j < k
    · simp [zrf, h2, Nat.lt_succ_of_lt h2]
    · simp [zrf, h2, show ¬ j < k + 1 by omega]
theorem zrf_cg {k : Nat} {ra ra' : Nat → Nat} (h : ∀ j, j < k → ra j = ra' j) : zrf k ra = zrf k ra' := by
  funext j
  unfold zrf
  split
  · rw [h j (by assumption)]
  · rfl
theorem zrf_push {k q : Nat} {ra : Nat → Nat} : va_up (zrf k ra) k (some q) = zrf (k + 1) (zup ra k q) := by
  rw [zrf_cg (ra' := zup ra k q) (fun j hj => (zup_n _ _ (by omega)).symm)]
  exact zrf_s (zup_s _ _ _).symm
section ZPR
variable {p : Program} {l : Launch} {e : Env} {R : Room} {s : State} {m : MethodId} {args : Array Value} {below : List Frame} {meth : Method} {c : Code} {H H0 : Heap} {locs : List Loc} {cells slots : Nat} {Q : State → Prop} {pc a : Nat} {ls : Array Slot} {rest : List Value} {cc : ByteArray} {D : va_G} {cl : List vw_C} {tys : List (ClassId × FieldType)} {ws ws' : va_W} {A : Nat → Prop}
theorem zp_ld (hexec : p.tables.exec = Jvm.exec) (hb : c.code = cc) (hK : va_K D cl tys s) (hP : va_P D cl ws H) (Y Z : va_W) {cA : ClassId} {ra : Nat → Nat} {F : Nat → Nat → Int32} {n r k : Nat} {v : Int32} (hw : ws = Y ++ (zpl cA ra F n ++ Z)) (ht : tys[0]? = some (cA, .int)) (hr : r < n) (hk : k < 4) (hv : F r k = v) (hdg : decode cc pc = .ok (.iaload, 1))
    (kk : W p l e R s m args below meth c H locs cells slots Q (F0 m (pc + 1) ls (.int v :: rest))) : W p l e R s m args below meth c H locs cells slots Q (F0 m pc ls (.int (nI k) :: .ref (ra r) :: rest)) := by
  refine va_iald hexec hb hK hP (Y.length + r) 0 (by rw [hw]; exact zpl_at Y Z hr) ht (vp_in_nI hk (by decide)) hdg ?_
  rw [nI_clamp (by omega), hv]
  exact kk
theorem zp_st (hexec : p.tables.exec = Jvm.exec) (hb : c.code = cc) (hK : va_K D cl tys s) (hP : va_P D cl ws H) (hD : va_D A ws) (hS : va_S A H0 H locs) (Y Z : va_W) {cA : ClassId} {ra : Nat → Nat} {F F' : Nat → Nat → Int32} {n r k : Nat} {x : Int32} (hw : ws = Y ++ (zpl cA ra F n ++ Z)) (hw' : ws' = Y ++ (zpl cA ra F' n ++ Z)) (ht : tys[0]? = some (cA, .int)) (hr : r < n) (hk : k < 4) (hF : (fun j => if j = r then upd (F r) k x else F j) = F') (hdg : decode cc pc = .ok (.iastore, 1))
    (kk : ∀ (H1 : Heap) (locs1 : List Loc), va_P D cl ws' H1 → va_D A ws' → va_S A H0 H1 locs1 → W p l e R s m args below meth c H1 locs1 cells slots Q (F0 m (pc + 1) ls rest)) : W p l e R s m args below meth c H locs cells slots Q (F0 m pc ls (.int x :: .int (nI k) :: .ref (ra r) :: rest)) := by
  refine va_iast hexec hb hK hP hD hS (Y.length + r) 0 (by rw [hw]; exact zpl_at Y Z hr) ht (vp_in_nI hk (by decide)) hdg (fun H1 locs1 h1 h2 h3 => ?_)
  rw [nI_clamp (by omega), hw, zpl_put Y Z hr, hF, ← hw'] at h1 h2
  exact kk H1 locs1 h1 h2 h3
theorem zz_aald (hexec : p.tables.exec = Jvm.exec) (hb : c.code = cc) (hK : va_K D cl tys s) (hP : va_P D cl ws H) (q0 : Nat) {cB : ClassId} {n : Nat} {f : Nat → Option Nat} (ha : ws[q0]? = some (a, .inl (cB, n, .inr (.inr (.inr (.inr f)))))) (ht : tys[1]? = some (cB, .array .int)) {j v : Nat} (hj : j < n) (hn : n < 2 ^ 31) (hv : f j = some v) (hdg : decode cc pc = .ok (.aaload, 1))
    (kk : W p l e R s m args below meth c H locs cells slots Q (F0 m (pc + 1) ls (.ref v :: rest))) : W p l e R s m args below meth c H locs cells slots Q (F0 m pc ls (.int (nI j) :: .ref a :: rest)) := by
  have hc : (nI j).toNatClampNeg = j := nI_clamp (Nat.lt_trans hj hn)
  have hin : vp_in (nI j) n := vp_in_nI hj hn
  exact W.aald (v := .ref v) (ty := .array .int) hexec hb (hP q0 _ ha) ((hK.2 1 _ ht).1 n (fun j => va_rf (f j))) rfl (fun q => by cases q) (by show ¬ (nI j < 0 ∨ (arrV _ _ _).slots.size ≤ _); rw [arrV_size]; exact hin) (by show (arrV _ _ _).slots[_]? = _; rw [hc, arrV_read _ _ hj, hv]; rfl) rfl rfl hdg kk
theorem zAO.cls (hK : va_K D cl tys s) (hO : zAO s) {cA cB : ClassId} (h0 : tys[0]? = some (cA, .int)) (h1 : tys[1]? = some (cB, .array .int)) : ∃ k, s.vm.classes[cB]? = some k ∧ k.kind = .array cA (.array .int) := by
  obtain ⟨comp, c, k, q1, q2, q3, q4, q5⟩ := arrayOverA_spec hO
  have e0 : s.vm.findClass ("[" ++ FieldType.int.toString) = some cA := (hK.2 0 _ h0).2
  have e1 : s.vm.findClass ("[" ++ (FieldType.array .int).toString) = some cB := (hK.2 1 _ h1).2
  have e2 : (FieldType.array .int).toString = "[" ++ FieldType.int.toString := by decide +kernel
  rw [e2] at q1
  obtain rfl : comp = cA := Option.some.inj (q1.symm.trans e0)
  obtain rfl : c = cB := Option.some.inj (q5.symm.trans e1)
  exact ⟨k, q3, q4⟩
theorem zz_aast (hexec : p.tables.exec = Jvm.exec) (hb : c.code = cc) (hK : va_K D cl tys s) (hO : zAO s) (hP : va_P D cl ws H) (hD : va_D A ws) (hS : va_S A H0 H locs) (q0 qk : Nat) {cA cB : ClassId} {n v : Nat} {x : vp_A} {f : Nat → Option Nat} (ha : ws[q0]? = some (a, .inl (cB, n, .inr (.inr (.inr (.inr f)))))) (h0 : tys[0]? = some (cA, .int)) (h1 : tys[1]? = some (cB, .array .int)) (hv : ws[qk]? = some (v, .inl (cA, x))) {j : Nat} (hj : j < n) (hn : n < 2 ^ 31) {f' : Nat → Option Nat} (hf' : va_up f j (some v) = f') (hdg : decode cc pc = .ok (.aastore, 1))
    (kk : ∀ (H1 : Heap) (locs1 : List Loc), va_P D cl (ws.set q0 (a, .inl (cB, n, .inr (.inr (.inr (.inr f')))))) H1 → va_D A (ws.set q0 (a, .inl (cB, n, .inr (.inr (.inr (.inr f')))))) → va_S A H0 H1 locs1 → W p l e R s m args below meth c H1 locs1 cells slots Q (F0 m (pc + 1) ls rest)) : W p l e R s m args below meth c H locs cells slots Q (F0 m pc ls (.ref v :: .int (nI j) :: .ref a :: rest)) := by
  subst hf'
  have hc : (nI j).toNatClampNeg = j := nI_clamp (Nat.lt_trans hj hn)
  have hlt : (nI j).toNatClampNeg < n := by rw [hc]; exact hj
  obtain ⟨k, k1, k2⟩ := hO.cls hK h0 h1
  obtain ⟨-, kA, hkA, -⟩ := (hK.2 0 _ h0).1 0 (fun _ => .null)
  have hcell : H[v]? = some (vp_cell cA x) := hP qk _ hv
  have hvm0 : (vp_cell cA x).vm = .none := by
    obtain ⟨n, f | f | f | f | f⟩ := x <;> rfl
  have hcl0 : (vp_cell cA x).cls = cA := by
    obtain ⟨n, f | f | f | f | f⟩ := x <;> rfl
  refine W.aast hexec hb (hP q0 _ ha) (fun q h => by cases h) (fun h => by cases h) k1 k2 rfl hkA ⟨nI_pos (Nat.lt_trans hj hn), by show _ < (arrV _ _ _).slots.size; rw [arrV_size]; exact hlt⟩ hcell (fun q h => by rw [hvm0] at h; cases h) (by rw [hcl0]; exact hkA) (by rw [hcl0]; exact va_asg _ _) rfl rfl hdg fun H1 e z oq => ?_
  refine kk H1 _ (hP.set hD ha ?_ oq) (hD.set ha) (hS.put z oq (hD.2 q0 _ ha))
  show H1[a]? = some (vp_cell _ _)
  rw [e]
  rw [vp_cell_q, vp_cell_q, arrV_store, hc]
  congr 2
  funext q
  by_cases hq : q = j
  · subst hq
    simp [updV, va_up, va_rf]
  · simp [updV, va_up, hq]
theorem zz_newA (hexec : p.tables.exec = Jvm.exec) (hb : c.code = cc) {own : String} {index : Nat} (hown : s.vm.findClass own = some m.cls) (hclink : (Cond.classLink own index "[I").before args s = true) (hK : va_K D cl tys s) (hO : zAO s) (hP : va_P D cl ws H) (hD : va_D A ws) (hS : va_S A H0 H locs) (hA : ∀ q, H0.size ≤ q → A q)
    {cB : ClassId} (h1 : tys[1]? = some (cB, .array .int)) {n : Nat} (hn : n < 2 ^ 20) (hcells : cells + 1 ≤ R.cells) (hslots : slots + n ≤ R.slots) (hdg : decode cc pc = .ok (.anewarray index, 3))
    (kk : ∀ (q : Nat) (H1 : Heap), va_P D cl (ws ++ [(q, .inl (cB, n, .inr (.inr (.inr (.inr (fun _ => none))))))]) H1 → va_D A (ws ++ [(q, .inl (cB, n, .inr (.inr (.inr (.inr (fun _ => none))))))]) → va_S A H0 H1 locs →
      W p l e R s m args below meth c H1 locs (cells + 1) (slots + n) Q (F0 m (pc + 3) ls (.ref q :: rest))) : W p l e R s m args below meth c H locs cells slots Q (F0 m pc ls (.int (nI n) :: rest)) := by
  have e2 : (FieldType.array .int).toString = "[I" := by decide +kernel
  have hc : (nI n).toNatClampNeg = n := nI_clamp (by omega)
  refine W.anewA (t := .int) hexec hb hown (by rw [e2]; exact hclink) hO.use rfl hdg rfl (nI_pos (by omega)) (by rw [hc]; omega) hcells (by rw [hc]; exact hslots) fun cA kA comp f1 f2 f3 f4 => ?_
  obtain rfl : cA = cB := Option.some.inj (f1.symm.trans (hK.2 1 _ h1).2)
  rw [hc]
  generalize hH1 : H.push ({ cls := cA, slots := Array.replicate n .null, vm := .none } : Cell) = H1
  have z1 : H1.size = H.size + 1 := by rw [← hH1, Array.size_push]
  have e1 : H1[H.size]? = some (arrV cA n (fun _ => .null)) := by rw [← hH1, Array.getElem?_push_size, ← arrV_new]
  have o1 : ∀ q : Nat, q < H.size → H1[q]? = H[q]? := fun q hq => by rw [← hH1, Array.getElem?_push, if_neg (Nat.ne_of_lt hq)]
  have hk : ∀ (k : Nat) (x : Nat × va_E), ws[k]? = some x → H1[x.1]? = H[x.1]? := fun k x hx => o1 x.1 ((hP k x hx).lt)
  refine kk H.size H1 ((hP.kept hk).app (fun k x hx => ?_)) (hD.push hP rfl (hA _ hS.1)) ⟨Nat.le_trans hS.1 (by omega), fun x h1 h2 => (o1 x (Nat.lt_of_lt_of_le h1 hS.1)).trans (hS.2.1 x h1 h2), hS.2.2⟩
  have hz : k < 1 := (List.getElem?_eq_some_iff.mp hx).1
  rw [show k = 0 by omega] at hx
  cases hx
  show H1[H.size]? = some (vp_cell _ _)
  rw [vp_cell_q]
  exact e1
theorem zp_pushP {X Y Z : va_W} {cA : ClassId} {ra : Nat → Nat} {F F' : Nat → Nat → Int32} {n q : Nat} {g : Nat → Int32} (hP : va_P D cl ws H) (hw : ws = (X ++ [(q, .inl (cA, 4, .inl g))]) ++ (Y ++ (zpl cA ra F n ++ Z))) (hw' : ws' = X ++ (Y ++ (zpl cA (zup ra n q) F' (n + 1) ++ Z))) (h : ∀ j, j < n → F j = F' j) (hg : g = F' n) : va_P D cl ws' H := by
  subst hw
  have h1 := hP.swap
  rw [show (X ++ (Y ++ (zpl cA ra F n ++ Z))) ++ [(q, .inl (cA, 4, .inl g))] = ((X ++ (Y ++ zpl cA ra F n)) ++ Z) ++ [(q, .inl (cA, 4, .inl g))] by simp only [List.append_assoc]] at h1
  have h2 := h1.swap
  rw [hw', ← zpl_push h hg]
  rw [show X ++ (Y ++ (zpl cA ra F n ++ [(q, .inl (cA, 4, .inl g))] ++ Z)) = ((X ++ (Y ++ zpl cA ra F n)) ++ [(q, .inl (cA, 4, .inl g))]) ++ Z by simp only [List.append_assoc]]
  exact h2
theorem zp_pushD {X Y Z : va_W} {cA : ClassId} {ra : Nat → Nat} {F F' : Nat → Nat → Int32} {n q : Nat} {g : Nat → Int32} (hD : va_D A ws) (hw : ws = (X ++ [(q, .inl (cA, 4, .inl g))]) ++ (Y ++ (zpl cA ra F n ++ Z))) (hw' : ws' = X ++ (Y ++ (zpl cA (zup ra n q) F' (n + 1) ++ Z))) (h : ∀ j, j < n → F j = F' j) (hg : g = F' n) : va_D A ws' := by
  subst hw
  have h1 := hD.swap
  rw [show (X ++ (Y ++ (zpl cA ra F n ++ Z))) ++ [(q, .inl (cA, 4, .inl g))] = ((X ++ (Y ++ zpl cA ra F n)) ++ Z) ++ [(q, .inl (cA, 4, .inl g))] by simp only [List.append_assoc]] at h1
  have h2 := h1.swap
  rw [hw', ← zpl_push h hg]
  rw [show X ++ (Y ++ (zpl cA ra F n ++ [(q, .inl (cA, 4, .inl g))] ++ Z)) = ((X ++ (Y ++ zpl cA ra F n)) ++ [(q, .inl (cA, 4, .inl g))]) ++ Z by simp only [List.append_assoc]]
  exact h2
theorem va_P.pre {a b : va_W} (h : va_P D cl (a ++ b) H) : va_P D cl a H := fun k q hk => h k q (by rw [List.getElem?_append_left (List.getElem?_eq_some_iff.mp hk).1]; exact hk)
theorem va_D.pre {a b : va_W} (h : va_D A (a ++ b)) : va_D A a := h.by id (fun k q hk => by show (a ++ b)[k]? = some q; rw [List.getElem?_append_left (List.getElem?_eq_some_iff.mp hk).1]; exact hk) (fun _ _ _ _ e => e)
/-- behind a call that had all pools but one, which stays -/
theorem zz_joinR {A0 : Nat → Prop} {X cx wr rx pl pl1 pz : va_W} {H1 : Heap} (hP : va_P D cl ((X ++ pl) ++ pz) H) (hD : va_D A0 ((X ++ pl) ++ pz)) (isC isR : List Nat) (hC : isC.map (fun i => X[i]?) = cx.map some) (hR : isR.map (fun i => X[i]?) = wr.map some) (hn : va_nd isR = true) (hdis : ∀ i ∈ isR, i ∉ isC)
    (hk : ∀ q : Nat, q < H.size → ¬ va_A (cx ++ pl) H.size q → H1[q]? = H[q]?) (hF : ∀ q, va_A (cx ++ pl) H.size q → A0 q) (hP1 : va_P D cl (rx ++ pl1) H1) (hD1 : va_D (va_A (cx ++ pl) H.size) (rx ++ pl1)) : va_P D cl (((wr ++ rx) ++ pl1) ++ pz) H1 ∧ va_D A0 (((wr ++ rx) ++ pl1) ++ pz) := by
  obtain ⟨j1, j2⟩ := va_joinP hP.pre hD.pre isC isR hC hR hn hdis hk hF hP1 hD1
  have at2 : ∀ (k : Nat) (q : Nat × va_E), pz[k]? = some q → ((X ++ pl) ++ pz)[(X ++ pl).length + k]? = some q := fun k q hq => by
    rw [List.getElem?_append_right (by omega), show (X ++ pl).length + k - (X ++ pl).length = k by omega]; exact hq
  have apart : ∀ (k : Nat) (q : Nat × va_E), pz[k]? = some q → q.1 < H.size ∧ ¬ va_A (cx ++ pl) H.size q.1 := by
    intro k q hq
    have h2 := at2 k q hq
    have hl := (hP _ q h2).lt
    refine ⟨hl, fun h => ?_⟩
    rcases h with ⟨k2, e, h⟩ | h
    · have h3 := va_part isC hC k2 _ h
      have hl3 := (List.getElem?_eq_some_iff.mp h3).1
      have h4 : ((X ++ pl) ++ pz)[if k2 < cx.length then (isC[k2]?).getD 0 else X.length + (k2 - cx.length)]? = some (q.1, e) := by
        rw [List.getElem?_append_left hl3]; exact h3
      have := hD.1 _ _ q (q.1, e) h2 h4 rfl
      omega
    · omega
  have hDz : va_D A0 pz := hD.by (fun k => (X ++ pl).length + k) at2 (fun i j _ _ e => by have e' : (X ++ pl).length + i = (X ++ pl).length + j := e; omega)
  have wrin : ∀ (i : Nat) (x : Nat × va_E), wr[i]? = some x → ∃ i', i' < (X ++ pl).length ∧ ((X ++ pl) ++ pz)[i']? = some x := fun i x hx => by
    obtain ⟨i', h1, h2⟩ := va_in_of isR hR hx
    have hi : i' < X.length := (List.getElem?_eq_some_iff.mp h2).1
    refine ⟨i', by rw [List.length_append]; omega, ?_⟩
    rw [List.getElem?_append_left (by rw [List.length_append]; omega), List.getElem?_append_left hi]
    exact h2
  refine ⟨j1.app (fun k q hq => (hP _ q (at2 k q hq)).kept (hk q.1 (apart k q hq).1 (apart k q hq).2)), va_D.app j2 hDz (fun i j x y hx hy hxy => ?_)⟩
  rw [List.append_assoc] at hx
  by_cases hi : i < wr.length
  · rw [List.getElem?_append_left hi] at hx
    obtain ⟨i', h1, h2⟩ := wrin i x hx
    have := hD.1 _ _ x y h2 (at2 j y hy) hxy
    omega
  · rw [List.getElem?_append_right (by omega)] at hx
    exact (apart j y hy).2 (by rw [← hxy]; exact hD1.2 _ x hx)
end ZPR
