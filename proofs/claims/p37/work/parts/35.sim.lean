/-! What the law's own helpers answer (pure). -/
def zlo (x : Int32) : Nat := (x &&& 2147483647).toNatClampNeg
theorem zlo_j (x : Int32) : ∃ j, j < 2 ^ 31 ∧ x &&& 2147483647 = nI j := pk_andE x (m := 2147483647) 31 (by decide)
theorem zlo_e (x : Int32) : x &&& 2147483647 = nI (zlo x) := by
  obtain ⟨j, hj, e⟩ := zlo_j x
  unfold zlo
  rw [e, nI_clamp hj]
theorem zlo_lt (x : Int32) : zlo x < 2 ^ 31 := by
  obtain ⟨j, hj, e⟩ := zlo_j x
  unfold zlo
  rw [e, nI_clamp hj]
  exact hj
def zbl (x : Int32) (k : Nat) : Nat := zlo x % k
theorem zbl_lt (x : Int32) {k : Nat} (h : 0 < k) : zbl x k < k := Nat.mod_lt _ h
theorem zmoon (d : Nat) : nI (zup (zup (zup (zup (zup (zup (zup (zup z0 0 0) 1 1) 2 2) 3 3) 4 4) 5 3) 6 2) 7 1 (d % 8)) = nI (zb d) := by
  congr 1
  unfold zb zup z0
  have : d % 8 < 8 := Nat.mod_lt _ (by decide)
  (repeat' split) <;> omega
section ZZB
variable {p : Program} {l : Launch} {e : Env} {R : Room} {s : State} {m : MethodId} {args : Array Value} {below : List Frame} {meth : Method} {c : Code} {H H0 : Heap} {locs : List Loc} {cells slots : Nat} {Q : State → Prop} {pc a : Nat} {ls : Array Slot} {rest : List Value} {cc : ByteArray} {D : va_G} {cl : List vw_C} {tys : List (ClassId × FieldType)} {ws : va_W} {A : Nat → Prop}
theorem zz_zald (hexec : p.tables.exec = Jvm.exec) (hb : c.code = cc) (hK : va_K D cl tys s) (hP : va_P D cl ws H) (q0 : Nat) {cA : ClassId} {n : Nat} {f : Nat → Nat} (ha : ws[q0]? = some (a, .inl (cA, n, .inl (fun j => nI (f j))))) (ht : tys[2]? = some (cA, .boolean)) {j : Nat} (hj : j < n) (hn : n < 2 ^ 31) (hdg : decode cc pc = .ok (.baload, 1))
    (kk : W p l e R s m args below meth c H locs cells slots Q (F0 m (pc + 1) ls (.int (nI (f j)) :: rest))) : W p l e R s m args below meth c H locs cells slots Q (F0 m pc ls (.int (nI j) :: .ref a :: rest)) := by
  refine va_zald hexec hb hK hP q0 2 ha ht (vp_in_nI hj hn) hdg ?_
  rw [nI_clamp (Nat.lt_trans hj hn)]
  exact kk
theorem zz_zast (hexec : p.tables.exec = Jvm.exec) (hb : c.code = cc) (hK : va_K D cl tys s) (hP : va_P D cl ws H) (hD : va_D A ws) (hS : va_S A H0 H locs) (q0 : Nat) {cA : ClassId} {n : Nat} {f : Nat → Nat} (ha : ws[q0]? = some (a, .inl (cA, n, .inl (fun j => nI (f j))))) (ht : tys[2]? = some (cA, .boolean)) {j x : Nat} (hj : j < n) (hn : n < 2 ^ 31) (hx1 : x ≤ 1) (hdg : decode cc pc = .ok (.bastore, 1))
    (kk : ∀ (H1 : Heap) (locs1 : List Loc), va_P D cl (ws.set q0 (a, .inl (cA, n, .inl (fun i => nI (zup f j x i))))) H1 → va_D A (ws.set q0 (a, .inl (cA, n, .inl (fun i => nI (zup f j x i))))) → va_S A H0 H1 locs1 → W p l e R s m args below meth c H1 locs1 cells slots Q (F0 m (pc + 1) ls rest)) : W p l e R s m args below meth c H locs cells slots Q (F0 m pc ls (.int (nI x) :: .int (nI j) :: .ref a :: rest)) := by
  refine va_zast hexec hb hK hP hD hS q0 2 ha ht (vp_in_nI hj hn) hdg (fun H1 locs1 h1 h2 h3 => ?_)
  have e1 : vp_nar .boolean (nI x) = nI x := by
    rcases (show x = 0 ∨ x = 1 by omega) with rfl | rfl <;> rfl
  rw [e1, zz_upd f (Nat.lt_trans hj hn)] at h1 h2
  exact kk H1 locs1 h1 h2 h3
end ZZB
set_option maxHeartbeats 4000000 in
set_option maxRecDepth 100000 in
theorem c_L_below (l : Launch) (dC : Nat → ClassId) (dI : Nat → Nat → Nat) (cA : ClassId) (x : Int32) (k : Nat) (hk : 0 < k) (hk2 : k < 2 ^ 31) : Met l yL_below wsL_below ({ frames := 0, cells := 0, slots := 0, locals := 0 } : Room) (va_Pc [.int x, .int (nI k)] (fun _ => True)) (vp_Si (fun y9 : Int32 => y9 = nI (zbl x k))) 0 0 (fun _ => False) := by
  refine Met.ofW (cc := cL_below) (maxL := 2) (ret := (some .int)) (by decide) rfl ?_
  intro p e s m args below meth c s₁ B hml hv
  obtain ⟨hargs, -⟩ := hv
  have hx := B.exec
  have hb := B.bytes
  have hr := B.returns
  have hts := atoms_spec (ws := wsL_below) B.pre
  have hown : s.vm.findClass RL = some m.cls := findClass_of_methodNamed B.named
  have hlocks := B.notSynchronized
  have hl := lv_entry ([.int x, .int (nI k)]) (n := 2) (Nat.le_of_ble_eq_true rfl)
  rw [hargs, lg_entry_eq, ← hargs]
  generalize (lg_sl ([.int x, .int (nI k)]) ++ List.replicate (2 - (lg_sl ([.int x, .int (nI k)])).length) Slot.unset).toArray = ls at hl ⊢
  have hl : lv_has ls 2 [(0, .int x), (1, .int (nI k))] := hl
  refine lv_iload_n hx hb dL_below_0 rfl (lv_at hl 0 rfl) ?_
  refine lv_ldc hx hb hown (hts (.constant RL 7 (2147483647)) (List.mem_of_getElem? (i := 1) rfl)) dL_below_1 ?_
  refine lv_iand hx hb dL_below_3 ?_
  refine zz_top (zlo_e x) ?_
  refine lv_iload_n hx hb dL_below_4 rfl (lv_at hl 1 rfl) ?_
  refine lv_irem hx hb dL_below_5 (fun q9 => absurd ((zz_eq0 (by omega)).mp q9) (by omega)) ?_
  refine zz_top (pk_rem (by first | exact zlo_lt x | omega) (by omega) (by omega)) ?_
  exact W.iret hx hb hr (fun t ht hW => ⟨_, rfl, congrArg nI (show (zlo x) % k = zbl x k from by rfl), ht⟩) (fun _ h => nomatch h) dL_below_6
set_option maxHeartbeats 4000000 in
set_option maxRecDepth 100000 in
theorem c_X5_grade (l : Launch) (dC : Nat → ClassId) (dI : Nat → Nat → Nat) (cA : ClassId) (k : Nat) (hi : k ≤ 12) : Met l yX5_grade wsX5_grade ({ frames := 0, cells := 0, slots := 0, locals := 0 } : Room) (va_Pc [.int (nI k)] (fun _ => True)) (vp_Si (fun y9 : Int32 => y9 = nI (zg k))) 0 0 (fun _ => False) := by
  refine Met.ofW (cc := cX5_grade) (maxL := 1) (ret := (some .int)) (by decide) rfl ?_
  intro p e s m args below meth c s₁ B hml hv
  obtain ⟨hargs, -⟩ := hv
  have hx := B.exec
  have hb := B.bytes
  have hr := B.returns
  have hts := atoms_spec (ws := wsX5_grade) B.pre
  have hown : s.vm.findClass RX5 = some m.cls := findClass_of_methodNamed B.named
  have hlocks := B.notSynchronized
  have hl := lv_entry ([.int (nI k)]) (n := 1) (Nat.le_of_ble_eq_true rfl)
  rw [hargs, lg_entry_eq, ← hargs]
  generalize (lg_sl ([.int (nI k)]) ++ List.replicate (1 - (lg_sl ([.int (nI k)])).length) Slot.unset).toArray = ls at hl ⊢
  have hl : lv_has ls 1 [(0, .int (nI k))] := hl
  refine lv_iload_n hx hb dX5_grade_0 rfl (lv_at hl 0 rfl) ?_
  refine lv_iconst (v := nI 1) hx hb dX5_grade_1 (by decide) ?_
  refine lv_icmp_ge (tgt := 9) hx hb dX5_grade_2 (by decide) (fun c_1 => ?_) (fun c_1 => ?_)
  · skip
    replace c_1 := (nI_leI (by omega) (by omega)).mp c_1
    refine lv_iload_n hx hb dX5_grade_9 rfl (lv_at hl 0 rfl) ?_
    refine lv_iconst (v := nI 4) hx hb dX5_grade_10 (by decide) ?_
    refine lv_icmp_ge (tgt := 18) hx hb dX5_grade_11 (by decide) (fun c_2 => ?_) (fun c_2 => ?_)
    · skip
      replace c_2 := (nI_leI (by omega) (by omega)).mp c_2
      refine lv_iload_n hx hb dX5_grade_18 rfl (lv_at hl 0 rfl) ?_
      refine lv_bipush (v := nI 7) hx hb dX5_grade_19 (by decide) ?_
      refine lv_icmp_ge (tgt := 28) hx hb dX5_grade_21 (by decide) (fun c_3 => ?_) (fun c_3 => ?_)
      · skip
        replace c_3 := (nI_leI (by omega) (by omega)).mp c_3
        refine lv_iload_n hx hb dX5_grade_28 rfl (lv_at hl 0 rfl) ?_
        refine lv_bipush (v := nI 10) hx hb dX5_grade_29 (by decide) ?_
        refine lv_icmp_ge (tgt := 38) hx hb dX5_grade_31 (by decide) (fun c_4 => ?_) (fun c_4 => ?_)
        · skip
          replace c_4 := (nI_leI (by omega) (by omega)).mp c_4
          refine lv_iconst (v := nI 1) hx hb dX5_grade_38 (by decide) ?_
          exact W.iret hx hb hr (fun t ht hW => ⟨_, rfl, congrArg nI (show 1 = zg k from by (unfold zg; (repeat' split) <;> omega)), ht⟩) (fun _ h => nomatch h) dX5_grade_39
        · skip
          replace c_4 := mt (nI_leI (by omega) (by omega)).mpr c_4
          refine lv_iconst (v := nI 3) hx hb dX5_grade_34 (by decide) ?_
          refine lv_goto (tgt := 39) hx hb dX5_grade_35 (by decide) ?_
          exact W.iret hx hb hr (fun t ht hW => ⟨_, rfl, congrArg nI (show 3 = zg k from by (unfold zg; (repeat' split) <;> omega)), ht⟩) (fun _ h => nomatch h) dX5_grade_39
      · skip
        replace c_3 := mt (nI_leI (by omega) (by omega)).mpr c_3
        refine lv_iconst (v := nI 2) hx hb dX5_grade_24 (by decide) ?_
        refine lv_goto (tgt := 39) hx hb dX5_grade_25 (by decide) ?_
        exact W.iret hx hb hr (fun t ht hW => ⟨_, rfl, congrArg nI (show 2 = zg k from by (unfold zg; (repeat' split) <;> omega)), ht⟩) (fun _ h => nomatch h) dX5_grade_39
    · skip
      replace c_2 := mt (nI_leI (by omega) (by omega)).mpr c_2
      refine lv_iconst (v := nI 1) hx hb dX5_grade_14 (by decide) ?_
      refine lv_goto (tgt := 39) hx hb dX5_grade_15 (by decide) ?_
      exact W.iret hx hb hr (fun t ht hW => ⟨_, rfl, congrArg nI (show 1 = zg k from by (unfold zg; (repeat' split) <;> omega)), ht⟩) (fun _ h => nomatch h) dX5_grade_39
  · skip
    replace c_1 := mt (nI_leI (by omega) (by omega)).mpr c_1
    refine lv_iconst (v := nI 0) hx hb dX5_grade_5 (by decide) ?_
    refine lv_goto (tgt := 39) hx hb dX5_grade_6 (by decide) ?_
    exact W.iret hx hb hr (fun t ht hW => ⟨_, rfl, congrArg nI (show 0 = zg k from by (unfold zg; (repeat' split) <;> omega)), ht⟩) (fun _ h => nomatch h) dX5_grade_39
theorem i_X5_moon_X5 : ∀ w ∈ u_ws RX5 TX5 5, w ∈ wsX5_moon := by decide +kernel
set_option maxHeartbeats 4000000 in
set_option maxRecDepth 100000 in
theorem c_X5_moon (l : Launch) (dC : Nat → ClassId) (dI : Nat → Nat → Nat) (cA : ClassId) (cB : ClassId) (mo : Nat) (rr : Nat) (tt : Nat) (dy : Nat) (gu : Nat) (pu : Int32) (sz : Nat) (hdy : dy < 2 ^ 31) : Met l yX5_moon wsX5_moon ({ frames := 0, cells := 1, slots := 8, locals := 0 } : Room) (va_Pc [.ref mo] (fun U => U.heap.size = sz ∧ va_P (dC, dI) vwCl [(mo, .inr (4, [.int (nI dy), .int (nI gu), .int pu, .ref rr, .ref tt]))] U.heap ∧ va_K (dC, dI) vwCl [(cA, .int), (cB, .array .int)] U ∧ va_D (fun _ => True) [(mo, .inr (4, [.int (nI dy), .int (nI gu), .int pu, .ref rr, .ref tt]))])) (va_Qi (fun (y9 : Int32) (_ : Unit) => y9 = nI (zb dy)) (fun (_ : Unit) t => va_P (dC, dI) vwCl [(mo, .inr (4, [.int (nI dy), .int (nI gu), .int pu, .ref rr, .ref tt]))] t.heap ∧ va_D (va_A [(mo, .inr (4, [.int (nI dy), .int (nI gu), .int pu, .ref rr, .ref tt]))] sz) [(mo, .inr (4, [.int (nI dy), .int (nI gu), .int pu, .ref rr, .ref tt]))]) (va_A [(mo, .inr (4, [.int (nI dy), .int (nI gu), .int pu, .ref rr, .ref tt]))] sz)) 1 8 (va_A [(mo, .inr (4, [.int (nI dy), .int (nI gu), .int pu, .ref rr, .ref tt]))] sz) := by
  refine Met.ofW (cc := cX5_moon) (maxL := 1) (ret := (some .int)) (by decide) rfl ?_
  intro p e s m args below meth c s₁ B hml hv
  obtain ⟨hargs, hsz, hP, hK, hD0⟩ := hv
  have hK2 := hK
  have hKi := hK2.sub (tys' := [(cA, .int)]) [0] rfl
  have hx := B.exec
  have hb := B.bytes
  have hr := B.returns
  have hts := atoms_spec (ws := wsX5_moon) B.pre
  have hown : s.vm.findClass RX5 = some m.cls := findClass_of_methodNamed B.named
  have hlocks := B.notSynchronized
  subst hsz
  have hD := hD0.self (sz := s.heap.size)
  generalize hAe : va_A [(mo, .inr (4, [.int (nI dy), .int (nI gu), .int pu, .ref rr, .ref tt]))] s.heap.size = A at hD ⊢
  have hA : ∀ q : Nat, s.heap.size ≤ q → A q := fun q h => by rw [← hAe]; exact Or.inr h
  have hS : va_S A s.heap s.heap [] := va_S.rf
  have hP : va_P (dC, dI) vwCl [(mo, .inr (4, [.int (nI dy), .int (nI gu), .int pu, .ref rr, .ref tt]))] s.heap := hP
  have hl := lv_entry ([.ref mo]) (n := 1) (Nat.le_of_ble_eq_true rfl)
  rw [hargs, lg_entry_eq, ← hargs]
  generalize (lg_sl ([.ref mo]) ++ List.replicate (1 - (lg_sl ([.ref mo])).length) Slot.unset).toArray = ls at hl ⊢
  have hl : lv_has ls 1 [(0, .ref mo)] := hl
  refine lv_bipush (v := nI 8) hx hb dX5_moon_0 (by decide) ?_
  refine zz_newa hx hb (hts (.arrayClass .int) (List.mem_of_getElem? (i := 1) rfl)) hKi hP hD hS hA (n := 8) (by decide) (Nat.le_of_ble_eq_true rfl) (Nat.le_of_ble_eq_true rfl) (Nat.le_of_ble_eq_true rfl) dX5_moon_2 (fun q2 H hP hD hS => ?_)
  have hP : va_P (dC, dI) vwCl [(mo, .inr (4, [.int (nI dy), .int (nI gu), .int pu, .ref rr, .ref tt])), (q2, .inl (cA, 8, .inl (fun j9 => nI (z0 j9))))] H := hP
  have hD : va_D A [(mo, .inr (4, [.int (nI dy), .int (nI gu), .int pu, .ref rr, .ref tt])), (q2, .inl (cA, 8, .inl (fun j9 => nI (z0 j9))))] := hD
  refine lv_dup hx hb dX5_moon_4 rfl ?_
  refine lv_iconst (v := nI 0) hx hb dX5_moon_5 (by decide) ?_
  refine lv_iconst (v := nI 0) hx hb dX5_moon_6 (by decide) ?_
  refine zz_ast hx hb hK hP hD hS 1 (f := z0) rfl rfl (by omega) (by decide) dX5_moon_7 (fun H locs hP hD hS => ?_)
  have hP : va_P (dC, dI) vwCl [(mo, .inr (4, [.int (nI dy), .int (nI gu), .int pu, .ref rr, .ref tt])), (q2, .inl (cA, 8, .inl (fun j9 => nI ((zup z0 0 0) j9))))] H := hP
  have hD : va_D A [(mo, .inr (4, [.int (nI dy), .int (nI gu), .int pu, .ref rr, .ref tt])), (q2, .inl (cA, 8, .inl (fun j9 => nI ((zup z0 0 0) j9))))] := hD
  refine lv_dup hx hb dX5_moon_8 rfl ?_
  refine lv_iconst (v := nI 1) hx hb dX5_moon_9 (by decide) ?_
  refine lv_iconst (v := nI 1) hx hb dX5_moon_10 (by decide) ?_
  refine zz_ast hx hb hK hP hD hS 1 (f := zup z0 0 0) rfl rfl (by omega) (by decide) dX5_moon_11 (fun H locs hP hD hS => ?_)
  have hP : va_P (dC, dI) vwCl [(mo, .inr (4, [.int (nI dy), .int (nI gu), .int pu, .ref rr, .ref tt])), (q2, .inl (cA, 8, .inl (fun j9 => nI ((zup (zup z0 0 0) 1 1) j9))))] H := hP
  have hD : va_D A [(mo, .inr (4, [.int (nI dy), .int (nI gu), .int pu, .ref rr, .ref tt])), (q2, .inl (cA, 8, .inl (fun j9 => nI ((zup (zup z0 0 0) 1 1) j9))))] := hD
  refine lv_dup hx hb dX5_moon_12 rfl ?_
  refine lv_iconst (v := nI 2) hx hb dX5_moon_13 (by decide) ?_
  refine lv_iconst (v := nI 2) hx hb dX5_moon_14 (by decide) ?_
  refine zz_ast hx hb hK hP hD hS 1 (f := zup (zup z0 0 0) 1 1) rfl rfl (by omega) (by decide) dX5_moon_15 (fun H locs hP hD hS => ?_)
  have hP : va_P (dC, dI) vwCl [(mo, .inr (4, [.int (nI dy), .int (nI gu), .int pu, .ref rr, .ref tt])), (q2, .inl (cA, 8, .inl (fun j9 => nI ((zup (zup (zup z0 0 0) 1 1) 2 2) j9))))] H := hP
  have hD : va_D A [(mo, .inr (4, [.int (nI dy), .int (nI gu), .int pu, .ref rr, .ref tt])), (q2, .inl (cA, 8, .inl (fun j9 => nI ((zup (zup (zup z0 0 0) 1 1) 2 2) j9))))] := hD
  refine lv_dup hx hb dX5_moon_16 rfl ?_
  refine lv_iconst (v := nI 3) hx hb dX5_moon_17 (by decide) ?_
  refine lv_iconst (v := nI 3) hx hb dX5_moon_18 (by decide) ?_
  refine zz_ast hx hb hK hP hD hS 1 (f := zup (zup (zup z0 0 0) 1 1) 2 2) rfl rfl (by omega) (by decide) dX5_moon_19 (fun H locs hP hD hS => ?_)
  have hP : va_P (dC, dI) vwCl [(mo, .inr (4, [.int (nI dy), .int (nI gu), .int pu, .ref rr, .ref tt])), (q2, .inl (cA, 8, .inl (fun j9 => nI ((zup (zup (zup (zup z0 0 0) 1 1) 2 2) 3 3) j9))))] H := hP
  have hD : va_D A [(mo, .inr (4, [.int (nI dy), .int (nI gu), .int pu, .ref rr, .ref tt])), (q2, .inl (cA, 8, .inl (fun j9 => nI ((zup (zup (zup (zup z0 0 0) 1 1) 2 2) 3 3) j9))))] := hD
  refine lv_dup hx hb dX5_moon_20 rfl ?_
  refine lv_iconst (v := nI 4) hx hb dX5_moon_21 (by decide) ?_
  refine lv_iconst (v := nI 4) hx hb dX5_moon_22 (by decide) ?_
  refine zz_ast hx hb hK hP hD hS 1 (f := zup (zup (zup (zup z0 0 0) 1 1) 2 2) 3 3) rfl rfl (by omega) (by decide) dX5_moon_23 (fun H locs hP hD hS => ?_)
  have hP : va_P (dC, dI) vwCl [(mo, .inr (4, [.int (nI dy), .int (nI gu), .int pu, .ref rr, .ref tt])), (q2, .inl (cA, 8, .inl (fun j9 => nI ((zup (zup (zup (zup (zup z0 0 0) 1 1) 2 2) 3 3) 4 4) j9))))] H := hP
  have hD : va_D A [(mo, .inr (4, [.int (nI dy), .int (nI gu), .int pu, .ref rr, .ref tt])), (q2, .inl (cA, 8, .inl (fun j9 => nI ((zup (zup (zup (zup (zup z0 0 0) 1 1) 2 2) 3 3) 4 4) j9))))] := hD
  refine lv_dup hx hb dX5_moon_24 rfl ?_
  refine lv_iconst (v := nI 5) hx hb dX5_moon_25 (by decide) ?_
  refine lv_iconst (v := nI 3) hx hb dX5_moon_26 (by decide) ?_
  refine zz_ast hx hb hK hP hD hS 1 (f := zup (zup (zup (zup (zup z0 0 0) 1 1) 2 2) 3 3) 4 4) rfl rfl (by omega) (by decide) dX5_moon_27 (fun H locs hP hD hS => ?_)
  have hP : va_P (dC, dI) vwCl [(mo, .inr (4, [.int (nI dy), .int (nI gu), .int pu, .ref rr, .ref tt])), (q2, .inl (cA, 8, .inl (fun j9 => nI ((zup (zup (zup (zup (zup (zup z0 0 0) 1 1) 2 2) 3 3) 4 4) 5 3) j9))))] H := hP
  have hD : va_D A [(mo, .inr (4, [.int (nI dy), .int (nI gu), .int pu, .ref rr, .ref tt])), (q2, .inl (cA, 8, .inl (fun j9 => nI ((zup (zup (zup (zup (zup (zup z0 0 0) 1 1) 2 2) 3 3) 4 4) 5 3) j9))))] := hD
  refine lv_dup hx hb dX5_moon_28 rfl ?_
  refine lv_bipush (v := nI 6) hx hb dX5_moon_29 (by decide) ?_
  refine lv_iconst (v := nI 2) hx hb dX5_moon_31 (by decide) ?_
  refine zz_ast hx hb hK hP hD hS 1 (f := zup (zup (zup (zup (zup (zup z0 0 0) 1 1) 2 2) 3 3) 4 4) 5 3) rfl rfl (by omega) (by decide) dX5_moon_32 (fun H locs hP hD hS => ?_)
  have hP : va_P (dC, dI) vwCl [(mo, .inr (4, [.int (nI dy), .int (nI gu), .int pu, .ref rr, .ref tt])), (q2, .inl (cA, 8, .inl (fun j9 => nI ((zup (zup (zup (zup (zup (zup (zup z0 0 0) 1 1) 2 2) 3 3) 4 4) 5 3) 6 2) j9))))] H := hP
  have hD : va_D A [(mo, .inr (4, [.int (nI dy), .int (nI gu), .int pu, .ref rr, .ref tt])), (q2, .inl (cA, 8, .inl (fun j9 => nI ((zup (zup (zup (zup (zup (zup (zup z0 0 0) 1 1) 2 2) 3 3) 4 4) 5 3) 6 2) j9))))] := hD
  refine lv_dup hx hb dX5_moon_33 rfl ?_
  refine lv_bipush (v := nI 7) hx hb dX5_moon_34 (by decide) ?_
  refine lv_iconst (v := nI 1) hx hb dX5_moon_36 (by decide) ?_
  refine zz_ast hx hb hK hP hD hS 1 (f := zup (zup (zup (zup (zup (zup (zup z0 0 0) 1 1) 2 2) 3 3) 4 4) 5 3) 6 2) rfl rfl (by omega) (by decide) dX5_moon_37 (fun H locs hP hD hS => ?_)
  have hP : va_P (dC, dI) vwCl [(mo, .inr (4, [.int (nI dy), .int (nI gu), .int pu, .ref rr, .ref tt])), (q2, .inl (cA, 8, .inl (fun j9 => nI ((zup (zup (zup (zup (zup (zup (zup (zup z0 0 0) 1 1) 2 2) 3 3) 4 4) 5 3) 6 2) 7 1) j9))))] H := hP
  have hD : va_D A [(mo, .inr (4, [.int (nI dy), .int (nI gu), .int pu, .ref rr, .ref tt])), (q2, .inl (cA, 8, .inl (fun j9 => nI ((zup (zup (zup (zup (zup (zup (zup (zup z0 0 0) 1 1) 2 2) 3 3) 4 4) 5 3) 6 2) 7 1) j9))))] := hD
  refine lv_aload_n hx hb dX5_moon_38 rfl (lv_at hl 0 rfl) ?_
  refine va_get (D := (dC, dI)) (ci := 4) (v := .int (nI dy)) (C := RX5) (T := TX5) (N := 5) hx hb hts i_X5_moon_X5 hown hK hP 0 rfl rfl 0 (by decide) (hts (.fieldLink RX5 22 "RuinViewsLaw$Sim" "day" "I") (List.mem_of_getElem? (i := 2) rfl)) (fun _ h9 => h9) rfl dX5_moon_39 ?_
  refine lv_bipush (v := nI 8) hx hb dX5_moon_42 (by decide) ?_
  refine lv_irem hx hb dX5_moon_44 (by decide) ?_
  refine zz_top (pk_rem (by omega) (by decide) (by decide)) ?_
  refine zz_ald hx hb hK hP 1 (f := zup (zup (zup (zup (zup (zup (zup (zup z0 0 0) 1 1) 2 2) 3 3) 4 4) 5 3) 6 2) 7 1) rfl rfl (by omega) (by decide) dX5_moon_45 ?_
  refine zz_top (zmoon dy) ?_
  have hP := hP.sub (ws' := [(mo, .inr (4, [.int (nI dy), .int (nI gu), .int pu, .ref rr, .ref tt]))]) [0] rfl
  have hD := hD.sub (ws' := [(mo, .inr (4, [.int (nI dy), .int (nI gu), .int pu, .ref rr, .ref tt]))]) [0] (by decide) rfl
  exact W.iret hx hb hr (fun t ht hW => ⟨⟨_, (), rfl, rfl, by rw [ht]; exact hP, hD⟩, hS.F ht⟩) hS.2.2 dX5_moon_46
theorem i_X5_view_X5 : ∀ w ∈ u_ws RX5 TX5 5, w ∈ wsX5_view := by decide +kernel
set_option maxHeartbeats 4000000 in
set_option maxRecDepth 100000 in
theorem c_X5_view (l : Launch) (dC : Nat → ClassId) (dI : Nat → Nat → Nat) (cA : ClassId) (cB : ClassId) (mo : Nat) (rr : Nat) (tt : Nat) (ra : Nat → Nat) (ta : Nat → Nat) (z : ZS) (r : Nat) (b : Nat) (hz : zok z) (hr : r < zn z) : Met l yX5_view wsX5_view ({ frames := 1, cells := 0, slots := 0, locals := 20 } : Room) (va_Pc [.ref mo, .int (nI r), .int (nI b)] (fun U => va_P (dC, dI) vwCl ([(mo, .inr (4, [.int (nI (zdy z)), .int (nI (zgu z)), .int (zpu z), .ref rr, .ref tt])), (rr, .inl (cB, zn z, .inr (.inr (.inr (.inr (zrf (zn z) ra)))))), (tt, .inl (cB, ztn z, .inr (.inr (.inr (.inr (zrf (ztn z) ta))))))] ++ (zpl cA ra (zrow (zwa z) (ziv z) (zgh z) (zpr z)) (zn z) ++ (zpl cA ta (zrow (ztr z) (ztd z) (ztp z) (ztf z)) (ztn z)))) U.heap ∧ va_K (dC, dI) vwCl [(cA, .int), (cB, .array .int)] U)) (vp_Si (fun y9 : Int32 => y9 = nI (zv (zwa z r) (ziv z r) (zgh z r) b))) 0 0 (fun _ => False) := by
  refine Met.ofW (cc := cX5_view) (maxL := 4) (ret := (some .int)) (by decide) rfl ?_
  intro p e s m args below meth c s₁ B hml hv
  obtain ⟨hargs, hP, hK⟩ := hv
  have hK2 := hK
  have hKi := hK2.sub (tys' := [(cA, .int)]) [0] rfl
  have hx := B.exec
  have hb := B.bytes
  have hr := B.returns
  have hts := atoms_spec (ws := wsX5_view) B.pre
  have hown : s.vm.findClass RX5 = some m.cls := findClass_of_methodNamed B.named
  have hlocks := B.notSynchronized
  have hl := lv_entry ([.ref mo, .int (nI r), .int (nI b)]) (n := 4) (Nat.le_of_ble_eq_true rfl)
  rw [hargs, lg_entry_eq, ← hargs]
  generalize (lg_sl ([.ref mo, .int (nI r), .int (nI b)]) ++ List.replicate (4 - (lg_sl ([.ref mo, .int (nI r), .int (nI b)])).length) Slot.unset).toArray = ls at hl ⊢
  have hl : lv_has ls 4 [(0, .ref mo), (1, .int (nI r)), (2, .int (nI b))] := hl
  obtain ⟨o1, o2, o3, o4, o5, o6, o7, o8, o9, o10, o11⟩ := id hz
  have hw9 := o4 r
  have hi9 := o5 r
  have hg9 := o6 r
  refine lv_aload_n hx hb dX5_view_0 rfl (lv_at hl 0 rfl) ?_
  refine va_get (D := (dC, dI)) (ci := 4) (v := .ref rr) (C := RX5) (T := TX5) (N := 5) hx hb hts i_X5_view_X5 hown hK hP 0 rfl rfl 3 (by decide) (hts (.fieldLink RX5 15 "RuinViewsLaw$Sim" "ruins" "[[I") (List.mem_of_getElem? (i := 1) rfl)) (fun _ h9 => h9) rfl dX5_view_1 ?_
  refine lv_iload_n hx hb dX5_view_4 rfl (lv_at hl 1 rfl) ?_
  refine zz_aald hx hb hK hP 1 (f := zrf (zn z) ra) rfl rfl (j := r) (v := ra r) (by omega) (by omega) (zrf_g (by omega)) dX5_view_5 ?_
  refine lv_astore_n (lv' := [(3, .ref (ra r)), (0, .ref mo), (1, .int (nI r)), (2, .int (nI b))]) hx hb dX5_view_6 rfl hl (by decide) rfl (fun ls hl => ?_)
  refine lv_aload_n hx hb dX5_view_7 rfl (lv_at hl 0 rfl) ?_
  refine lv_iconst (v := nI 0) hx hb dX5_view_8 (by decide) ?_
  refine zp_ld hx hb hK hP ([(mo, .inr (4, [.int (nI (zdy z)), .int (nI (zgu z)), .int (zpu z), .ref rr, .ref tt])), (rr, .inl (cB, zn z, .inr (.inr (.inr (.inr (zrf (zn z) ra)))))), (tt, .inl (cB, ztn z, .inr (.inr (.inr (.inr (zrf (ztn z) ta))))))] : va_W) (zpl cA ta (zrow (ztr z) (ztd z) (ztp z) (ztf z)) (ztn z) : va_W) (ra := ra) (F := zrow (zwa z) (ziv z) (zgh z) (zpr z)) (n := (zn z)) (r := r) (k := 0) (v := nI ((zwa z) r)) rfl rfl (by omega) (by decide) rfl dX5_view_9 ?_
  refine lv_if_ne (tgt := 17) hx hb dX5_view_10 (by decide) (fun c_1 => ?_) (fun c_1 => ?_)
  · skip
    replace c_1 := mt (zz_eq0 (by omega)).mpr c_1
    refine lv_aload_n hx hb dX5_view_17 rfl (lv_at hl 0 rfl) ?_
    refine lv_iconst (v := nI 0) hx hb dX5_view_18 (by decide) ?_
    refine zp_ld hx hb hK hP ([(mo, .inr (4, [.int (nI (zdy z)), .int (nI (zgu z)), .int (zpu z), .ref rr, .ref tt])), (rr, .inl (cB, zn z, .inr (.inr (.inr (.inr (zrf (zn z) ra)))))), (tt, .inl (cB, ztn z, .inr (.inr (.inr (.inr (zrf (ztn z) ta))))))] : va_W) (zpl cA ta (zrow (ztr z) (ztd z) (ztp z) (ztf z)) (ztn z) : va_W) (ra := ra) (F := zrow (zwa z) (ziv z) (zgh z) (zpr z)) (n := (zn z)) (r := r) (k := 0) (v := nI ((zwa z) r)) rfl rfl (by omega) (by decide) rfl dX5_view_19 ?_
    refine lv_aload_n hx hb dX5_view_20 rfl (lv_at hl 0 rfl) ?_
    refine lv_iconst (v := nI 0) hx hb dX5_view_21 (by decide) ?_
    refine zp_ld hx hb hK hP ([(mo, .inr (4, [.int (nI (zdy z)), .int (nI (zgu z)), .int (zpu z), .ref rr, .ref tt])), (rr, .inl (cB, zn z, .inr (.inr (.inr (.inr (zrf (zn z) ra)))))), (tt, .inl (cB, ztn z, .inr (.inr (.inr (.inr (zrf (ztn z) ta))))))] : va_W) (zpl cA ta (zrow (ztr z) (ztd z) (ztp z) (ztf z)) (ztn z) : va_W) (ra := ra) (F := zrow (zwa z) (ziv z) (zgh z) (zpr z)) (n := (zn z)) (r := r) (k := 0) (v := nI ((zwa z) r)) rfl rfl (by omega) (by decide) rfl dX5_view_22 ?_
    refine lv_iadd hx hb dX5_view_23 ?_
    refine zz_top (nI_add _ _) ?_
    refine lv_iconst (v := nI 3) hx hb dX5_view_24 (by decide) ?_
    refine lv_aload_n hx hb dX5_view_25 rfl (lv_at hl 0 rfl) ?_
    refine lv_iconst (v := nI 1) hx hb dX5_view_26 (by decide) ?_
    refine zp_ld hx hb hK hP ([(mo, .inr (4, [.int (nI (zdy z)), .int (nI (zgu z)), .int (zpu z), .ref rr, .ref tt])), (rr, .inl (cB, zn z, .inr (.inr (.inr (.inr (zrf (zn z) ra)))))), (tt, .inl (cB, ztn z, .inr (.inr (.inr (.inr (zrf (ztn z) ta))))))] : va_W) (zpl cA ta (zrow (ztr z) (ztd z) (ztp z) (ztf z)) (ztn z) : va_W) (ra := ra) (F := zrow (zwa z) (ziv z) (zgh z) (zpr z)) (n := (zn z)) (r := r) (k := 1) (v := nI ((ziv z) r)) rfl rfl (by omega) (by decide) rfl dX5_view_27 ?_
    refine vp_callSi (W.runS (As := [.int (nI ((ziv z) r))]) (rest := [.int (nI 3), .int (nI (((zwa z) r) + ((zwa z) r)))]) ⟨hx, hb, hml, hown, hts⟩ (c_X5_grade l dC dI cA ((ziv z) r) (by first | assumption | omega)) (va_cwS 1 hts gX5_view_X5_grade rfl rfl rfl (by decide +kernel) ⟨Nat.le_of_ble_eq_true rfl, Nat.le_of_ble_eq_true rfl⟩) ⟨fun _ _ _ _ q => q, fun U hU hW => ⟨rfl, trivial⟩⟩ rfl rfl hl.1 rfl (lv_room (Nat.le_of_ble_eq_true rfl)) dX5_view_28 ⟨Nat.le_of_ble_eq_true rfl, Nat.le_of_ble_eq_true rfl⟩) (fun r_2 hw_2 => ?_)
    subst hw_2
    refine lv_imul hx hb dX5_view_31 ?_
    refine zz_top (pk_mul _ _) ?_
    refine lv_iadd hx hb dX5_view_32 ?_
    refine zz_top (nI_add _ _) ?_
    refine lv_iload_n hx hb dX5_view_33 rfl (lv_at hl 3 rfl) ?_
    refine lv_aload_n hx hb dX5_view_34 rfl (lv_at hl 0 rfl) ?_
    refine lv_iconst (v := nI 2) hx hb dX5_view_35 (by decide) ?_
    refine zp_ld hx hb hK hP ([(mo, .inr (4, [.int (nI (zdy z)), .int (nI (zgu z)), .int (zpu z), .ref rr, .ref tt])), (rr, .inl (cB, zn z, .inr (.inr (.inr (.inr (zrf (zn z) ra)))))), (tt, .inl (cB, ztn z, .inr (.inr (.inr (.inr (zrf (ztn z) ta))))))] : va_W) (zpl cA ta (zrow (ztr z) (ztd z) (ztp z) (ztf z)) (ztn z) : va_W) (ra := ra) (F := zrow (zwa z) (ziv z) (zgh z) (zpr z)) (n := (zn z)) (r := r) (k := 2) (v := nI ((zgh z) r)) rfl rfl (by omega) (by decide) rfl dX5_view_36 ?_
    refine lv_imul hx hb dX5_view_37 ?_
    refine zz_top (pk_mul _ _) ?_
    refine lv_iadd hx hb dX5_view_38 ?_
    refine zz_top (nI_add _ _) ?_
    exact W.iret hx hb hr (fun t ht hW => ⟨_, rfl, congrArg nI (show ((((zwa z) r) + ((zwa z) r)) + (3 * (zg ((ziv z) r)))) + (b * ((zgh z) r)) = zv (zwa z r) (ziv z r) (zgh z r) b from by (first | (unfold zv; (repeat' split) <;> omega; done) | (rw [Nat.mul_comm b (zgh z r)]; unfold zv; (repeat' split) <;> omega))), ht⟩) (fun _ h => nomatch h) dX5_view_39
  · skip
    replace c_1 := (zz_eq0 (by omega)).mp c_1
    refine lv_iconst (v := nI 0) hx hb dX5_view_13 (by decide) ?_
    refine lv_goto (tgt := 39) hx hb dX5_view_14 (by decide) ?_
    exact W.iret hx hb hr (fun t ht hW => ⟨_, rfl, congrArg nI (show 0 = zv (zwa z r) (ziv z r) (zgh z r) b from by (first | (unfold zv; (repeat' split) <;> omega; done) | (rw [Nat.mul_comm b (zgh z r)]; unfold zv; (repeat' split) <;> omega))), ht⟩) (fun _ h => nomatch h) dX5_view_39
set_option maxHeartbeats 4000000 in
set_option maxRecDepth 100000 in
theorem c_with1 (l : Launch) (dC : Nat → ClassId) (dI : Nat → Nat → Nat) (cA : ClassId) (cB : ClassId) (rr : Nat) (la : Nat) (ra : Nat → Nat) (ta : Nat → Nat) (z : ZS) (lf : Nat → Nat) (sz : Nat) (hz : zok z) : Met l yX5_with wsX5_with ({ frames := 0, cells := 1, slots := 31, locals := 0 } : Room) (va_Pc [.ref rr, .ref la] (fun U => U.heap.size = sz ∧ va_P (dC, dI) vwCl ([(rr, .inl (cB, zn z, .inr (.inr (.inr (.inr (zrf (zn z) ra)))))), (la, .inl (cA, 4, .inl (fun j9 => nI (lf j9))))] ++ (zpl cA ra (zrow (zwa z) (ziv z) (zgh z) (zpr z)) (zn z) ++ (zpl cA ta (zrow (ztr z) (ztd z) (ztp z) (ztf z)) (ztn z)))) U.heap ∧ va_K (dC, dI) vwCl [(cA, .int), (cB, .array .int)] U ∧ va_D (fun _ => True) ([(rr, .inl (cB, zn z, .inr (.inr (.inr (.inr (zrf (zn z) ra)))))), (la, .inl (cA, 4, .inl (fun j9 => nI (lf j9))))] ++ (zpl cA ra (zrow (zwa z) (ziv z) (zgh z) (zpr z)) (zn z) ++ (zpl cA ta (zrow (ztr z) (ztd z) (ztp z) (ztf z)) (ztn z)))) ∧ zNest U)) (va_Qr (fun _ : Unit => True) (fun (_ : Unit) (q9 : Nat) t => va_P (dC, dI) vwCl ([(rr, .inl (cB, zn z, .inr (.inr (.inr (.inr (zrf (zn z) ra)))))), (la, .inl (cA, 4, .inl (fun j9 => nI (lf j9)))), (q9, .inl (cB, zn z + 1, .inr (.inr (.inr (.inr (zrf (zn z + 1) (zup ra (zn z) la)))))))] ++ (zpl cA ra (zrow (zwa z) (ziv z) (zgh z) (zpr z)) (zn z) ++ (zpl cA ta (zrow (ztr z) (ztd z) (ztp z) (ztf z)) (ztn z)))) t.heap ∧ va_D (va_A ([(rr, .inl (cB, zn z, .inr (.inr (.inr (.inr (zrf (zn z) ra)))))), (la, .inl (cA, 4, .inl (fun j9 => nI (lf j9))))] ++ (zpl cA ra (zrow (zwa z) (ziv z) (zgh z) (zpr z)) (zn z) ++ (zpl cA ta (zrow (ztr z) (ztd z) (ztp z) (ztf z)) (ztn z)))) sz) ([(rr, .inl (cB, zn z, .inr (.inr (.inr (.inr (zrf (zn z) ra)))))), (la, .inl (cA, 4, .inl (fun j9 => nI (lf j9)))), (q9, .inl (cB, zn z + 1, .inr (.inr (.inr (.inr (zrf (zn z + 1) (zup ra (zn z) la)))))))] ++ (zpl cA ra (zrow (zwa z) (ziv z) (zgh z) (zpr z)) (zn z) ++ (zpl cA ta (zrow (ztr z) (ztd z) (ztp z) (ztf z)) (ztn z))))) (va_A ([(rr, .inl (cB, zn z, .inr (.inr (.inr (.inr (zrf (zn z) ra)))))), (la, .inl (cA, 4, .inl (fun j9 => nI (lf j9))))] ++ (zpl cA ra (zrow (zwa z) (ziv z) (zgh z) (zpr z)) (zn z) ++ (zpl cA ta (zrow (ztr z) (ztd z) (ztp z) (ztf z)) (ztn z)))) sz)) 1 31 (va_A ([(rr, .inl (cB, zn z, .inr (.inr (.inr (.inr (zrf (zn z) ra)))))), (la, .inl (cA, 4, .inl (fun j9 => nI (lf j9))))] ++ (zpl cA ra (zrow (zwa z) (ziv z) (zgh z) (zpr z)) (zn z) ++ (zpl cA ta (zrow (ztr z) (ztd z) (ztp z) (ztf z)) (ztn z)))) sz) := by
  refine Met.ofW (cc := cX5_with) (maxL := 4) (ret := (some (.array (.array .int)))) (by decide) rfl ?_
  intro p e s m args below meth c s₁ B hml hv
  obtain ⟨hargs, hsz, hP, hK, hD0, hN⟩ := hv
  have hK2 := hK
  have hKi := hK2.sub (tys' := [(cA, .int)]) [0] rfl
  have hx := B.exec
  have hb := B.bytes
  have hr := B.returns
  have hts := atoms_spec (ws := wsX5_with) B.pre
  have hown : s.vm.findClass RX5 = some m.cls := findClass_of_methodNamed B.named
  have hlocks := B.notSynchronized
  subst hsz
  have hD := hD0.self (sz := s.heap.size)
  generalize hAe : va_A ([(rr, .inl (cB, zn z, .inr (.inr (.inr (.inr (zrf (zn z) ra)))))), (la, .inl (cA, 4, .inl (fun j9 => nI (lf j9))))] ++ (zpl cA ra (zrow (zwa z) (ziv z) (zgh z) (zpr z)) (zn z) ++ (zpl cA ta (zrow (ztr z) (ztd z) (ztp z) (ztf z)) (ztn z)))) s.heap.size = A at hD ⊢
  have hA : ∀ q : Nat, s.heap.size ≤ q → A q := fun q h => by rw [← hAe]; exact Or.inr h
  have hS : va_S A s.heap s.heap [] := va_S.rf
  have hP : va_P (dC, dI) vwCl ([(rr, .inl (cB, zn z, .inr (.inr (.inr (.inr (zrf (zn z) ra)))))), (la, .inl (cA, 4, .inl (fun j9 => nI (lf j9))))] ++ (zpl cA ra (zrow (zwa z) (ziv z) (zgh z) (zpr z)) (zn z) ++ (zpl cA ta (zrow (ztr z) (ztd z) (ztp z) (ztf z)) (ztn z)))) s.heap := hP
  have hl := lv_entry ([.ref rr, .ref la]) (n := 4) (Nat.le_of_ble_eq_true rfl)
  rw [hargs, lg_entry_eq, ← hargs]
  generalize (lg_sl ([.ref rr, .ref la]) ++ List.replicate (4 - (lg_sl ([.ref rr, .ref la])).length) Slot.unset).toArray = ls at hl ⊢
  have hl : lv_has ls 4 [(0, .ref rr), (1, .ref la)] := hl
  obtain ⟨o1, o2, o3, o4, o5, o6, o7, o8, o9, o10, o11⟩ := id hz
  refine lv_aload_n hx hb dX5_with_0 rfl (lv_at hl 0 rfl) ?_
  refine va_alen hx hb hK hP 0 1 rfl rfl (v := nI (zn z)) rfl dX5_with_1 ?_
  refine lv_iconst (v := nI 1) hx hb dX5_with_2 (by decide) ?_
  refine lv_iadd hx hb dX5_with_3 ?_
  refine zz_top (nI_add _ _) ?_
  refine zz_newA hx hb hown (hts (.classLink RX5 13 "[I") (List.mem_of_getElem? (i := 1) rfl)) hK hN.2.2.2.2 hP hD hS hA (n := ((zn z) + 1)) rfl (by omega) (by show 0 + 1 ≤ 1; omega) (by show 0 + (zn z) + 1 ≤ 31; omega) dX5_with_4 (fun q4 H hP hD hS => ?_)
  have hP := hP.swap
  have hD := hD.swap
  have hP : va_P (dC, dI) vwCl ([(rr, .inl (cB, zn z, .inr (.inr (.inr (.inr (zrf (zn z) ra)))))), (la, .inl (cA, 4, .inl (fun j9 => nI (lf j9)))), (q4, .inl (cB, (zn z) + 1, .inr (.inr (.inr (.inr (fun _ => none))))))] ++ (zpl cA ra (zrow (zwa z) (ziv z) (zgh z) (zpr z)) (zn z) ++ (zpl cA ta (zrow (ztr z) (ztd z) (ztp z) (ztf z)) (ztn z)))) H := hP
  have hD : va_D A ([(rr, .inl (cB, zn z, .inr (.inr (.inr (.inr (zrf (zn z) ra)))))), (la, .inl (cA, 4, .inl (fun j9 => nI (lf j9)))), (q4, .inl (cB, (zn z) + 1, .inr (.inr (.inr (.inr (fun _ => none))))))] ++ (zpl cA ra (zrow (zwa z) (ziv z) (zgh z) (zpr z)) (zn z) ++ (zpl cA ta (zrow (ztr z) (ztd z) (ztp z) (ztf z)) (ztn z)))) := hD
  refine lv_astore_n (lv' := [(2, .ref q4), (0, .ref rr), (1, .ref la)]) hx hb dX5_with_7 rfl hl (by decide) rfl (fun ls hl => ?_)
  refine lv_iconst (v := nI 0) hx hb dX5_with_8 (by decide) ?_
  refine lv_istore_n (lv' := [(3, .int (nI 0)), (2, .ref q4), (0, .ref rr), (1, .ref la)]) hx hb dX5_with_9 rfl hl (by decide) rfl (fun ls hl => ?_)
  have lp_10 : ∀ (f9 : Nat) (i : Nat) , (zn z - i) < f9 → (i ≤ zn z) → ∀ (H : Heap) (locs : List Loc), va_P (dC, dI) vwCl ([(rr, .inl (cB, zn z, .inr (.inr (.inr (.inr (zrf (zn z) ra)))))), (la, .inl (cA, 4, .inl (fun j9 => nI (lf j9)))), (q4, .inl (cB, zn z + 1, .inr (.inr (.inr (.inr (zrf i ra))))))] ++ (zpl cA ra (zrow (zwa z) (ziv z) (zgh z) (zpr z)) (zn z) ++ (zpl cA ta (zrow (ztr z) (ztd z) (ztp z) (ztf z)) (ztn z)))) H → va_D A ([(rr, .inl (cB, zn z, .inr (.inr (.inr (.inr (zrf (zn z) ra)))))), (la, .inl (cA, 4, .inl (fun j9 => nI (lf j9)))), (q4, .inl (cB, zn z + 1, .inr (.inr (.inr (.inr (zrf i ra))))))] ++ (zpl cA ra (zrow (zwa z) (ziv z) (zgh z) (zpr z)) (zn z) ++ (zpl cA ta (zrow (ztr z) (ztd z) (ztp z) (ztf z)) (ztn z)))) → va_S A s.heap H locs → ∀ (ls : Array Slot), lv_has ls 4 [(0, .ref rr), (1, .ref la), (2, .ref q4), (3, .int (nI i))] → W p l e ({ frames := 0, cells := 1, slots := 31, locals := 0 } : Room) s m args below meth c H locs 1 (zn z + 1) (MQ below (va_Qr (fun _ : Unit => True) (fun (_ : Unit) (q9 : Nat) t => va_P (dC, dI) vwCl ([(rr, .inl (cB, zn z, .inr (.inr (.inr (.inr (zrf (zn z) ra)))))), (la, .inl (cA, 4, .inl (fun j9 => nI (lf j9)))), (q9, .inl (cB, zn z + 1, .inr (.inr (.inr (.inr (zrf (zn z + 1) (zup ra (zn z) la)))))))] ++ (zpl cA ra (zrow (zwa z) (ziv z) (zgh z) (zpr z)) (zn z) ++ (zpl cA ta (zrow (ztr z) (ztd z) (ztp z) (ztf z)) (ztn z)))) t.heap ∧ va_D A ([(rr, .inl (cB, zn z, .inr (.inr (.inr (.inr (zrf (zn z) ra)))))), (la, .inl (cA, 4, .inl (fun j9 => nI (lf j9)))), (q9, .inl (cB, zn z + 1, .inr (.inr (.inr (.inr (zrf (zn z + 1) (zup ra (zn z) la)))))))] ++ (zpl cA ra (zrow (zwa z) (ziv z) (zgh z) (zpr z)) (zn z) ++ (zpl cA ta (zrow (ztr z) (ztd z) (ztp z) (ztf z)) (ztn z))))) A) args s 1 31 A) (F0 m 10 ls []) := by
    intro f9
    induction f9 with
    | zero => intro i hm9; exact absurd hm9 (Nat.not_lt_zero _)
    | succ f9 ih_10 =>
      intro i hm9 hi H locs hP hD hS ls hl
      refine lv_iload_n hx hb dX5_with_10 rfl (lv_at hl 3 rfl) ?_
      refine lv_aload_n hx hb dX5_with_11 rfl (lv_at hl 0 rfl) ?_
      refine va_alen hx hb hK hP 0 1 rfl rfl (v := nI (zn z)) rfl dX5_with_12 ?_
      refine lv_icmp_ge (tgt := 28) hx hb dX5_with_13 (by decide) (fun c_1 => ?_) (fun c_1 => ?_)
      · skip
        replace c_1 := (nI_leI (by omega) (by omega)).mp c_1
        refine lv_aload_n hx hb dX5_with_28 rfl (lv_at hl 2 rfl) ?_
        refine lv_aload_n hx hb dX5_with_29 rfl (lv_at hl 0 rfl) ?_
        refine va_alen hx hb hK hP 0 1 rfl rfl (v := nI (zn z)) rfl dX5_with_30 ?_
        refine lv_aload_n hx hb dX5_with_31 rfl (lv_at hl 1 rfl) ?_
        refine zz_aast hx hb hK hN.2.2.2.2 hP hD hS 2 1 (f := zrf i ra) (f' := zrf (zn z + 1) (zup ra (zn z) la)) rfl rfl rfl rfl (j := (zn z)) (by omega) (by omega) ((by rw [show i = zn z from by omega]; exact zrf_push)) dX5_with_32 (fun H locs hP hD hS => ?_)
        have hP : va_P (dC, dI) vwCl ([(rr, .inl (cB, zn z, .inr (.inr (.inr (.inr (zrf (zn z) ra)))))), (la, .inl (cA, 4, .inl (fun j9 => nI (lf j9)))), (q4, .inl (cB, zn z + 1, .inr (.inr (.inr (.inr (zrf (zn z + 1) (zup ra (zn z) la)))))))] ++ (zpl cA ra (zrow (zwa z) (ziv z) (zgh z) (zpr z)) (zn z) ++ (zpl cA ta (zrow (ztr z) (ztd z) (ztp z) (ztf z)) (ztn z)))) H := hP
        have hD : va_D A ([(rr, .inl (cB, zn z, .inr (.inr (.inr (.inr (zrf (zn z) ra)))))), (la, .inl (cA, 4, .inl (fun j9 => nI (lf j9)))), (q4, .inl (cB, zn z + 1, .inr (.inr (.inr (.inr (zrf (zn z + 1) (zup ra (zn z) la)))))))] ++ (zpl cA ra (zrow (zwa z) (ziv z) (zgh z) (zpr z)) (zn z) ++ (zpl cA ta (zrow (ztr z) (ztd z) (ztp z) (ztf z)) (ztn z)))) := hD
        refine lv_aload_n hx hb dX5_with_33 rfl (lv_at hl 2 rfl) ?_
        refine W.widen (k := 1) (n := 31) (by omega) (by omega) ?_
        exact W.aret hx hb hr (Or.inr ⟨_, rfl⟩) (Or.inr ⟨_, rfl⟩) (fun t ht hW => ⟨⟨(), _, rfl, trivial, by rw [ht]; exact hP, hD⟩, hS.F ht⟩) hS.2.2 dX5_with_34
      · skip
        replace c_1 := mt (nI_leI (by omega) (by omega)).mpr c_1
        refine lv_aload_n hx hb dX5_with_16 rfl (lv_at hl 2 rfl) ?_
        refine lv_iload_n hx hb dX5_with_17 rfl (lv_at hl 3 rfl) ?_
        refine lv_aload_n hx hb dX5_with_18 rfl (lv_at hl 0 rfl) ?_
        refine lv_iload_n hx hb dX5_with_19 rfl (lv_at hl 3 rfl) ?_
        refine zz_aald hx hb hK hP 0 (f := zrf (zn z) ra) rfl rfl (j := i) (v := ra i) (by omega) (by omega) (zrf_g (by omega)) dX5_with_20 ?_
        refine zz_aast hx hb hK hN.2.2.2.2 hP hD hS 2 (([(rr, .inl (cB, zn z, .inr (.inr (.inr (.inr (zrf (zn z) ra)))))), (la, .inl (cA, 4, .inl (fun j9 => nI (lf j9)))), (q4, .inl (cB, zn z + 1, .inr (.inr (.inr (.inr (zrf i ra))))))] : va_W).length + i) (f := zrf i ra) (f' := zrf (i + 1) ra) rfl rfl rfl (show _ = some (ra i, .inl (cA, _)) from (congrArg (fun w9 : va_W => w9[([(rr, .inl (cB, zn z, .inr (.inr (.inr (.inr (zrf (zn z) ra)))))), (la, .inl (cA, 4, .inl (fun j9 => nI (lf j9)))), (q4, .inl (cB, zn z + 1, .inr (.inr (.inr (.inr (zrf i ra))))))] : va_W).length + i]?) (show (([(rr, .inl (cB, zn z, .inr (.inr (.inr (.inr (zrf (zn z) ra)))))), (la, .inl (cA, 4, .inl (fun j9 => nI (lf j9)))), (q4, .inl (cB, zn z + 1, .inr (.inr (.inr (.inr (zrf i ra))))))] ++ (zpl cA ra (zrow (zwa z) (ziv z) (zgh z) (zpr z)) (zn z) ++ (zpl cA ta (zrow (ztr z) (ztd z) (ztp z) (ztf z)) (ztn z)))) : va_W) = ([(rr, .inl (cB, zn z, .inr (.inr (.inr (.inr (zrf (zn z) ra)))))), (la, .inl (cA, 4, .inl (fun j9 => nI (lf j9)))), (q4, .inl (cB, zn z + 1, .inr (.inr (.inr (.inr (zrf i ra))))))] : va_W) ++ (zpl cA ra (zrow (zwa z) (ziv z) (zgh z) (zpr z)) (zn z) ++ (zpl cA ta (zrow (ztr z) (ztd z) (ztp z) (ztf z)) (ztn z) : va_W)) from rfl)).trans (zpl_at ([(rr, .inl (cB, zn z, .inr (.inr (.inr (.inr (zrf (zn z) ra)))))), (la, .inl (cA, 4, .inl (fun j9 => nI (lf j9)))), (q4, .inl (cB, zn z + 1, .inr (.inr (.inr (.inr (zrf i ra))))))] : va_W) (zpl cA ta (zrow (ztr z) (ztd z) (ztp z) (ztf z)) (ztn z) : va_W) (by omega))) (j := i) (by omega) (by omega) (zrf_s rfl) dX5_with_21 (fun H locs hP hD hS => ?_)
        have hP : va_P (dC, dI) vwCl ([(rr, .inl (cB, zn z, .inr (.inr (.inr (.inr (zrf (zn z) ra)))))), (la, .inl (cA, 4, .inl (fun j9 => nI (lf j9)))), (q4, .inl (cB, zn z + 1, .inr (.inr (.inr (.inr (zrf (i + 1) ra))))))] ++ (zpl cA ra (zrow (zwa z) (ziv z) (zgh z) (zpr z)) (zn z) ++ (zpl cA ta (zrow (ztr z) (ztd z) (ztp z) (ztf z)) (ztn z)))) H := hP
        have hD : va_D A ([(rr, .inl (cB, zn z, .inr (.inr (.inr (.inr (zrf (zn z) ra)))))), (la, .inl (cA, 4, .inl (fun j9 => nI (lf j9)))), (q4, .inl (cB, zn z + 1, .inr (.inr (.inr (.inr (zrf (i + 1) ra))))))] ++ (zpl cA ra (zrow (zwa z) (ziv z) (zgh z) (zpr z)) (zn z) ++ (zpl cA ta (zrow (ztr z) (ztd z) (ztp z) (ztf z)) (ztn z)))) := hD
        refine lv_iinc (v := nI (i + 1)) (lv' := [(3, .int (nI (i + 1))), (0, .ref rr), (1, .ref la), (2, .ref q4)]) hx hb dX5_with_22 hl (k := 3) rfl (nI_1 _) (by decide) rfl (fun ls hl => ?_)
        refine lv_goto (tgt := 10) hx hb dX5_with_25 (by decide) ?_
        have hl := lv_sub (l' := [(0, .ref rr), (1, .ref la), (2, .ref q4), (3, .int (nI (i + 1)))]) hl [1, 2, 3, 0] rfl
        refine W.widen (k := 1) (n := zn z + 1) (by omega) (by omega) ?_
        exact ih_10 (i + 1) (by omega) (by first | assumption | omega) _ _ hP hD hS _ hl
  have hl := lv_sub (l' := [(0, .ref rr), (1, .ref la), (2, .ref q4), (3, .int (nI 0))]) hl [2, 3, 1, 0] rfl
  have hw2 : ∀ (x0 : Nat) (x1 : Nat → Option Nat), x0 = (zn z) + 1 → x1 = (fun _ => none) → va_P (dC, dI) vwCl ([(rr, .inl (cB, zn z, .inr (.inr (.inr (.inr (zrf (zn z) ra)))))), (la, .inl (cA, 4, .inl (fun j9 => nI (lf j9)))), (q4, .inl (cB, x0, .inr (.inr (.inr (.inr x1)))))] ++ (zpl cA ra (zrow (zwa z) (ziv z) (zgh z) (zpr z)) (zn z) ++ (zpl cA ta (zrow (ztr z) (ztd z) (ztp z) (ztf z)) (ztn z)))) H ∧ va_D A ([(rr, .inl (cB, zn z, .inr (.inr (.inr (.inr (zrf (zn z) ra)))))), (la, .inl (cA, 4, .inl (fun j9 => nI (lf j9)))), (q4, .inl (cB, x0, .inr (.inr (.inr (.inr x1)))))] ++ (zpl cA ra (zrow (zwa z) (ziv z) (zgh z) (zpr z)) (zn z) ++ (zpl cA ta (zrow (ztr z) (ztd z) (ztp z) (ztf z)) (ztn z)))) := by
    intro x0 x1 h0 h1; subst h0; subst h1; exact ⟨hP, hD⟩
  obtain ⟨hP, hD⟩ := hw2 (zn z + 1) (zrf 0 ra) (show zn z + 1 = (zn z) + 1 from by first | rfl | exact (zrf_0 _).symm) (show (zrf 0 ra) = fun _ => none from by first | rfl | exact (zrf_0 _).symm)
  refine W.widen (k := 1) (n := zn z + 1) (by omega) (by omega) ?_
  exact lp_10 _ 0 (Nat.lt_succ_self _) (by first | assumption | omega) _ _ hP hD hS _ hl
set_option maxHeartbeats 4000000 in
set_option maxRecDepth 100000 in
theorem c_with2 (l : Launch) (dC : Nat → ClassId) (dI : Nat → Nat → Nat) (cA : ClassId) (cB : ClassId) (tt : Nat) (la : Nat) (ra : Nat → Nat) (ta : Nat → Nat) (z : ZS) (lf : Nat → Nat) (sz : Nat) (hz : zok z) : Met l yX5_with wsX5_with ({ frames := 0, cells := 1, slots := 31, locals := 0 } : Room) (va_Pc [.ref tt, .ref la] (fun U => U.heap.size = sz ∧ va_P (dC, dI) vwCl ([(tt, .inl (cB, ztn z, .inr (.inr (.inr (.inr (zrf (ztn z) ta)))))), (la, .inl (cA, 4, .inl (fun j9 => nI (lf j9))))] ++ (zpl cA ra (zrow (zwa z) (ziv z) (zgh z) (zpr z)) (zn z) ++ (zpl cA ta (zrow (ztr z) (ztd z) (ztp z) (ztf z)) (ztn z)))) U.heap ∧ va_K (dC, dI) vwCl [(cA, .int), (cB, .array .int)] U ∧ va_D (fun _ => True) ([(tt, .inl (cB, ztn z, .inr (.inr (.inr (.inr (zrf (ztn z) ta)))))), (la, .inl (cA, 4, .inl (fun j9 => nI (lf j9))))] ++ (zpl cA ra (zrow (zwa z) (ziv z) (zgh z) (zpr z)) (zn z) ++ (zpl cA ta (zrow (ztr z) (ztd z) (ztp z) (ztf z)) (ztn z)))) ∧ zNest U)) (va_Qr (fun _ : Unit => True) (fun (_ : Unit) (q9 : Nat) t => va_P (dC, dI) vwCl ([(tt, .inl (cB, ztn z, .inr (.inr (.inr (.inr (zrf (ztn z) ta)))))), (la, .inl (cA, 4, .inl (fun j9 => nI (lf j9)))), (q9, .inl (cB, ztn z + 1, .inr (.inr (.inr (.inr (zrf (ztn z + 1) (zup ta (ztn z) la)))))))] ++ (zpl cA ra (zrow (zwa z) (ziv z) (zgh z) (zpr z)) (zn z) ++ (zpl cA ta (zrow (ztr z) (ztd z) (ztp z) (ztf z)) (ztn z)))) t.heap ∧ va_D (va_A ([(tt, .inl (cB, ztn z, .inr (.inr (.inr (.inr (zrf (ztn z) ta)))))), (la, .inl (cA, 4, .inl (fun j9 => nI (lf j9))))] ++ (zpl cA ra (zrow (zwa z) (ziv z) (zgh z) (zpr z)) (zn z) ++ (zpl cA ta (zrow (ztr z) (ztd z) (ztp z) (ztf z)) (ztn z)))) sz) ([(tt, .inl (cB, ztn z, .inr (.inr (.inr (.inr (zrf (ztn z) ta)))))), (la, .inl (cA, 4, .inl (fun j9 => nI (lf j9)))), (q9, .inl (cB, ztn z + 1, .inr (.inr (.inr (.inr (zrf (ztn z + 1) (zup ta (ztn z) la)))))))] ++ (zpl cA ra (zrow (zwa z) (ziv z) (zgh z) (zpr z)) (zn z) ++ (zpl cA ta (zrow (ztr z) (ztd z) (ztp z) (ztf z)) (ztn z))))) (va_A ([(tt, .inl (cB, ztn z, .inr (.inr (.inr (.inr (zrf (ztn z) ta)))))), (la, .inl (cA, 4, .inl (fun j9 => nI (lf j9))))] ++ (zpl cA ra (zrow (zwa z) (ziv z) (zgh z) (zpr z)) (zn z) ++ (zpl cA ta (zrow (ztr z) (ztd z) (ztp z) (ztf z)) (ztn z)))) sz)) 1 31 (va_A ([(tt, .inl (cB, ztn z, .inr (.inr (.inr (.inr (zrf (ztn z) ta)))))), (la, .inl (cA, 4, .inl (fun j9 => nI (lf j9))))] ++ (zpl cA ra (zrow (zwa z) (ziv z) (zgh z) (zpr z)) (zn z) ++ (zpl cA ta (zrow (ztr z) (ztd z) (ztp z) (ztf z)) (ztn z)))) sz) := by
  refine Met.ofW (cc := cX5_with) (maxL := 4) (ret := (some (.array (.array .int)))) (by decide) rfl ?_
  intro p e s m args below meth c s₁ B hml hv
  obtain ⟨hargs, hsz, hP, hK, hD0, hN⟩ := hv
  have hK2 := hK
  have hKi := hK2.sub (tys' := [(cA, .int)]) [0] rfl
  have hx := B.exec
  have hb := B.bytes
  have hr := B.returns
  have hts := atoms_spec (ws := wsX5_with) B.pre
  have hown : s.vm.findClass RX5 = some m.cls := findClass_of_methodNamed B.named
  have hlocks := B.notSynchronized
  subst hsz
  have hD := hD0.self (sz := s.heap.size)
  generalize hAe : va_A ([(tt, .inl (cB, ztn z, .inr (.inr (.inr (.inr (zrf (ztn z) ta)))))), (la, .inl (cA, 4, .inl (fun j9 => nI (lf j9))))] ++ (zpl cA ra (zrow (zwa z) (ziv z) (zgh z) (zpr z)) (zn z) ++ (zpl cA ta (zrow (ztr z) (ztd z) (ztp z) (ztf z)) (ztn z)))) s.heap.size = A at hD ⊢
  have hA : ∀ q : Nat, s.heap.size ≤ q → A q := fun q h => by rw [← hAe]; exact Or.inr h
  have hS : va_S A s.heap s.heap [] := va_S.rf
  have hP : va_P (dC, dI) vwCl ([(tt, .inl (cB, ztn z, .inr (.inr (.inr (.inr (zrf (ztn z) ta)))))), (la, .inl (cA, 4, .inl (fun j9 => nI (lf j9))))] ++ (zpl cA ra (zrow (zwa z) (ziv z) (zgh z) (zpr z)) (zn z) ++ (zpl cA ta (zrow (ztr z) (ztd z) (ztp z) (ztf z)) (ztn z)))) s.heap := hP
  have hl := lv_entry ([.ref tt, .ref la]) (n := 4) (Nat.le_of_ble_eq_true rfl)
  rw [hargs, lg_entry_eq, ← hargs]
  generalize (lg_sl ([.ref tt, .ref la]) ++ List.replicate (4 - (lg_sl ([.ref tt, .ref la])).length) Slot.unset).toArray = ls at hl ⊢
  have hl : lv_has ls 4 [(0, .ref tt), (1, .ref la)] := hl
  obtain ⟨o1, o2, o3, o4, o5, o6, o7, o8, o9, o10, o11⟩ := id hz
  refine lv_aload_n hx hb dX5_with_0 rfl (lv_at hl 0 rfl) ?_
  refine va_alen hx hb hK hP 0 1 rfl rfl (v := nI (ztn z)) rfl dX5_with_1 ?_
  refine lv_iconst (v := nI 1) hx hb dX5_with_2 (by decide) ?_
  refine lv_iadd hx hb dX5_with_3 ?_
  refine zz_top (nI_add _ _) ?_
  refine zz_newA hx hb hown (hts (.classLink RX5 13 "[I") (List.mem_of_getElem? (i := 1) rfl)) hK hN.2.2.2.2 hP hD hS hA (n := ((ztn z) + 1)) rfl (by omega) (by show 0 + 1 ≤ 1; omega) (by show 0 + (ztn z) + 1 ≤ 31; omega) dX5_with_4 (fun q4 H hP hD hS => ?_)
  have hP := hP.swap
  have hD := hD.swap
  have hP : va_P (dC, dI) vwCl ([(tt, .inl (cB, ztn z, .inr (.inr (.inr (.inr (zrf (ztn z) ta)))))), (la, .inl (cA, 4, .inl (fun j9 => nI (lf j9)))), (q4, .inl (cB, (ztn z) + 1, .inr (.inr (.inr (.inr (fun _ => none))))))] ++ (zpl cA ra (zrow (zwa z) (ziv z) (zgh z) (zpr z)) (zn z) ++ (zpl cA ta (zrow (ztr z) (ztd z) (ztp z) (ztf z)) (ztn z)))) H := hP
  have hD : va_D A ([(tt, .inl (cB, ztn z, .inr (.inr (.inr (.inr (zrf (ztn z) ta)))))), (la, .inl (cA, 4, .inl (fun j9 => nI (lf j9)))), (q4, .inl (cB, (ztn z) + 1, .inr (.inr (.inr (.inr (fun _ => none))))))] ++ (zpl cA ra (zrow (zwa z) (ziv z) (zgh z) (zpr z)) (zn z) ++ (zpl cA ta (zrow (ztr z) (ztd z) (ztp z) (ztf z)) (ztn z)))) := hD
  refine lv_astore_n (lv' := [(2, .ref q4), (0, .ref tt), (1, .ref la)]) hx hb dX5_with_7 rfl hl (by decide) rfl (fun ls hl => ?_)
  refine lv_iconst (v := nI 0) hx hb dX5_with_8 (by decide) ?_
  refine lv_istore_n (lv' := [(3, .int (nI 0)), (2, .ref q4), (0, .ref tt), (1, .ref la)]) hx hb dX5_with_9 rfl hl (by decide) rfl (fun ls hl => ?_)
  have lp_10 : ∀ (f9 : Nat) (i : Nat) , (ztn z - i) < f9 → (i ≤ ztn z) → ∀ (H : Heap) (locs : List Loc), va_P (dC, dI) vwCl ([(tt, .inl (cB, ztn z, .inr (.inr (.inr (.inr (zrf (ztn z) ta)))))), (la, .inl (cA, 4, .inl (fun j9 => nI (lf j9)))), (q4, .inl (cB, ztn z + 1, .inr (.inr (.inr (.inr (zrf i ta))))))] ++ (zpl cA ra (zrow (zwa z) (ziv z) (zgh z) (zpr z)) (zn z) ++ (zpl cA ta (zrow (ztr z) (ztd z) (ztp z) (ztf z)) (ztn z)))) H → va_D A ([(tt, .inl (cB, ztn z, .inr (.inr (.inr (.inr (zrf (ztn z) ta)))))), (la, .inl (cA, 4, .inl (fun j9 => nI (lf j9)))), (q4, .inl (cB, ztn z + 1, .inr (.inr (.inr (.inr (zrf i ta))))))] ++ (zpl cA ra (zrow (zwa z) (ziv z) (zgh z) (zpr z)) (zn z) ++ (zpl cA ta (zrow (ztr z) (ztd z) (ztp z) (ztf z)) (ztn z)))) → va_S A s.heap H locs → ∀ (ls : Array Slot), lv_has ls 4 [(0, .ref tt), (1, .ref la), (2, .ref q4), (3, .int (nI i))] → W p l e ({ frames := 0, cells := 1, slots := 31, locals := 0 } : Room) s m args below meth c H locs 1 (ztn z + 1) (MQ below (va_Qr (fun _ : Unit => True) (fun (_ : Unit) (q9 : Nat) t => va_P (dC, dI) vwCl ([(tt, .inl (cB, ztn z, .inr (.inr (.inr (.inr (zrf (ztn z) ta)))))), (la, .inl (cA, 4, .inl (fun j9 => nI (lf j9)))), (q9, .inl (cB, ztn z + 1, .inr (.inr (.inr (.inr (zrf (ztn z + 1) (zup ta (ztn z) la)))))))] ++ (zpl cA ra (zrow (zwa z) (ziv z) (zgh z) (zpr z)) (zn z) ++ (zpl cA ta (zrow (ztr z) (ztd z) (ztp z) (ztf z)) (ztn z)))) t.heap ∧ va_D A ([(tt, .inl (cB, ztn z, .inr (.inr (.inr (.inr (zrf (ztn z) ta)))))), (la, .inl (cA, 4, .inl (fun j9 => nI (lf j9)))), (q9, .inl (cB, ztn z + 1, .inr (.inr (.inr (.inr (zrf (ztn z + 1) (zup ta (ztn z) la)))))))] ++ (zpl cA ra (zrow (zwa z) (ziv z) (zgh z) (zpr z)) (zn z) ++ (zpl cA ta (zrow (ztr z) (ztd z) (ztp z) (ztf z)) (ztn z))))) A) args s 1 31 A) (F0 m 10 ls []) := by
    intro f9
    induction f9 with
    | zero => intro i hm9; exact absurd hm9 (Nat.not_lt_zero _)
    | succ f9 ih_10 =>
      intro i hm9 hi H locs hP hD hS ls hl
      refine lv_iload_n hx hb dX5_with_10 rfl (lv_at hl 3 rfl) ?_
      refine lv_aload_n hx hb dX5_with_11 rfl (lv_at hl 0 rfl) ?_
      refine va_alen hx hb hK hP 0 1 rfl rfl (v := nI (ztn z)) rfl dX5_with_12 ?_
      refine lv_icmp_ge (tgt := 28) hx hb dX5_with_13 (by decide) (fun c_1 => ?_) (fun c_1 => ?_)
      · skip
        replace c_1 := (nI_leI (by omega) (by omega)).mp c_1
        refine lv_aload_n hx hb dX5_with_28 rfl (lv_at hl 2 rfl) ?_
        refine lv_aload_n hx hb dX5_with_29 rfl (lv_at hl 0 rfl) ?_
        refine va_alen hx hb hK hP 0 1 rfl rfl (v := nI (ztn z)) rfl dX5_with_30 ?_
        refine lv_aload_n hx hb dX5_with_31 rfl (lv_at hl 1 rfl) ?_
        refine zz_aast hx hb hK hN.2.2.2.2 hP hD hS 2 1 (f := zrf i ta) (f' := zrf (ztn z + 1) (zup ta (ztn z) la)) rfl rfl rfl rfl (j := (ztn z)) (by omega) (by omega) ((by rw [show i = ztn z from by omega]; exact zrf_push)) dX5_with_32 (fun H locs hP hD hS => ?_)
        have hP : va_P (dC, dI) vwCl ([(tt, .inl (cB, ztn z, .inr (.inr (.inr (.inr (zrf (ztn z) ta)))))), (la, .inl (cA, 4, .inl (fun j9 => nI (lf j9)))), (q4, .inl (cB, ztn z + 1, .inr (.inr (.inr (.inr (zrf (ztn z + 1) (zup ta (ztn z) la)))))))] ++ (zpl cA ra (zrow (zwa z) (ziv z) (zgh z) (zpr z)) (zn z) ++ (zpl cA ta (zrow (ztr z) (ztd z) (ztp z) (ztf z)) (ztn z)))) H := hP
        have hD : va_D A ([(tt, .inl (cB, ztn z, .inr (.inr (.inr (.inr (zrf (ztn z) ta)))))), (la, .inl (cA, 4, .inl (fun j9 => nI (lf j9)))), (q4, .inl (cB, ztn z + 1, .inr (.inr (.inr (.inr (zrf (ztn z + 1) (zup ta (ztn z) la)))))))] ++ (zpl cA ra (zrow (zwa z) (ziv z) (zgh z) (zpr z)) (zn z) ++ (zpl cA ta (zrow (ztr z) (ztd z) (ztp z) (ztf z)) (ztn z)))) := hD
        refine lv_aload_n hx hb dX5_with_33 rfl (lv_at hl 2 rfl) ?_
        refine W.widen (k := 1) (n := 31) (by omega) (by omega) ?_
        exact W.aret hx hb hr (Or.inr ⟨_, rfl⟩) (Or.inr ⟨_, rfl⟩) (fun t ht hW => ⟨⟨(), _, rfl, trivial, by rw [ht]; exact hP, hD⟩, hS.F ht⟩) hS.2.2 dX5_with_34
      · skip
        replace c_1 := mt (nI_leI (by omega) (by omega)).mpr c_1
        refine lv_aload_n hx hb dX5_with_16 rfl (lv_at hl 2 rfl) ?_
        refine lv_iload_n hx hb dX5_with_17 rfl (lv_at hl 3 rfl) ?_
        refine lv_aload_n hx hb dX5_with_18 rfl (lv_at hl 0 rfl) ?_
        refine lv_iload_n hx hb dX5_with_19 rfl (lv_at hl 3 rfl) ?_
        refine zz_aald hx hb hK hP 0 (f := zrf (ztn z) ta) rfl rfl (j := i) (v := ta i) (by omega) (by omega) (zrf_g (by omega)) dX5_with_20 ?_
        refine zz_aast hx hb hK hN.2.2.2.2 hP hD hS 2 ((([(tt, .inl (cB, ztn z, .inr (.inr (.inr (.inr (zrf (ztn z) ta)))))), (la, .inl (cA, 4, .inl (fun j9 => nI (lf j9)))), (q4, .inl (cB, ztn z + 1, .inr (.inr (.inr (.inr (zrf i ta))))))] ++ (zpl cA ra (zrow (zwa z) (ziv z) (zgh z) (zpr z)) (zn z))) : va_W).length + i) (f := zrf i ta) (f' := zrf (i + 1) ta) rfl rfl rfl (show _ = some (ta i, .inl (cA, _)) from (congrArg (fun w9 : va_W => w9[(([(tt, .inl (cB, ztn z, .inr (.inr (.inr (.inr (zrf (ztn z) ta)))))), (la, .inl (cA, 4, .inl (fun j9 => nI (lf j9)))), (q4, .inl (cB, ztn z + 1, .inr (.inr (.inr (.inr (zrf i ta))))))] ++ (zpl cA ra (zrow (zwa z) (ziv z) (zgh z) (zpr z)) (zn z))) : va_W).length + i]?) (show (([(tt, .inl (cB, ztn z, .inr (.inr (.inr (.inr (zrf (ztn z) ta)))))), (la, .inl (cA, 4, .inl (fun j9 => nI (lf j9)))), (q4, .inl (cB, ztn z + 1, .inr (.inr (.inr (.inr (zrf i ta))))))] ++ (zpl cA ra (zrow (zwa z) (ziv z) (zgh z) (zpr z)) (zn z) ++ (zpl cA ta (zrow (ztr z) (ztd z) (ztp z) (ztf z)) (ztn z)))) : va_W) = (([(tt, .inl (cB, ztn z, .inr (.inr (.inr (.inr (zrf (ztn z) ta)))))), (la, .inl (cA, 4, .inl (fun j9 => nI (lf j9)))), (q4, .inl (cB, ztn z + 1, .inr (.inr (.inr (.inr (zrf i ta))))))] ++ (zpl cA ra (zrow (zwa z) (ziv z) (zgh z) (zpr z)) (zn z))) : va_W) ++ (zpl cA ta (zrow (ztr z) (ztd z) (ztp z) (ztf z)) (ztn z) ++ ([] : va_W)) from (by simp only [List.append_assoc, List.append_nil]))).trans (zpl_at (([(tt, .inl (cB, ztn z, .inr (.inr (.inr (.inr (zrf (ztn z) ta)))))), (la, .inl (cA, 4, .inl (fun j9 => nI (lf j9)))), (q4, .inl (cB, ztn z + 1, .inr (.inr (.inr (.inr (zrf i ta))))))] ++ (zpl cA ra (zrow (zwa z) (ziv z) (zgh z) (zpr z)) (zn z))) : va_W) ([] : va_W) (by omega))) (j := i) (by omega) (by omega) (zrf_s rfl) dX5_with_21 (fun H locs hP hD hS => ?_)
        have hP : va_P (dC, dI) vwCl ([(tt, .inl (cB, ztn z, .inr (.inr (.inr (.inr (zrf (ztn z) ta)))))), (la, .inl (cA, 4, .inl (fun j9 => nI (lf j9)))), (q4, .inl (cB, ztn z + 1, .inr (.inr (.inr (.inr (zrf (i + 1) ta))))))] ++ (zpl cA ra (zrow (zwa z) (ziv z) (zgh z) (zpr z)) (zn z) ++ (zpl cA ta (zrow (ztr z) (ztd z) (ztp z) (ztf z)) (ztn z)))) H := hP
        have hD : va_D A ([(tt, .inl (cB, ztn z, .inr (.inr (.inr (.inr (zrf (ztn z) ta)))))), (la, .inl (cA, 4, .inl (fun j9 => nI (lf j9)))), (q4, .inl (cB, ztn z + 1, .inr (.inr (.inr (.inr (zrf (i + 1) ta))))))] ++ (zpl cA ra (zrow (zwa z) (ziv z) (zgh z) (zpr z)) (zn z) ++ (zpl cA ta (zrow (ztr z) (ztd z) (ztp z) (ztf z)) (ztn z)))) := hD
        refine lv_iinc (v := nI (i + 1)) (lv' := [(3, .int (nI (i + 1))), (0, .ref tt), (1, .ref la), (2, .ref q4)]) hx hb dX5_with_22 hl (k := 3) rfl (nI_1 _) (by decide) rfl (fun ls hl => ?_)
        refine lv_goto (tgt := 10) hx hb dX5_with_25 (by decide) ?_
        have hl := lv_sub (l' := [(0, .ref tt), (1, .ref la), (2, .ref q4), (3, .int (nI (i + 1)))]) hl [1, 2, 3, 0] rfl
        refine W.widen (k := 1) (n := ztn z + 1) (by omega) (by omega) ?_
        exact ih_10 (i + 1) (by omega) (by first | assumption | omega) _ _ hP hD hS _ hl
  have hl := lv_sub (l' := [(0, .ref tt), (1, .ref la), (2, .ref q4), (3, .int (nI 0))]) hl [2, 3, 1, 0] rfl
  have hw2 : ∀ (x0 : Nat) (x1 : Nat → Option Nat), x0 = (ztn z) + 1 → x1 = (fun _ => none) → va_P (dC, dI) vwCl ([(tt, .inl (cB, ztn z, .inr (.inr (.inr (.inr (zrf (ztn z) ta)))))), (la, .inl (cA, 4, .inl (fun j9 => nI (lf j9)))), (q4, .inl (cB, x0, .inr (.inr (.inr (.inr x1)))))] ++ (zpl cA ra (zrow (zwa z) (ziv z) (zgh z) (zpr z)) (zn z) ++ (zpl cA ta (zrow (ztr z) (ztd z) (ztp z) (ztf z)) (ztn z)))) H ∧ va_D A ([(tt, .inl (cB, ztn z, .inr (.inr (.inr (.inr (zrf (ztn z) ta)))))), (la, .inl (cA, 4, .inl (fun j9 => nI (lf j9)))), (q4, .inl (cB, x0, .inr (.inr (.inr (.inr x1)))))] ++ (zpl cA ra (zrow (zwa z) (ziv z) (zgh z) (zpr z)) (zn z) ++ (zpl cA ta (zrow (ztr z) (ztd z) (ztp z) (ztf z)) (ztn z)))) := by
    intro x0 x1 h0 h1; subst h0; subst h1; exact ⟨hP, hD⟩
  obtain ⟨hP, hD⟩ := hw2 (ztn z + 1) (zrf 0 ta) (show ztn z + 1 = (ztn z) + 1 from by first | rfl | exact (zrf_0 _).symm) (show (zrf 0 ta) = fun _ => none from by first | rfl | exact (zrf_0 _).symm)
  refine W.widen (k := 1) (n := ztn z + 1) (by omega) (by omega) ?_
  exact lp_10 _ 0 (Nat.lt_succ_self _) (by first | assumption | omega) _ _ hP hD hS _ hl
theorem i_X5_init_X5 : ∀ w ∈ u_ws RX5 TX5 5, w ∈ wsX5_init := by decide +kernel
set_option maxHeartbeats 4000000 in
set_option maxRecDepth 100000 in
theorem c_X5_init (l : Launch) (dC : Nat → ClassId) (dI : Nat → Nat → Nat) (cA : ClassId) (cB : ClassId) (mo : Nat) (sz : Nat) : Met l yX5_init wsX5_init ({ frames := 1, cells := 2, slots := 0, locals := 22 } : Room) (va_Pc [.ref mo] (fun U => U.heap.size = sz ∧ va_P (dC, dI) vwCl [(mo, .inr (4, [.int (nI 0), .int (nI 0), .int (nI 0), .null, .null]))] U.heap ∧ va_K (dC, dI) vwCl [(cA, .int), (cB, .array .int)] U ∧ va_D (fun _ => True) [(mo, .inr (4, [.int (nI 0), .int (nI 0), .int (nI 0), .null, .null]))] ∧ zNest U)) (va_Qv (fun _ : Unit => True) (fun (_ : Unit) t => ∃ (rr : Nat) (tt : Nat) , va_P (dC, dI) vwCl [(mo, .inr (4, [.int (nI 0), .int (nI 12), .int (nI 0), .ref rr, .ref tt])), (rr, .inl (cB, 0, .inr (.inr (.inr (.inr (fun _ => none)))))), (tt, .inl (cB, 0, .inr (.inr (.inr (.inr (fun _ => none))))))] t.heap ∧ va_D (va_A [(mo, .inr (4, [.int (nI 0), .int (nI 0), .int (nI 0), .null, .null]))] sz) [(mo, .inr (4, [.int (nI 0), .int (nI 12), .int (nI 0), .ref rr, .ref tt])), (rr, .inl (cB, 0, .inr (.inr (.inr (.inr (fun _ => none)))))), (tt, .inl (cB, 0, .inr (.inr (.inr (.inr (fun _ => none))))))]) (va_A [(mo, .inr (4, [.int (nI 0), .int (nI 0), .int (nI 0), .null, .null]))] sz)) 2 0 (va_A [(mo, .inr (4, [.int (nI 0), .int (nI 0), .int (nI 0), .null, .null]))] sz) := by
  refine Met.ofW (cc := cX5_init) (maxL := 1) (ret := none) (by decide) rfl ?_
  intro p e s m args below meth c s₁ B hml hv
  obtain ⟨hargs, hsz, hP, hK, hD0, hN⟩ := hv
  have hK2 := hK
  have hKi := hK2.sub (tys' := [(cA, .int)]) [0] rfl
  have hx := B.exec
  have hb := B.bytes
  have hr := B.returns
  have hts := atoms_spec (ws := wsX5_init) B.pre
  have hown : s.vm.findClass RX5 = some m.cls := findClass_of_methodNamed B.named
  have hlocks := B.notSynchronized
  have hin : meth.name = "<init>" := (name_of_methodNamed B.named B.method).1
  subst hsz
  have hD := hD0.self (sz := s.heap.size)
  generalize hAe : va_A [(mo, .inr (4, [.int (nI 0), .int (nI 0), .int (nI 0), .null, .null]))] s.heap.size = A at hD ⊢
  have hA : ∀ q : Nat, s.heap.size ≤ q → A q := fun q h => by rw [← hAe]; exact Or.inr h
  have hS : va_S A s.heap s.heap [] := va_S.rf
  have hP : va_P (dC, dI) vwCl [(mo, .inr (4, [.int (nI 0), .int (nI 0), .int (nI 0), .null, .null]))] s.heap := hP
  have hl := lv_entry ([.ref mo]) (n := 1) (Nat.le_of_ble_eq_true rfl)
  rw [hargs, lg_entry_eq, ← hargs]
  generalize (lg_sl ([.ref mo]) ++ List.replicate (1 - (lg_sl ([.ref mo])).length) Slot.unset).toArray = ls at hl ⊢
  have hl : lv_has ls 1 [(0, .ref mo)] := hl
  refine lv_aload_n hx hb dX5_init_0 rfl (lv_at hl 0 rfl) ?_
  refine W.objInit hx hb hown (hts (.methodLink RX5 1 objectInit) (List.mem_of_getElem? (i := 1) rfl)) (hts (.instanceMethod objectInit) (List.mem_of_getElem? (i := 2) rfl)) (hts (.code objectInit ⟨#[0xb1]⟩ 1 none) (List.mem_of_getElem? (i := 3) rfl)) rfl (by rw [hml]; exact hl.1) rfl dX5_init_1 (Nat.le_of_ble_eq_true rfl) (Nat.le_of_ble_eq_true rfl) ?_
  refine W.eq (g2 := F0 m 4 ls []) rfl ?_
  refine lv_aload_n hx hb dX5_init_4 rfl (lv_at hl 0 rfl) ?_
  refine lv_bipush (v := nI 12) hx hb dX5_init_5 (by decide) ?_
  refine va_put (D := (dC, dI)) (ci := 4) (v := .int (nI 12)) (ty := .int) (C := RX5) (T := TX5) (N := 5) hx hb hts i_X5_init_X5 tyX5 tyX5_ok nmX5 hown hK hP hD hS 0 rfl rfl 1 (by decide) (hts (.fieldLink RX5 7 "RuinViewsLaw$Sim" "guests" "I") (List.mem_of_getElem? (i := 4) rfl)) (fun _ h9 => h9) rfl (by decide +kernel) rfl rfl (Nat.le_of_ble_eq_true rfl) dX5_init_7 (fun H locs hP hD hS => ?_)
  have hP : va_P (dC, dI) vwCl [(mo, .inr (4, [.int (nI 0), .int (nI 12), .int (nI 0), .null, .null]))] H := hP
  have hD : va_D A [(mo, .inr (4, [.int (nI 0), .int (nI 12), .int (nI 0), .null, .null]))] := hD
  refine lv_aload_n hx hb dX5_init_10 rfl (lv_at hl 0 rfl) ?_
  refine lv_iconst (v := nI 0) hx hb dX5_init_11 (by decide) ?_
  refine zz_newA hx hb hown (hts (.classLink RX5 13 "[I") (List.mem_of_getElem? (i := 5) rfl)) hK hN.2.2.2.2 hP hD hS hA (n := 0) rfl (by omega) (by show 0 + 1 ≤ 2; omega) (by show 0 + 0 ≤ 0; omega) dX5_init_12 (fun q12 H hP hD hS => ?_)
  have hP : va_P (dC, dI) vwCl [(mo, .inr (4, [.int (nI 0), .int (nI 12), .int (nI 0), .null, .null])), (q12, .inl (cB, 0, .inr (.inr (.inr (.inr (fun _ => none))))))] H := hP
  have hD : va_D A [(mo, .inr (4, [.int (nI 0), .int (nI 12), .int (nI 0), .null, .null])), (q12, .inl (cB, 0, .inr (.inr (.inr (.inr (fun _ => none))))))] := hD
  refine va_put (D := (dC, dI)) (ci := 4) (v := .ref q12) (ty := .array (.array .int)) (C := RX5) (T := TX5) (N := 5) hx hb hts i_X5_init_X5 tyX5 tyX5_ok nmX5 hown hK hP hD hS 0 rfl rfl 3 (by decide) (hts (.fieldLink RX5 15 "RuinViewsLaw$Sim" "ruins" "[[I") (List.mem_of_getElem? (i := 6) rfl)) (fun _ h9 => h9) rfl (by decide +kernel) rfl rfl (Nat.le_of_ble_eq_true rfl) dX5_init_15 (fun H locs hP hD hS => ?_)
  have hP : va_P (dC, dI) vwCl [(mo, .inr (4, [.int (nI 0), .int (nI 12), .int (nI 0), .ref q12, .null])), (q12, .inl (cB, 0, .inr (.inr (.inr (.inr (fun _ => none))))))] H := hP
  have hD : va_D A [(mo, .inr (4, [.int (nI 0), .int (nI 12), .int (nI 0), .ref q12, .null])), (q12, .inl (cB, 0, .inr (.inr (.inr (.inr (fun _ => none))))))] := hD
  refine lv_aload_n hx hb dX5_init_18 rfl (lv_at hl 0 rfl) ?_
  refine lv_iconst (v := nI 0) hx hb dX5_init_19 (by decide) ?_
  refine zz_newA hx hb hown (hts (.classLink RX5 13 "[I") (List.mem_of_getElem? (i := 5) rfl)) hK hN.2.2.2.2 hP hD hS hA (n := 0) rfl (by omega) (by show 1 + 1 ≤ 2; omega) (by show (0 + 0) + 0 ≤ 0; omega) dX5_init_20 (fun q20 H hP hD hS => ?_)
  have hP : va_P (dC, dI) vwCl [(mo, .inr (4, [.int (nI 0), .int (nI 12), .int (nI 0), .ref q12, .null])), (q12, .inl (cB, 0, .inr (.inr (.inr (.inr (fun _ => none)))))), (q20, .inl (cB, 0, .inr (.inr (.inr (.inr (fun _ => none))))))] H := hP
  have hD : va_D A [(mo, .inr (4, [.int (nI 0), .int (nI 12), .int (nI 0), .ref q12, .null])), (q12, .inl (cB, 0, .inr (.inr (.inr (.inr (fun _ => none)))))), (q20, .inl (cB, 0, .inr (.inr (.inr (.inr (fun _ => none))))))] := hD
  refine va_put (D := (dC, dI)) (ci := 4) (v := .ref q20) (ty := .array (.array .int)) (C := RX5) (T := TX5) (N := 5) hx hb hts i_X5_init_X5 tyX5 tyX5_ok nmX5 hown hK hP hD hS 0 rfl rfl 4 (by decide) (hts (.fieldLink RX5 19 "RuinViewsLaw$Sim" "tickets" "[[I") (List.mem_of_getElem? (i := 7) rfl)) (fun _ h9 => h9) rfl (by decide +kernel) rfl rfl (Nat.le_of_ble_eq_true rfl) dX5_init_23 (fun H locs hP hD hS => ?_)
  have hP : va_P (dC, dI) vwCl [(mo, .inr (4, [.int (nI 0), .int (nI 12), .int (nI 0), .ref q12, .ref q20])), (q12, .inl (cB, 0, .inr (.inr (.inr (.inr (fun _ => none)))))), (q20, .inl (cB, 0, .inr (.inr (.inr (.inr (fun _ => none))))))] H := hP
  have hD : va_D A [(mo, .inr (4, [.int (nI 0), .int (nI 12), .int (nI 0), .ref q12, .ref q20])), (q12, .inl (cB, 0, .inr (.inr (.inr (.inr (fun _ => none)))))), (q20, .inl (cB, 0, .inr (.inr (.inr (.inr (fun _ => none))))))] := hD
  refine W.widen (k := 2) (n := 0) (by omega) (by omega) ?_
  exact W.vret hx hb hr (fun t ht hW => ⟨⟨(), rfl, trivial, q12, q20, by rw [ht]; exact hP, hD⟩, hS.F ht⟩) hS.2.2 dX5_init_26
theorem i_X5_ranked_X5 : ∀ w ∈ u_ws RX5 TX5 5, w ∈ wsX5_ranked := by decide +kernel
set_option maxHeartbeats 4000000 in
set_option maxRecDepth 100000 in
theorem c_X5_ranked (l : Launch) (dC : Nat → ClassId) (dI : Nat → Nat → Nat) (cA : ClassId) (cB : ClassId) (mo : Nat) (rr : Nat) (tt : Nat) (ra : Nat → Nat) (ta : Nat → Nat) (z : ZS) (sz : Nat) (hz : zok z) (hdz : zdy z ≤ 40000) : Met l yX5_ranked wsX5_ranked ({ frames := 2, cells := 3, slots := 28, locals := 43 } : Room) (va_Pc [.ref mo] (fun U => U.heap.size = sz ∧ va_P (dC, dI) vwCl ([(mo, .inr (4, [.int (nI (zdy z)), .int (nI (zgu z)), .int (zpu z), .ref rr, .ref tt])), (rr, .inl (cB, zn z, .inr (.inr (.inr (.inr (zrf (zn z) ra)))))), (tt, .inl (cB, ztn z, .inr (.inr (.inr (.inr (zrf (ztn z) ta))))))] ++ (zpl cA ra (zrow (zwa z) (ziv z) (zgh z) (zpr z)) (zn z) ++ (zpl cA ta (zrow (ztr z) (ztd z) (ztp z) (ztf z)) (ztn z)))) U.heap ∧ va_K (dC, dI) vwCl [(cA, .int), (cB, .array .int)] U ∧ va_D (fun _ => True) ([(mo, .inr (4, [.int (nI (zdy z)), .int (nI (zgu z)), .int (zpu z), .ref rr, .ref tt])), (rr, .inl (cB, zn z, .inr (.inr (.inr (.inr (zrf (zn z) ra)))))), (tt, .inl (cB, ztn z, .inr (.inr (.inr (.inr (zrf (ztn z) ta))))))] ++ (zpl cA ra (zrow (zwa z) (ziv z) (zgh z) (zpr z)) (zn z) ++ (zpl cA ta (zrow (ztr z) (ztd z) (ztp z) (ztf z)) (ztn z)))))) (va_Qr (fun _ : Unit => True) (fun (_ : Unit) (q9 : Nat) t => va_P (dC, dI) vwCl ([(mo, .inr (4, [.int (nI (zdy z)), .int (nI (zgu z)), .int (zpu z), .ref rr, .ref tt])), (rr, .inl (cB, zn z, .inr (.inr (.inr (.inr (zrf (zn z) ra)))))), (tt, .inl (cB, ztn z, .inr (.inr (.inr (.inr (zrf (ztn z) ta)))))), (q9, .inl (cA, zcnt (zwa z) (zn z), .inl (fun j9 => nI ((zrl z (zcnt (zwa z) (zn z))) j9))))] ++ (zpl cA ra (zrow (zwa z) (ziv z) (zgh z) (zpr z)) (zn z) ++ (zpl cA ta (zrow (ztr z) (ztd z) (ztp z) (ztf z)) (ztn z)))) t.heap ∧ va_D (va_A ([(mo, .inr (4, [.int (nI (zdy z)), .int (nI (zgu z)), .int (zpu z), .ref rr, .ref tt])), (rr, .inl (cB, zn z, .inr (.inr (.inr (.inr (zrf (zn z) ra)))))), (tt, .inl (cB, ztn z, .inr (.inr (.inr (.inr (zrf (ztn z) ta))))))] ++ (zpl cA ra (zrow (zwa z) (ziv z) (zgh z) (zpr z)) (zn z) ++ (zpl cA ta (zrow (ztr z) (ztd z) (ztp z) (ztf z)) (ztn z)))) sz) ([(mo, .inr (4, [.int (nI (zdy z)), .int (nI (zgu z)), .int (zpu z), .ref rr, .ref tt])), (rr, .inl (cB, zn z, .inr (.inr (.inr (.inr (zrf (zn z) ra)))))), (tt, .inl (cB, ztn z, .inr (.inr (.inr (.inr (zrf (ztn z) ta)))))), (q9, .inl (cA, zcnt (zwa z) (zn z), .inl (fun j9 => nI ((zrl z (zcnt (zwa z) (zn z))) j9))))] ++ (zpl cA ra (zrow (zwa z) (ziv z) (zgh z) (zpr z)) (zn z) ++ (zpl cA ta (zrow (ztr z) (ztd z) (ztp z) (ztf z)) (ztn z))))) (va_A ([(mo, .inr (4, [.int (nI (zdy z)), .int (nI (zgu z)), .int (zpu z), .ref rr, .ref tt])), (rr, .inl (cB, zn z, .inr (.inr (.inr (.inr (zrf (zn z) ra)))))), (tt, .inl (cB, ztn z, .inr (.inr (.inr (.inr (zrf (ztn z) ta))))))] ++ (zpl cA ra (zrow (zwa z) (ziv z) (zgh z) (zpr z)) (zn z) ++ (zpl cA ta (zrow (ztr z) (ztd z) (ztp z) (ztf z)) (ztn z)))) sz)) 3 28 (va_A ([(mo, .inr (4, [.int (nI (zdy z)), .int (nI (zgu z)), .int (zpu z), .ref rr, .ref tt])), (rr, .inl (cB, zn z, .inr (.inr (.inr (.inr (zrf (zn z) ra)))))), (tt, .inl (cB, ztn z, .inr (.inr (.inr (.inr (zrf (ztn z) ta))))))] ++ (zpl cA ra (zrow (zwa z) (ziv z) (zgh z) (zpr z)) (zn z) ++ (zpl cA ta (zrow (ztr z) (ztd z) (ztp z) (ztf z)) (ztn z)))) sz) := by
  refine Met.ofW (cc := cX5_ranked) (maxL := 8) (ret := (some (.array .int))) (by decide) rfl ?_
  intro p e s m args below meth c s₁ B hml hv
  obtain ⟨hargs, hsz, hP, hK, hD0⟩ := hv
  have hK2 := hK
  have hKi := hK2.sub (tys' := [(cA, .int)]) [0] rfl
  have hx := B.exec
  have hb := B.bytes
  have hr := B.returns
  have hts := atoms_spec (ws := wsX5_ranked) B.pre
  have hown : s.vm.findClass RX5 = some m.cls := findClass_of_methodNamed B.named
  have hlocks := B.notSynchronized
  subst hsz
  have hD := hD0.self (sz := s.heap.size)
  generalize hAe : va_A ([(mo, .inr (4, [.int (nI (zdy z)), .int (nI (zgu z)), .int (zpu z), .ref rr, .ref tt])), (rr, .inl (cB, zn z, .inr (.inr (.inr (.inr (zrf (zn z) ra)))))), (tt, .inl (cB, ztn z, .inr (.inr (.inr (.inr (zrf (ztn z) ta))))))] ++ (zpl cA ra (zrow (zwa z) (ziv z) (zgh z) (zpr z)) (zn z) ++ (zpl cA ta (zrow (ztr z) (ztd z) (ztp z) (ztf z)) (ztn z)))) s.heap.size = A at hD ⊢
  have hA : ∀ q : Nat, s.heap.size ≤ q → A q := fun q h => by rw [← hAe]; exact Or.inr h
  have hS : va_S A s.heap s.heap [] := va_S.rf
  have hP : va_P (dC, dI) vwCl ([(mo, .inr (4, [.int (nI (zdy z)), .int (nI (zgu z)), .int (zpu z), .ref rr, .ref tt])), (rr, .inl (cB, zn z, .inr (.inr (.inr (.inr (zrf (zn z) ra)))))), (tt, .inl (cB, ztn z, .inr (.inr (.inr (.inr (zrf (ztn z) ta))))))] ++ (zpl cA ra (zrow (zwa z) (ziv z) (zgh z) (zpr z)) (zn z) ++ (zpl cA ta (zrow (ztr z) (ztd z) (ztp z) (ztf z)) (ztn z)))) s.heap := hP
  have hl := lv_entry ([.ref mo]) (n := 8) (Nat.le_of_ble_eq_true rfl)
  rw [hargs, lg_entry_eq, ← hargs]
  generalize (lg_sl ([.ref mo]) ++ List.replicate (8 - (lg_sl ([.ref mo])).length) Slot.unset).toArray = ls at hl ⊢
  have hl : lv_has ls 8 [(0, .ref mo)] := hl
  obtain ⟨o1, o2, o3, o4, o5, o6, o7, o8, o9, o10, o11⟩ := id hz
  have hc9 := zcnt_le (zwa z) (zn z)
  refine lv_iconst (v := nI 0) hx hb dX5_ranked_0 (by decide) ?_
  refine lv_istore_n (lv' := [(1, .int (nI 0)), (0, .ref mo)]) hx hb dX5_ranked_1 rfl hl (by decide) rfl (fun ls hl => ?_)
  refine lv_aload_n hx hb dX5_ranked_2 rfl (lv_at hl 1 rfl) ?_
  refine va_get (D := (dC, dI)) (ci := 4) (v := .ref rr) (C := RX5) (T := TX5) (N := 5) hx hb hts i_X5_ranked_X5 hown hK hP 0 rfl rfl 3 (by decide) (hts (.fieldLink RX5 15 "RuinViewsLaw$Sim" "ruins" "[[I") (List.mem_of_getElem? (i := 1) rfl)) (fun _ h9 => h9) rfl dX5_ranked_3 ?_
  refine lv_astore_n (lv' := [(2, .ref rr), (1, .int (nI 0)), (0, .ref mo)]) hx hb dX5_ranked_6 rfl hl (by decide) rfl (fun ls hl => ?_)
  refine lv_aload_n hx hb dX5_ranked_7 rfl (lv_at hl 0 rfl) ?_
  refine va_alen hx hb hK hP 1 1 rfl rfl (v := nI (zn z)) rfl dX5_ranked_8 ?_
  refine lv_istore_n (lv' := [(3, .int (nI (zn z))), (2, .ref rr), (1, .int (nI 0)), (0, .ref mo)]) hx hb dX5_ranked_9 rfl hl (by decide) rfl (fun ls hl => ?_)
  refine lv_iconst (v := nI 0) hx hb dX5_ranked_10 (by decide) ?_
  refine lv_istore (lv' := [(4, .int (nI 0)), (3, .int (nI (zn z))), (2, .ref rr), (1, .int (nI 0)), (0, .ref mo)]) hx hb dX5_ranked_11 hl (by decide) rfl (fun ls hl => ?_)
  have lp_13 : ∀ (f9 : Nat) (i : Nat) , (zn z - i) < f9 → (i ≤ zn z) → ∀ (H : Heap) (locs : List Loc), va_P (dC, dI) vwCl ([(mo, .inr (4, [.int (nI (zdy z)), .int (nI (zgu z)), .int (zpu z), .ref rr, .ref tt])), (rr, .inl (cB, zn z, .inr (.inr (.inr (.inr (zrf (zn z) ra)))))), (tt, .inl (cB, ztn z, .inr (.inr (.inr (.inr (zrf (ztn z) ta))))))] ++ (zpl cA ra (zrow (zwa z) (ziv z) (zgh z) (zpr z)) (zn z) ++ (zpl cA ta (zrow (ztr z) (ztd z) (ztp z) (ztf z)) (ztn z)))) H → va_D A ([(mo, .inr (4, [.int (nI (zdy z)), .int (nI (zgu z)), .int (zpu z), .ref rr, .ref tt])), (rr, .inl (cB, zn z, .inr (.inr (.inr (.inr (zrf (zn z) ra)))))), (tt, .inl (cB, ztn z, .inr (.inr (.inr (.inr (zrf (ztn z) ta))))))] ++ (zpl cA ra (zrow (zwa z) (ziv z) (zgh z) (zpr z)) (zn z) ++ (zpl cA ta (zrow (ztr z) (ztd z) (ztp z) (ztf z)) (ztn z)))) → va_S A s.heap H locs → ∀ (ls : Array Slot), lv_has ls 8 [(0, .ref mo), (1, .int (nI (zcnt (zwa z) i))), (2, .ref rr), (3, .int (nI (zn z))), (4, .int (nI i))] → W p l e ({ frames := 2, cells := 3, slots := 28, locals := 43 } : Room) s m args below meth c H locs 0 0 (MQ below (va_Qr (fun _ : Unit => True) (fun (_ : Unit) (q9 : Nat) t => va_P (dC, dI) vwCl ([(mo, .inr (4, [.int (nI (zdy z)), .int (nI (zgu z)), .int (zpu z), .ref rr, .ref tt])), (rr, .inl (cB, zn z, .inr (.inr (.inr (.inr (zrf (zn z) ra)))))), (tt, .inl (cB, ztn z, .inr (.inr (.inr (.inr (zrf (ztn z) ta)))))), (q9, .inl (cA, zcnt (zwa z) (zn z), .inl (fun j9 => nI ((zrl z (zcnt (zwa z) (zn z))) j9))))] ++ (zpl cA ra (zrow (zwa z) (ziv z) (zgh z) (zpr z)) (zn z) ++ (zpl cA ta (zrow (ztr z) (ztd z) (ztp z) (ztf z)) (ztn z)))) t.heap ∧ va_D A ([(mo, .inr (4, [.int (nI (zdy z)), .int (nI (zgu z)), .int (zpu z), .ref rr, .ref tt])), (rr, .inl (cB, zn z, .inr (.inr (.inr (.inr (zrf (zn z) ra)))))), (tt, .inl (cB, ztn z, .inr (.inr (.inr (.inr (zrf (ztn z) ta)))))), (q9, .inl (cA, zcnt (zwa z) (zn z), .inl (fun j9 => nI ((zrl z (zcnt (zwa z) (zn z))) j9))))] ++ (zpl cA ra (zrow (zwa z) (ziv z) (zgh z) (zpr z)) (zn z) ++ (zpl cA ta (zrow (ztr z) (ztd z) (ztp z) (ztf z)) (ztn z))))) A) args s 3 28 A) (F0 m 13 ls []) := by
    intro f9
    induction f9 with
    | zero => intro i hm9; exact absurd hm9 (Nat.not_lt_zero _)
    | succ f9 ih_13 =>
      intro i hm9 hi H locs hP hD hS ls hl
      have hw9 := o4 i
      have hc8 := zcnt_le (zwa z) i
      refine lv_iload hx hb dX5_ranked_13 (lv_at hl 4 rfl) ?_
      refine lv_iload_n hx hb dX5_ranked_15 rfl (lv_at hl 3 rfl) ?_
      refine lv_icmp_ge (tgt := 46) hx hb dX5_ranked_16 (by decide) (fun c_1 => ?_) (fun c_1 => ?_)
      · skip
        replace c_1 := (nI_leI (by omega) (by omega)).mp c_1
        have he9 : zcnt (zwa z) i = zcnt (zwa z) (zn z) := by rw [show i = zn z from by omega]
        refine lv_iload_n hx hb dX5_ranked_46 rfl (lv_at hl 1 rfl) ?_
        refine zz_newa hx hb (hts (.arrayClass .int) (List.mem_of_getElem? (i := 2) rfl)) hKi hP hD hS hA (n := zcnt (zwa z) i) (by omega) (by show (zcnt (zwa z) i) * 4 ≤ _; omega) (by show 0 + 1 ≤ 3; omega) (by show 0 + zcnt (zwa z) i ≤ 28; omega) dX5_ranked_47 (fun q47 H hP hD hS => ?_)
        have hP := hP.swap
        have hD := hD.swap
        have hP : va_P (dC, dI) vwCl ([(mo, .inr (4, [.int (nI (zdy z)), .int (nI (zgu z)), .int (zpu z), .ref rr, .ref tt])), (rr, .inl (cB, zn z, .inr (.inr (.inr (.inr (zrf (zn z) ra)))))), (tt, .inl (cB, ztn z, .inr (.inr (.inr (.inr (zrf (ztn z) ta)))))), (q47, .inl (cA, zcnt (zwa z) i, .inl (fun j9 => nI (z0 j9))))] ++ (zpl cA ra (zrow (zwa z) (ziv z) (zgh z) (zpr z)) (zn z) ++ (zpl cA ta (zrow (ztr z) (ztd z) (ztp z) (ztf z)) (ztn z)))) H := hP
        have hD : va_D A ([(mo, .inr (4, [.int (nI (zdy z)), .int (nI (zgu z)), .int (zpu z), .ref rr, .ref tt])), (rr, .inl (cB, zn z, .inr (.inr (.inr (.inr (zrf (zn z) ra)))))), (tt, .inl (cB, ztn z, .inr (.inr (.inr (.inr (zrf (ztn z) ta)))))), (q47, .inl (cA, zcnt (zwa z) i, .inl (fun j9 => nI (z0 j9))))] ++ (zpl cA ra (zrow (zwa z) (ziv z) (zgh z) (zpr z)) (zn z) ++ (zpl cA ta (zrow (ztr z) (ztd z) (ztp z) (ztf z)) (ztn z)))) := hD
        refine lv_astore_n (lv' := [(2, .ref q47), (0, .ref mo), (1, .int (nI (zcnt (zwa z) i))), (3, .int (nI (zn z))), (4, .int (nI i))]) hx hb dX5_ranked_49 rfl hl (by decide) rfl (fun ls hl => ?_)
        refine lv_aload_n hx hb dX5_ranked_50 rfl (lv_at hl 1 rfl) ?_
        refine va_get (D := (dC, dI)) (ci := 4) (v := .ref rr) (C := RX5) (T := TX5) (N := 5) hx hb hts i_X5_ranked_X5 hown hK hP 0 rfl rfl 3 (by decide) (hts (.fieldLink RX5 15 "RuinViewsLaw$Sim" "ruins" "[[I") (List.mem_of_getElem? (i := 1) rfl)) (fun _ h9 => h9) rfl dX5_ranked_51 ?_
        refine va_alen hx hb hK hP 1 1 rfl rfl (v := nI (zn z)) rfl dX5_ranked_54 ?_
        refine zz_newa hx hb (hts (.arrayClass .int) (List.mem_of_getElem? (i := 2) rfl)) hKi hP hD hS hA (n := zn z) (by omega) (by show (zn z) * 4 ≤ _; omega) (by show 1 + 1 ≤ 3; omega) (by show (0 + (zcnt (zwa z) i)) + zn z ≤ 28; omega) dX5_ranked_55 (fun q55 H hP hD hS => ?_)
        have hP := hP.swap
        have hD := hD.swap
        have hP : va_P (dC, dI) vwCl ([(mo, .inr (4, [.int (nI (zdy z)), .int (nI (zgu z)), .int (zpu z), .ref rr, .ref tt])), (rr, .inl (cB, zn z, .inr (.inr (.inr (.inr (zrf (zn z) ra)))))), (tt, .inl (cB, ztn z, .inr (.inr (.inr (.inr (zrf (ztn z) ta)))))), (q47, .inl (cA, zcnt (zwa z) i, .inl (fun j9 => nI (z0 j9)))), (q55, .inl (cA, zn z, .inl (fun j9 => nI (z0 j9))))] ++ (zpl cA ra (zrow (zwa z) (ziv z) (zgh z) (zpr z)) (zn z) ++ (zpl cA ta (zrow (ztr z) (ztd z) (ztp z) (ztf z)) (ztn z)))) H := hP
        have hD : va_D A ([(mo, .inr (4, [.int (nI (zdy z)), .int (nI (zgu z)), .int (zpu z), .ref rr, .ref tt])), (rr, .inl (cB, zn z, .inr (.inr (.inr (.inr (zrf (zn z) ra)))))), (tt, .inl (cB, ztn z, .inr (.inr (.inr (.inr (zrf (ztn z) ta)))))), (q47, .inl (cA, zcnt (zwa z) i, .inl (fun j9 => nI (z0 j9)))), (q55, .inl (cA, zn z, .inl (fun j9 => nI (z0 j9))))] ++ (zpl cA ra (zrow (zwa z) (ziv z) (zgh z) (zpr z)) (zn z) ++ (zpl cA ta (zrow (ztr z) (ztd z) (ztp z) (ztf z)) (ztn z)))) := hD
        refine lv_astore_n (lv' := [(3, .ref q55), (2, .ref q47), (0, .ref mo), (1, .int (nI (zcnt (zwa z) i))), (4, .int (nI i))]) hx hb dX5_ranked_57 rfl hl (by decide) rfl (fun ls hl => ?_)
        refine lv_aload_n hx hb dX5_ranked_58 rfl (lv_at hl 2 rfl) ?_
        have hPc := hP.sub (ws' := [(mo, .inr (4, [.int (nI (zdy z)), .int (nI (zgu z)), .int (zpu z), .ref rr, .ref tt]))]) [0] rfl
        have hDc := hD.sub (ws' := [(mo, .inr (4, [.int (nI (zdy z)), .int (nI (zgu z)), .int (zpu z), .ref rr, .ref tt]))]) [0] (by decide) rfl
        have hFc := va_free (wc := [(mo, .inr (4, [.int (nI (zdy z)), .int (nI (zgu z)), .int (zpu z), .ref rr, .ref tt]))]) hD hS hA [0] rfl
        refine va_calli (va_runV (As := []) (rest := []) ⟨hx, hb, hml, hown, hts⟩ (c_X5_moon l dC dI cA cB mo rr tt (zdy z) (zgu z) (zpu z) H.size (by first | assumption | omega)) (cwV 0 hts gX5_ranked_X5_moon rfl rfl rfl (by decide +kernel) ⟨Nat.le_of_ble_eq_true rfl, Nat.le_of_ble_eq_true rfl⟩) ⟨fun a U g mk q => by obtain ⟨q0, q1, qP, qK, qD⟩ := q; exact ⟨q0, q1, qP, va_K.moved (u := U) (U := U.calling g mk a) (Vm.Alike.refl U.vm) qK, qD⟩, va_recv hK hP (ci := 4) (q0 := 0) rfl rfl, fun U hU hW => ⟨rfl, by rw [hU], by rw [hU]; exact hPc, va_K.moved hW.alike hK2, hDc.weaken (fun _ _ _ _ => trivial)⟩⟩ rfl rfl hl.1 rfl (lv_room (Nat.le_of_ble_eq_true rfl)) dX5_ranked_59 ⟨by show 2 + 1 ≤ 3; omega, by show ((0 + (zcnt (zwa z) i)) + (zn z)) + 8 ≤ 28; omega⟩) hS (fun q _ h => hFc q h) hFc (fun r_2 u_2 t H1 locs ht hvm hw_2 hB hz1 hk1 hS => ?_)
        subst hw_2
        obtain ⟨hP1, hD1⟩ := hB
        rw [ht] at hP1
        obtain ⟨hP, hD⟩ := va_joinQ (wr := [(rr, .inl (cB, zn z, .inr (.inr (.inr (.inr (zrf (zn z) ra)))))), (tt, .inl (cB, ztn z, .inr (.inr (.inr (.inr (zrf (ztn z) ta)))))), (q47, .inl (cA, zcnt (zwa z) i, .inl (fun j9 => nI (z0 j9)))), (q55, .inl (cA, zn z, .inl (fun j9 => nI (z0 j9))))]) (w1 := [(mo, .inr (4, [.int (nI (zdy z)), .int (nI (zgu z)), .int (zpu z), .ref rr, .ref tt]))]) hP hD [0] [1, 2, 3, 4] rfl rfl (by decide) (by decide) hk1 hFc hP1 hD1
        generalize H1 = H at hP hS ⊢
        have hP : va_P (dC, dI) vwCl ([(rr, .inl (cB, zn z, .inr (.inr (.inr (.inr (zrf (zn z) ra)))))), (tt, .inl (cB, ztn z, .inr (.inr (.inr (.inr (zrf (ztn z) ta)))))), (q47, .inl (cA, zcnt (zwa z) i, .inl (fun j9 => nI (z0 j9)))), (q55, .inl (cA, zn z, .inl (fun j9 => nI (z0 j9)))), (mo, .inr (4, [.int (nI (zdy z)), .int (nI (zgu z)), .int (zpu z), .ref rr, .ref tt]))] ++ (zpl cA ra (zrow (zwa z) (ziv z) (zgh z) (zpr z)) (zn z) ++ (zpl cA ta (zrow (ztr z) (ztd z) (ztp z) (ztf z)) (ztn z)))) H := hP
        have hD : va_D A ([(rr, .inl (cB, zn z, .inr (.inr (.inr (.inr (zrf (zn z) ra)))))), (tt, .inl (cB, ztn z, .inr (.inr (.inr (.inr (zrf (ztn z) ta)))))), (q47, .inl (cA, zcnt (zwa z) i, .inl (fun j9 => nI (z0 j9)))), (q55, .inl (cA, zn z, .inl (fun j9 => nI (z0 j9)))), (mo, .inr (4, [.int (nI (zdy z)), .int (nI (zgu z)), .int (zpu z), .ref rr, .ref tt]))] ++ (zpl cA ra (zrow (zwa z) (ziv z) (zgh z) (zpr z)) (zn z) ++ (zpl cA ta (zrow (ztr z) (ztd z) (ztp z) (ztf z)) (ztn z)))) := hD
        have hP := hP.part (cx := [(mo, .inr (4, [.int (nI (zdy z)), .int (nI (zgu z)), .int (zpu z), .ref rr, .ref tt])), (rr, .inl (cB, zn z, .inr (.inr (.inr (.inr (zrf (zn z) ra)))))), (tt, .inl (cB, ztn z, .inr (.inr (.inr (.inr (zrf (ztn z) ta)))))), (q47, .inl (cA, zcnt (zwa z) i, .inl (fun j9 => nI (z0 j9)))), (q55, .inl (cA, zn z, .inl (fun j9 => nI (z0 j9))))]) (pl := zpl cA ra (zrow (zwa z) (ziv z) (zgh z) (zpr z)) (zn z) ++ (zpl cA ta (zrow (ztr z) (ztd z) (ztp z) (ztf z)) (ztn z))) [4, 0, 1, 2, 3] rfl
        have hD := hD.part (cx := [(mo, .inr (4, [.int (nI (zdy z)), .int (nI (zgu z)), .int (zpu z), .ref rr, .ref tt])), (rr, .inl (cB, zn z, .inr (.inr (.inr (.inr (zrf (zn z) ra)))))), (tt, .inl (cB, ztn z, .inr (.inr (.inr (.inr (zrf (ztn z) ta)))))), (q47, .inl (cA, zcnt (zwa z) i, .inl (fun j9 => nI (z0 j9)))), (q55, .inl (cA, zn z, .inl (fun j9 => nI (z0 j9))))]) (pl := zpl cA ra (zrow (zwa z) (ziv z) (zgh z) (zpr z)) (zn z) ++ (zpl cA ta (zrow (ztr z) (ztd z) (ztp z) (ztf z)) (ztn z))) [4, 0, 1, 2, 3] (by decide) rfl
        refine lv_istore (lv' := [(4, .int (nI (zb (zdy z)))), (3, .ref q55), (2, .ref q47), (0, .ref mo), (1, .int (nI (zcnt (zwa z) i)))]) hx hb dX5_ranked_62 hl (by decide) rfl (fun ls hl => ?_)
        refine lv_iconst (v := nI 0) hx hb dX5_ranked_64 (by decide) ?_
        refine lv_istore (lv' := [(5, .int (nI 0)), (4, .int (nI (zb (zdy z)))), (3, .ref q55), (2, .ref q47), (0, .ref mo), (1, .int (nI (zcnt (zwa z) i)))]) hx hb dX5_ranked_65 hl (by decide) rfl (fun ls hl => ?_)
        have lp_67 : ∀ (f9 : Nat) (i : Nat) , (zn z - i) < f9 → (i ≤ zn z) → ∀ (H : Heap) (locs : List Loc), va_P (dC, dI) vwCl ([(mo, .inr (4, [.int (nI (zdy z)), .int (nI (zgu z)), .int (zpu z), .ref rr, .ref tt])), (rr, .inl (cB, zn z, .inr (.inr (.inr (.inr (zrf (zn z) ra)))))), (tt, .inl (cB, ztn z, .inr (.inr (.inr (.inr (zrf (ztn z) ta)))))), (q47, .inl (cA, zcnt (zwa z) (zn z), .inl (fun j9 => nI (z0 j9)))), (q55, .inl (cA, zn z, .inl (zwo z i)))] ++ (zpl cA ra (zrow (zwa z) (ziv z) (zgh z) (zpr z)) (zn z) ++ (zpl cA ta (zrow (ztr z) (ztd z) (ztp z) (ztf z)) (ztn z)))) H → va_D A ([(mo, .inr (4, [.int (nI (zdy z)), .int (nI (zgu z)), .int (zpu z), .ref rr, .ref tt])), (rr, .inl (cB, zn z, .inr (.inr (.inr (.inr (zrf (zn z) ra)))))), (tt, .inl (cB, ztn z, .inr (.inr (.inr (.inr (zrf (ztn z) ta)))))), (q47, .inl (cA, zcnt (zwa z) (zn z), .inl (fun j9 => nI (z0 j9)))), (q55, .inl (cA, zn z, .inl (zwo z i)))] ++ (zpl cA ra (zrow (zwa z) (ziv z) (zgh z) (zpr z)) (zn z) ++ (zpl cA ta (zrow (ztr z) (ztd z) (ztp z) (ztf z)) (ztn z)))) → va_S A s.heap H locs → ∀ (ls : Array Slot), lv_has ls 8 [(0, .ref mo), (1, .int (nI (zcnt (zwa z) (zn z)))), (2, .ref q47), (3, .ref q55), (4, .int (nI (zb (zdy z)))), (5, .int (nI i))] → W p l e ({ frames := 2, cells := 3, slots := 28, locals := 43 } : Room) s m args below meth c H locs 3 (zcnt (zwa z) (zn z) + zn z + 8) (MQ below (va_Qr (fun _ : Unit => True) (fun (_ : Unit) (q9 : Nat) t => va_P (dC, dI) vwCl ([(mo, .inr (4, [.int (nI (zdy z)), .int (nI (zgu z)), .int (zpu z), .ref rr, .ref tt])), (rr, .inl (cB, zn z, .inr (.inr (.inr (.inr (zrf (zn z) ra)))))), (tt, .inl (cB, ztn z, .inr (.inr (.inr (.inr (zrf (ztn z) ta)))))), (q9, .inl (cA, zcnt (zwa z) (zn z), .inl (fun j9 => nI ((zrl z (zcnt (zwa z) (zn z))) j9))))] ++ (zpl cA ra (zrow (zwa z) (ziv z) (zgh z) (zpr z)) (zn z) ++ (zpl cA ta (zrow (ztr z) (ztd z) (ztp z) (ztf z)) (ztn z)))) t.heap ∧ va_D A ([(mo, .inr (4, [.int (nI (zdy z)), .int (nI (zgu z)), .int (zpu z), .ref rr, .ref tt])), (rr, .inl (cB, zn z, .inr (.inr (.inr (.inr (zrf (zn z) ra)))))), (tt, .inl (cB, ztn z, .inr (.inr (.inr (.inr (zrf (ztn z) ta)))))), (q9, .inl (cA, zcnt (zwa z) (zn z), .inl (fun j9 => nI ((zrl z (zcnt (zwa z) (zn z))) j9))))] ++ (zpl cA ra (zrow (zwa z) (ziv z) (zgh z) (zpr z)) (zn z) ++ (zpl cA ta (zrow (ztr z) (ztd z) (ztp z) (ztf z)) (ztn z))))) A) args s 3 28 A) (F0 m 67 ls []) := by
          intro f9
          induction f9 with
          | zero => intro i hm9; exact absurd hm9 (Nat.not_lt_zero _)
          | succ f9 ih_67 =>
            intro i hm9 hi H locs hP hD hS ls hl
            refine lv_iload hx hb dX5_ranked_67 (lv_at hl 5 rfl) ?_
            refine lv_aload_n hx hb dX5_ranked_69 rfl (lv_at hl 0 rfl) ?_
            refine va_get (D := (dC, dI)) (ci := 4) (v := .ref rr) (C := RX5) (T := TX5) (N := 5) hx hb hts i_X5_ranked_X5 hown hK hP 0 rfl rfl 3 (by decide) (hts (.fieldLink RX5 15 "RuinViewsLaw$Sim" "ruins" "[[I") (List.mem_of_getElem? (i := 1) rfl)) (fun _ h9 => h9) rfl dX5_ranked_70 ?_
            refine va_alen hx hb hK hP 1 1 rfl rfl (v := nI (zn z)) rfl dX5_ranked_73 ?_
            refine lv_icmp_ge (tgt := 137) hx hb dX5_ranked_74 (by decide) (fun c_3 => ?_) (fun c_3 => ?_)
            · skip
              replace c_3 := (nI_leI (by omega) (by omega)).mp c_3
              refine lv_iconst (v := nI 0) hx hb dX5_ranked_137 (by decide) ?_
              refine lv_istore (lv' := [(5, .int (nI 0)), (0, .ref mo), (1, .int (nI (zcnt (zwa z) (zn z)))), (2, .ref q47), (3, .ref q55), (4, .int (nI (zb (zdy z))))]) hx hb dX5_ranked_138 hl (by decide) rfl (fun ls hl => ?_)
              have lp_140 : ∀ (f9 : Nat) (k : Nat) , (zcnt (zwa z) (zn z) - k) < f9 → (k ≤ zcnt (zwa z) (zn z)) → ∀ (H : Heap) (locs : List Loc), va_P (dC, dI) vwCl ([(mo, .inr (4, [.int (nI (zdy z)), .int (nI (zgu z)), .int (zpu z), .ref rr, .ref tt])), (rr, .inl (cB, zn z, .inr (.inr (.inr (.inr (zrf (zn z) ra)))))), (tt, .inl (cB, ztn z, .inr (.inr (.inr (.inr (zrf (ztn z) ta)))))), (q47, .inl (cA, zcnt (zwa z) (zn z), .inl (fun j9 => nI ((zrl z k) j9)))), (q55, .inl (cA, zn z, .inl (zwr z k)))] ++ (zpl cA ra (zrow (zwa z) (ziv z) (zgh z) (zpr z)) (zn z) ++ (zpl cA ta (zrow (ztr z) (ztd z) (ztp z) (ztf z)) (ztn z)))) H → va_D A ([(mo, .inr (4, [.int (nI (zdy z)), .int (nI (zgu z)), .int (zpu z), .ref rr, .ref tt])), (rr, .inl (cB, zn z, .inr (.inr (.inr (.inr (zrf (zn z) ra)))))), (tt, .inl (cB, ztn z, .inr (.inr (.inr (.inr (zrf (ztn z) ta)))))), (q47, .inl (cA, zcnt (zwa z) (zn z), .inl (fun j9 => nI ((zrl z k) j9)))), (q55, .inl (cA, zn z, .inl (zwr z k)))] ++ (zpl cA ra (zrow (zwa z) (ziv z) (zgh z) (zpr z)) (zn z) ++ (zpl cA ta (zrow (ztr z) (ztd z) (ztp z) (ztf z)) (ztn z)))) → va_S A s.heap H locs → ∀ (ls : Array Slot), lv_has ls 8 [(0, .ref mo), (1, .int (nI (zcnt (zwa z) (zn z)))), (2, .ref q47), (3, .ref q55), (5, .int (nI k))] → W p l e ({ frames := 2, cells := 3, slots := 28, locals := 43 } : Room) s m args below meth c H locs 3 (zcnt (zwa z) (zn z) + zn z + 8) (MQ below (va_Qr (fun _ : Unit => True) (fun (_ : Unit) (q9 : Nat) t => va_P (dC, dI) vwCl ([(mo, .inr (4, [.int (nI (zdy z)), .int (nI (zgu z)), .int (zpu z), .ref rr, .ref tt])), (rr, .inl (cB, zn z, .inr (.inr (.inr (.inr (zrf (zn z) ra)))))), (tt, .inl (cB, ztn z, .inr (.inr (.inr (.inr (zrf (ztn z) ta)))))), (q9, .inl (cA, zcnt (zwa z) (zn z), .inl (fun j9 => nI ((zrl z (zcnt (zwa z) (zn z))) j9))))] ++ (zpl cA ra (zrow (zwa z) (ziv z) (zgh z) (zpr z)) (zn z) ++ (zpl cA ta (zrow (ztr z) (ztd z) (ztp z) (ztf z)) (ztn z)))) t.heap ∧ va_D A ([(mo, .inr (4, [.int (nI (zdy z)), .int (nI (zgu z)), .int (zpu z), .ref rr, .ref tt])), (rr, .inl (cB, zn z, .inr (.inr (.inr (.inr (zrf (zn z) ra)))))), (tt, .inl (cB, ztn z, .inr (.inr (.inr (.inr (zrf (ztn z) ta)))))), (q9, .inl (cA, zcnt (zwa z) (zn z), .inl (fun j9 => nI ((zrl z (zcnt (zwa z) (zn z))) j9))))] ++ (zpl cA ra (zrow (zwa z) (ziv z) (zgh z) (zpr z)) (zn z) ++ (zpl cA ta (zrow (ztr z) (ztd z) (ztp z) (ztf z)) (ztn z))))) A) args s 3 28 A) (F0 m 140 ls []) := by
                intro f9
                induction f9 with
                | zero => intro k hm9; exact absurd hm9 (Nat.not_lt_zero _)
                | succ f9 ih_140 =>
                  intro k hm9 hk H locs hP hD hS ls hl
                  refine lv_iload hx hb dX5_ranked_140 (lv_at hl 4 rfl) ?_
                  refine lv_iload_n hx hb dX5_ranked_142 rfl (lv_at hl 1 rfl) ?_
                  refine lv_icmp_ge (tgt := 197) hx hb dX5_ranked_143 (by decide) (fun c_4 => ?_) (fun c_4 => ?_)
                  · skip
                    replace c_4 := (nI_leI (by omega) (by omega)).mp c_4
                    refine lv_aload_n hx hb dX5_ranked_197 rfl (lv_at hl 2 rfl) ?_
                    have hP := hP.part (cx := [(mo, .inr (4, [.int (nI (zdy z)), .int (nI (zgu z)), .int (zpu z), .ref rr, .ref tt])), (rr, .inl (cB, zn z, .inr (.inr (.inr (.inr (zrf (zn z) ra)))))), (tt, .inl (cB, ztn z, .inr (.inr (.inr (.inr (zrf (ztn z) ta)))))), (q47, .inl (cA, zcnt (zwa z) (zn z), .inl (fun j9 => nI ((zrl z k) j9))))]) (pl := zpl cA ra (zrow (zwa z) (ziv z) (zgh z) (zpr z)) (zn z) ++ (zpl cA ta (zrow (ztr z) (ztd z) (ztp z) (ztf z)) (ztn z))) [0, 1, 2, 3] rfl
                    have hD := hD.part (cx := [(mo, .inr (4, [.int (nI (zdy z)), .int (nI (zgu z)), .int (zpu z), .ref rr, .ref tt])), (rr, .inl (cB, zn z, .inr (.inr (.inr (.inr (zrf (zn z) ra)))))), (tt, .inl (cB, ztn z, .inr (.inr (.inr (.inr (zrf (ztn z) ta)))))), (q47, .inl (cA, zcnt (zwa z) (zn z), .inl (fun j9 => nI ((zrl z k) j9))))]) (pl := zpl cA ra (zrow (zwa z) (ziv z) (zgh z) (zpr z)) (zn z) ++ (zpl cA ta (zrow (ztr z) (ztd z) (ztp z) (ztf z)) (ztn z))) [0, 1, 2, 3] (by decide) rfl
                    have hw5 : ∀ (x0 : Nat → Nat), x0 = zrl z k → va_P (dC, dI) vwCl ([(mo, .inr (4, [.int (nI (zdy z)), .int (nI (zgu z)), .int (zpu z), .ref rr, .ref tt])), (rr, .inl (cB, zn z, .inr (.inr (.inr (.inr (zrf (zn z) ra)))))), (tt, .inl (cB, ztn z, .inr (.inr (.inr (.inr (zrf (ztn z) ta)))))), (q47, .inl (cA, zcnt (zwa z) (zn z), .inl (fun j9 => nI (x0 j9))))] ++ (zpl cA ra (zrow (zwa z) (ziv z) (zgh z) (zpr z)) (zn z) ++ (zpl cA ta (zrow (ztr z) (ztd z) (ztp z) (ztf z)) (ztn z)))) H ∧ va_D A ([(mo, .inr (4, [.int (nI (zdy z)), .int (nI (zgu z)), .int (zpu z), .ref rr, .ref tt])), (rr, .inl (cB, zn z, .inr (.inr (.inr (.inr (zrf (zn z) ra)))))), (tt, .inl (cB, ztn z, .inr (.inr (.inr (.inr (zrf (ztn z) ta)))))), (q47, .inl (cA, zcnt (zwa z) (zn z), .inl (fun j9 => nI (x0 j9))))] ++ (zpl cA ra (zrow (zwa z) (ziv z) (zgh z) (zpr z)) (zn z) ++ (zpl cA ta (zrow (ztr z) (ztd z) (ztp z) (ztf z)) (ztn z)))) := by
                      intro x0 h0; subst h0; exact ⟨hP, hD⟩
                    obtain ⟨hP, hD⟩ := hw5 (zrl z (zcnt (zwa z) (zn z))) (show (zrl z (zcnt (zwa z) (zn z))) = zrl z k from by (rw [show zcnt (zwa z) (zn z) = k from by omega]))
                    refine W.widen (k := 3) (n := 28) (by omega) (by omega) ?_
                    exact W.aret hx hb hr (Or.inr ⟨_, rfl⟩) (Or.inr ⟨_, rfl⟩) (fun t ht hW => ⟨⟨(), _, rfl, trivial, by rw [ht]; exact hP, hD⟩, hS.F ht⟩) hS.2.2 dX5_ranked_198
                  · skip
                    replace c_4 := mt (nI_leI (by omega) (by omega)).mpr c_4
                    refine lv_iconst (v := nI 0) hx hb dX5_ranked_146 (by decide) ?_
                    refine lv_istore (lv' := [(6, .int (nI 0)), (0, .ref mo), (1, .int (nI (zcnt (zwa z) (zn z)))), (2, .ref q47), (3, .ref q55), (5, .int (nI k))]) hx hb dX5_ranked_147 hl (by decide) rfl (fun ls hl => ?_)
                    refine lv_iconst (v := nI 1) hx hb dX5_ranked_149 (by decide) ?_
                    refine lv_istore (lv' := [(7, .int (nI 1)), (6, .int (nI 0)), (0, .ref mo), (1, .int (nI (zcnt (zwa z) (zn z)))), (2, .ref q47), (3, .ref q55), (5, .int (nI k))]) hx hb dX5_ranked_150 hl (by decide) rfl (fun ls hl => ?_)
                    have lp_152 : ∀ (f9 : Nat) (r : Nat) , (zn z - r) < f9 → (r ≤ zn z) → (1 ≤ r) → ∀ (H : Heap) (locs : List Loc), va_P (dC, dI) vwCl ([(mo, .inr (4, [.int (nI (zdy z)), .int (nI (zgu z)), .int (zpu z), .ref rr, .ref tt])), (rr, .inl (cB, zn z, .inr (.inr (.inr (.inr (zrf (zn z) ra)))))), (tt, .inl (cB, ztn z, .inr (.inr (.inr (.inr (zrf (ztn z) ta)))))), (q47, .inl (cA, zcnt (zwa z) (zn z), .inl (fun j9 => nI ((zrl z k) j9)))), (q55, .inl (cA, zn z, .inl (zwr z k)))] ++ (zpl cA ra (zrow (zwa z) (ziv z) (zgh z) (zpr z)) (zn z) ++ (zpl cA ta (zrow (ztr z) (ztd z) (ztp z) (ztf z)) (ztn z)))) H → va_D A ([(mo, .inr (4, [.int (nI (zdy z)), .int (nI (zgu z)), .int (zpu z), .ref rr, .ref tt])), (rr, .inl (cB, zn z, .inr (.inr (.inr (.inr (zrf (zn z) ra)))))), (tt, .inl (cB, ztn z, .inr (.inr (.inr (.inr (zrf (ztn z) ta)))))), (q47, .inl (cA, zcnt (zwa z) (zn z), .inl (fun j9 => nI ((zrl z k) j9)))), (q55, .inl (cA, zn z, .inl (zwr z k)))] ++ (zpl cA ra (zrow (zwa z) (ziv z) (zgh z) (zpr z)) (zn z) ++ (zpl cA ta (zrow (ztr z) (ztd z) (ztp z) (ztf z)) (ztn z)))) → va_S A s.heap H locs → ∀ (ls : Array Slot), lv_has ls 8 [(0, .ref mo), (1, .int (nI (zcnt (zwa z) (zn z)))), (2, .ref q47), (3, .ref q55), (5, .int (nI k)), (6, .int (nI (zbst (zwr z k) r))), (7, .int (nI r))] → W p l e ({ frames := 2, cells := 3, slots := 28, locals := 43 } : Room) s m args below meth c H locs 3 (zcnt (zwa z) (zn z) + zn z + 8) (MQ below (va_Qr (fun _ : Unit => True) (fun (_ : Unit) (q9 : Nat) t => va_P (dC, dI) vwCl ([(mo, .inr (4, [.int (nI (zdy z)), .int (nI (zgu z)), .int (zpu z), .ref rr, .ref tt])), (rr, .inl (cB, zn z, .inr (.inr (.inr (.inr (zrf (zn z) ra)))))), (tt, .inl (cB, ztn z, .inr (.inr (.inr (.inr (zrf (ztn z) ta)))))), (q9, .inl (cA, zcnt (zwa z) (zn z), .inl (fun j9 => nI ((zrl z (zcnt (zwa z) (zn z))) j9))))] ++ (zpl cA ra (zrow (zwa z) (ziv z) (zgh z) (zpr z)) (zn z) ++ (zpl cA ta (zrow (ztr z) (ztd z) (ztp z) (ztf z)) (ztn z)))) t.heap ∧ va_D A ([(mo, .inr (4, [.int (nI (zdy z)), .int (nI (zgu z)), .int (zpu z), .ref rr, .ref tt])), (rr, .inl (cB, zn z, .inr (.inr (.inr (.inr (zrf (zn z) ra)))))), (tt, .inl (cB, ztn z, .inr (.inr (.inr (.inr (zrf (ztn z) ta)))))), (q9, .inl (cA, zcnt (zwa z) (zn z), .inl (fun j9 => nI ((zrl z (zcnt (zwa z) (zn z))) j9))))] ++ (zpl cA ra (zrow (zwa z) (ziv z) (zgh z) (zpr z)) (zn z) ++ (zpl cA ta (zrow (ztr z) (ztd z) (ztp z) (ztf z)) (ztn z))))) A) args s 3 28 A) (F0 m 152 ls []) := by
                      intro f9
                      induction f9 with
                      | zero => intro r hm9; exact absurd hm9 (Nat.not_lt_zero _)
                      | succ f9 ih_152 =>
                        intro r hm9 hr hr1 H locs hP hD hS ls hl
                        have hb9 := zbst_lt (zwr z k) r (by omega)
                        refine lv_iload hx hb dX5_ranked_152 (lv_at hl 6 rfl) ?_
                        refine lv_aload_n hx hb dX5_ranked_154 rfl (lv_at hl 3 rfl) ?_
                        refine va_alen hx hb hK hP 4 0 rfl rfl (v := nI (zn z)) rfl dX5_ranked_155 ?_
                        refine lv_icmp_ge (tgt := 180) hx hb dX5_ranked_156 (by decide) (fun c_6 => ?_) (fun c_6 => ?_)
                        · skip
                          replace c_6 := (nI_leI (by omega) (by omega)).mp c_6
                          have hb8 : zbst (zwr z k) r = zat z k := by rw [show r = zn z from by omega]; exact zbst_at hz (by omega)
                          have ha8 := (zat_p hz (k := k) (by omega)).1
                          refine lv_aload_n hx hb dX5_ranked_180 rfl (lv_at hl 2 rfl) ?_
                          refine lv_iload hx hb dX5_ranked_181 (lv_at hl 4 rfl) ?_
                          refine lv_iload hx hb dX5_ranked_183 (lv_at hl 5 rfl) ?_
                          refine zz_top (congrArg nI hb8) ?_
                          refine zz_ast hx hb hK hP hD hS 3 (f := zrl z k) rfl rfl (by omega) (by omega) dX5_ranked_185 (fun H locs hP hD hS => ?_)
                          have hP : va_P (dC, dI) vwCl ([(mo, .inr (4, [.int (nI (zdy z)), .int (nI (zgu z)), .int (zpu z), .ref rr, .ref tt])), (rr, .inl (cB, zn z, .inr (.inr (.inr (.inr (zrf (zn z) ra)))))), (tt, .inl (cB, ztn z, .inr (.inr (.inr (.inr (zrf (ztn z) ta)))))), (q47, .inl (cA, zcnt (zwa z) (zn z), .inl (fun j9 => nI ((zup (zrl z k) k (zat z k)) j9)))), (q55, .inl (cA, zn z, .inl (zwr z k)))] ++ (zpl cA ra (zrow (zwa z) (ziv z) (zgh z) (zpr z)) (zn z) ++ (zpl cA ta (zrow (ztr z) (ztd z) (ztp z) (ztf z)) (ztn z)))) H := hP
                          have hD : va_D A ([(mo, .inr (4, [.int (nI (zdy z)), .int (nI (zgu z)), .int (zpu z), .ref rr, .ref tt])), (rr, .inl (cB, zn z, .inr (.inr (.inr (.inr (zrf (zn z) ra)))))), (tt, .inl (cB, ztn z, .inr (.inr (.inr (.inr (zrf (ztn z) ta)))))), (q47, .inl (cA, zcnt (zwa z) (zn z), .inl (fun j9 => nI ((zup (zrl z k) k (zat z k)) j9)))), (q55, .inl (cA, zn z, .inl (zwr z k)))] ++ (zpl cA ra (zrow (zwa z) (ziv z) (zgh z) (zpr z)) (zn z) ++ (zpl cA ta (zrow (ztr z) (ztd z) (ztp z) (ztf z)) (ztn z)))) := hD
                          refine lv_aload_n hx hb dX5_ranked_186 rfl (lv_at hl 3 rfl) ?_
                          refine lv_iload hx hb dX5_ranked_187 (lv_at hl 5 rfl) ?_
                          refine zz_top (congrArg nI hb8) ?_
                          refine lv_iconst (v := (-1)) hx hb dX5_ranked_189 (by decide) ?_
                          refine zz_astI hx hb hK hP hD hS 4 (f := zwr z k) rfl rfl (by omega) (by omega) dX5_ranked_190 (fun H locs hP hD hS => ?_)
                          have hP : va_P (dC, dI) vwCl ([(mo, .inr (4, [.int (nI (zdy z)), .int (nI (zgu z)), .int (zpu z), .ref rr, .ref tt])), (rr, .inl (cB, zn z, .inr (.inr (.inr (.inr (zrf (zn z) ra)))))), (tt, .inl (cB, ztn z, .inr (.inr (.inr (.inr (zrf (ztn z) ta)))))), (q47, .inl (cA, zcnt (zwa z) (zn z), .inl (fun j9 => nI ((zup (zrl z k) k (zat z k)) j9)))), (q55, .inl (cA, zn z, .inl (upd (zwr z k) (zat z k) (-1))))] ++ (zpl cA ra (zrow (zwa z) (ziv z) (zgh z) (zpr z)) (zn z) ++ (zpl cA ta (zrow (ztr z) (ztd z) (ztp z) (ztf z)) (ztn z)))) H := hP
                          have hD : va_D A ([(mo, .inr (4, [.int (nI (zdy z)), .int (nI (zgu z)), .int (zpu z), .ref rr, .ref tt])), (rr, .inl (cB, zn z, .inr (.inr (.inr (.inr (zrf (zn z) ra)))))), (tt, .inl (cB, ztn z, .inr (.inr (.inr (.inr (zrf (ztn z) ta)))))), (q47, .inl (cA, zcnt (zwa z) (zn z), .inl (fun j9 => nI ((zup (zrl z k) k (zat z k)) j9)))), (q55, .inl (cA, zn z, .inl (upd (zwr z k) (zat z k) (-1))))] ++ (zpl cA ra (zrow (zwa z) (ziv z) (zgh z) (zpr z)) (zn z) ++ (zpl cA ta (zrow (ztr z) (ztd z) (ztp z) (ztf z)) (ztn z)))) := hD
                          refine lv_iinc (v := nI (k + 1)) (lv' := [(5, .int (nI (k + 1))), (0, .ref mo), (1, .int (nI (zcnt (zwa z) (zn z)))), (2, .ref q47), (3, .ref q55), (6, .int (nI (zbst (zwr z k) r))), (7, .int (nI r))]) hx hb dX5_ranked_191 hl (k := 4) rfl (nI_1 _) (by decide) rfl (fun ls hl => ?_)
                          refine lv_goto (tgt := 140) hx hb dX5_ranked_194 (by decide) ?_
                          have hl := lv_sub (l' := [(0, .ref mo), (1, .int (nI (zcnt (zwa z) (zn z)))), (2, .ref q47), (3, .ref q55), (5, .int (nI (k + 1)))]) hl [1, 2, 3, 4, 0] rfl
                          have hw7 : ∀ (x0 : Nat → Nat) (x1 : Nat → Int32), x0 = zup (zrl z k) k (zat z k) → x1 = upd (zwr z k) (zat z k) (-1) → va_P (dC, dI) vwCl ([(mo, .inr (4, [.int (nI (zdy z)), .int (nI (zgu z)), .int (zpu z), .ref rr, .ref tt])), (rr, .inl (cB, zn z, .inr (.inr (.inr (.inr (zrf (zn z) ra)))))), (tt, .inl (cB, ztn z, .inr (.inr (.inr (.inr (zrf (ztn z) ta)))))), (q47, .inl (cA, zcnt (zwa z) (zn z), .inl (fun j9 => nI (x0 j9)))), (q55, .inl (cA, zn z, .inl x1))] ++ (zpl cA ra (zrow (zwa z) (ziv z) (zgh z) (zpr z)) (zn z) ++ (zpl cA ta (zrow (ztr z) (ztd z) (ztp z) (ztf z)) (ztn z)))) H ∧ va_D A ([(mo, .inr (4, [.int (nI (zdy z)), .int (nI (zgu z)), .int (zpu z), .ref rr, .ref tt])), (rr, .inl (cB, zn z, .inr (.inr (.inr (.inr (zrf (zn z) ra)))))), (tt, .inl (cB, ztn z, .inr (.inr (.inr (.inr (zrf (ztn z) ta)))))), (q47, .inl (cA, zcnt (zwa z) (zn z), .inl (fun j9 => nI (x0 j9)))), (q55, .inl (cA, zn z, .inl x1))] ++ (zpl cA ra (zrow (zwa z) (ziv z) (zgh z) (zpr z)) (zn z) ++ (zpl cA ta (zrow (ztr z) (ztd z) (ztp z) (ztf z)) (ztn z)))) := by
                            intro x0 x1 h0 h1; subst h0; subst h1; exact ⟨hP, hD⟩
                          obtain ⟨hP, hD⟩ := hw7 (zrl z (k + 1)) (zwr z (k + 1)) (show (zrl z (k + 1)) = zup (zrl z k) k (zat z k) from by first | exact (zrl_0 z).symm | exact (zrl_s rfl).symm) (show (zwr z (k + 1)) = upd (zwr z k) (zat z k) (-1) from by first | (rw [show i = zn z from by omega]; exact (zwr_0 z).symm) | exact (zwr_s hz (by omega)).symm)
                          refine W.widen (k := 3) (n := zcnt (zwa z) (zn z) + zn z + 8) (by omega) (by omega) ?_
                          exact ih_140 (k + 1) (by omega) (by first | assumption | omega) _ _ hP hD hS _ hl
                        · skip
                          replace c_6 := mt (nI_leI (by omega) (by omega)).mpr c_6
                          refine lv_aload_n hx hb dX5_ranked_159 rfl (lv_at hl 3 rfl) ?_
                          refine lv_iload hx hb dX5_ranked_160 (lv_at hl 6 rfl) ?_
                          refine zz_aldI hx hb hK hP 4 (f := zwr z k) rfl rfl (by omega) (by omega) dX5_ranked_162 ?_
                          refine lv_aload_n hx hb dX5_ranked_163 rfl (lv_at hl 3 rfl) ?_
                          refine lv_iload hx hb dX5_ranked_164 (lv_at hl 5 rfl) ?_
                          refine zz_aldI hx hb hK hP 4 (f := zwr z k) rfl rfl (by omega) (by omega) dX5_ranked_166 ?_
                          refine lv_icmp_le (tgt := 174) hx hb dX5_ranked_167 (by decide) (fun c_8 => ?_) (fun c_8 => ?_)
                          · skip
                            refine lv_iinc (v := nI (r + 1)) (lv' := [(7, .int (nI (r + 1))), (0, .ref mo), (1, .int (nI (zcnt (zwa z) (zn z)))), (2, .ref q47), (3, .ref q55), (5, .int (nI k)), (6, .int (nI (zbst (zwr z k) r)))]) hx hb dX5_ranked_174 hl (k := 6) rfl (nI_1 _) (by decide) rfl (fun ls hl => ?_)
                            refine lv_goto (tgt := 152) hx hb dX5_ranked_177 (by decide) ?_
                            have hl := lv_sub (l' := [(0, .ref mo), (1, .int (nI (zcnt (zwa z) (zn z)))), (2, .ref q47), (3, .ref q55), (5, .int (nI k)), (6, .int (nI (zbst (zwr z k) r))), (7, .int (nI (r + 1)))]) hl [1, 2, 3, 4, 5, 6, 0] rfl
                            have hl9 : ∀ (x6 : Int32), x6 = nI (zbst (zwr z k) r) → lv_has ls 8 [(0, .ref mo), (1, .int (nI (zcnt (zwa z) (zn z)))), (2, .ref q47), (3, .ref q55), (5, .int (nI k)), (6, .int x6), (7, .int (nI (r + 1)))] := by
                              intro x6 h6; subst h6; exact hl
                            have hl := hl9 (nI (zbst (zwr z k) (r + 1))) (congrArg nI (show zbst (zwr z k) (r + 1) = zbst (zwr z k) r from by first | exact zbst_1 _ | exact (zbst_s0 (by assumption)).symm | exact (zbst_s1 (by assumption)).symm))
                            refine W.widen (k := 3) (n := zcnt (zwa z) (zn z) + zn z + 8) (by omega) (by omega) ?_
                            exact ih_152 (r + 1) (by omega) (by first | assumption | omega) (by first | assumption | omega) _ _ hP hD hS _ hl
                          · skip
                            refine lv_iload hx hb dX5_ranked_170 (lv_at hl 6 rfl) ?_
                            refine lv_istore (lv' := [(6, .int (nI r)), (0, .ref mo), (1, .int (nI (zcnt (zwa z) (zn z)))), (2, .ref q47), (3, .ref q55), (5, .int (nI k)), (7, .int (nI r))]) hx hb dX5_ranked_172 hl (by decide) rfl (fun ls hl => ?_)
                            refine lv_iinc (v := nI (r + 1)) (lv' := [(7, .int (nI (r + 1))), (6, .int (nI r)), (0, .ref mo), (1, .int (nI (zcnt (zwa z) (zn z)))), (2, .ref q47), (3, .ref q55), (5, .int (nI k))]) hx hb dX5_ranked_174 hl (k := 6) rfl (nI_1 _) (by decide) rfl (fun ls hl => ?_)
                            refine lv_goto (tgt := 152) hx hb dX5_ranked_177 (by decide) ?_
                            have hl := lv_sub (l' := [(0, .ref mo), (1, .int (nI (zcnt (zwa z) (zn z)))), (2, .ref q47), (3, .ref q55), (5, .int (nI k)), (6, .int (nI r)), (7, .int (nI (r + 1)))]) hl [2, 3, 4, 5, 6, 1, 0] rfl
                            have hl10 : ∀ (x6 : Int32), x6 = nI r → lv_has ls 8 [(0, .ref mo), (1, .int (nI (zcnt (zwa z) (zn z)))), (2, .ref q47), (3, .ref q55), (5, .int (nI k)), (6, .int x6), (7, .int (nI (r + 1)))] := by
                              intro x6 h6; subst h6; exact hl
                            have hl := hl10 (nI (zbst (zwr z k) (r + 1))) (congrArg nI (show zbst (zwr z k) (r + 1) = r from by first | exact zbst_1 _ | exact (zbst_s0 (by assumption)).symm | exact (zbst_s1 (by assumption)).symm))
                            refine W.widen (k := 3) (n := zcnt (zwa z) (zn z) + zn z + 8) (by omega) (by omega) ?_
                            exact ih_152 (r + 1) (by omega) (by first | assumption | omega) (by first | assumption | omega) _ _ hP hD hS _ hl
                    have hl := lv_sub (l' := [(0, .ref mo), (1, .int (nI (zcnt (zwa z) (zn z)))), (2, .ref q47), (3, .ref q55), (5, .int (nI k)), (6, .int (nI 0)), (7, .int (nI 1))]) hl [2, 3, 4, 5, 6, 1, 0] rfl
                    have hl11 : ∀ (x6 : Int32), x6 = nI 0 → lv_has ls 8 [(0, .ref mo), (1, .int (nI (zcnt (zwa z) (zn z)))), (2, .ref q47), (3, .ref q55), (5, .int (nI k)), (6, .int x6), (7, .int (nI 1))] := by
                      intro x6 h6; subst h6; exact hl
                    have hl := hl11 (nI (zbst (zwr z k) 1)) (congrArg nI (show zbst (zwr z k) 1 = 0 from by first | exact zbst_1 _ | exact (zbst_s0 (by assumption)).symm | exact (zbst_s1 (by assumption)).symm))
                    refine W.widen (k := 3) (n := zcnt (zwa z) (zn z) + zn z + 8) (by omega) (by omega) ?_
                    exact lp_152 _ 1 (Nat.lt_succ_self _) (by first | assumption | omega) (by first | assumption | omega) _ _ hP hD hS _ hl
              have hl := lv_sub (l' := [(0, .ref mo), (1, .int (nI (zcnt (zwa z) (zn z)))), (2, .ref q47), (3, .ref q55), (5, .int (nI 0))]) hl [1, 2, 3, 4, 0] rfl
              have hw12 : ∀ (x0 : Nat → Nat) (x1 : Nat → Int32), x0 = z0 → x1 = zwo z i → va_P (dC, dI) vwCl ([(mo, .inr (4, [.int (nI (zdy z)), .int (nI (zgu z)), .int (zpu z), .ref rr, .ref tt])), (rr, .inl (cB, zn z, .inr (.inr (.inr (.inr (zrf (zn z) ra)))))), (tt, .inl (cB, ztn z, .inr (.inr (.inr (.inr (zrf (ztn z) ta)))))), (q47, .inl (cA, zcnt (zwa z) (zn z), .inl (fun j9 => nI (x0 j9)))), (q55, .inl (cA, zn z, .inl x1))] ++ (zpl cA ra (zrow (zwa z) (ziv z) (zgh z) (zpr z)) (zn z) ++ (zpl cA ta (zrow (ztr z) (ztd z) (ztp z) (ztf z)) (ztn z)))) H ∧ va_D A ([(mo, .inr (4, [.int (nI (zdy z)), .int (nI (zgu z)), .int (zpu z), .ref rr, .ref tt])), (rr, .inl (cB, zn z, .inr (.inr (.inr (.inr (zrf (zn z) ra)))))), (tt, .inl (cB, ztn z, .inr (.inr (.inr (.inr (zrf (ztn z) ta)))))), (q47, .inl (cA, zcnt (zwa z) (zn z), .inl (fun j9 => nI (x0 j9)))), (q55, .inl (cA, zn z, .inl x1))] ++ (zpl cA ra (zrow (zwa z) (ziv z) (zgh z) (zpr z)) (zn z) ++ (zpl cA ta (zrow (ztr z) (ztd z) (ztp z) (ztf z)) (ztn z)))) := by
                intro x0 x1 h0 h1; subst h0; subst h1; exact ⟨hP, hD⟩
              obtain ⟨hP, hD⟩ := hw12 (zrl z 0) (zwr z 0) (show (zrl z 0) = z0 from by first | exact (zrl_0 z).symm | exact (zrl_s rfl).symm) (show (zwr z 0) = zwo z i from by first | (rw [show i = zn z from by omega]; exact (zwr_0 z).symm) | exact (zwr_s hz (by omega)).symm)
              refine W.widen (k := 3) (n := zcnt (zwa z) (zn z) + zn z + 8) (by omega) (by omega) ?_
              exact lp_140 _ 0 (Nat.lt_succ_self _) (by first | assumption | omega) _ _ hP hD hS _ hl
            · skip
              replace c_3 := mt (nI_leI (by omega) (by omega)).mpr c_3
              have hw9 := o4 i
              have hi9 := o5 i
              have hg9 := o6 i
              have hp9 := o7 i
              have hv9 := zv_le (i := ziv z i) hw9 hg9 (zb_le (zdy z))
              refine lv_aload_n hx hb dX5_ranked_77 rfl (lv_at hl 3 rfl) ?_
              refine lv_iload hx hb dX5_ranked_78 (lv_at hl 5 rfl) ?_
              refine lv_aload_n hx hb dX5_ranked_80 rfl (lv_at hl 0 rfl) ?_
              refine va_get (D := (dC, dI)) (ci := 4) (v := .ref rr) (C := RX5) (T := TX5) (N := 5) hx hb hts i_X5_ranked_X5 hown hK hP 0 rfl rfl 3 (by decide) (hts (.fieldLink RX5 15 "RuinViewsLaw$Sim" "ruins" "[[I") (List.mem_of_getElem? (i := 1) rfl)) (fun _ h9 => h9) rfl dX5_ranked_81 ?_
              refine lv_iload hx hb dX5_ranked_84 (lv_at hl 5 rfl) ?_
              refine zz_aald hx hb hK hP 1 (f := zrf (zn z) ra) rfl rfl (j := i) (v := ra i) (by omega) (by omega) (zrf_g (by omega)) dX5_ranked_86 ?_
              refine lv_iconst (v := nI 0) hx hb dX5_ranked_87 (by decide) ?_
              refine zp_ld hx hb hK hP ([(mo, .inr (4, [.int (nI (zdy z)), .int (nI (zgu z)), .int (zpu z), .ref rr, .ref tt])), (rr, .inl (cB, zn z, .inr (.inr (.inr (.inr (zrf (zn z) ra)))))), (tt, .inl (cB, ztn z, .inr (.inr (.inr (.inr (zrf (ztn z) ta)))))), (q47, .inl (cA, zcnt (zwa z) (zn z), .inl (fun j9 => nI (z0 j9)))), (q55, .inl (cA, zn z, .inl (zwo z i)))] : va_W) (zpl cA ta (zrow (ztr z) (ztd z) (ztp z) (ztf z)) (ztn z) : va_W) (ra := ra) (F := zrow (zwa z) (ziv z) (zgh z) (zpr z)) (n := (zn z)) (r := i) (k := 0) (v := nI ((zwa z) i)) rfl rfl (by omega) (by decide) rfl dX5_ranked_88 ?_
              refine lv_if_ne (tgt := 96) hx hb dX5_ranked_89 (by decide) (fun c_13 => ?_) (fun c_13 => ?_)
              · skip
                replace c_13 := mt (zz_eq0 (by omega)).mpr c_13
                refine lv_sipush (v := nI 1000) hx hb dX5_ranked_96 (by decide) ?_
                refine lv_aload_n hx hb dX5_ranked_99 rfl (lv_at hl 0 rfl) ?_
                refine lv_iload hx hb dX5_ranked_100 (lv_at hl 5 rfl) ?_
                refine lv_iload hx hb dX5_ranked_102 (lv_at hl 4 rfl) ?_
                have hPc := hP.part (cx := [(mo, .inr (4, [.int (nI (zdy z)), .int (nI (zgu z)), .int (zpu z), .ref rr, .ref tt])), (rr, .inl (cB, zn z, .inr (.inr (.inr (.inr (zrf (zn z) ra)))))), (tt, .inl (cB, ztn z, .inr (.inr (.inr (.inr (zrf (ztn z) ta))))))]) (pl := zpl cA ra (zrow (zwa z) (ziv z) (zgh z) (zpr z)) (zn z) ++ (zpl cA ta (zrow (ztr z) (ztd z) (ztp z) (ztf z)) (ztn z))) [0, 1, 2] rfl
                refine vp_callSi (W.runV (As := [.int (nI i),.int (nI (zb (zdy z)))]) (rest := [.int (nI 1000), .int (nI i), .ref q55]) ⟨hx, hb, hml, hown, hts⟩ (c_X5_view l dC dI cA cB mo rr tt ra ta z i (zb (zdy z)) (by first | assumption | omega) (by first | assumption | omega)) (cwV 2 hts gX5_ranked_X5_view rfl rfl rfl (by decide +kernel) ⟨Nat.le_of_ble_eq_true rfl, Nat.le_of_ble_eq_true rfl⟩) ⟨fun a U g mk q => by obtain ⟨q0, qP, qK⟩ := q; exact ⟨q0, qP, va_K.moved (u := U) (U := U.calling g mk a) (Vm.Alike.refl U.vm) qK⟩, va_recv hK hP (ci := 4) (q0 := 0) rfl rfl, fun U hU hW => ⟨rfl, by rw [hU]; exact hPc, va_K.moved hW.alike hK2⟩⟩ rfl rfl hl.1 rfl (lv_room (Nat.le_of_ble_eq_true rfl)) dX5_ranked_104 ⟨by show 3 + 0 ≤ 3; omega, by show (zcnt (zwa z) (zn z) + zn z + 8) + 0 ≤ 28; omega⟩) (fun r_14 hw_14 => ?_)
                subst hw_14
                refine lv_imul hx hb dX5_ranked_107 ?_
                refine zz_top (pk_mul _ _) ?_
                refine lv_bipush (v := nI 100) hx hb dX5_ranked_108 (by decide) ?_
                refine lv_bipush (v := nI 9) hx hb dX5_ranked_110 (by decide) ?_
                refine lv_aload_n hx hb dX5_ranked_112 rfl (lv_at hl 0 rfl) ?_
                refine va_get (D := (dC, dI)) (ci := 4) (v := .ref rr) (C := RX5) (T := TX5) (N := 5) hx hb hts i_X5_ranked_X5 hown hK hP 0 rfl rfl 3 (by decide) (hts (.fieldLink RX5 15 "RuinViewsLaw$Sim" "ruins" "[[I") (List.mem_of_getElem? (i := 1) rfl)) (fun _ h9 => h9) rfl dX5_ranked_113 ?_
                refine lv_iload hx hb dX5_ranked_116 (lv_at hl 5 rfl) ?_
                refine zz_aald hx hb hK hP 1 (f := zrf (zn z) ra) rfl rfl (j := i) (v := ra i) (by omega) (by omega) (zrf_g (by omega)) dX5_ranked_118 ?_
                refine lv_iconst (v := nI 3) hx hb dX5_ranked_119 (by decide) ?_
                refine zp_ld hx hb hK hP ([(mo, .inr (4, [.int (nI (zdy z)), .int (nI (zgu z)), .int (zpu z), .ref rr, .ref tt])), (rr, .inl (cB, zn z, .inr (.inr (.inr (.inr (zrf (zn z) ra)))))), (tt, .inl (cB, ztn z, .inr (.inr (.inr (.inr (zrf (ztn z) ta)))))), (q47, .inl (cA, zcnt (zwa z) (zn z), .inl (fun j9 => nI (z0 j9)))), (q55, .inl (cA, zn z, .inl (zwo z i)))] : va_W) (zpl cA ta (zrow (ztr z) (ztd z) (ztp z) (ztf z)) (ztn z) : va_W) (ra := ra) (F := zrow (zwa z) (ziv z) (zgh z) (zpr z)) (n := (zn z)) (r := i) (k := 3) (v := nI ((zpr z) i)) rfl rfl (by omega) (by decide) rfl dX5_ranked_120 ?_
                refine lv_isub hx hb dX5_ranked_121 ?_
                refine zz_top (pk_sub (by omega)) ?_
                refine lv_imul hx hb dX5_ranked_122 ?_
                refine zz_top (pk_mul _ _) ?_
                refine lv_iadd hx hb dX5_ranked_123 ?_
                refine zz_top (nI_add _ _) ?_
                refine lv_bipush (v := nI 10) hx hb dX5_ranked_124 (by decide) ?_
                refine lv_iadd hx hb dX5_ranked_126 ?_
                refine zz_top (nI_add _ _) ?_
                refine lv_iload hx hb dX5_ranked_127 (lv_at hl 5 rfl) ?_
                refine lv_isub hx hb dX5_ranked_129 ?_
                refine zz_top (pk_sub (by omega)) ?_
                refine zz_astI hx hb hK hP hD hS 4 (f := zwo z i) rfl rfl (by omega) (by omega) dX5_ranked_130 (fun H locs hP hD hS => ?_)
                have hP : va_P (dC, dI) vwCl ([(mo, .inr (4, [.int (nI (zdy z)), .int (nI (zgu z)), .int (zpu z), .ref rr, .ref tt])), (rr, .inl (cB, zn z, .inr (.inr (.inr (.inr (zrf (zn z) ra)))))), (tt, .inl (cB, ztn z, .inr (.inr (.inr (.inr (zrf (ztn z) ta)))))), (q47, .inl (cA, zcnt (zwa z) (zn z), .inl (fun j9 => nI (z0 j9)))), (q55, .inl (cA, zn z, .inl (upd (zwo z i) i (nI ((((1000 * (zv (zwa z i) (ziv z i) (zgh z i) (zb (zdy z)))) + (100 * (9 - ((zpr z) i)))) + 10) - i)))))] ++ (zpl cA ra (zrow (zwa z) (ziv z) (zgh z) (zpr z)) (zn z) ++ (zpl cA ta (zrow (ztr z) (ztd z) (ztp z) (ztf z)) (ztn z)))) H := hP
                have hD : va_D A ([(mo, .inr (4, [.int (nI (zdy z)), .int (nI (zgu z)), .int (zpu z), .ref rr, .ref tt])), (rr, .inl (cB, zn z, .inr (.inr (.inr (.inr (zrf (zn z) ra)))))), (tt, .inl (cB, ztn z, .inr (.inr (.inr (.inr (zrf (ztn z) ta)))))), (q47, .inl (cA, zcnt (zwa z) (zn z), .inl (fun j9 => nI (z0 j9)))), (q55, .inl (cA, zn z, .inl (upd (zwo z i) i (nI ((((1000 * (zv (zwa z i) (ziv z i) (zgh z i) (zb (zdy z)))) + (100 * (9 - ((zpr z) i)))) + 10) - i)))))] ++ (zpl cA ra (zrow (zwa z) (ziv z) (zgh z) (zpr z)) (zn z) ++ (zpl cA ta (zrow (ztr z) (ztd z) (ztp z) (ztf z)) (ztn z)))) := hD
                refine lv_iinc (v := nI (i + 1)) (lv' := [(5, .int (nI (i + 1))), (0, .ref mo), (1, .int (nI (zcnt (zwa z) (zn z)))), (2, .ref q47), (3, .ref q55), (4, .int (nI (zb (zdy z))))]) hx hb dX5_ranked_131 hl (k := 5) rfl (nI_1 _) (by decide) rfl (fun ls hl => ?_)
                refine lv_goto (tgt := 67) hx hb dX5_ranked_134 (by decide) ?_
                have hl := lv_sub (l' := [(0, .ref mo), (1, .int (nI (zcnt (zwa z) (zn z)))), (2, .ref q47), (3, .ref q55), (4, .int (nI (zb (zdy z)))), (5, .int (nI (i + 1)))]) hl [1, 2, 3, 4, 5, 0] rfl
                have hw15 : ∀ (x0 : Nat → Int32), x0 = upd (zwo z i) i (nI ((((1000 * (zv (zwa z i) (ziv z i) (zgh z i) (zb (zdy z)))) + (100 * (9 - ((zpr z) i)))) + 10) - i)) → va_P (dC, dI) vwCl ([(mo, .inr (4, [.int (nI (zdy z)), .int (nI (zgu z)), .int (zpu z), .ref rr, .ref tt])), (rr, .inl (cB, zn z, .inr (.inr (.inr (.inr (zrf (zn z) ra)))))), (tt, .inl (cB, ztn z, .inr (.inr (.inr (.inr (zrf (ztn z) ta)))))), (q47, .inl (cA, zcnt (zwa z) (zn z), .inl (fun j9 => nI (z0 j9)))), (q55, .inl (cA, zn z, .inl x0))] ++ (zpl cA ra (zrow (zwa z) (ziv z) (zgh z) (zpr z)) (zn z) ++ (zpl cA ta (zrow (ztr z) (ztd z) (ztp z) (ztf z)) (ztn z)))) H ∧ va_D A ([(mo, .inr (4, [.int (nI (zdy z)), .int (nI (zgu z)), .int (zpu z), .ref rr, .ref tt])), (rr, .inl (cB, zn z, .inr (.inr (.inr (.inr (zrf (zn z) ra)))))), (tt, .inl (cB, ztn z, .inr (.inr (.inr (.inr (zrf (ztn z) ta)))))), (q47, .inl (cA, zcnt (zwa z) (zn z), .inl (fun j9 => nI (z0 j9)))), (q55, .inl (cA, zn z, .inl x0))] ++ (zpl cA ra (zrow (zwa z) (ziv z) (zgh z) (zpr z)) (zn z) ++ (zpl cA ta (zrow (ztr z) (ztd z) (ztp z) (ztf z)) (ztn z)))) := by
                  intro x0 h0; subst h0; exact ⟨hP, hD⟩
                obtain ⟨hP, hD⟩ := hw15 (zwo z (i + 1)) (show (zwo z (i + 1)) = upd (zwo z i) i (nI ((((1000 * (zv (zwa z i) (ziv z i) (zgh z i) (zb (zdy z)))) + (100 * (9 - ((zpr z) i)))) + 10) - i)) from by first | exact (zwo_0 _).symm | exact (zwo_s (by unfold zwt; first | rw [if_pos (by assumption)] | rw [if_neg (by assumption)])).symm)
                refine W.widen (k := 3) (n := zcnt (zwa z) (zn z) + zn z + 8) (by omega) (by omega) ?_
                exact ih_67 (i + 1) (by omega) (by first | assumption | omega) _ _ hP hD hS _ hl
              · skip
                replace c_13 := (zz_eq0 (by omega)).mp c_13
                refine lv_iconst (v := (-1)) hx hb dX5_ranked_92 (by decide) ?_
                refine lv_goto (tgt := 130) hx hb dX5_ranked_93 (by decide) ?_
                refine zz_astI hx hb hK hP hD hS 4 (f := zwo z i) rfl rfl (by omega) (by omega) dX5_ranked_130 (fun H locs hP hD hS => ?_)
                have hP : va_P (dC, dI) vwCl ([(mo, .inr (4, [.int (nI (zdy z)), .int (nI (zgu z)), .int (zpu z), .ref rr, .ref tt])), (rr, .inl (cB, zn z, .inr (.inr (.inr (.inr (zrf (zn z) ra)))))), (tt, .inl (cB, ztn z, .inr (.inr (.inr (.inr (zrf (ztn z) ta)))))), (q47, .inl (cA, zcnt (zwa z) (zn z), .inl (fun j9 => nI (z0 j9)))), (q55, .inl (cA, zn z, .inl (upd (zwo z i) i (-1))))] ++ (zpl cA ra (zrow (zwa z) (ziv z) (zgh z) (zpr z)) (zn z) ++ (zpl cA ta (zrow (ztr z) (ztd z) (ztp z) (ztf z)) (ztn z)))) H := hP
                have hD : va_D A ([(mo, .inr (4, [.int (nI (zdy z)), .int (nI (zgu z)), .int (zpu z), .ref rr, .ref tt])), (rr, .inl (cB, zn z, .inr (.inr (.inr (.inr (zrf (zn z) ra)))))), (tt, .inl (cB, ztn z, .inr (.inr (.inr (.inr (zrf (ztn z) ta)))))), (q47, .inl (cA, zcnt (zwa z) (zn z), .inl (fun j9 => nI (z0 j9)))), (q55, .inl (cA, zn z, .inl (upd (zwo z i) i (-1))))] ++ (zpl cA ra (zrow (zwa z) (ziv z) (zgh z) (zpr z)) (zn z) ++ (zpl cA ta (zrow (ztr z) (ztd z) (ztp z) (ztf z)) (ztn z)))) := hD
                refine lv_iinc (v := nI (i + 1)) (lv' := [(5, .int (nI (i + 1))), (0, .ref mo), (1, .int (nI (zcnt (zwa z) (zn z)))), (2, .ref q47), (3, .ref q55), (4, .int (nI (zb (zdy z))))]) hx hb dX5_ranked_131 hl (k := 5) rfl (nI_1 _) (by decide) rfl (fun ls hl => ?_)
                refine lv_goto (tgt := 67) hx hb dX5_ranked_134 (by decide) ?_
                have hl := lv_sub (l' := [(0, .ref mo), (1, .int (nI (zcnt (zwa z) (zn z)))), (2, .ref q47), (3, .ref q55), (4, .int (nI (zb (zdy z)))), (5, .int (nI (i + 1)))]) hl [1, 2, 3, 4, 5, 0] rfl
                have hw16 : ∀ (x0 : Nat → Int32), x0 = upd (zwo z i) i (-1) → va_P (dC, dI) vwCl ([(mo, .inr (4, [.int (nI (zdy z)), .int (nI (zgu z)), .int (zpu z), .ref rr, .ref tt])), (rr, .inl (cB, zn z, .inr (.inr (.inr (.inr (zrf (zn z) ra)))))), (tt, .inl (cB, ztn z, .inr (.inr (.inr (.inr (zrf (ztn z) ta)))))), (q47, .inl (cA, zcnt (zwa z) (zn z), .inl (fun j9 => nI (z0 j9)))), (q55, .inl (cA, zn z, .inl x0))] ++ (zpl cA ra (zrow (zwa z) (ziv z) (zgh z) (zpr z)) (zn z) ++ (zpl cA ta (zrow (ztr z) (ztd z) (ztp z) (ztf z)) (ztn z)))) H ∧ va_D A ([(mo, .inr (4, [.int (nI (zdy z)), .int (nI (zgu z)), .int (zpu z), .ref rr, .ref tt])), (rr, .inl (cB, zn z, .inr (.inr (.inr (.inr (zrf (zn z) ra)))))), (tt, .inl (cB, ztn z, .inr (.inr (.inr (.inr (zrf (ztn z) ta)))))), (q47, .inl (cA, zcnt (zwa z) (zn z), .inl (fun j9 => nI (z0 j9)))), (q55, .inl (cA, zn z, .inl x0))] ++ (zpl cA ra (zrow (zwa z) (ziv z) (zgh z) (zpr z)) (zn z) ++ (zpl cA ta (zrow (ztr z) (ztd z) (ztp z) (ztf z)) (ztn z)))) := by
                  intro x0 h0; subst h0; exact ⟨hP, hD⟩
                obtain ⟨hP, hD⟩ := hw16 (zwo z (i + 1)) (show (zwo z (i + 1)) = upd (zwo z i) i (-1) from by first | exact (zwo_0 _).symm | exact (zwo_s (by unfold zwt; first | rw [if_pos (by assumption)] | rw [if_neg (by assumption)])).symm)
                refine W.widen (k := 3) (n := zcnt (zwa z) (zn z) + zn z + 8) (by omega) (by omega) ?_
                exact ih_67 (i + 1) (by omega) (by first | assumption | omega) _ _ hP hD hS _ hl
        have hl := lv_sub (l' := [(0, .ref mo), (1, .int (nI (zcnt (zwa z) i))), (2, .ref q47), (3, .ref q55), (4, .int (nI (zb (zdy z)))), (5, .int (nI 0))]) hl [4, 5, 3, 2, 1, 0] rfl
        have hl17 : ∀ (x1 : Int32), x1 = nI (zcnt (zwa z) i) → lv_has ls 8 [(0, .ref mo), (1, .int x1), (2, .ref q47), (3, .ref q55), (4, .int (nI (zb (zdy z)))), (5, .int (nI 0))] := by
          intro x1 h1; subst h1; exact hl
        have hl := hl17 (nI (zcnt (zwa z) (zn z))) (congrArg nI (show zcnt (zwa z) (zn z) = zcnt (zwa z) i from by (rw [show zn z = i from by omega])))
        have hw18 : ∀ (x0 : Nat) (x1 : Nat → Int32), x0 = zcnt (zwa z) i → x1 = (fun j9 => nI (z0 j9)) → va_P (dC, dI) vwCl ([(mo, .inr (4, [.int (nI (zdy z)), .int (nI (zgu z)), .int (zpu z), .ref rr, .ref tt])), (rr, .inl (cB, zn z, .inr (.inr (.inr (.inr (zrf (zn z) ra)))))), (tt, .inl (cB, ztn z, .inr (.inr (.inr (.inr (zrf (ztn z) ta)))))), (q47, .inl (cA, x0, .inl (fun j9 => nI (z0 j9)))), (q55, .inl (cA, zn z, .inl x1))] ++ (zpl cA ra (zrow (zwa z) (ziv z) (zgh z) (zpr z)) (zn z) ++ (zpl cA ta (zrow (ztr z) (ztd z) (ztp z) (ztf z)) (ztn z)))) H ∧ va_D A ([(mo, .inr (4, [.int (nI (zdy z)), .int (nI (zgu z)), .int (zpu z), .ref rr, .ref tt])), (rr, .inl (cB, zn z, .inr (.inr (.inr (.inr (zrf (zn z) ra)))))), (tt, .inl (cB, ztn z, .inr (.inr (.inr (.inr (zrf (ztn z) ta)))))), (q47, .inl (cA, x0, .inl (fun j9 => nI (z0 j9)))), (q55, .inl (cA, zn z, .inl x1))] ++ (zpl cA ra (zrow (zwa z) (ziv z) (zgh z) (zpr z)) (zn z) ++ (zpl cA ta (zrow (ztr z) (ztd z) (ztp z) (ztf z)) (ztn z)))) := by
          intro x0 x1 h0 h1; subst h0; subst h1; exact ⟨hP, hD⟩
        obtain ⟨hP, hD⟩ := hw18 (zcnt (zwa z) (zn z)) (zwo z 0) (show zcnt (zwa z) (zn z) = zcnt (zwa z) i from by omega) (show (zwo z 0) = fun j9 => nI (z0 j9) from by first | exact (zwo_0 _).symm | exact (zwo_s (by unfold zwt; first | rw [if_pos (by assumption)] | rw [if_neg (by assumption)])).symm)
        refine W.widen (k := 3) (n := zcnt (zwa z) (zn z) + zn z + 8) (by omega) (by omega) ?_
        exact lp_67 _ 0 (Nat.lt_succ_self _) (by first | assumption | omega) _ _ hP hD hS _ hl
      · skip
        replace c_1 := mt (nI_leI (by omega) (by omega)).mpr c_1
        refine lv_aload_n hx hb dX5_ranked_19 rfl (lv_at hl 2 rfl) ?_
        refine lv_iload hx hb dX5_ranked_20 (lv_at hl 4 rfl) ?_
        refine zz_aald hx hb hK hP 1 (f := zrf (zn z) ra) rfl rfl (j := i) (v := ra i) (by omega) (by omega) (zrf_g (by omega)) dX5_ranked_22 ?_
        refine lv_astore (lv' := [(5, .ref (ra i)), (0, .ref mo), (1, .int (nI (zcnt (zwa z) i))), (2, .ref rr), (3, .int (nI (zn z))), (4, .int (nI i))]) hx hb dX5_ranked_23 hl (by decide) rfl (fun ls hl => ?_)
        refine lv_iload_n hx hb dX5_ranked_25 rfl (lv_at hl 2 rfl) ?_
        refine lv_aload hx hb dX5_ranked_26 (lv_at hl 0 rfl) ?_
        refine lv_iconst (v := nI 0) hx hb dX5_ranked_28 (by decide) ?_
        refine zp_ld hx hb hK hP ([(mo, .inr (4, [.int (nI (zdy z)), .int (nI (zgu z)), .int (zpu z), .ref rr, .ref tt])), (rr, .inl (cB, zn z, .inr (.inr (.inr (.inr (zrf (zn z) ra)))))), (tt, .inl (cB, ztn z, .inr (.inr (.inr (.inr (zrf (ztn z) ta))))))] : va_W) (zpl cA ta (zrow (ztr z) (ztd z) (ztp z) (ztf z)) (ztn z) : va_W) (ra := ra) (F := zrow (zwa z) (ziv z) (zgh z) (zpr z)) (n := (zn z)) (r := i) (k := 0) (v := nI ((zwa z) i)) rfl rfl (by omega) (by decide) rfl dX5_ranked_29 ?_
        refine lv_if_le (tgt := 37) hx hb dX5_ranked_30 (by decide) (fun c_19 => ?_) (fun c_19 => ?_)
        · skip
          replace c_19 := (zz_lez (by omega)).mp c_19
          refine lv_iconst (v := nI 0) hx hb dX5_ranked_37 (by decide) ?_
          refine lv_iadd hx hb dX5_ranked_38 ?_
          refine zz_top (nI_add _ _) ?_
          refine lv_istore_n (lv' := [(1, .int (nI ((zcnt (zwa z) i) + 0))), (5, .ref (ra i)), (0, .ref mo), (2, .ref rr), (3, .int (nI (zn z))), (4, .int (nI i))]) hx hb dX5_ranked_39 rfl hl (by decide) rfl (fun ls hl => ?_)
          refine lv_iinc (v := nI (i + 1)) (lv' := [(4, .int (nI (i + 1))), (1, .int (nI ((zcnt (zwa z) i) + 0))), (5, .ref (ra i)), (0, .ref mo), (2, .ref rr), (3, .int (nI (zn z)))]) hx hb dX5_ranked_40 hl (k := 5) rfl (nI_1 _) (by decide) rfl (fun ls hl => ?_)
          refine lv_goto (tgt := 13) hx hb dX5_ranked_43 (by decide) ?_
          have hl := lv_sub (l' := [(0, .ref mo), (1, .int (nI ((zcnt (zwa z) i) + 0))), (2, .ref rr), (3, .int (nI (zn z))), (4, .int (nI (i + 1)))]) hl [3, 1, 4, 5, 0] rfl
          have hl20 : ∀ (x1 : Int32), x1 = nI ((zcnt (zwa z) i) + 0) → lv_has ls 8 [(0, .ref mo), (1, .int x1), (2, .ref rr), (3, .int (nI (zn z))), (4, .int (nI (i + 1)))] := by
            intro x1 h1; subst h1; exact hl
          have hl := hl20 (nI (zcnt (zwa z) (i + 1))) (congrArg nI (show zcnt (zwa z) (i + 1) = (zcnt (zwa z) i) + 0 from by first | rfl | exact zcnt_s0 (by omega) | exact zcnt_s1 (by omega)))
          exact ih_13 (i + 1) (by omega) (by first | assumption | omega) _ _ hP hD hS _ hl
        · skip
          replace c_19 := mt (zz_lez (by omega)).mpr c_19
          refine lv_iconst (v := nI 1) hx hb dX5_ranked_33 (by decide) ?_
          refine lv_goto (tgt := 38) hx hb dX5_ranked_34 (by decide) ?_
          refine lv_iadd hx hb dX5_ranked_38 ?_
          refine zz_top (nI_add _ _) ?_
          refine lv_istore_n (lv' := [(1, .int (nI ((zcnt (zwa z) i) + 1))), (5, .ref (ra i)), (0, .ref mo), (2, .ref rr), (3, .int (nI (zn z))), (4, .int (nI i))]) hx hb dX5_ranked_39 rfl hl (by decide) rfl (fun ls hl => ?_)
          refine lv_iinc (v := nI (i + 1)) (lv' := [(4, .int (nI (i + 1))), (1, .int (nI ((zcnt (zwa z) i) + 1))), (5, .ref (ra i)), (0, .ref mo), (2, .ref rr), (3, .int (nI (zn z)))]) hx hb dX5_ranked_40 hl (k := 5) rfl (nI_1 _) (by decide) rfl (fun ls hl => ?_)
          refine lv_goto (tgt := 13) hx hb dX5_ranked_43 (by decide) ?_
          have hl := lv_sub (l' := [(0, .ref mo), (1, .int (nI ((zcnt (zwa z) i) + 1))), (2, .ref rr), (3, .int (nI (zn z))), (4, .int (nI (i + 1)))]) hl [3, 1, 4, 5, 0] rfl
          have hl21 : ∀ (x1 : Int32), x1 = nI ((zcnt (zwa z) i) + 1) → lv_has ls 8 [(0, .ref mo), (1, .int x1), (2, .ref rr), (3, .int (nI (zn z))), (4, .int (nI (i + 1)))] := by
            intro x1 h1; subst h1; exact hl
          have hl := hl21 (nI (zcnt (zwa z) (i + 1))) (congrArg nI (show zcnt (zwa z) (i + 1) = (zcnt (zwa z) i) + 1 from by first | rfl | exact zcnt_s0 (by omega) | exact zcnt_s1 (by omega)))
          exact ih_13 (i + 1) (by omega) (by first | assumption | omega) _ _ hP hD hS _ hl
  have hl := lv_sub (l' := [(0, .ref mo), (1, .int (nI 0)), (2, .ref rr), (3, .int (nI (zn z))), (4, .int (nI 0))]) hl [4, 3, 2, 1, 0] rfl
  have hl22 : ∀ (x1 : Int32), x1 = nI 0 → lv_has ls 8 [(0, .ref mo), (1, .int x1), (2, .ref rr), (3, .int (nI (zn z))), (4, .int (nI 0))] := by
    intro x1 h1; subst h1; exact hl
  have hl := hl22 (nI (zcnt (zwa z) 0)) (congrArg nI (show zcnt (zwa z) 0 = 0 from by first | rfl | exact zcnt_s0 (by omega) | exact zcnt_s1 (by omega)))
  exact lp_13 _ 0 (Nat.lt_succ_self _) (by first | assumption | omega) _ _ hP hD hS _ hl
