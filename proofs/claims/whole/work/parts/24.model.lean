theorem i_X5_thrown_X5 : ∀ w ∈ u_ws RX5 TX5 10, w ∈ wsX5_thrown := by decide +kernel
set_option maxHeartbeats 4000000 in
set_option maxRecDepth 100000 in
theorem c_X5_thrown (l : Launch) (dC : Nat → ClassId) (dI : Nat → Nat → Nat) (cA : ClassId) (mo : Nat) (e0 : Nat) (e1 : Nat) (e2 : Nat) (e3 : Nat) (e4 : Nat) (e5 : Nat) (th : Nat) (n : Nat) (gu : Nat) (tn : Nat) : Met l yX5_thrown wsX5_thrown ({ frames := 0, cells := 0, slots := 0, locals := 0 } : Room) (va_Pc [.ref mo] (fun U => va_P (dC, dI) vwCl [(mo, .inr (4, [.int (nI th), .int (nI n), .int (nI gu), .int (nI tn), .ref e0, .ref e1, .ref e2, .ref e3, .ref e4, .ref e5]))] U.heap ∧ va_K (dC, dI) vwCl [(cA, .int)] U)) (vp_Si (fun y9 : Int32 => y9 = nI th)) 0 0 (fun _ => False) := by
  refine Met.ofW (cc := cX5_thrown) (maxL := 1) (ret := (some .int)) (by decide) rfl ?_
  intro p e s m args below meth c s₁ B hml hv
  obtain ⟨hargs, hP, hK⟩ := hv
  have hx := B.exec
  have hb := B.bytes
  have hr := B.returns
  have hts := atoms_spec (ws := wsX5_thrown) B.pre
  have hown : s.vm.findClass RX5 = some m.cls := findClass_of_methodNamed B.named
  have hlocks := B.notSynchronized
  have hl := lv_entry ([.ref mo]) (n := 1) (Nat.le_of_ble_eq_true rfl)
  rw [hargs, lg_entry_eq, ← hargs]
  generalize (lg_sl ([.ref mo]) ++ List.replicate (1 - (lg_sl ([.ref mo])).length) Slot.unset).toArray = ls at hl ⊢
  have hl : lv_has ls 1 [(0, .ref mo)] := hl
  refine lv_aload_n hx hb dX5_thrown_0 rfl (lv_at hl 0 rfl) ?_
  refine va_get (D := (dC, dI)) (ci := 4) (v := .int (nI th)) (C := RX5) (T := TX5) (N := 10) hx hb hts i_X5_thrown_X5 hown hK hP 0 rfl rfl 0 (by decide) (hts (.fieldLink RX5 32 "RuinViewsModel" "thrown" "I") (List.mem_of_getElem? (i := 1) rfl)) (fun _ h9 => h9) rfl dX5_thrown_1 ?_
  exact W.iret hx hb hr (fun t ht hW => ⟨_, rfl, rfl, ht⟩) (fun _ h => nomatch h) dX5_thrown_4
theorem i_X5_fail_X5 : ∀ w ∈ u_ws RX5 TX5 10, w ∈ wsX5_fail := by decide +kernel
set_option maxHeartbeats 4000000 in
set_option maxRecDepth 100000 in
theorem c_X5_fail (l : Launch) (dC : Nat → ClassId) (dI : Nat → Nat → Nat) (cA : ClassId) (mo : Nat) (e0 : Nat) (e1 : Nat) (e2 : Nat) (e3 : Nat) (e4 : Nat) (e5 : Nat) (th : Nat) (n : Nat) (gu : Nat) (tn : Nat) (k : Nat) (sz : Nat) : Met l yX5_fail wsX5_fail ({ frames := 0, cells := 0, slots := 0, locals := 0 } : Room) (va_Pc [.ref mo, .int (nI k)] (fun U => U.heap.size = sz ∧ va_P (dC, dI) vwCl [(mo, .inr (4, [.int (nI th), .int (nI n), .int (nI gu), .int (nI tn), .ref e0, .ref e1, .ref e2, .ref e3, .ref e4, .ref e5]))] U.heap ∧ va_K (dC, dI) vwCl [(cA, .int)] U ∧ va_D (fun _ => True) [(mo, .inr (4, [.int (nI th), .int (nI n), .int (nI gu), .int (nI tn), .ref e0, .ref e1, .ref e2, .ref e3, .ref e4, .ref e5]))])) (va_Qi (fun (y9 : Int32) (_ : Unit) => y9 = nI 0) (fun (_ : Unit) t => va_P (dC, dI) vwCl [(mo, .inr (4, [.int (nI k), .int (nI n), .int (nI gu), .int (nI tn), .ref e0, .ref e1, .ref e2, .ref e3, .ref e4, .ref e5]))] t.heap ∧ va_D (va_A [(mo, .inr (4, [.int (nI th), .int (nI n), .int (nI gu), .int (nI tn), .ref e0, .ref e1, .ref e2, .ref e3, .ref e4, .ref e5]))] sz) [(mo, .inr (4, [.int (nI k), .int (nI n), .int (nI gu), .int (nI tn), .ref e0, .ref e1, .ref e2, .ref e3, .ref e4, .ref e5]))]) (va_A [(mo, .inr (4, [.int (nI th), .int (nI n), .int (nI gu), .int (nI tn), .ref e0, .ref e1, .ref e2, .ref e3, .ref e4, .ref e5]))] sz)) 0 0 (va_A [(mo, .inr (4, [.int (nI th), .int (nI n), .int (nI gu), .int (nI tn), .ref e0, .ref e1, .ref e2, .ref e3, .ref e4, .ref e5]))] sz) := by
  refine Met.ofW (cc := cX5_fail) (maxL := 2) (ret := (some .int)) (by decide) rfl ?_
  intro p e s m args below meth c s₁ B hml hv
  obtain ⟨hargs, hsz, hP, hK, hD0⟩ := hv
  have hx := B.exec
  have hb := B.bytes
  have hr := B.returns
  have hts := atoms_spec (ws := wsX5_fail) B.pre
  have hown : s.vm.findClass RX5 = some m.cls := findClass_of_methodNamed B.named
  have hlocks := B.notSynchronized
  subst hsz
  have hD := hD0.self (sz := s.heap.size)
  generalize hAe : va_A [(mo, .inr (4, [.int (nI th), .int (nI n), .int (nI gu), .int (nI tn), .ref e0, .ref e1, .ref e2, .ref e3, .ref e4, .ref e5]))] s.heap.size = A at hD ⊢
  have hA : ∀ q : Nat, s.heap.size ≤ q → A q := fun q h => by rw [← hAe]; exact Or.inr h
  have hS : va_S A s.heap s.heap [] := va_S.rf
  have hP : va_P (dC, dI) vwCl [(mo, .inr (4, [.int (nI th), .int (nI n), .int (nI gu), .int (nI tn), .ref e0, .ref e1, .ref e2, .ref e3, .ref e4, .ref e5]))] s.heap := hP
  have hl := lv_entry ([.ref mo, .int (nI k)]) (n := 2) (Nat.le_of_ble_eq_true rfl)
  rw [hargs, lg_entry_eq, ← hargs]
  generalize (lg_sl ([.ref mo, .int (nI k)]) ++ List.replicate (2 - (lg_sl ([.ref mo, .int (nI k)])).length) Slot.unset).toArray = ls at hl ⊢
  have hl : lv_has ls 2 [(0, .ref mo), (1, .int (nI k))] := hl
  refine lv_aload_n hx hb dX5_fail_0 rfl (lv_at hl 0 rfl) ?_
  refine lv_iload_n hx hb dX5_fail_1 rfl (lv_at hl 1 rfl) ?_
  refine va_put (D := (dC, dI)) (ci := 4) (v := .int (nI k)) (ty := .int) (C := RX5) (T := TX5) (N := 10) hx hb hts i_X5_fail_X5 tyX5 tyX5_ok nmX5 hown hK hP hD hS 0 rfl rfl 0 (by decide) (hts (.fieldLink RX5 32 "RuinViewsModel" "thrown" "I") (List.mem_of_getElem? (i := 1) rfl)) (fun _ h9 => h9) rfl (by decide +kernel) rfl rfl (Nat.le_of_ble_eq_true rfl) dX5_fail_2 (fun H locs hP hD hS => ?_)
  have hP : va_P (dC, dI) vwCl [(mo, .inr (4, [.int (nI k), .int (nI n), .int (nI gu), .int (nI tn), .ref e0, .ref e1, .ref e2, .ref e3, .ref e4, .ref e5]))] H := hP
  have hD : va_D A [(mo, .inr (4, [.int (nI k), .int (nI n), .int (nI gu), .int (nI tn), .ref e0, .ref e1, .ref e2, .ref e3, .ref e4, .ref e5]))] := hD
  refine lv_iconst (v := nI 0) hx hb dX5_fail_5 (by decide) ?_
  exact W.iret hx hb hr (fun t ht hW => ⟨⟨_, (), rfl, rfl, by rw [ht]; exact hP, hD⟩, hS.F ht⟩) hS.2.2 dX5_fail_6
theorem i_X5_told_X5 : ∀ w ∈ u_ws RX5 TX5 10, w ∈ wsX5_told := by decide +kernel
set_option maxHeartbeats 4000000 in
set_option maxRecDepth 100000 in
theorem c_X5_told (l : Launch) (dC : Nat → ClassId) (dI : Nat → Nat → Nat) (cA : ClassId) (mo : Nat) (e0 : Nat) (e1 : Nat) (e2 : Nat) (e3 : Nat) (e4 : Nat) (e5 : Nat) (th : Nat) (n : Nat) (gu : Nat) (tn : Nat) (k : Nat) (sz : Nat) : Met l yX5_told wsX5_told ({ frames := 0, cells := 0, slots := 0, locals := 0 } : Room) (va_Pc [.ref mo, .int (nI k)] (fun U => U.heap.size = sz ∧ va_P (dC, dI) vwCl [(mo, .inr (4, [.int (nI th), .int (nI n), .int (nI gu), .int (nI tn), .ref e0, .ref e1, .ref e2, .ref e3, .ref e4, .ref e5]))] U.heap ∧ va_K (dC, dI) vwCl [(cA, .int)] U ∧ va_D (fun _ => True) [(mo, .inr (4, [.int (nI th), .int (nI n), .int (nI gu), .int (nI tn), .ref e0, .ref e1, .ref e2, .ref e3, .ref e4, .ref e5]))])) (va_Qi (fun (y9 : Int32) (_ : Unit) => y9 = nI k) (fun (_ : Unit) t => va_P (dC, dI) vwCl [(mo, .inr (4, [.int (nI 0), .int (nI n), .int (nI gu), .int (nI tn), .ref e0, .ref e1, .ref e2, .ref e3, .ref e4, .ref e5]))] t.heap ∧ va_D (va_A [(mo, .inr (4, [.int (nI th), .int (nI n), .int (nI gu), .int (nI tn), .ref e0, .ref e1, .ref e2, .ref e3, .ref e4, .ref e5]))] sz) [(mo, .inr (4, [.int (nI 0), .int (nI n), .int (nI gu), .int (nI tn), .ref e0, .ref e1, .ref e2, .ref e3, .ref e4, .ref e5]))]) (va_A [(mo, .inr (4, [.int (nI th), .int (nI n), .int (nI gu), .int (nI tn), .ref e0, .ref e1, .ref e2, .ref e3, .ref e4, .ref e5]))] sz)) 0 0 (va_A [(mo, .inr (4, [.int (nI th), .int (nI n), .int (nI gu), .int (nI tn), .ref e0, .ref e1, .ref e2, .ref e3, .ref e4, .ref e5]))] sz) := by
  refine Met.ofW (cc := cX5_told) (maxL := 2) (ret := (some .int)) (by decide) rfl ?_
  intro p e s m args below meth c s₁ B hml hv
  obtain ⟨hargs, hsz, hP, hK, hD0⟩ := hv
  have hx := B.exec
  have hb := B.bytes
  have hr := B.returns
  have hts := atoms_spec (ws := wsX5_told) B.pre
  have hown : s.vm.findClass RX5 = some m.cls := findClass_of_methodNamed B.named
  have hlocks := B.notSynchronized
  subst hsz
  have hD := hD0.self (sz := s.heap.size)
  generalize hAe : va_A [(mo, .inr (4, [.int (nI th), .int (nI n), .int (nI gu), .int (nI tn), .ref e0, .ref e1, .ref e2, .ref e3, .ref e4, .ref e5]))] s.heap.size = A at hD ⊢
  have hA : ∀ q : Nat, s.heap.size ≤ q → A q := fun q h => by rw [← hAe]; exact Or.inr h
  have hS : va_S A s.heap s.heap [] := va_S.rf
  have hP : va_P (dC, dI) vwCl [(mo, .inr (4, [.int (nI th), .int (nI n), .int (nI gu), .int (nI tn), .ref e0, .ref e1, .ref e2, .ref e3, .ref e4, .ref e5]))] s.heap := hP
  have hl := lv_entry ([.ref mo, .int (nI k)]) (n := 2) (Nat.le_of_ble_eq_true rfl)
  rw [hargs, lg_entry_eq, ← hargs]
  generalize (lg_sl ([.ref mo, .int (nI k)]) ++ List.replicate (2 - (lg_sl ([.ref mo, .int (nI k)])).length) Slot.unset).toArray = ls at hl ⊢
  have hl : lv_has ls 2 [(0, .ref mo), (1, .int (nI k))] := hl
  refine lv_aload_n hx hb dX5_told_0 rfl (lv_at hl 0 rfl) ?_
  refine lv_iconst (v := nI 0) hx hb dX5_told_1 (by decide) ?_
  refine va_put (D := (dC, dI)) (ci := 4) (v := .int (nI 0)) (ty := .int) (C := RX5) (T := TX5) (N := 10) hx hb hts i_X5_told_X5 tyX5 tyX5_ok nmX5 hown hK hP hD hS 0 rfl rfl 0 (by decide) (hts (.fieldLink RX5 32 "RuinViewsModel" "thrown" "I") (List.mem_of_getElem? (i := 1) rfl)) (fun _ h9 => h9) rfl (by decide +kernel) rfl rfl (Nat.le_of_ble_eq_true rfl) dX5_told_2 (fun H locs hP hD hS => ?_)
  have hP : va_P (dC, dI) vwCl [(mo, .inr (4, [.int (nI 0), .int (nI n), .int (nI gu), .int (nI tn), .ref e0, .ref e1, .ref e2, .ref e3, .ref e4, .ref e5]))] H := hP
  have hD : va_D A [(mo, .inr (4, [.int (nI 0), .int (nI n), .int (nI gu), .int (nI tn), .ref e0, .ref e1, .ref e2, .ref e3, .ref e4, .ref e5]))] := hD
  refine lv_iload_n hx hb dX5_told_5 rfl (lv_at hl 1 rfl) ?_
  exact W.iret hx hb hr (fun t ht hW => ⟨⟨_, (), rfl, rfl, by rw [ht]; exact hP, hD⟩, hS.F ht⟩) hS.2.2 dX5_told_6
set_option maxHeartbeats 4000000 in
set_option maxRecDepth 100000 in
theorem c_toldI (l : Launch) (dC : Nat → ClassId) (dI : Nat → Nat → Nat) (cA : ClassId) (mo : Nat) (e0 : Nat) (e1 : Nat) (e2 : Nat) (e3 : Nat) (e4 : Nat) (e5 : Nat) (th : Nat) (n : Nat) (gu : Nat) (tn : Nat) (x : Int32) (sz : Nat) : Met l yX5_told wsX5_told ({ frames := 0, cells := 0, slots := 0, locals := 0 } : Room) (va_Pc [.ref mo, .int x] (fun U => U.heap.size = sz ∧ va_P (dC, dI) vwCl [(mo, .inr (4, [.int (nI th), .int (nI n), .int (nI gu), .int (nI tn), .ref e0, .ref e1, .ref e2, .ref e3, .ref e4, .ref e5]))] U.heap ∧ va_K (dC, dI) vwCl [(cA, .int)] U ∧ va_D (fun _ => True) [(mo, .inr (4, [.int (nI th), .int (nI n), .int (nI gu), .int (nI tn), .ref e0, .ref e1, .ref e2, .ref e3, .ref e4, .ref e5]))])) (va_Qi (fun (y9 : Int32) (_ : Unit) => y9 = x) (fun (_ : Unit) t => va_P (dC, dI) vwCl [(mo, .inr (4, [.int (nI 0), .int (nI n), .int (nI gu), .int (nI tn), .ref e0, .ref e1, .ref e2, .ref e3, .ref e4, .ref e5]))] t.heap ∧ va_D (va_A [(mo, .inr (4, [.int (nI th), .int (nI n), .int (nI gu), .int (nI tn), .ref e0, .ref e1, .ref e2, .ref e3, .ref e4, .ref e5]))] sz) [(mo, .inr (4, [.int (nI 0), .int (nI n), .int (nI gu), .int (nI tn), .ref e0, .ref e1, .ref e2, .ref e3, .ref e4, .ref e5]))]) (va_A [(mo, .inr (4, [.int (nI th), .int (nI n), .int (nI gu), .int (nI tn), .ref e0, .ref e1, .ref e2, .ref e3, .ref e4, .ref e5]))] sz)) 0 0 (va_A [(mo, .inr (4, [.int (nI th), .int (nI n), .int (nI gu), .int (nI tn), .ref e0, .ref e1, .ref e2, .ref e3, .ref e4, .ref e5]))] sz) := by
  refine Met.ofW (cc := cX5_told) (maxL := 2) (ret := (some .int)) (by decide) rfl ?_
  intro p e s m args below meth c s₁ B hml hv
  obtain ⟨hargs, hsz, hP, hK, hD0⟩ := hv
  have hx := B.exec
  have hb := B.bytes
  have hr := B.returns
  have hts := atoms_spec (ws := wsX5_told) B.pre
  have hown : s.vm.findClass RX5 = some m.cls := findClass_of_methodNamed B.named
  have hlocks := B.notSynchronized
  subst hsz
  have hD := hD0.self (sz := s.heap.size)
  generalize hAe : va_A [(mo, .inr (4, [.int (nI th), .int (nI n), .int (nI gu), .int (nI tn), .ref e0, .ref e1, .ref e2, .ref e3, .ref e4, .ref e5]))] s.heap.size = A at hD ⊢
  have hA : ∀ q : Nat, s.heap.size ≤ q → A q := fun q h => by rw [← hAe]; exact Or.inr h
  have hS : va_S A s.heap s.heap [] := va_S.rf
  have hP : va_P (dC, dI) vwCl [(mo, .inr (4, [.int (nI th), .int (nI n), .int (nI gu), .int (nI tn), .ref e0, .ref e1, .ref e2, .ref e3, .ref e4, .ref e5]))] s.heap := hP
  have hl := lv_entry ([.ref mo, .int x]) (n := 2) (Nat.le_of_ble_eq_true rfl)
  rw [hargs, lg_entry_eq, ← hargs]
  generalize (lg_sl ([.ref mo, .int x]) ++ List.replicate (2 - (lg_sl ([.ref mo, .int x])).length) Slot.unset).toArray = ls at hl ⊢
  have hl : lv_has ls 2 [(0, .ref mo), (1, .int x)] := hl
  refine lv_aload_n hx hb dX5_told_0 rfl (lv_at hl 0 rfl) ?_
  refine lv_iconst (v := nI 0) hx hb dX5_told_1 (by decide) ?_
  refine va_put (D := (dC, dI)) (ci := 4) (v := .int (nI 0)) (ty := .int) (C := RX5) (T := TX5) (N := 10) hx hb hts i_X5_told_X5 tyX5 tyX5_ok nmX5 hown hK hP hD hS 0 rfl rfl 0 (by decide) (hts (.fieldLink RX5 32 "RuinViewsModel" "thrown" "I") (List.mem_of_getElem? (i := 1) rfl)) (fun _ h9 => h9) rfl (by decide +kernel) rfl rfl (Nat.le_of_ble_eq_true rfl) dX5_told_2 (fun H locs hP hD hS => ?_)
  have hP : va_P (dC, dI) vwCl [(mo, .inr (4, [.int (nI 0), .int (nI n), .int (nI gu), .int (nI tn), .ref e0, .ref e1, .ref e2, .ref e3, .ref e4, .ref e5]))] H := hP
  have hD : va_D A [(mo, .inr (4, [.int (nI 0), .int (nI n), .int (nI gu), .int (nI tn), .ref e0, .ref e1, .ref e2, .ref e3, .ref e4, .ref e5]))] := hD
  refine lv_iload_n hx hb dX5_told_5 rfl (lv_at hl 1 rfl) ?_
  exact W.iret hx hb hr (fun t ht hW => ⟨⟨_, (), rfl, rfl, by rw [ht]; exact hP, hD⟩, hS.F ht⟩) hS.2.2 dX5_told_6
set_option maxHeartbeats 4000000 in
set_option maxRecDepth 100000 in
theorem c_X5_isIn (l : Launch) (dC : Nat → ClassId) (dI : Nat → Nat → Nat) (cA : ClassId) (v : Int32) (lo : Int32) (hi : Int32) : Met l yX5_isIn wsX5_isIn ({ frames := 0, cells := 0, slots := 0, locals := 0 } : Room) (va_Pc [.int v, .int lo, .int hi] (fun _ => True)) (vp_Si (fun y9 : Int32 => y9 = nI (zin v lo hi))) 0 0 (fun _ => False) := by
  refine Met.ofW (cc := cX5_isIn) (maxL := 3) (ret := (some .boolean)) (by decide) rfl ?_
  intro p e s m args below meth c s₁ B hml hv
  obtain ⟨hargs, -⟩ := hv
  have hx := B.exec
  have hb := B.bytes
  have hr := B.returns
  have hts := atoms_spec (ws := wsX5_isIn) B.pre
  have hown : s.vm.findClass RX5 = some m.cls := findClass_of_methodNamed B.named
  have hlocks := B.notSynchronized
  have hl := lv_entry ([.int v, .int lo, .int hi]) (n := 3) (Nat.le_of_ble_eq_true rfl)
  rw [hargs, lg_entry_eq, ← hargs]
  generalize (lg_sl ([.int v, .int lo, .int hi]) ++ List.replicate (3 - (lg_sl ([.int v, .int lo, .int hi])).length) Slot.unset).toArray = ls at hl ⊢
  have hl : lv_has ls 3 [(0, .int v), (1, .int lo), (2, .int hi)] := hl
  refine lv_iload_n hx hb dX5_isIn_0 rfl (lv_at hl 0 rfl) ?_
  refine lv_iload_n hx hb dX5_isIn_1 rfl (lv_at hl 1 rfl) ?_
  refine lv_icmp_lt (tgt := 14) hx hb dX5_isIn_2 (by decide) (fun c_1 => ?_) (fun c_1 => ?_)
  · skip
    refine lv_iconst (v := nI 0) hx hb dX5_isIn_14 (by decide) ?_
    exact W.zret (ty := .boolean) hx hb hr (by first | rfl | decide) (fun t ht hW => ⟨_, rfl, congrArg nI (show 0 = zin v lo hi from by simp [zin, *]), ht⟩) (fun _ h => nomatch h) dX5_isIn_15
  · skip
    refine lv_iload_n hx hb dX5_isIn_5 rfl (lv_at hl 0 rfl) ?_
    refine lv_iload_n hx hb dX5_isIn_6 rfl (lv_at hl 2 rfl) ?_
    refine lv_icmp_gt (tgt := 14) hx hb dX5_isIn_7 (by decide) (fun c_2 => ?_) (fun c_2 => ?_)
    · skip
      refine lv_iconst (v := nI 0) hx hb dX5_isIn_14 (by decide) ?_
      exact W.zret (ty := .boolean) hx hb hr (by first | rfl | decide) (fun t ht hW => ⟨_, rfl, congrArg nI (show 0 = zin v lo hi from by simp [zin, *]), ht⟩) (fun _ h => nomatch h) dX5_isIn_15
    · skip
      refine lv_iconst (v := nI 1) hx hb dX5_isIn_10 (by decide) ?_
      refine lv_goto (tgt := 15) hx hb dX5_isIn_11 (by decide) ?_
      exact W.zret (ty := .boolean) hx hb hr (by first | rfl | decide) (fun t ht hW => ⟨_, rfl, congrArg nI (show 1 = zin v lo hi from by simp [zin, *]), ht⟩) (fun _ h => nomatch h) dX5_isIn_15
theorem i_X5_isRuin_X5 : ∀ w ∈ u_ws RX5 TX5 10, w ∈ wsX5_isRuin := by decide +kernel
set_option maxHeartbeats 4000000 in
set_option maxRecDepth 100000 in
theorem c_X5_isRuin (l : Launch) (dC : Nat → ClassId) (dI : Nat → Nat → Nat) (cA : ClassId) (mo : Nat) (e0 : Nat) (e1 : Nat) (e2 : Nat) (e3 : Nat) (e4 : Nat) (e5 : Nat) (th : Nat) (n : Nat) (gu : Nat) (tn : Nat) (x : Int32) (hn : n ≤ 10) : Met l yX5_isRuin wsX5_isRuin ({ frames := 1, cells := 0, slots := 0, locals := 22 } : Room) (va_Pc [.ref mo, .int x] (fun U => va_P (dC, dI) vwCl [(mo, .inr (4, [.int (nI th), .int (nI n), .int (nI gu), .int (nI tn), .ref e0, .ref e1, .ref e2, .ref e3, .ref e4, .ref e5]))] U.heap ∧ va_K (dC, dI) vwCl [(cA, .int)] U)) (vp_Si (fun y9 : Int32 => y9 = nI (zhas x n))) 0 0 (fun _ => False) := by
  refine Met.ofW (cc := cX5_isRuin) (maxL := 2) (ret := (some .boolean)) (by decide) rfl ?_
  intro p e s m args below meth c s₁ B hml hv
  obtain ⟨hargs, hP, hK⟩ := hv
  have hx := B.exec
  have hb := B.bytes
  have hr := B.returns
  have hts := atoms_spec (ws := wsX5_isRuin) B.pre
  have hown : s.vm.findClass RX5 = some m.cls := findClass_of_methodNamed B.named
  have hlocks := B.notSynchronized
  have hl := lv_entry ([.ref mo, .int x]) (n := 2) (Nat.le_of_ble_eq_true rfl)
  rw [hargs, lg_entry_eq, ← hargs]
  generalize (lg_sl ([.ref mo, .int x]) ++ List.replicate (2 - (lg_sl ([.ref mo, .int x])).length) Slot.unset).toArray = ls at hl ⊢
  have hl : lv_has ls 2 [(0, .ref mo), (1, .int x)] := hl
  refine lv_iload_n hx hb dX5_isRuin_0 rfl (lv_at hl 1 rfl) ?_
  refine lv_iconst (v := nI 0) hx hb dX5_isRuin_1 (by decide) ?_
  refine lv_aload_n hx hb dX5_isRuin_2 rfl (lv_at hl 0 rfl) ?_
  refine va_get (D := (dC, dI)) (ci := 4) (v := .int (nI n)) (C := RX5) (T := TX5) (N := 10) hx hb hts i_X5_isRuin_X5 hown hK hP 0 rfl rfl 1 (by decide) (hts (.fieldLink RX5 35 "RuinViewsModel" "ruins" "I") (List.mem_of_getElem? (i := 1) rfl)) (fun _ h9 => h9) rfl dX5_isRuin_3 ?_
  refine lv_iconst (v := nI 1) hx hb dX5_isRuin_6 (by decide) ?_
  refine lv_isub hx hb dX5_isRuin_7 ?_
  refine vp_callSi (W.runS (As := [.int x,.int (nI 0),.int ((nI n) - (nI 1))]) (rest := []) ⟨hx, hb, hml, hown, hts⟩ (c_X5_isIn l dC dI cA x (nI 0) ((nI n) - (nI 1)) ) (va_cwS 3 hts gX5_isRuin_X5_isIn rfl rfl rfl (by decide +kernel) ⟨Nat.le_of_ble_eq_true rfl, Nat.le_of_ble_eq_true rfl⟩) ⟨fun _ _ _ _ q => q, fun U hU hW => ⟨rfl, trivial⟩⟩ rfl rfl hl.1 rfl (lv_room (Nat.le_of_ble_eq_true rfl)) dX5_isRuin_8 ⟨Nat.le_of_ble_eq_true rfl, Nat.le_of_ble_eq_true rfl⟩) (fun r_1 hw_1 => ?_)
  subst hw_1
  exact W.zret (ty := .boolean) hx hb hr (by exact zz_nar (zin_le _ _ _)) (fun t ht hW => ⟨_, rfl, congrArg nI (show zin x (nI 0) ((nI n) - (nI 1)) = zhas x n from by exact zin_has (by omega)), ht⟩) (fun _ h => nomatch h) dX5_isRuin_11
theorem i_X5_isTicket_X5 : ∀ w ∈ u_ws RX5 TX5 10, w ∈ wsX5_isTicket := by decide +kernel
set_option maxHeartbeats 4000000 in
set_option maxRecDepth 100000 in
theorem c_X5_isTicket (l : Launch) (dC : Nat → ClassId) (dI : Nat → Nat → Nat) (cA : ClassId) (mo : Nat) (e0 : Nat) (e1 : Nat) (e2 : Nat) (e3 : Nat) (e4 : Nat) (e5 : Nat) (th : Nat) (n : Nat) (gu : Nat) (tn : Nat) (x : Int32) (htn : tn ≤ 30) : Met l yX5_isTicket wsX5_isTicket ({ frames := 1, cells := 0, slots := 0, locals := 22 } : Room) (va_Pc [.ref mo, .int x] (fun U => va_P (dC, dI) vwCl [(mo, .inr (4, [.int (nI th), .int (nI n), .int (nI gu), .int (nI tn), .ref e0, .ref e1, .ref e2, .ref e3, .ref e4, .ref e5]))] U.heap ∧ va_K (dC, dI) vwCl [(cA, .int)] U)) (vp_Si (fun y9 : Int32 => y9 = nI (zhas x tn))) 0 0 (fun _ => False) := by
  refine Met.ofW (cc := cX5_isTicket) (maxL := 2) (ret := (some .boolean)) (by decide) rfl ?_
  intro p e s m args below meth c s₁ B hml hv
  obtain ⟨hargs, hP, hK⟩ := hv
  have hx := B.exec
  have hb := B.bytes
  have hr := B.returns
  have hts := atoms_spec (ws := wsX5_isTicket) B.pre
  have hown : s.vm.findClass RX5 = some m.cls := findClass_of_methodNamed B.named
  have hlocks := B.notSynchronized
  have hl := lv_entry ([.ref mo, .int x]) (n := 2) (Nat.le_of_ble_eq_true rfl)
  rw [hargs, lg_entry_eq, ← hargs]
  generalize (lg_sl ([.ref mo, .int x]) ++ List.replicate (2 - (lg_sl ([.ref mo, .int x])).length) Slot.unset).toArray = ls at hl ⊢
  have hl : lv_has ls 2 [(0, .ref mo), (1, .int x)] := hl
  refine lv_iload_n hx hb dX5_isTicket_0 rfl (lv_at hl 1 rfl) ?_
  refine lv_iconst (v := nI 0) hx hb dX5_isTicket_1 (by decide) ?_
  refine lv_aload_n hx hb dX5_isTicket_2 rfl (lv_at hl 0 rfl) ?_
  refine va_get (D := (dC, dI)) (ci := 4) (v := .int (nI tn)) (C := RX5) (T := TX5) (N := 10) hx hb hts i_X5_isTicket_X5 hown hK hP 0 rfl rfl 3 (by decide) (hts (.fieldLink RX5 42 "RuinViewsModel" "tickets" "I") (List.mem_of_getElem? (i := 1) rfl)) (fun _ h9 => h9) rfl dX5_isTicket_3 ?_
  refine lv_iconst (v := nI 1) hx hb dX5_isTicket_6 (by decide) ?_
  refine lv_isub hx hb dX5_isTicket_7 ?_
  refine vp_callSi (W.runS (As := [.int x,.int (nI 0),.int ((nI tn) - (nI 1))]) (rest := []) ⟨hx, hb, hml, hown, hts⟩ (c_X5_isIn l dC dI cA x (nI 0) ((nI tn) - (nI 1)) ) (va_cwS 3 hts gX5_isTicket_X5_isIn rfl rfl rfl (by decide +kernel) ⟨Nat.le_of_ble_eq_true rfl, Nat.le_of_ble_eq_true rfl⟩) ⟨fun _ _ _ _ q => q, fun U hU hW => ⟨rfl, trivial⟩⟩ rfl rfl hl.1 rfl (lv_room (Nat.le_of_ble_eq_true rfl)) dX5_isTicket_8 ⟨Nat.le_of_ble_eq_true rfl, Nat.le_of_ble_eq_true rfl⟩) (fun r_1 hw_1 => ?_)
  subst hw_1
  exact W.zret (ty := .boolean) hx hb hr (by exact zz_nar (zin_le _ _ _)) (fun t ht hW => ⟨_, rfl, congrArg nI (show zin x (nI 0) ((nI tn) - (nI 1)) = zhas x tn from by exact zin_has (by omega)), ht⟩) (fun _ h => nomatch h) dX5_isTicket_11
theorem i_X5_ru_X5 : ∀ w ∈ u_ws RX5 TX5 10, w ∈ wsX5_ru := by decide +kernel
set_option maxHeartbeats 4000000 in
set_option maxRecDepth 100000 in
theorem c_ru0 (l : Launch) (dC : Nat → ClassId) (dI : Nat → Nat → Nat) (cA : ClassId) (mo : Nat) (e0 : Nat) (e1 : Nat) (e2 : Nat) (e3 : Nat) (e4 : Nat) (e5 : Nat) (th : Nat) (n : Nat) (gu : Nat) (tn : Nat) (dy : Nat) (pu : Int32) (wa : Nat → Nat) (iv : Nat → Nat) (gh : Nat → Nat) (tf : Nat → Nat) (r : Nat) (hrn : r < 10) : Met l yX5_ru wsX5_ru ({ frames := 0, cells := 0, slots := 0, locals := 0 } : Room) (va_Pc [.ref mo, .int (nI r), .int (nI 0)] (fun U => va_P (dC, dI) vwCl [(mo, .inr (4, [.int (nI th), .int (nI n), .int (nI gu), .int (nI tn), .ref e0, .ref e1, .ref e2, .ref e3, .ref e4, .ref e5])), (e4, .inl (cA, 62, .inl (znw dy pu wa iv gh tf)))] U.heap ∧ va_K (dC, dI) vwCl [(cA, .int)] U)) (vp_Si (fun y9 : Int32 => y9 = nI (wa r))) 0 0 (fun _ => False) := by
  refine Met.ofW (cc := cX5_ru) (maxL := 3) (ret := (some .int)) (by decide) rfl ?_
  intro p e s m args below meth c s₁ B hml hv
  obtain ⟨hargs, hP, hK⟩ := hv
  have hx := B.exec
  have hb := B.bytes
  have hr := B.returns
  have hts := atoms_spec (ws := wsX5_ru) B.pre
  have hown : s.vm.findClass RX5 = some m.cls := findClass_of_methodNamed B.named
  have hlocks := B.notSynchronized
  have hl := lv_entry ([.ref mo, .int (nI r), .int (nI 0)]) (n := 3) (Nat.le_of_ble_eq_true rfl)
  rw [hargs, lg_entry_eq, ← hargs]
  generalize (lg_sl ([.ref mo, .int (nI r), .int (nI 0)]) ++ List.replicate (3 - (lg_sl ([.ref mo, .int (nI r), .int (nI 0)])).length) Slot.unset).toArray = ls at hl ⊢
  have hl : lv_has ls 3 [(0, .ref mo), (1, .int (nI r)), (2, .int (nI 0))] := hl
  refine lv_aload_n hx hb dX5_ru_0 rfl (lv_at hl 0 rfl) ?_
  refine va_get (D := (dC, dI)) (ci := 4) (v := .ref e4) (C := RX5) (T := TX5) (N := 10) hx hb hts i_X5_ru_X5 hown hK hP 0 rfl rfl 8 (by decide) (hts (.fieldLink RX5 26 "RuinViewsModel" "now" "[I") (List.mem_of_getElem? (i := 1) rfl)) (fun _ h9 => h9) rfl dX5_ru_1 ?_
  refine lv_iconst (v := nI 2) hx hb dX5_ru_4 (by decide) ?_
  refine lv_iconst (v := nI 3) hx hb dX5_ru_5 (by decide) ?_
  refine lv_iload_n hx hb dX5_ru_6 rfl (lv_at hl 1 rfl) ?_
  refine lv_imul hx hb dX5_ru_7 ?_
  refine zz_top (pk_mul _ _) ?_
  refine lv_iadd hx hb dX5_ru_8 ?_
  refine zz_top (nI_add _ _) ?_
  refine lv_iload_n hx hb dX5_ru_9 rfl (lv_at hl 2 rfl) ?_
  refine lv_iadd hx hb dX5_ru_10 ?_
  refine zz_top (nI_add _ _) ?_
  refine zz_aldI hx hb hK hP 1 (f := znw dy pu wa iv gh tf) rfl rfl (by omega) (by decide) dX5_ru_11 ?_
  refine zz_top (znw_w _ _ _ _ _ _ (by omega)) ?_
  exact W.iret hx hb hr (fun t ht hW => ⟨_, rfl, rfl, ht⟩) (fun _ h => nomatch h) dX5_ru_12
theorem i_X5_let_X5 : ∀ w ∈ u_ws RX5 TX5 10, w ∈ wsX5_let := by decide +kernel
set_option maxHeartbeats 4000000 in
set_option maxRecDepth 100000 in
theorem c_let0 (l : Launch) (dC : Nat → ClassId) (dI : Nat → Nat → Nat) (cA : ClassId) (mo : Nat) (e0 : Nat) (e1 : Nat) (e2 : Nat) (e3 : Nat) (e4 : Nat) (e5 : Nat) (th : Nat) (n : Nat) (gu : Nat) (tn : Nat) (dy : Nat) (pu : Int32) (wa : Nat → Nat) (iv : Nat → Nat) (gh : Nat → Nat) (tf : Nat → Nat) (r : Nat) (k : Nat) (sz : Nat) (hrn : r < 10) : Met l yX5_let wsX5_let ({ frames := 0, cells := 0, slots := 0, locals := 0 } : Room) (va_Pc [.ref mo, .int (nI r), .int (nI 0), .int (nI k)] (fun U => U.heap.size = sz ∧ va_P (dC, dI) vwCl [(mo, .inr (4, [.int (nI th), .int (nI n), .int (nI gu), .int (nI tn), .ref e0, .ref e1, .ref e2, .ref e3, .ref e4, .ref e5])), (e4, .inl (cA, 62, .inl (znw dy pu wa iv gh tf)))] U.heap ∧ va_K (dC, dI) vwCl [(cA, .int)] U ∧ va_D (fun _ => True) [(mo, .inr (4, [.int (nI th), .int (nI n), .int (nI gu), .int (nI tn), .ref e0, .ref e1, .ref e2, .ref e3, .ref e4, .ref e5])), (e4, .inl (cA, 62, .inl (znw dy pu wa iv gh tf)))])) (va_Qv (fun _ : Unit => True) (fun (_ : Unit) t => va_P (dC, dI) vwCl [(mo, .inr (4, [.int (nI th), .int (nI n), .int (nI gu), .int (nI tn), .ref e0, .ref e1, .ref e2, .ref e3, .ref e4, .ref e5])), (e4, .inl (cA, 62, .inl (znw dy pu (zup wa r k) iv gh tf)))] t.heap ∧ va_D (va_A [(mo, .inr (4, [.int (nI th), .int (nI n), .int (nI gu), .int (nI tn), .ref e0, .ref e1, .ref e2, .ref e3, .ref e4, .ref e5])), (e4, .inl (cA, 62, .inl (znw dy pu wa iv gh tf)))] sz) [(mo, .inr (4, [.int (nI th), .int (nI n), .int (nI gu), .int (nI tn), .ref e0, .ref e1, .ref e2, .ref e3, .ref e4, .ref e5])), (e4, .inl (cA, 62, .inl (znw dy pu (zup wa r k) iv gh tf)))]) (va_A [(mo, .inr (4, [.int (nI th), .int (nI n), .int (nI gu), .int (nI tn), .ref e0, .ref e1, .ref e2, .ref e3, .ref e4, .ref e5])), (e4, .inl (cA, 62, .inl (znw dy pu wa iv gh tf)))] sz)) 0 0 (va_A [(mo, .inr (4, [.int (nI th), .int (nI n), .int (nI gu), .int (nI tn), .ref e0, .ref e1, .ref e2, .ref e3, .ref e4, .ref e5])), (e4, .inl (cA, 62, .inl (znw dy pu wa iv gh tf)))] sz) := by
  refine Met.ofW (cc := cX5_let) (maxL := 4) (ret := none) (by decide) rfl ?_
  intro p e s m args below meth c s₁ B hml hv
  obtain ⟨hargs, hsz, hP, hK, hD0⟩ := hv
  have hx := B.exec
  have hb := B.bytes
  have hr := B.returns
  have hts := atoms_spec (ws := wsX5_let) B.pre
  have hown : s.vm.findClass RX5 = some m.cls := findClass_of_methodNamed B.named
  have hlocks := B.notSynchronized
  subst hsz
  have hD := hD0.self (sz := s.heap.size)
  generalize hAe : va_A [(mo, .inr (4, [.int (nI th), .int (nI n), .int (nI gu), .int (nI tn), .ref e0, .ref e1, .ref e2, .ref e3, .ref e4, .ref e5])), (e4, .inl (cA, 62, .inl (znw dy pu wa iv gh tf)))] s.heap.size = A at hD ⊢
  have hA : ∀ q : Nat, s.heap.size ≤ q → A q := fun q h => by rw [← hAe]; exact Or.inr h
  have hS : va_S A s.heap s.heap [] := va_S.rf
  have hP : va_P (dC, dI) vwCl [(mo, .inr (4, [.int (nI th), .int (nI n), .int (nI gu), .int (nI tn), .ref e0, .ref e1, .ref e2, .ref e3, .ref e4, .ref e5])), (e4, .inl (cA, 62, .inl (znw dy pu wa iv gh tf)))] s.heap := hP
  have hl := lv_entry ([.ref mo, .int (nI r), .int (nI 0), .int (nI k)]) (n := 4) (Nat.le_of_ble_eq_true rfl)
  rw [hargs, lg_entry_eq, ← hargs]
  generalize (lg_sl ([.ref mo, .int (nI r), .int (nI 0), .int (nI k)]) ++ List.replicate (4 - (lg_sl ([.ref mo, .int (nI r), .int (nI 0), .int (nI k)])).length) Slot.unset).toArray = ls at hl ⊢
  have hl : lv_has ls 4 [(0, .ref mo), (1, .int (nI r)), (2, .int (nI 0)), (3, .int (nI k))] := hl
  refine lv_aload_n hx hb dX5_let_0 rfl (lv_at hl 0 rfl) ?_
  refine va_get (D := (dC, dI)) (ci := 4) (v := .ref e4) (C := RX5) (T := TX5) (N := 10) hx hb hts i_X5_let_X5 hown hK hP 0 rfl rfl 8 (by decide) (hts (.fieldLink RX5 26 "RuinViewsModel" "now" "[I") (List.mem_of_getElem? (i := 1) rfl)) (fun _ h9 => h9) rfl dX5_let_1 ?_
  refine lv_iconst (v := nI 2) hx hb dX5_let_4 (by decide) ?_
  refine lv_iconst (v := nI 3) hx hb dX5_let_5 (by decide) ?_
  refine lv_iload_n hx hb dX5_let_6 rfl (lv_at hl 1 rfl) ?_
  refine lv_imul hx hb dX5_let_7 ?_
  refine zz_top (pk_mul _ _) ?_
  refine lv_iadd hx hb dX5_let_8 ?_
  refine zz_top (nI_add _ _) ?_
  refine lv_iload_n hx hb dX5_let_9 rfl (lv_at hl 2 rfl) ?_
  refine lv_iadd hx hb dX5_let_10 ?_
  refine zz_top (nI_add _ _) ?_
  refine lv_iload_n hx hb dX5_let_11 rfl (lv_at hl 3 rfl) ?_
  refine zz_astI hx hb hK hP hD hS 1 (f := znw dy pu wa iv gh tf) rfl rfl (by omega) (by decide) dX5_let_12 (fun H locs hP hD hS => ?_)
  have hP : va_P (dC, dI) vwCl [(mo, .inr (4, [.int (nI th), .int (nI n), .int (nI gu), .int (nI tn), .ref e0, .ref e1, .ref e2, .ref e3, .ref e4, .ref e5])), (e4, .inl (cA, 62, .inl (upd (znw dy pu wa iv gh tf) ((2 + (3 * r)) + 0) (nI k))))] H := hP
  have hD : va_D A [(mo, .inr (4, [.int (nI th), .int (nI n), .int (nI gu), .int (nI tn), .ref e0, .ref e1, .ref e2, .ref e3, .ref e4, .ref e5])), (e4, .inl (cA, 62, .inl (upd (znw dy pu wa iv gh tf) ((2 + (3 * r)) + 0) (nI k))))] := hD
  have hw1 : ∀ (x0 : Nat → Int32), x0 = upd (znw dy pu wa iv gh tf) ((2 + (3 * r)) + 0) (nI k) → va_P (dC, dI) vwCl [(mo, .inr (4, [.int (nI th), .int (nI n), .int (nI gu), .int (nI tn), .ref e0, .ref e1, .ref e2, .ref e3, .ref e4, .ref e5])), (e4, .inl (cA, 62, .inl x0))] H ∧ va_D A [(mo, .inr (4, [.int (nI th), .int (nI n), .int (nI gu), .int (nI tn), .ref e0, .ref e1, .ref e2, .ref e3, .ref e4, .ref e5])), (e4, .inl (cA, 62, .inl x0))] := by
    intro x0 h0; subst h0; exact ⟨hP, hD⟩
  obtain ⟨hP, hD⟩ := hw1 (znw dy pu (zup wa r k) iv gh tf) (show (znw dy pu (zup wa r k) iv gh tf) = upd (znw dy pu wa iv gh tf) ((2 + (3 * r)) + 0) (nI k) from by exact (znw_uw _ _ _ _ _ _ _ (by omega)).symm)
  exact W.vret hx hb hr (fun t ht hW => ⟨⟨(), rfl, trivial, by rw [ht]; exact hP, hD⟩, hS.F ht⟩) hS.2.2 dX5_let_13
set_option maxHeartbeats 4000000 in
set_option maxRecDepth 100000 in
theorem c_ru1 (l : Launch) (dC : Nat → ClassId) (dI : Nat → Nat → Nat) (cA : ClassId) (mo : Nat) (e0 : Nat) (e1 : Nat) (e2 : Nat) (e3 : Nat) (e4 : Nat) (e5 : Nat) (th : Nat) (n : Nat) (gu : Nat) (tn : Nat) (dy : Nat) (pu : Int32) (wa : Nat → Nat) (iv : Nat → Nat) (gh : Nat → Nat) (tf : Nat → Nat) (r : Nat) (hrn : r < 10) : Met l yX5_ru wsX5_ru ({ frames := 0, cells := 0, slots := 0, locals := 0 } : Room) (va_Pc [.ref mo, .int (nI r), .int (nI 1)] (fun U => va_P (dC, dI) vwCl [(mo, .inr (4, [.int (nI th), .int (nI n), .int (nI gu), .int (nI tn), .ref e0, .ref e1, .ref e2, .ref e3, .ref e4, .ref e5])), (e4, .inl (cA, 62, .inl (znw dy pu wa iv gh tf)))] U.heap ∧ va_K (dC, dI) vwCl [(cA, .int)] U)) (vp_Si (fun y9 : Int32 => y9 = nI (iv r))) 0 0 (fun _ => False) := by
  refine Met.ofW (cc := cX5_ru) (maxL := 3) (ret := (some .int)) (by decide) rfl ?_
  intro p e s m args below meth c s₁ B hml hv
  obtain ⟨hargs, hP, hK⟩ := hv
  have hx := B.exec
  have hb := B.bytes
  have hr := B.returns
  have hts := atoms_spec (ws := wsX5_ru) B.pre
  have hown : s.vm.findClass RX5 = some m.cls := findClass_of_methodNamed B.named
  have hlocks := B.notSynchronized
  have hl := lv_entry ([.ref mo, .int (nI r), .int (nI 1)]) (n := 3) (Nat.le_of_ble_eq_true rfl)
  rw [hargs, lg_entry_eq, ← hargs]
  generalize (lg_sl ([.ref mo, .int (nI r), .int (nI 1)]) ++ List.replicate (3 - (lg_sl ([.ref mo, .int (nI r), .int (nI 1)])).length) Slot.unset).toArray = ls at hl ⊢
  have hl : lv_has ls 3 [(0, .ref mo), (1, .int (nI r)), (2, .int (nI 1))] := hl
  refine lv_aload_n hx hb dX5_ru_0 rfl (lv_at hl 0 rfl) ?_
  refine va_get (D := (dC, dI)) (ci := 4) (v := .ref e4) (C := RX5) (T := TX5) (N := 10) hx hb hts i_X5_ru_X5 hown hK hP 0 rfl rfl 8 (by decide) (hts (.fieldLink RX5 26 "RuinViewsModel" "now" "[I") (List.mem_of_getElem? (i := 1) rfl)) (fun _ h9 => h9) rfl dX5_ru_1 ?_
  refine lv_iconst (v := nI 2) hx hb dX5_ru_4 (by decide) ?_
  refine lv_iconst (v := nI 3) hx hb dX5_ru_5 (by decide) ?_
  refine lv_iload_n hx hb dX5_ru_6 rfl (lv_at hl 1 rfl) ?_
  refine lv_imul hx hb dX5_ru_7 ?_
  refine zz_top (pk_mul _ _) ?_
  refine lv_iadd hx hb dX5_ru_8 ?_
  refine zz_top (nI_add _ _) ?_
  refine lv_iload_n hx hb dX5_ru_9 rfl (lv_at hl 2 rfl) ?_
  refine lv_iadd hx hb dX5_ru_10 ?_
  refine zz_top (nI_add _ _) ?_
  refine zz_aldI hx hb hK hP 1 (f := znw dy pu wa iv gh tf) rfl rfl (by omega) (by decide) dX5_ru_11 ?_
  refine zz_top (znw_i _ _ _ _ _ _ (by omega)) ?_
  exact W.iret hx hb hr (fun t ht hW => ⟨_, rfl, rfl, ht⟩) (fun _ h => nomatch h) dX5_ru_12
set_option maxHeartbeats 4000000 in
set_option maxRecDepth 100000 in
theorem c_let1 (l : Launch) (dC : Nat → ClassId) (dI : Nat → Nat → Nat) (cA : ClassId) (mo : Nat) (e0 : Nat) (e1 : Nat) (e2 : Nat) (e3 : Nat) (e4 : Nat) (e5 : Nat) (th : Nat) (n : Nat) (gu : Nat) (tn : Nat) (dy : Nat) (pu : Int32) (wa : Nat → Nat) (iv : Nat → Nat) (gh : Nat → Nat) (tf : Nat → Nat) (r : Nat) (k : Nat) (sz : Nat) (hrn : r < 10) : Met l yX5_let wsX5_let ({ frames := 0, cells := 0, slots := 0, locals := 0 } : Room) (va_Pc [.ref mo, .int (nI r), .int (nI 1), .int (nI k)] (fun U => U.heap.size = sz ∧ va_P (dC, dI) vwCl [(mo, .inr (4, [.int (nI th), .int (nI n), .int (nI gu), .int (nI tn), .ref e0, .ref e1, .ref e2, .ref e3, .ref e4, .ref e5])), (e4, .inl (cA, 62, .inl (znw dy pu wa iv gh tf)))] U.heap ∧ va_K (dC, dI) vwCl [(cA, .int)] U ∧ va_D (fun _ => True) [(mo, .inr (4, [.int (nI th), .int (nI n), .int (nI gu), .int (nI tn), .ref e0, .ref e1, .ref e2, .ref e3, .ref e4, .ref e5])), (e4, .inl (cA, 62, .inl (znw dy pu wa iv gh tf)))])) (va_Qv (fun _ : Unit => True) (fun (_ : Unit) t => va_P (dC, dI) vwCl [(mo, .inr (4, [.int (nI th), .int (nI n), .int (nI gu), .int (nI tn), .ref e0, .ref e1, .ref e2, .ref e3, .ref e4, .ref e5])), (e4, .inl (cA, 62, .inl (znw dy pu wa (zup iv r k) gh tf)))] t.heap ∧ va_D (va_A [(mo, .inr (4, [.int (nI th), .int (nI n), .int (nI gu), .int (nI tn), .ref e0, .ref e1, .ref e2, .ref e3, .ref e4, .ref e5])), (e4, .inl (cA, 62, .inl (znw dy pu wa iv gh tf)))] sz) [(mo, .inr (4, [.int (nI th), .int (nI n), .int (nI gu), .int (nI tn), .ref e0, .ref e1, .ref e2, .ref e3, .ref e4, .ref e5])), (e4, .inl (cA, 62, .inl (znw dy pu wa (zup iv r k) gh tf)))]) (va_A [(mo, .inr (4, [.int (nI th), .int (nI n), .int (nI gu), .int (nI tn), .ref e0, .ref e1, .ref e2, .ref e3, .ref e4, .ref e5])), (e4, .inl (cA, 62, .inl (znw dy pu wa iv gh tf)))] sz)) 0 0 (va_A [(mo, .inr (4, [.int (nI th), .int (nI n), .int (nI gu), .int (nI tn), .ref e0, .ref e1, .ref e2, .ref e3, .ref e4, .ref e5])), (e4, .inl (cA, 62, .inl (znw dy pu wa iv gh tf)))] sz) := by
  refine Met.ofW (cc := cX5_let) (maxL := 4) (ret := none) (by decide) rfl ?_
  intro p e s m args below meth c s₁ B hml hv
  obtain ⟨hargs, hsz, hP, hK, hD0⟩ := hv
  have hx := B.exec
  have hb := B.bytes
  have hr := B.returns
  have hts := atoms_spec (ws := wsX5_let) B.pre
  have hown : s.vm.findClass RX5 = some m.cls := findClass_of_methodNamed B.named
  have hlocks := B.notSynchronized
  subst hsz
  have hD := hD0.self (sz := s.heap.size)
  generalize hAe : va_A [(mo, .inr (4, [.int (nI th), .int (nI n), .int (nI gu), .int (nI tn), .ref e0, .ref e1, .ref e2, .ref e3, .ref e4, .ref e5])), (e4, .inl (cA, 62, .inl (znw dy pu wa iv gh tf)))] s.heap.size = A at hD ⊢
  have hA : ∀ q : Nat, s.heap.size ≤ q → A q := fun q h => by rw [← hAe]; exact Or.inr h
  have hS : va_S A s.heap s.heap [] := va_S.rf
  have hP : va_P (dC, dI) vwCl [(mo, .inr (4, [.int (nI th), .int (nI n), .int (nI gu), .int (nI tn), .ref e0, .ref e1, .ref e2, .ref e3, .ref e4, .ref e5])), (e4, .inl (cA, 62, .inl (znw dy pu wa iv gh tf)))] s.heap := hP
  have hl := lv_entry ([.ref mo, .int (nI r), .int (nI 1), .int (nI k)]) (n := 4) (Nat.le_of_ble_eq_true rfl)
  rw [hargs, lg_entry_eq, ← hargs]
  generalize (lg_sl ([.ref mo, .int (nI r), .int (nI 1), .int (nI k)]) ++ List.replicate (4 - (lg_sl ([.ref mo, .int (nI r), .int (nI 1), .int (nI k)])).length) Slot.unset).toArray = ls at hl ⊢
  have hl : lv_has ls 4 [(0, .ref mo), (1, .int (nI r)), (2, .int (nI 1)), (3, .int (nI k))] := hl
  refine lv_aload_n hx hb dX5_let_0 rfl (lv_at hl 0 rfl) ?_
  refine va_get (D := (dC, dI)) (ci := 4) (v := .ref e4) (C := RX5) (T := TX5) (N := 10) hx hb hts i_X5_let_X5 hown hK hP 0 rfl rfl 8 (by decide) (hts (.fieldLink RX5 26 "RuinViewsModel" "now" "[I") (List.mem_of_getElem? (i := 1) rfl)) (fun _ h9 => h9) rfl dX5_let_1 ?_
  refine lv_iconst (v := nI 2) hx hb dX5_let_4 (by decide) ?_
  refine lv_iconst (v := nI 3) hx hb dX5_let_5 (by decide) ?_
  refine lv_iload_n hx hb dX5_let_6 rfl (lv_at hl 1 rfl) ?_
  refine lv_imul hx hb dX5_let_7 ?_
  refine zz_top (pk_mul _ _) ?_
  refine lv_iadd hx hb dX5_let_8 ?_
  refine zz_top (nI_add _ _) ?_
  refine lv_iload_n hx hb dX5_let_9 rfl (lv_at hl 2 rfl) ?_
  refine lv_iadd hx hb dX5_let_10 ?_
  refine zz_top (nI_add _ _) ?_
  refine lv_iload_n hx hb dX5_let_11 rfl (lv_at hl 3 rfl) ?_
  refine zz_astI hx hb hK hP hD hS 1 (f := znw dy pu wa iv gh tf) rfl rfl (by omega) (by decide) dX5_let_12 (fun H locs hP hD hS => ?_)
  have hP : va_P (dC, dI) vwCl [(mo, .inr (4, [.int (nI th), .int (nI n), .int (nI gu), .int (nI tn), .ref e0, .ref e1, .ref e2, .ref e3, .ref e4, .ref e5])), (e4, .inl (cA, 62, .inl (upd (znw dy pu wa iv gh tf) ((2 + (3 * r)) + 1) (nI k))))] H := hP
  have hD : va_D A [(mo, .inr (4, [.int (nI th), .int (nI n), .int (nI gu), .int (nI tn), .ref e0, .ref e1, .ref e2, .ref e3, .ref e4, .ref e5])), (e4, .inl (cA, 62, .inl (upd (znw dy pu wa iv gh tf) ((2 + (3 * r)) + 1) (nI k))))] := hD
  have hw1 : ∀ (x0 : Nat → Int32), x0 = upd (znw dy pu wa iv gh tf) ((2 + (3 * r)) + 1) (nI k) → va_P (dC, dI) vwCl [(mo, .inr (4, [.int (nI th), .int (nI n), .int (nI gu), .int (nI tn), .ref e0, .ref e1, .ref e2, .ref e3, .ref e4, .ref e5])), (e4, .inl (cA, 62, .inl x0))] H ∧ va_D A [(mo, .inr (4, [.int (nI th), .int (nI n), .int (nI gu), .int (nI tn), .ref e0, .ref e1, .ref e2, .ref e3, .ref e4, .ref e5])), (e4, .inl (cA, 62, .inl x0))] := by
    intro x0 h0; subst h0; exact ⟨hP, hD⟩
  obtain ⟨hP, hD⟩ := hw1 (znw dy pu wa (zup iv r k) gh tf) (show (znw dy pu wa (zup iv r k) gh tf) = upd (znw dy pu wa iv gh tf) ((2 + (3 * r)) + 1) (nI k) from by exact (znw_ui _ _ _ _ _ _ _ (by omega)).symm)
  exact W.vret hx hb hr (fun t ht hW => ⟨⟨(), rfl, trivial, by rw [ht]; exact hP, hD⟩, hS.F ht⟩) hS.2.2 dX5_let_13
set_option maxHeartbeats 4000000 in
set_option maxRecDepth 100000 in
theorem c_ru2 (l : Launch) (dC : Nat → ClassId) (dI : Nat → Nat → Nat) (cA : ClassId) (mo : Nat) (e0 : Nat) (e1 : Nat) (e2 : Nat) (e3 : Nat) (e4 : Nat) (e5 : Nat) (th : Nat) (n : Nat) (gu : Nat) (tn : Nat) (dy : Nat) (pu : Int32) (wa : Nat → Nat) (iv : Nat → Nat) (gh : Nat → Nat) (tf : Nat → Nat) (r : Nat) (hrn : r < 10) : Met l yX5_ru wsX5_ru ({ frames := 0, cells := 0, slots := 0, locals := 0 } : Room) (va_Pc [.ref mo, .int (nI r), .int (nI 2)] (fun U => va_P (dC, dI) vwCl [(mo, .inr (4, [.int (nI th), .int (nI n), .int (nI gu), .int (nI tn), .ref e0, .ref e1, .ref e2, .ref e3, .ref e4, .ref e5])), (e4, .inl (cA, 62, .inl (znw dy pu wa iv gh tf)))] U.heap ∧ va_K (dC, dI) vwCl [(cA, .int)] U)) (vp_Si (fun y9 : Int32 => y9 = nI (gh r))) 0 0 (fun _ => False) := by
  refine Met.ofW (cc := cX5_ru) (maxL := 3) (ret := (some .int)) (by decide) rfl ?_
  intro p e s m args below meth c s₁ B hml hv
  obtain ⟨hargs, hP, hK⟩ := hv
  have hx := B.exec
  have hb := B.bytes
  have hr := B.returns
  have hts := atoms_spec (ws := wsX5_ru) B.pre
  have hown : s.vm.findClass RX5 = some m.cls := findClass_of_methodNamed B.named
  have hlocks := B.notSynchronized
  have hl := lv_entry ([.ref mo, .int (nI r), .int (nI 2)]) (n := 3) (Nat.le_of_ble_eq_true rfl)
  rw [hargs, lg_entry_eq, ← hargs]
  generalize (lg_sl ([.ref mo, .int (nI r), .int (nI 2)]) ++ List.replicate (3 - (lg_sl ([.ref mo, .int (nI r), .int (nI 2)])).length) Slot.unset).toArray = ls at hl ⊢
  have hl : lv_has ls 3 [(0, .ref mo), (1, .int (nI r)), (2, .int (nI 2))] := hl
  refine lv_aload_n hx hb dX5_ru_0 rfl (lv_at hl 0 rfl) ?_
  refine va_get (D := (dC, dI)) (ci := 4) (v := .ref e4) (C := RX5) (T := TX5) (N := 10) hx hb hts i_X5_ru_X5 hown hK hP 0 rfl rfl 8 (by decide) (hts (.fieldLink RX5 26 "RuinViewsModel" "now" "[I") (List.mem_of_getElem? (i := 1) rfl)) (fun _ h9 => h9) rfl dX5_ru_1 ?_
  refine lv_iconst (v := nI 2) hx hb dX5_ru_4 (by decide) ?_
  refine lv_iconst (v := nI 3) hx hb dX5_ru_5 (by decide) ?_
  refine lv_iload_n hx hb dX5_ru_6 rfl (lv_at hl 1 rfl) ?_
  refine lv_imul hx hb dX5_ru_7 ?_
  refine zz_top (pk_mul _ _) ?_
  refine lv_iadd hx hb dX5_ru_8 ?_
  refine zz_top (nI_add _ _) ?_
  refine lv_iload_n hx hb dX5_ru_9 rfl (lv_at hl 2 rfl) ?_
  refine lv_iadd hx hb dX5_ru_10 ?_
  refine zz_top (nI_add _ _) ?_
  refine zz_aldI hx hb hK hP 1 (f := znw dy pu wa iv gh tf) rfl rfl (by omega) (by decide) dX5_ru_11 ?_
  refine zz_top (znw_g _ _ _ _ _ _ (by omega)) ?_
  exact W.iret hx hb hr (fun t ht hW => ⟨_, rfl, rfl, ht⟩) (fun _ h => nomatch h) dX5_ru_12
set_option maxHeartbeats 4000000 in
set_option maxRecDepth 100000 in
theorem c_let2 (l : Launch) (dC : Nat → ClassId) (dI : Nat → Nat → Nat) (cA : ClassId) (mo : Nat) (e0 : Nat) (e1 : Nat) (e2 : Nat) (e3 : Nat) (e4 : Nat) (e5 : Nat) (th : Nat) (n : Nat) (gu : Nat) (tn : Nat) (dy : Nat) (pu : Int32) (wa : Nat → Nat) (iv : Nat → Nat) (gh : Nat → Nat) (tf : Nat → Nat) (r : Nat) (k : Nat) (sz : Nat) (hrn : r < 10) : Met l yX5_let wsX5_let ({ frames := 0, cells := 0, slots := 0, locals := 0 } : Room) (va_Pc [.ref mo, .int (nI r), .int (nI 2), .int (nI k)] (fun U => U.heap.size = sz ∧ va_P (dC, dI) vwCl [(mo, .inr (4, [.int (nI th), .int (nI n), .int (nI gu), .int (nI tn), .ref e0, .ref e1, .ref e2, .ref e3, .ref e4, .ref e5])), (e4, .inl (cA, 62, .inl (znw dy pu wa iv gh tf)))] U.heap ∧ va_K (dC, dI) vwCl [(cA, .int)] U ∧ va_D (fun _ => True) [(mo, .inr (4, [.int (nI th), .int (nI n), .int (nI gu), .int (nI tn), .ref e0, .ref e1, .ref e2, .ref e3, .ref e4, .ref e5])), (e4, .inl (cA, 62, .inl (znw dy pu wa iv gh tf)))])) (va_Qv (fun _ : Unit => True) (fun (_ : Unit) t => va_P (dC, dI) vwCl [(mo, .inr (4, [.int (nI th), .int (nI n), .int (nI gu), .int (nI tn), .ref e0, .ref e1, .ref e2, .ref e3, .ref e4, .ref e5])), (e4, .inl (cA, 62, .inl (znw dy pu wa iv (zup gh r k) tf)))] t.heap ∧ va_D (va_A [(mo, .inr (4, [.int (nI th), .int (nI n), .int (nI gu), .int (nI tn), .ref e0, .ref e1, .ref e2, .ref e3, .ref e4, .ref e5])), (e4, .inl (cA, 62, .inl (znw dy pu wa iv gh tf)))] sz) [(mo, .inr (4, [.int (nI th), .int (nI n), .int (nI gu), .int (nI tn), .ref e0, .ref e1, .ref e2, .ref e3, .ref e4, .ref e5])), (e4, .inl (cA, 62, .inl (znw dy pu wa iv (zup gh r k) tf)))]) (va_A [(mo, .inr (4, [.int (nI th), .int (nI n), .int (nI gu), .int (nI tn), .ref e0, .ref e1, .ref e2, .ref e3, .ref e4, .ref e5])), (e4, .inl (cA, 62, .inl (znw dy pu wa iv gh tf)))] sz)) 0 0 (va_A [(mo, .inr (4, [.int (nI th), .int (nI n), .int (nI gu), .int (nI tn), .ref e0, .ref e1, .ref e2, .ref e3, .ref e4, .ref e5])), (e4, .inl (cA, 62, .inl (znw dy pu wa iv gh tf)))] sz) := by
  refine Met.ofW (cc := cX5_let) (maxL := 4) (ret := none) (by decide) rfl ?_
  intro p e s m args below meth c s₁ B hml hv
  obtain ⟨hargs, hsz, hP, hK, hD0⟩ := hv
  have hx := B.exec
  have hb := B.bytes
  have hr := B.returns
  have hts := atoms_spec (ws := wsX5_let) B.pre
  have hown : s.vm.findClass RX5 = some m.cls := findClass_of_methodNamed B.named
  have hlocks := B.notSynchronized
  subst hsz
  have hD := hD0.self (sz := s.heap.size)
  generalize hAe : va_A [(mo, .inr (4, [.int (nI th), .int (nI n), .int (nI gu), .int (nI tn), .ref e0, .ref e1, .ref e2, .ref e3, .ref e4, .ref e5])), (e4, .inl (cA, 62, .inl (znw dy pu wa iv gh tf)))] s.heap.size = A at hD ⊢
  have hA : ∀ q : Nat, s.heap.size ≤ q → A q := fun q h => by rw [← hAe]; exact Or.inr h
  have hS : va_S A s.heap s.heap [] := va_S.rf
  have hP : va_P (dC, dI) vwCl [(mo, .inr (4, [.int (nI th), .int (nI n), .int (nI gu), .int (nI tn), .ref e0, .ref e1, .ref e2, .ref e3, .ref e4, .ref e5])), (e4, .inl (cA, 62, .inl (znw dy pu wa iv gh tf)))] s.heap := hP
  have hl := lv_entry ([.ref mo, .int (nI r), .int (nI 2), .int (nI k)]) (n := 4) (Nat.le_of_ble_eq_true rfl)
  rw [hargs, lg_entry_eq, ← hargs]
  generalize (lg_sl ([.ref mo, .int (nI r), .int (nI 2), .int (nI k)]) ++ List.replicate (4 - (lg_sl ([.ref mo, .int (nI r), .int (nI 2), .int (nI k)])).length) Slot.unset).toArray = ls at hl ⊢
  have hl : lv_has ls 4 [(0, .ref mo), (1, .int (nI r)), (2, .int (nI 2)), (3, .int (nI k))] := hl
  refine lv_aload_n hx hb dX5_let_0 rfl (lv_at hl 0 rfl) ?_
  refine va_get (D := (dC, dI)) (ci := 4) (v := .ref e4) (C := RX5) (T := TX5) (N := 10) hx hb hts i_X5_let_X5 hown hK hP 0 rfl rfl 8 (by decide) (hts (.fieldLink RX5 26 "RuinViewsModel" "now" "[I") (List.mem_of_getElem? (i := 1) rfl)) (fun _ h9 => h9) rfl dX5_let_1 ?_
  refine lv_iconst (v := nI 2) hx hb dX5_let_4 (by decide) ?_
  refine lv_iconst (v := nI 3) hx hb dX5_let_5 (by decide) ?_
  refine lv_iload_n hx hb dX5_let_6 rfl (lv_at hl 1 rfl) ?_
  refine lv_imul hx hb dX5_let_7 ?_
  refine zz_top (pk_mul _ _) ?_
  refine lv_iadd hx hb dX5_let_8 ?_
  refine zz_top (nI_add _ _) ?_
  refine lv_iload_n hx hb dX5_let_9 rfl (lv_at hl 2 rfl) ?_
  refine lv_iadd hx hb dX5_let_10 ?_
  refine zz_top (nI_add _ _) ?_
  refine lv_iload_n hx hb dX5_let_11 rfl (lv_at hl 3 rfl) ?_
  refine zz_astI hx hb hK hP hD hS 1 (f := znw dy pu wa iv gh tf) rfl rfl (by omega) (by decide) dX5_let_12 (fun H locs hP hD hS => ?_)
  have hP : va_P (dC, dI) vwCl [(mo, .inr (4, [.int (nI th), .int (nI n), .int (nI gu), .int (nI tn), .ref e0, .ref e1, .ref e2, .ref e3, .ref e4, .ref e5])), (e4, .inl (cA, 62, .inl (upd (znw dy pu wa iv gh tf) ((2 + (3 * r)) + 2) (nI k))))] H := hP
  have hD : va_D A [(mo, .inr (4, [.int (nI th), .int (nI n), .int (nI gu), .int (nI tn), .ref e0, .ref e1, .ref e2, .ref e3, .ref e4, .ref e5])), (e4, .inl (cA, 62, .inl (upd (znw dy pu wa iv gh tf) ((2 + (3 * r)) + 2) (nI k))))] := hD
  have hw1 : ∀ (x0 : Nat → Int32), x0 = upd (znw dy pu wa iv gh tf) ((2 + (3 * r)) + 2) (nI k) → va_P (dC, dI) vwCl [(mo, .inr (4, [.int (nI th), .int (nI n), .int (nI gu), .int (nI tn), .ref e0, .ref e1, .ref e2, .ref e3, .ref e4, .ref e5])), (e4, .inl (cA, 62, .inl x0))] H ∧ va_D A [(mo, .inr (4, [.int (nI th), .int (nI n), .int (nI gu), .int (nI tn), .ref e0, .ref e1, .ref e2, .ref e3, .ref e4, .ref e5])), (e4, .inl (cA, 62, .inl x0))] := by
    intro x0 h0; subst h0; exact ⟨hP, hD⟩
  obtain ⟨hP, hD⟩ := hw1 (znw dy pu wa iv (zup gh r k) tf) (show (znw dy pu wa iv (zup gh r k) tf) = upd (znw dy pu wa iv gh tf) ((2 + (3 * r)) + 2) (nI k) from by exact (znw_ug _ _ _ _ _ _ _ (by omega)).symm)
  exact W.vret hx hb hr (fun t ht hW => ⟨⟨(), rfl, trivial, by rw [ht]; exact hP, hD⟩, hS.F ht⟩) hS.2.2 dX5_let_13
theorem i_X5_light_X5 : ∀ w ∈ u_ws RX5 TX5 10, w ∈ wsX5_light := by decide +kernel
set_option maxHeartbeats 4000000 in
set_option maxRecDepth 100000 in
theorem c_X5_light (l : Launch) (dC : Nat → ClassId) (dI : Nat → Nat → Nat) (cA : ClassId) (mo : Nat) (e0 : Nat) (e1 : Nat) (e2 : Nat) (e3 : Nat) (e4 : Nat) (e5 : Nat) (th : Nat) (n : Nat) (gu : Nat) (tn : Nat) (dy : Nat) (pu : Int32) (wa : Nat → Nat) (iv : Nat → Nat) (gh : Nat → Nat) (tf : Nat → Nat) (hdy : dy < 2 ^ 31) : Met l yX5_light wsX5_light ({ frames := 1, cells := 0, slots := 0, locals := 24 } : Room) (va_Pc [.ref mo] (fun U => va_P (dC, dI) vwCl [(mo, .inr (4, [.int (nI th), .int (nI n), .int (nI gu), .int (nI tn), .ref e0, .ref e1, .ref e2, .ref e3, .ref e4, .ref e5])), (e4, .inl (cA, 62, .inl (znw dy pu wa iv gh tf)))] U.heap ∧ va_K (dC, dI) vwCl [(cA, .int)] U)) (vp_Si (fun y9 : Int32 => y9 = nI (zb dy))) 0 0 (fun _ => False) := by
  refine Met.ofW (cc := cX5_light) (maxL := 2) (ret := (some .int)) (by decide) rfl ?_
  intro p e s m args below meth c s₁ B hml hv
  obtain ⟨hargs, hP, hK⟩ := hv
  have hx := B.exec
  have hb := B.bytes
  have hr := B.returns
  have hts := atoms_spec (ws := wsX5_light) B.pre
  have hown : s.vm.findClass RX5 = some m.cls := findClass_of_methodNamed B.named
  have hlocks := B.notSynchronized
  have hl := lv_entry ([.ref mo]) (n := 2) (Nat.le_of_ble_eq_true rfl)
  rw [hargs, lg_entry_eq, ← hargs]
  generalize (lg_sl ([.ref mo]) ++ List.replicate (2 - (lg_sl ([.ref mo])).length) Slot.unset).toArray = ls at hl ⊢
  have hl : lv_has ls 2 [(0, .ref mo)] := hl
  refine lv_aload_n hx hb dX5_light_0 rfl (lv_at hl 0 rfl) ?_
  refine va_get (D := (dC, dI)) (ci := 4) (v := .ref e4) (C := RX5) (T := TX5) (N := 10) hx hb hts i_X5_light_X5 hown hK hP 0 rfl rfl 8 (by decide) (hts (.fieldLink RX5 26 "RuinViewsModel" "now" "[I") (List.mem_of_getElem? (i := 1) rfl)) (fun _ h9 => h9) rfl dX5_light_1 ?_
  refine lv_iconst (v := nI 0) hx hb dX5_light_4 (by decide) ?_
  refine zz_aldI hx hb hK hP 1 (f := znw dy pu wa iv gh tf) rfl rfl (by omega) (by decide) dX5_light_5 ?_
  refine zz_top (znw_0 _ _ _ _ _ _) ?_
  refine lv_bipush (v := nI 8) hx hb dX5_light_6 (by decide) ?_
  refine lv_irem hx hb dX5_light_8 (by decide) ?_
  refine zz_top (pk_rem (by omega) (by decide) (by decide)) ?_
  refine lv_istore_n (lv' := [(1, .int (nI (dy % 8))), (0, .ref mo)]) hx hb dX5_light_9 rfl hl (by decide) rfl (fun ls hl => ?_)
  refine lv_iload_n hx hb dX5_light_10 rfl (lv_at hl 0 rfl) ?_
  refine lv_bipush (v := nI 8) hx hb dX5_light_11 (by decide) ?_
  refine lv_iload_n hx hb dX5_light_13 rfl (lv_at hl 0 rfl) ?_
  refine lv_isub hx hb dX5_light_14 ?_
  refine zz_top (pk_sub (by omega)) ?_
  refine va_mmin hx hb (by rw [hml]; exact hl.1.symm) hown (hts (.methodLink RX5 51 Lib.Math.min.name) (List.mem_of_getElem? (i := 2) rfl)) (hts (.static Lib.Math.min.name) (List.mem_of_getElem? (i := 3) rfl)) (hts (.initialized "java/lang/Math") (List.mem_of_getElem? (i := 4) rfl)) (hts (.code Lib.Math.min.name Lib.Math.min.code 2 (some .int)) (List.mem_of_getElem? (i := 5) rfl)) (Nat.le_of_ble_eq_true rfl) (Nat.le_of_ble_eq_true rfl) (Nat.le_of_ble_eq_true rfl) (Nat.le_of_ble_eq_true rfl) dX5_light_15 ?_
  refine zz_top (zz_min (by omega) (by omega)) ?_
  exact W.iret hx hb hr (fun t ht hW => ⟨_, rfl, congrArg nI (show min (dy % 8) (8 - (dy % 8)) = zb dy from by (unfold zb; split <;> omega)), ht⟩) (fun _ h => nomatch h) dX5_light_18
set_option maxHeartbeats 4000000 in
set_option maxRecDepth 100000 in
theorem c_X5_stands (l : Launch) (dC : Nat → ClassId) (dI : Nat → Nat → Nat) (cA : ClassId) (mo : Nat) (e0 : Nat) (e1 : Nat) (e2 : Nat) (e3 : Nat) (e4 : Nat) (e5 : Nat) (th : Nat) (n : Nat) (gu : Nat) (tn : Nat) (dy : Nat) (pu : Int32) (wa : Nat → Nat) (iv : Nat → Nat) (gh : Nat → Nat) (tf : Nat → Nat) (r : Nat) (hrn : r < 10) (hw : wa r ≤ 20) : Met l yX5_stands wsX5_stands ({ frames := 1, cells := 0, slots := 0, locals := 22 } : Room) (va_Pc [.ref mo, .int (nI r)] (fun U => va_P (dC, dI) vwCl [(mo, .inr (4, [.int (nI th), .int (nI n), .int (nI gu), .int (nI tn), .ref e0, .ref e1, .ref e2, .ref e3, .ref e4, .ref e5])), (e4, .inl (cA, 62, .inl (znw dy pu wa iv gh tf)))] U.heap ∧ va_K (dC, dI) vwCl [(cA, .int)] U)) (vp_Si (fun y9 : Int32 => y9 = nI (if 0 < wa r then 1 else 0))) 0 0 (fun _ => False) := by
  refine Met.ofW (cc := cX5_stands) (maxL := 2) (ret := (some .boolean)) (by decide) rfl ?_
  intro p e s m args below meth c s₁ B hml hv
  obtain ⟨hargs, hP, hK⟩ := hv
  have hx := B.exec
  have hb := B.bytes
  have hr := B.returns
  have hts := atoms_spec (ws := wsX5_stands) B.pre
  have hown : s.vm.findClass RX5 = some m.cls := findClass_of_methodNamed B.named
  have hlocks := B.notSynchronized
  have hl := lv_entry ([.ref mo, .int (nI r)]) (n := 2) (Nat.le_of_ble_eq_true rfl)
  rw [hargs, lg_entry_eq, ← hargs]
  generalize (lg_sl ([.ref mo, .int (nI r)]) ++ List.replicate (2 - (lg_sl ([.ref mo, .int (nI r)])).length) Slot.unset).toArray = ls at hl ⊢
  have hl : lv_has ls 2 [(0, .ref mo), (1, .int (nI r))] := hl
  refine lv_aload_n hx hb dX5_stands_0 rfl (lv_at hl 0 rfl) ?_
  refine lv_iload_n hx hb dX5_stands_1 rfl (lv_at hl 1 rfl) ?_
  refine lv_iconst (v := nI 0) hx hb dX5_stands_2 (by decide) ?_
  have hPc := hP.sub (ws' := [(mo, .inr (4, [.int (nI th), .int (nI n), .int (nI gu), .int (nI tn), .ref e0, .ref e1, .ref e2, .ref e3, .ref e4, .ref e5])), (e4, .inl (cA, 62, .inl (znw dy pu wa iv gh tf)))]) [0, 1] rfl
  refine vp_callSi (W.runV (As := [.int (nI r),.int (nI 0)]) (rest := []) ⟨hx, hb, hml, hown, hts⟩ (c_ru0 l dC dI cA mo e0 e1 e2 e3 e4 e5 th n gu tn dy pu wa iv gh tf r (by first | assumption | omega)) (cwV 2 hts gX5_stands_X5_ru rfl rfl rfl (by decide +kernel) ⟨Nat.le_of_ble_eq_true rfl, Nat.le_of_ble_eq_true rfl⟩) ⟨fun a U g mk q => by obtain ⟨q0, qP, qK⟩ := q; exact ⟨q0, qP, va_K.moved (u := U) (U := U.calling g mk a) (Vm.Alike.refl U.vm) qK⟩, va_recv hK hP (ci := 4) (q0 := 0) rfl rfl, fun U hU hW => ⟨rfl, by rw [hU]; exact hPc, va_K.moved hW.alike hK⟩⟩ rfl rfl hl.1 rfl (lv_room (Nat.le_of_ble_eq_true rfl)) dX5_stands_3 ⟨Nat.le_of_ble_eq_true rfl, Nat.le_of_ble_eq_true rfl⟩) (fun r_1 hw_1 => ?_)
  subst hw_1
  refine lv_if_le (tgt := 13) hx hb dX5_stands_6 (by decide) (fun c_2 => ?_) (fun c_2 => ?_)
  · skip
    replace c_2 := (zz_lez (by omega)).mp c_2
    refine lv_iconst (v := nI 0) hx hb dX5_stands_13 (by decide) ?_
    exact W.zret (ty := .boolean) hx hb hr (by first | rfl | decide) (fun t ht hW => ⟨_, rfl, congrArg nI (show 0 = if 0 < wa r then 1 else 0 from by (split <;> omega)), ht⟩) (fun _ h => nomatch h) dX5_stands_14
  · skip
    replace c_2 := mt (zz_lez (by omega)).mpr c_2
    refine lv_iconst (v := nI 1) hx hb dX5_stands_9 (by decide) ?_
    refine lv_goto (tgt := 14) hx hb dX5_stands_10 (by decide) ?_
    exact W.zret (ty := .boolean) hx hb hr (by first | rfl | decide) (fun t ht hW => ⟨_, rfl, congrArg nI (show 1 = if 0 < wa r then 1 else 0 from by (split <;> omega)), ht⟩) (fun _ h => nomatch h) dX5_stands_14
set_option maxHeartbeats 4000000 in
set_option maxRecDepth 100000 in
theorem c_X5_grade (l : Launch) (dC : Nat → ClassId) (dI : Nat → Nat → Nat) (cA : ClassId) (mo : Nat) (e0 : Nat) (e1 : Nat) (e2 : Nat) (e3 : Nat) (e4 : Nat) (e5 : Nat) (th : Nat) (n : Nat) (gu : Nat) (tn : Nat) (dy : Nat) (pu : Int32) (wa : Nat → Nat) (iv : Nat → Nat) (gh : Nat → Nat) (tf : Nat → Nat) (r : Nat) (hrn : r < 10) (hi : iv r ≤ 12) : Met l yX5_grade wsX5_grade ({ frames := 1, cells := 0, slots := 0, locals := 22 } : Room) (va_Pc [.ref mo, .int (nI r)] (fun U => va_P (dC, dI) vwCl [(mo, .inr (4, [.int (nI th), .int (nI n), .int (nI gu), .int (nI tn), .ref e0, .ref e1, .ref e2, .ref e3, .ref e4, .ref e5])), (e4, .inl (cA, 62, .inl (znw dy pu wa iv gh tf)))] U.heap ∧ va_K (dC, dI) vwCl [(cA, .int)] U)) (vp_Si (fun y9 : Int32 => y9 = nI (zg (iv r)))) 0 0 (fun _ => False) := by
  refine Met.ofW (cc := cX5_grade) (maxL := 3) (ret := (some .int)) (by decide) rfl ?_
  intro p e s m args below meth c s₁ B hml hv
  obtain ⟨hargs, hP, hK⟩ := hv
  have hx := B.exec
  have hb := B.bytes
  have hr := B.returns
  have hts := atoms_spec (ws := wsX5_grade) B.pre
  have hown : s.vm.findClass RX5 = some m.cls := findClass_of_methodNamed B.named
  have hlocks := B.notSynchronized
  have hl := lv_entry ([.ref mo, .int (nI r)]) (n := 3) (Nat.le_of_ble_eq_true rfl)
  rw [hargs, lg_entry_eq, ← hargs]
  generalize (lg_sl ([.ref mo, .int (nI r)]) ++ List.replicate (3 - (lg_sl ([.ref mo, .int (nI r)])).length) Slot.unset).toArray = ls at hl ⊢
  have hl : lv_has ls 3 [(0, .ref mo), (1, .int (nI r))] := hl
  refine lv_aload_n hx hb dX5_grade_0 rfl (lv_at hl 0 rfl) ?_
  refine lv_iload_n hx hb dX5_grade_1 rfl (lv_at hl 1 rfl) ?_
  refine lv_iconst (v := nI 1) hx hb dX5_grade_2 (by decide) ?_
  have hPc := hP.sub (ws' := [(mo, .inr (4, [.int (nI th), .int (nI n), .int (nI gu), .int (nI tn), .ref e0, .ref e1, .ref e2, .ref e3, .ref e4, .ref e5])), (e4, .inl (cA, 62, .inl (znw dy pu wa iv gh tf)))]) [0, 1] rfl
  refine vp_callSi (W.runV (As := [.int (nI r),.int (nI 1)]) (rest := []) ⟨hx, hb, hml, hown, hts⟩ (c_ru1 l dC dI cA mo e0 e1 e2 e3 e4 e5 th n gu tn dy pu wa iv gh tf r (by first | assumption | omega)) (cwV 2 hts gX5_grade_X5_ru rfl rfl rfl (by decide +kernel) ⟨Nat.le_of_ble_eq_true rfl, Nat.le_of_ble_eq_true rfl⟩) ⟨fun a U g mk q => by obtain ⟨q0, qP, qK⟩ := q; exact ⟨q0, qP, va_K.moved (u := U) (U := U.calling g mk a) (Vm.Alike.refl U.vm) qK⟩, va_recv hK hP (ci := 4) (q0 := 0) rfl rfl, fun U hU hW => ⟨rfl, by rw [hU]; exact hPc, va_K.moved hW.alike hK⟩⟩ rfl rfl hl.1 rfl (lv_room (Nat.le_of_ble_eq_true rfl)) dX5_grade_3 ⟨Nat.le_of_ble_eq_true rfl, Nat.le_of_ble_eq_true rfl⟩) (fun r_1 hw_1 => ?_)
  subst hw_1
  refine lv_istore_n (lv' := [(2, .int (nI (iv r))), (0, .ref mo), (1, .int (nI r))]) hx hb dX5_grade_6 rfl hl (by decide) rfl (fun ls hl => ?_)
  refine lv_iload_n hx hb dX5_grade_7 rfl (lv_at hl 0 rfl) ?_
  refine lv_if_ne (tgt := 15) hx hb dX5_grade_8 (by decide) (fun c_2 => ?_) (fun c_2 => ?_)
  · skip
    replace c_2 := mt (zz_eq0 (by omega)).mpr c_2
    refine lv_iload_n hx hb dX5_grade_15 rfl (lv_at hl 0 rfl) ?_
    refine lv_iconst (v := nI 4) hx hb dX5_grade_16 (by decide) ?_
    refine lv_icmp_lt (tgt := 26) hx hb dX5_grade_17 (by decide) (fun c_3 => ?_) (fun c_3 => ?_)
    · skip
      replace c_3 := (nI_ltI (by omega) (by omega)).mp c_3
      refine lv_iconst (v := nI 1) hx hb dX5_grade_26 (by decide) ?_
      refine lv_goto (tgt := 41) hx hb dX5_grade_27 (by decide) ?_
      exact W.iret hx hb hr (fun t ht hW => ⟨_, rfl, congrArg nI (show 1 = zg (iv r) from by (unfold zg; (repeat' split) <;> omega)), ht⟩) (fun _ h => nomatch h) dX5_grade_41
    · skip
      replace c_3 := mt (nI_ltI (by omega) (by omega)).mpr c_3
      refine lv_iload_n hx hb dX5_grade_20 rfl (lv_at hl 0 rfl) ?_
      refine lv_bipush (v := nI 9) hx hb dX5_grade_21 (by decide) ?_
      refine lv_icmp_le (tgt := 30) hx hb dX5_grade_23 (by decide) (fun c_4 => ?_) (fun c_4 => ?_)
      · skip
        replace c_4 := (nI_leI (by omega) (by omega)).mp c_4
        refine lv_iload_n hx hb dX5_grade_30 rfl (lv_at hl 0 rfl) ?_
        refine lv_bipush (v := nI 7) hx hb dX5_grade_31 (by decide) ?_
        refine lv_icmp_ge (tgt := 40) hx hb dX5_grade_33 (by decide) (fun c_5 => ?_) (fun c_5 => ?_)
        · skip
          replace c_5 := (nI_leI (by omega) (by omega)).mp c_5
          refine lv_iconst (v := nI 3) hx hb dX5_grade_40 (by decide) ?_
          exact W.iret hx hb hr (fun t ht hW => ⟨_, rfl, congrArg nI (show 3 = zg (iv r) from by (unfold zg; (repeat' split) <;> omega)), ht⟩) (fun _ h => nomatch h) dX5_grade_41
        · skip
          replace c_5 := mt (nI_leI (by omega) (by omega)).mpr c_5
          refine lv_iconst (v := nI 2) hx hb dX5_grade_36 (by decide) ?_
          refine lv_goto (tgt := 41) hx hb dX5_grade_37 (by decide) ?_
          exact W.iret hx hb hr (fun t ht hW => ⟨_, rfl, congrArg nI (show 2 = zg (iv r) from by (unfold zg; (repeat' split) <;> omega)), ht⟩) (fun _ h => nomatch h) dX5_grade_41
      · skip
        replace c_4 := mt (nI_leI (by omega) (by omega)).mpr c_4
        refine lv_iconst (v := nI 1) hx hb dX5_grade_26 (by decide) ?_
        refine lv_goto (tgt := 41) hx hb dX5_grade_27 (by decide) ?_
        exact W.iret hx hb hr (fun t ht hW => ⟨_, rfl, congrArg nI (show 1 = zg (iv r) from by (unfold zg; (repeat' split) <;> omega)), ht⟩) (fun _ h => nomatch h) dX5_grade_41
  · skip
    replace c_2 := (zz_eq0 (by omega)).mp c_2
    refine lv_iconst (v := nI 0) hx hb dX5_grade_11 (by decide) ?_
    refine lv_goto (tgt := 41) hx hb dX5_grade_12 (by decide) ?_
    exact W.iret hx hb hr (fun t ht hW => ⟨_, rfl, congrArg nI (show 0 = zg (iv r) from by (unfold zg; (repeat' split) <;> omega)), ht⟩) (fun _ h => nomatch h) dX5_grade_41
set_option maxHeartbeats 4000000 in
set_option maxRecDepth 100000 in
theorem c_X5_view (l : Launch) (dC : Nat → ClassId) (dI : Nat → Nat → Nat) (cA : ClassId) (mo : Nat) (e0 : Nat) (e1 : Nat) (e2 : Nat) (e3 : Nat) (e4 : Nat) (e5 : Nat) (th : Nat) (n : Nat) (gu : Nat) (tn : Nat) (dy : Nat) (pu : Int32) (wa : Nat → Nat) (iv : Nat → Nat) (gh : Nat → Nat) (tf : Nat → Nat) (r : Nat) (hrn : r < 10) (hw : wa r ≤ 20) (hi : iv r ≤ 12) (hdy : dy < 2 ^ 31) : Met l yX5_view wsX5_view ({ frames := 2, cells := 0, slots := 0, locals := 45 } : Room) (va_Pc [.ref mo, .int (nI r)] (fun U => va_P (dC, dI) vwCl [(mo, .inr (4, [.int (nI th), .int (nI n), .int (nI gu), .int (nI tn), .ref e0, .ref e1, .ref e2, .ref e3, .ref e4, .ref e5])), (e4, .inl (cA, 62, .inl (znw dy pu wa iv gh tf)))] U.heap ∧ va_K (dC, dI) vwCl [(cA, .int)] U)) (vp_Si (fun y9 : Int32 => y9 = nI (zv (wa r) (iv r) (gh r) (zb dy)))) 0 0 (fun _ => False) := by
  refine Met.ofW (cc := cX5_view) (maxL := 2) (ret := (some .int)) (by decide) rfl ?_
  intro p e s m args below meth c s₁ B hml hv
  obtain ⟨hargs, hP, hK⟩ := hv
  have hx := B.exec
  have hb := B.bytes
  have hr := B.returns
  have hts := atoms_spec (ws := wsX5_view) B.pre
  have hown : s.vm.findClass RX5 = some m.cls := findClass_of_methodNamed B.named
  have hlocks := B.notSynchronized
  have hl := lv_entry ([.ref mo, .int (nI r)]) (n := 2) (Nat.le_of_ble_eq_true rfl)
  rw [hargs, lg_entry_eq, ← hargs]
  generalize (lg_sl ([.ref mo, .int (nI r)]) ++ List.replicate (2 - (lg_sl ([.ref mo, .int (nI r)])).length) Slot.unset).toArray = ls at hl ⊢
  have hl : lv_has ls 2 [(0, .ref mo), (1, .int (nI r))] := hl
  refine lv_aload_n hx hb dX5_view_0 rfl (lv_at hl 0 rfl) ?_
  refine lv_iload_n hx hb dX5_view_1 rfl (lv_at hl 1 rfl) ?_
  have hPc := hP.sub (ws' := [(mo, .inr (4, [.int (nI th), .int (nI n), .int (nI gu), .int (nI tn), .ref e0, .ref e1, .ref e2, .ref e3, .ref e4, .ref e5])), (e4, .inl (cA, 62, .inl (znw dy pu wa iv gh tf)))]) [0, 1] rfl
  refine vp_callSi (W.runV (As := [.int (nI r)]) (rest := []) ⟨hx, hb, hml, hown, hts⟩ (c_X5_stands l dC dI cA mo e0 e1 e2 e3 e4 e5 th n gu tn dy pu wa iv gh tf r (by first | assumption | omega) (by first | assumption | omega)) (cwV 1 hts gX5_view_X5_stands rfl rfl rfl (by decide +kernel) ⟨Nat.le_of_ble_eq_true rfl, Nat.le_of_ble_eq_true rfl⟩) ⟨fun a U g mk q => by obtain ⟨q0, qP, qK⟩ := q; exact ⟨q0, qP, va_K.moved (u := U) (U := U.calling g mk a) (Vm.Alike.refl U.vm) qK⟩, va_recv hK hP (ci := 4) (q0 := 0) rfl rfl, fun U hU hW => ⟨rfl, by rw [hU]; exact hPc, va_K.moved hW.alike hK⟩⟩ rfl rfl hl.1 rfl (lv_room (Nat.le_of_ble_eq_true rfl)) dX5_view_2 ⟨Nat.le_of_ble_eq_true rfl, Nat.le_of_ble_eq_true rfl⟩) (fun r_1 hw_1 => ?_)
  subst hw_1
  refine lv_if_eq (tgt := 39) hx hb dX5_view_5 (by decide) (fun c_2 => ?_) (fun c_2 => ?_)
  · skip
    replace c_2 := (zz_eq0 (by first | omega | (split <;> omega))).mp c_2
    replace c_2 : ¬ 0 < wa r := fun q => by rw [if_pos q] at c_2; first | exact absurd c_2 (by decide) | exact c_2 (by decide)
    refine lv_iconst (v := nI 0) hx hb dX5_view_39 (by decide) ?_
    exact W.iret hx hb hr (fun t ht hW => ⟨_, rfl, congrArg nI (show 0 = zv (wa r) (iv r) (gh r) (zb dy) from by (unfold zv; split <;> omega)), ht⟩) (fun _ h => nomatch h) dX5_view_40
  · skip
    replace c_2 := mt (zz_eq0 (by first | omega | (split <;> omega))).mpr c_2
    replace c_2 : 0 < wa r := Decidable.byContradiction fun q => by rw [if_neg q] at c_2; first | exact absurd c_2 (by decide) | exact c_2 rfl
    refine lv_iconst (v := nI 2) hx hb dX5_view_8 (by decide) ?_
    refine lv_aload_n hx hb dX5_view_9 rfl (lv_at hl 0 rfl) ?_
    refine lv_iload_n hx hb dX5_view_10 rfl (lv_at hl 1 rfl) ?_
    refine lv_iconst (v := nI 0) hx hb dX5_view_11 (by decide) ?_
    have hPc := hP.sub (ws' := [(mo, .inr (4, [.int (nI th), .int (nI n), .int (nI gu), .int (nI tn), .ref e0, .ref e1, .ref e2, .ref e3, .ref e4, .ref e5])), (e4, .inl (cA, 62, .inl (znw dy pu wa iv gh tf)))]) [0, 1] rfl
    refine vp_callSi (W.runV (As := [.int (nI r),.int (nI 0)]) (rest := [.int (nI 2)]) ⟨hx, hb, hml, hown, hts⟩ (c_ru0 l dC dI cA mo e0 e1 e2 e3 e4 e5 th n gu tn dy pu wa iv gh tf r (by first | assumption | omega)) (cwV 2 hts gX5_view_X5_ru rfl rfl rfl (by decide +kernel) ⟨Nat.le_of_ble_eq_true rfl, Nat.le_of_ble_eq_true rfl⟩) ⟨fun a U g mk q => by obtain ⟨q0, qP, qK⟩ := q; exact ⟨q0, qP, va_K.moved (u := U) (U := U.calling g mk a) (Vm.Alike.refl U.vm) qK⟩, va_recv hK hP (ci := 4) (q0 := 0) rfl rfl, fun U hU hW => ⟨rfl, by rw [hU]; exact hPc, va_K.moved hW.alike hK⟩⟩ rfl rfl hl.1 rfl (lv_room (Nat.le_of_ble_eq_true rfl)) dX5_view_12 ⟨Nat.le_of_ble_eq_true rfl, Nat.le_of_ble_eq_true rfl⟩) (fun r_3 hw_3 => ?_)
    subst hw_3
    refine lv_imul hx hb dX5_view_15 ?_
    refine zz_top (pk_mul _ _) ?_
    refine lv_iconst (v := nI 3) hx hb dX5_view_16 (by decide) ?_
    refine lv_aload_n hx hb dX5_view_17 rfl (lv_at hl 0 rfl) ?_
    refine lv_iload_n hx hb dX5_view_18 rfl (lv_at hl 1 rfl) ?_
    have hPc := hP.sub (ws' := [(mo, .inr (4, [.int (nI th), .int (nI n), .int (nI gu), .int (nI tn), .ref e0, .ref e1, .ref e2, .ref e3, .ref e4, .ref e5])), (e4, .inl (cA, 62, .inl (znw dy pu wa iv gh tf)))]) [0, 1] rfl
    refine vp_callSi (W.runV (As := [.int (nI r)]) (rest := [.int (nI 3), .int (nI (2 * (wa r)))]) ⟨hx, hb, hml, hown, hts⟩ (c_X5_grade l dC dI cA mo e0 e1 e2 e3 e4 e5 th n gu tn dy pu wa iv gh tf r (by first | assumption | omega) (by first | assumption | omega)) (cwV 1 hts gX5_view_X5_grade rfl rfl rfl (by decide +kernel) ⟨Nat.le_of_ble_eq_true rfl, Nat.le_of_ble_eq_true rfl⟩) ⟨fun a U g mk q => by obtain ⟨q0, qP, qK⟩ := q; exact ⟨q0, qP, va_K.moved (u := U) (U := U.calling g mk a) (Vm.Alike.refl U.vm) qK⟩, va_recv hK hP (ci := 4) (q0 := 0) rfl rfl, fun U hU hW => ⟨rfl, by rw [hU]; exact hPc, va_K.moved hW.alike hK⟩⟩ rfl rfl hl.1 rfl (lv_room (Nat.le_of_ble_eq_true rfl)) dX5_view_19 ⟨Nat.le_of_ble_eq_true rfl, Nat.le_of_ble_eq_true rfl⟩) (fun r_4 hw_4 => ?_)
    subst hw_4
    refine lv_imul hx hb dX5_view_22 ?_
    refine zz_top (pk_mul _ _) ?_
    refine lv_iadd hx hb dX5_view_23 ?_
    refine zz_top (nI_add _ _) ?_
    refine lv_aload_n hx hb dX5_view_24 rfl (lv_at hl 0 rfl) ?_
    refine lv_iload_n hx hb dX5_view_25 rfl (lv_at hl 1 rfl) ?_
    refine lv_iconst (v := nI 2) hx hb dX5_view_26 (by decide) ?_
    have hPc := hP.sub (ws' := [(mo, .inr (4, [.int (nI th), .int (nI n), .int (nI gu), .int (nI tn), .ref e0, .ref e1, .ref e2, .ref e3, .ref e4, .ref e5])), (e4, .inl (cA, 62, .inl (znw dy pu wa iv gh tf)))]) [0, 1] rfl
    refine vp_callSi (W.runV (As := [.int (nI r),.int (nI 2)]) (rest := [.int (nI ((2 * (wa r)) + (3 * (zg (iv r)))))]) ⟨hx, hb, hml, hown, hts⟩ (c_ru2 l dC dI cA mo e0 e1 e2 e3 e4 e5 th n gu tn dy pu wa iv gh tf r (by first | assumption | omega)) (cwV 2 hts gX5_view_X5_ru rfl rfl rfl (by decide +kernel) ⟨Nat.le_of_ble_eq_true rfl, Nat.le_of_ble_eq_true rfl⟩) ⟨fun a U g mk q => by obtain ⟨q0, qP, qK⟩ := q; exact ⟨q0, qP, va_K.moved (u := U) (U := U.calling g mk a) (Vm.Alike.refl U.vm) qK⟩, va_recv hK hP (ci := 4) (q0 := 0) rfl rfl, fun U hU hW => ⟨rfl, by rw [hU]; exact hPc, va_K.moved hW.alike hK⟩⟩ rfl rfl hl.1 rfl (lv_room (Nat.le_of_ble_eq_true rfl)) dX5_view_27 ⟨Nat.le_of_ble_eq_true rfl, Nat.le_of_ble_eq_true rfl⟩) (fun r_5 hw_5 => ?_)
    subst hw_5
    refine lv_aload_n hx hb dX5_view_30 rfl (lv_at hl 0 rfl) ?_
    have hPc := hP.sub (ws' := [(mo, .inr (4, [.int (nI th), .int (nI n), .int (nI gu), .int (nI tn), .ref e0, .ref e1, .ref e2, .ref e3, .ref e4, .ref e5])), (e4, .inl (cA, 62, .inl (znw dy pu wa iv gh tf)))]) [0, 1] rfl
    refine vp_callSi (W.runV (As := []) (rest := [.int (nI (gh r)), .int (nI ((2 * (wa r)) + (3 * (zg (iv r)))))]) ⟨hx, hb, hml, hown, hts⟩ (c_X5_light l dC dI cA mo e0 e1 e2 e3 e4 e5 th n gu tn dy pu wa iv gh tf (by first | assumption | omega)) (cwV 0 hts gX5_view_X5_light rfl rfl rfl (by decide +kernel) ⟨Nat.le_of_ble_eq_true rfl, Nat.le_of_ble_eq_true rfl⟩) ⟨fun a U g mk q => by obtain ⟨q0, qP, qK⟩ := q; exact ⟨q0, qP, va_K.moved (u := U) (U := U.calling g mk a) (Vm.Alike.refl U.vm) qK⟩, va_recv hK hP (ci := 4) (q0 := 0) rfl rfl, fun U hU hW => ⟨rfl, by rw [hU]; exact hPc, va_K.moved hW.alike hK⟩⟩ rfl rfl hl.1 rfl (lv_room (Nat.le_of_ble_eq_true rfl)) dX5_view_31 ⟨Nat.le_of_ble_eq_true rfl, Nat.le_of_ble_eq_true rfl⟩) (fun r_6 hw_6 => ?_)
    subst hw_6
    refine lv_imul hx hb dX5_view_34 ?_
    refine zz_top (pk_mul _ _) ?_
    refine lv_iadd hx hb dX5_view_35 ?_
    refine zz_top (nI_add _ _) ?_
    refine lv_goto (tgt := 40) hx hb dX5_view_36 (by decide) ?_
    exact W.iret hx hb hr (fun t ht hW => ⟨_, rfl, congrArg nI (show ((2 * (wa r)) + (3 * (zg (iv r)))) + ((gh r) * (zb dy)) = zv (wa r) (iv r) (gh r) (zb dy) from by (unfold zv; split <;> omega)), ht⟩) (fun _ h => nomatch h) dX5_view_40
theorem i_X5_isAhead_X5 : ∀ w ∈ u_ws RX5 TX5 10, w ∈ wsX5_isAhead := by decide +kernel
set_option maxHeartbeats 4000000 in
set_option maxRecDepth 100000 in
theorem c_X5_isAhead (l : Launch) (dC : Nat → ClassId) (dI : Nat → Nat → Nat) (cA : ClassId) (mo : Nat) (e0 : Nat) (e1 : Nat) (e2 : Nat) (e3 : Nat) (e4 : Nat) (e5 : Nat) (th : Nat) (n : Nat) (gu : Nat) (tn : Nat) (pr : Nat → Nat) (dy : Nat) (pu : Int32) (wa : Nat → Nat) (iv : Nat → Nat) (gh : Nat → Nat) (tf : Nat → Nat) (a : Nat) (b : Nat) (ha : a < 10) (hb9 : b < 10) (hwa1 : wa a ≤ 20) (hiv1 : iv a ≤ 12) (hgh1 : gh a ≤ 5) (hpr1 : pr a ≤ 9) (hwa2 : wa b ≤ 20) (hiv2 : iv b ≤ 12) (hgh2 : gh b ≤ 5) (hpr2 : pr b ≤ 9) (hdy : dy < 2 ^ 31) : Met l yX5_isAhead wsX5_isAhead ({ frames := 3, cells := 0, slots := 0, locals := 66 } : Room) (va_Pc [.ref mo, .int (nI a), .int (nI b)] (fun U => va_P (dC, dI) vwCl [(mo, .inr (4, [.int (nI th), .int (nI n), .int (nI gu), .int (nI tn), .ref e0, .ref e1, .ref e2, .ref e3, .ref e4, .ref e5])), (e0, .inl (cA, 10, .inl (fun j => nI (pr j)))), (e4, .inl (cA, 62, .inl (znw dy pu wa iv gh tf)))] U.heap ∧ va_K (dC, dI) vwCl [(cA, .int)] U)) (vp_Si (fun y9 : Int32 => y9 = nI (zah (zv (wa a) (iv a) (gh a) (zb dy)) (zv (wa b) (iv b) (gh b) (zb dy)) (pr a) (pr b) a b))) 0 0 (fun _ => False) := by
  refine Met.ofW (cc := cX5_isAhead) (maxL := 5) (ret := (some .boolean)) (by decide) rfl ?_
  intro p e s m args below meth c s₁ B hml hv
  obtain ⟨hargs, hP, hK⟩ := hv
  have hx := B.exec
  have hb := B.bytes
  have hr := B.returns
  have hts := atoms_spec (ws := wsX5_isAhead) B.pre
  have hown : s.vm.findClass RX5 = some m.cls := findClass_of_methodNamed B.named
  have hlocks := B.notSynchronized
  have hl := lv_entry ([.ref mo, .int (nI a), .int (nI b)]) (n := 5) (Nat.le_of_ble_eq_true rfl)
  rw [hargs, lg_entry_eq, ← hargs]
  generalize (lg_sl ([.ref mo, .int (nI a), .int (nI b)]) ++ List.replicate (5 - (lg_sl ([.ref mo, .int (nI a), .int (nI b)])).length) Slot.unset).toArray = ls at hl ⊢
  have hl : lv_has ls 5 [(0, .ref mo), (1, .int (nI a)), (2, .int (nI b))] := hl
  have hz9 := zb_le dy
  have v1 := zv_le (i := iv a) hwa1 hgh1 hz9
  have v2 := zv_le (i := iv b) hwa2 hgh2 hz9
  refine lv_aload_n hx hb dX5_isAhead_0 rfl (lv_at hl 0 rfl) ?_
  refine lv_iload_n hx hb dX5_isAhead_1 rfl (lv_at hl 1 rfl) ?_
  have hPc := hP.sub (ws' := [(mo, .inr (4, [.int (nI th), .int (nI n), .int (nI gu), .int (nI tn), .ref e0, .ref e1, .ref e2, .ref e3, .ref e4, .ref e5])), (e4, .inl (cA, 62, .inl (znw dy pu wa iv gh tf)))]) [0, 2] rfl
  refine vp_callSi (W.runV (As := [.int (nI a)]) (rest := []) ⟨hx, hb, hml, hown, hts⟩ (c_X5_view l dC dI cA mo e0 e1 e2 e3 e4 e5 th n gu tn dy pu wa iv gh tf a (by first | assumption | omega) (by first | assumption | omega) (by first | assumption | omega) (by first | assumption | omega)) (cwV 1 hts gX5_isAhead_X5_view rfl rfl rfl (by decide +kernel) ⟨Nat.le_of_ble_eq_true rfl, Nat.le_of_ble_eq_true rfl⟩) ⟨fun a U g mk q => by obtain ⟨q0, qP, qK⟩ := q; exact ⟨q0, qP, va_K.moved (u := U) (U := U.calling g mk a) (Vm.Alike.refl U.vm) qK⟩, va_recv hK hP (ci := 4) (q0 := 0) rfl rfl, fun U hU hW => ⟨rfl, by rw [hU]; exact hPc, va_K.moved hW.alike hK⟩⟩ rfl rfl hl.1 rfl (lv_room (Nat.le_of_ble_eq_true rfl)) dX5_isAhead_2 ⟨Nat.le_of_ble_eq_true rfl, Nat.le_of_ble_eq_true rfl⟩) (fun r_1 hw_1 => ?_)
  subst hw_1
  refine lv_istore_n (lv' := [(3, .int (nI (zv (wa a) (iv a) (gh a) (zb dy)))), (0, .ref mo), (1, .int (nI a)), (2, .int (nI b))]) hx hb dX5_isAhead_5 rfl hl (by decide) rfl (fun ls hl => ?_)
  refine lv_aload_n hx hb dX5_isAhead_6 rfl (lv_at hl 1 rfl) ?_
  refine lv_iload_n hx hb dX5_isAhead_7 rfl (lv_at hl 3 rfl) ?_
  have hPc := hP.sub (ws' := [(mo, .inr (4, [.int (nI th), .int (nI n), .int (nI gu), .int (nI tn), .ref e0, .ref e1, .ref e2, .ref e3, .ref e4, .ref e5])), (e4, .inl (cA, 62, .inl (znw dy pu wa iv gh tf)))]) [0, 2] rfl
  refine vp_callSi (W.runV (As := [.int (nI b)]) (rest := []) ⟨hx, hb, hml, hown, hts⟩ (c_X5_view l dC dI cA mo e0 e1 e2 e3 e4 e5 th n gu tn dy pu wa iv gh tf b (by first | assumption | omega) (by first | assumption | omega) (by first | assumption | omega) (by first | assumption | omega)) (cwV 1 hts gX5_isAhead_X5_view rfl rfl rfl (by decide +kernel) ⟨Nat.le_of_ble_eq_true rfl, Nat.le_of_ble_eq_true rfl⟩) ⟨fun a U g mk q => by obtain ⟨q0, qP, qK⟩ := q; exact ⟨q0, qP, va_K.moved (u := U) (U := U.calling g mk a) (Vm.Alike.refl U.vm) qK⟩, va_recv hK hP (ci := 4) (q0 := 0) rfl rfl, fun U hU hW => ⟨rfl, by rw [hU]; exact hPc, va_K.moved hW.alike hK⟩⟩ rfl rfl hl.1 rfl (lv_room (Nat.le_of_ble_eq_true rfl)) dX5_isAhead_8 ⟨Nat.le_of_ble_eq_true rfl, Nat.le_of_ble_eq_true rfl⟩) (fun r_2 hw_2 => ?_)
  subst hw_2
  refine lv_istore (lv' := [(4, .int (nI (zv (wa b) (iv b) (gh b) (zb dy)))), (3, .int (nI (zv (wa a) (iv a) (gh a) (zb dy)))), (0, .ref mo), (1, .int (nI a)), (2, .int (nI b))]) hx hb dX5_isAhead_11 hl (by decide) rfl (fun ls hl => ?_)
  refine lv_iload_n hx hb dX5_isAhead_13 rfl (lv_at hl 1 rfl) ?_
  refine lv_iload hx hb dX5_isAhead_14 (lv_at hl 0 rfl) ?_
  refine lv_icmp_eq (tgt := 31) hx hb dX5_isAhead_16 (by decide) (fun c_3 => ?_) (fun c_3 => ?_)
  · skip
    replace c_3 := (nI_eq (by omega) (by omega)).mp c_3
    refine lv_aload_n hx hb dX5_isAhead_31 rfl (lv_at hl 2 rfl) ?_
    refine va_get (D := (dC, dI)) (ci := 4) (v := .ref e0) (C := RX5) (T := TX5) (N := 10) hx hb hts i_X5_isAhead_X5 hown hK hP 0 rfl rfl 4 (by decide) (hts (.fieldLink RX5 13 "RuinViewsModel" "price" "[I") (List.mem_of_getElem? (i := 1) rfl)) (fun _ h9 => h9) rfl dX5_isAhead_32 ?_
    refine lv_iload_n hx hb dX5_isAhead_35 rfl (lv_at hl 3 rfl) ?_
    refine zz_ald hx hb hK hP 1 (f := pr) rfl rfl (by omega) (by decide) dX5_isAhead_36 ?_
    refine lv_aload_n hx hb dX5_isAhead_37 rfl (lv_at hl 2 rfl) ?_
    refine va_get (D := (dC, dI)) (ci := 4) (v := .ref e0) (C := RX5) (T := TX5) (N := 10) hx hb hts i_X5_isAhead_X5 hown hK hP 0 rfl rfl 4 (by decide) (hts (.fieldLink RX5 13 "RuinViewsModel" "price" "[I") (List.mem_of_getElem? (i := 1) rfl)) (fun _ h9 => h9) rfl dX5_isAhead_38 ?_
    refine lv_iload_n hx hb dX5_isAhead_41 rfl (lv_at hl 4 rfl) ?_
    refine zz_ald hx hb hK hP 1 (f := pr) rfl rfl (by omega) (by decide) dX5_isAhead_42 ?_
    refine lv_icmp_eq (tgt := 69) hx hb dX5_isAhead_43 (by decide) (fun c_4 => ?_) (fun c_4 => ?_)
    · skip
      replace c_4 := (nI_eq (by omega) (by omega)).mp c_4
      refine lv_iload_n hx hb dX5_isAhead_69 rfl (lv_at hl 3 rfl) ?_
      refine lv_iload_n hx hb dX5_isAhead_70 rfl (lv_at hl 4 rfl) ?_
      refine lv_icmp_ge (tgt := 78) hx hb dX5_isAhead_71 (by decide) (fun c_5 => ?_) (fun c_5 => ?_)
      · skip
        replace c_5 := (nI_leI (by omega) (by omega)).mp c_5
        refine lv_iconst (v := nI 0) hx hb dX5_isAhead_78 (by decide) ?_
        exact W.zret (ty := .boolean) hx hb hr (by first | rfl | decide) (fun t ht hW => ⟨_, rfl, congrArg nI (show 0 = zah (zv (wa a) (iv a) (gh a) (zb dy)) (zv (wa b) (iv b) (gh b) (zb dy)) (pr a) (pr b) a b from by (unfold zah; (repeat' split) <;> omega)), ht⟩) (fun _ h => nomatch h) dX5_isAhead_79
      · skip
        replace c_5 := mt (nI_leI (by omega) (by omega)).mpr c_5
        refine lv_iconst (v := nI 1) hx hb dX5_isAhead_74 (by decide) ?_
        refine lv_goto (tgt := 79) hx hb dX5_isAhead_75 (by decide) ?_
        exact W.zret (ty := .boolean) hx hb hr (by first | rfl | decide) (fun t ht hW => ⟨_, rfl, congrArg nI (show 1 = zah (zv (wa a) (iv a) (gh a) (zb dy)) (zv (wa b) (iv b) (gh b) (zb dy)) (pr a) (pr b) a b from by (unfold zah; (repeat' split) <;> omega)), ht⟩) (fun _ h => nomatch h) dX5_isAhead_79
    · skip
      replace c_4 := mt (nI_eq (by omega) (by omega)).mpr c_4
      refine lv_aload_n hx hb dX5_isAhead_46 rfl (lv_at hl 2 rfl) ?_
      refine va_get (D := (dC, dI)) (ci := 4) (v := .ref e0) (C := RX5) (T := TX5) (N := 10) hx hb hts i_X5_isAhead_X5 hown hK hP 0 rfl rfl 4 (by decide) (hts (.fieldLink RX5 13 "RuinViewsModel" "price" "[I") (List.mem_of_getElem? (i := 1) rfl)) (fun _ h9 => h9) rfl dX5_isAhead_47 ?_
      refine lv_iload_n hx hb dX5_isAhead_50 rfl (lv_at hl 3 rfl) ?_
      refine zz_ald hx hb hK hP 1 (f := pr) rfl rfl (by omega) (by decide) dX5_isAhead_51 ?_
      refine lv_aload_n hx hb dX5_isAhead_52 rfl (lv_at hl 2 rfl) ?_
      refine va_get (D := (dC, dI)) (ci := 4) (v := .ref e0) (C := RX5) (T := TX5) (N := 10) hx hb hts i_X5_isAhead_X5 hown hK hP 0 rfl rfl 4 (by decide) (hts (.fieldLink RX5 13 "RuinViewsModel" "price" "[I") (List.mem_of_getElem? (i := 1) rfl)) (fun _ h9 => h9) rfl dX5_isAhead_53 ?_
      refine lv_iload_n hx hb dX5_isAhead_56 rfl (lv_at hl 4 rfl) ?_
      refine zz_ald hx hb hK hP 1 (f := pr) rfl rfl (by omega) (by decide) dX5_isAhead_57 ?_
      refine lv_icmp_ge (tgt := 65) hx hb dX5_isAhead_58 (by decide) (fun c_6 => ?_) (fun c_6 => ?_)
      · skip
        replace c_6 := (nI_leI (by omega) (by omega)).mp c_6
        refine lv_iconst (v := nI 0) hx hb dX5_isAhead_65 (by decide) ?_
        refine lv_goto (tgt := 79) hx hb dX5_isAhead_66 (by decide) ?_
        exact W.zret (ty := .boolean) hx hb hr (by first | rfl | decide) (fun t ht hW => ⟨_, rfl, congrArg nI (show 0 = zah (zv (wa a) (iv a) (gh a) (zb dy)) (zv (wa b) (iv b) (gh b) (zb dy)) (pr a) (pr b) a b from by (unfold zah; (repeat' split) <;> omega)), ht⟩) (fun _ h => nomatch h) dX5_isAhead_79
      · skip
        replace c_6 := mt (nI_leI (by omega) (by omega)).mpr c_6
        refine lv_iconst (v := nI 1) hx hb dX5_isAhead_61 (by decide) ?_
        refine lv_goto (tgt := 79) hx hb dX5_isAhead_62 (by decide) ?_
        exact W.zret (ty := .boolean) hx hb hr (by first | rfl | decide) (fun t ht hW => ⟨_, rfl, congrArg nI (show 1 = zah (zv (wa a) (iv a) (gh a) (zb dy)) (zv (wa b) (iv b) (gh b) (zb dy)) (pr a) (pr b) a b from by (unfold zah; (repeat' split) <;> omega)), ht⟩) (fun _ h => nomatch h) dX5_isAhead_79
  · skip
    replace c_3 := mt (nI_eq (by omega) (by omega)).mpr c_3
    refine lv_iload_n hx hb dX5_isAhead_19 rfl (lv_at hl 1 rfl) ?_
    refine lv_iload hx hb dX5_isAhead_20 (lv_at hl 0 rfl) ?_
    refine lv_icmp_le (tgt := 29) hx hb dX5_isAhead_22 (by decide) (fun c_7 => ?_) (fun c_7 => ?_)
    · skip
      replace c_7 := (nI_leI (by omega) (by omega)).mp c_7
      refine lv_iconst (v := nI 0) hx hb dX5_isAhead_29 (by decide) ?_
      exact W.zret (ty := .boolean) hx hb hr (by first | rfl | decide) (fun t ht hW => ⟨_, rfl, congrArg nI (show 0 = zah (zv (wa a) (iv a) (gh a) (zb dy)) (zv (wa b) (iv b) (gh b) (zb dy)) (pr a) (pr b) a b from by (unfold zah; (repeat' split) <;> omega)), ht⟩) (fun _ h => nomatch h) dX5_isAhead_30
    · skip
      replace c_7 := mt (nI_leI (by omega) (by omega)).mpr c_7
      refine lv_iconst (v := nI 1) hx hb dX5_isAhead_25 (by decide) ?_
      refine lv_goto (tgt := 30) hx hb dX5_isAhead_26 (by decide) ?_
      exact W.zret (ty := .boolean) hx hb hr (by first | rfl | decide) (fun t ht hW => ⟨_, rfl, congrArg nI (show 1 = zah (zv (wa a) (iv a) (gh a) (zb dy)) (zv (wa b) (iv b) (gh b) (zb dy)) (pr a) (pr b) a b from by (unfold zah; (repeat' split) <;> omega)), ht⟩) (fun _ h => nomatch h) dX5_isAhead_30
theorem i_X5_rank_X5 : ∀ w ∈ u_ws RX5 TX5 10, w ∈ wsX5_rank := by decide +kernel
set_option maxHeartbeats 4000000 in
set_option maxRecDepth 100000 in
theorem c_X5_rank (l : Launch) (dC : Nat → ClassId) (dI : Nat → Nat → Nat) (cA : ClassId) (mo : Nat) (e0 : Nat) (e1 : Nat) (e2 : Nat) (e3 : Nat) (e4 : Nat) (e5 : Nat) (th : Nat) (n : Nat) (gu : Nat) (tn : Nat) (pr : Nat → Nat) (dy : Nat) (pu : Int32) (wa : Nat → Nat) (iv : Nat → Nat) (gh : Nat → Nat) (tf : Nat → Nat) (r : Nat) (hn : n ≤ 10) (hrn : r < 10) (hwa : ∀ j, wa j ≤ 20) (hiv : ∀ j, iv j ≤ 12) (hgh : ∀ j, gh j ≤ 5) (hpr : ∀ j, pr j ≤ 9) (hdy : dy < 2 ^ 31) : Met l yX5_rank wsX5_rank ({ frames := 4, cells := 0, slots := 0, locals := 90 } : Room) (va_Pc [.ref mo, .int (nI r)] (fun U => va_P (dC, dI) vwCl [(mo, .inr (4, [.int (nI th), .int (nI n), .int (nI gu), .int (nI tn), .ref e0, .ref e1, .ref e2, .ref e3, .ref e4, .ref e5])), (e0, .inl (cA, 10, .inl (fun j => nI (pr j)))), (e4, .inl (cA, 62, .inl (znw dy pu wa iv gh tf)))] U.heap ∧ va_K (dC, dI) vwCl [(cA, .int)] U)) (vp_Si (fun y9 : Int32 => y9 = zri n (zmf wa iv gh pr (zb dy)) wa r)) 0 0 (fun _ => False) := by
  refine Met.ofW (cc := cX5_rank) (maxL := 4) (ret := (some .int)) (by decide) rfl ?_
  intro p e s m args below meth c s₁ B hml hv
  obtain ⟨hargs, hP, hK⟩ := hv
  have hx := B.exec
  have hb := B.bytes
  have hr := B.returns
  have hts := atoms_spec (ws := wsX5_rank) B.pre
  have hown : s.vm.findClass RX5 = some m.cls := findClass_of_methodNamed B.named
  have hlocks := B.notSynchronized
  have hl := lv_entry ([.ref mo, .int (nI r)]) (n := 4) (Nat.le_of_ble_eq_true rfl)
  rw [hargs, lg_entry_eq, ← hargs]
  generalize (lg_sl ([.ref mo, .int (nI r)]) ++ List.replicate (4 - (lg_sl ([.ref mo, .int (nI r)])).length) Slot.unset).toArray = ls at hl ⊢
  have hl : lv_has ls 4 [(0, .ref mo), (1, .int (nI r))] := hl
  have hz9 := zb_le dy
  have hw8 := hwa r
  refine lv_aload_n hx hb dX5_rank_0 rfl (lv_at hl 0 rfl) ?_
  refine lv_iload_n hx hb dX5_rank_1 rfl (lv_at hl 1 rfl) ?_
  have hPc := hP.sub (ws' := [(mo, .inr (4, [.int (nI th), .int (nI n), .int (nI gu), .int (nI tn), .ref e0, .ref e1, .ref e2, .ref e3, .ref e4, .ref e5])), (e4, .inl (cA, 62, .inl (znw dy pu wa iv gh tf)))]) [0, 2] rfl
  refine vp_callSi (W.runV (As := [.int (nI r)]) (rest := []) ⟨hx, hb, hml, hown, hts⟩ (c_X5_stands l dC dI cA mo e0 e1 e2 e3 e4 e5 th n gu tn dy pu wa iv gh tf r (by first | assumption | omega) (by first | assumption | omega)) (cwV 1 hts gX5_rank_X5_stands rfl rfl rfl (by decide +kernel) ⟨Nat.le_of_ble_eq_true rfl, Nat.le_of_ble_eq_true rfl⟩) ⟨fun a U g mk q => by obtain ⟨q0, qP, qK⟩ := q; exact ⟨q0, qP, va_K.moved (u := U) (U := U.calling g mk a) (Vm.Alike.refl U.vm) qK⟩, va_recv hK hP (ci := 4) (q0 := 0) rfl rfl, fun U hU hW => ⟨rfl, by rw [hU]; exact hPc, va_K.moved hW.alike hK⟩⟩ rfl rfl hl.1 rfl (lv_room (Nat.le_of_ble_eq_true rfl)) dX5_rank_2 ⟨Nat.le_of_ble_eq_true rfl, Nat.le_of_ble_eq_true rfl⟩) (fun r_1 hw_1 => ?_)
  subst hw_1
  refine lv_if_ne (tgt := 10) hx hb dX5_rank_5 (by decide) (fun c_2 => ?_) (fun c_2 => ?_)
  · skip
    replace c_2 := mt (zz_eq0 (by first | omega | (split <;> omega))).mpr c_2
    replace c_2 : 0 < wa r := Decidable.byContradiction fun q => by rw [if_neg q] at c_2; first | exact absurd c_2 (by decide) | exact c_2 rfl
    refine lv_iconst (v := nI 0) hx hb dX5_rank_10 (by decide) ?_
    refine lv_istore_n (lv' := [(2, .int (nI 0)), (0, .ref mo), (1, .int (nI r))]) hx hb dX5_rank_11 rfl hl (by decide) rfl (fun ls hl => ?_)
    refine lv_iconst (v := nI 0) hx hb dX5_rank_12 (by decide) ?_
    refine lv_istore_n (lv' := [(3, .int (nI 0)), (2, .int (nI 0)), (0, .ref mo), (1, .int (nI r))]) hx hb dX5_rank_13 rfl hl (by decide) rfl (fun ls hl => ?_)
    have lp_14 : ∀ (f9 : Nat) (i : Nat) , (n - i) < f9 → (i ≤ n) → ∀ (ls : Array Slot), lv_has ls 4 [(0, .ref mo), (1, .int (nI r)), (2, .int (nI (zmc wa iv gh pr (zb dy) r i))), (3, .int (nI i))] → W p l e ({ frames := 4, cells := 0, slots := 0, locals := 90 } : Room) s m args below meth c s.heap [] 0 0 (MQ below (vp_Si (fun y9 : Int32 => y9 = zri n (zmf wa iv gh pr (zb dy)) wa r)) args s 0 0 (fun _ => False)) (F0 m 14 ls []) := by
      intro f9
      induction f9 with
      | zero => intro i hm9; exact absurd hm9 (Nat.not_lt_zero _)
      | succ f9 ih_14 =>
        intro i hm9 hi ls hl
        have hw9 := hwa i
        have hi9 := hiv i
        have hg9 := hgh i
        have hp9 := hpr i
        have hw7 := hwa r
        have hi7 := hiv r
        have hg7 := hgh r
        have hp7 := hpr r
        have hz8 := zmc_le wa iv gh pr (zb dy) r i
        refine lv_iload_n hx hb dX5_rank_14 rfl (lv_at hl 3 rfl) ?_
        refine lv_aload_n hx hb dX5_rank_15 rfl (lv_at hl 0 rfl) ?_
        refine va_get (D := (dC, dI)) (ci := 4) (v := .int (nI n)) (C := RX5) (T := TX5) (N := 10) hx hb hts i_X5_rank_X5 hown hK hP 0 rfl rfl 1 (by decide) (hts (.fieldLink RX5 35 "RuinViewsModel" "ruins" "I") (List.mem_of_getElem? (i := 1) rfl)) (fun _ h9 => h9) rfl dX5_rank_16 ?_
        refine lv_icmp_ge (tgt := 58) hx hb dX5_rank_19 (by decide) (fun c_3 => ?_) (fun c_3 => ?_)
        · skip
          replace c_3 := (nI_leI (by first | omega | (split <;> omega)) (by first | omega | (split <;> omega))).mp c_3
          refine lv_iload_n hx hb dX5_rank_58 rfl (lv_at hl 2 rfl) ?_
          exact W.iret hx hb hr (fun t ht hW => ⟨_, rfl, show nI (zmc wa iv gh pr (zb dy) r i) = zri n (zmf wa iv gh pr (zb dy)) wa r from by (first | (unfold zri; rw [if_pos (by omega)]) | (rw [show i = n from by omega]; exact zri_mc hn (by assumption) hrn hwa hgh hpr hz9)), ht⟩) (fun _ h => nomatch h) dX5_rank_59
        · skip
          replace c_3 := mt (nI_leI (by first | omega | (split <;> omega)) (by first | omega | (split <;> omega))).mpr c_3
          refine lv_iload_n hx hb dX5_rank_22 rfl (lv_at hl 2 rfl) ?_
          refine lv_iload_n hx hb dX5_rank_23 rfl (lv_at hl 3 rfl) ?_
          refine lv_iload_n hx hb dX5_rank_24 rfl (lv_at hl 1 rfl) ?_
          refine lv_icmp_eq (tgt := 49) hx hb dX5_rank_25 (by decide) (fun c_4 => ?_) (fun c_4 => ?_)
          · skip
            replace c_4 := (nI_eq (by first | omega | (split <;> omega)) (by first | omega | (split <;> omega))).mp c_4
            refine lv_iconst (v := nI 0) hx hb dX5_rank_49 (by decide) ?_
            refine lv_iadd hx hb dX5_rank_50 ?_
            refine zz_top (nI_add _ _) ?_
            refine lv_istore_n (lv' := [(2, .int (nI ((zmc wa iv gh pr (zb dy) r i) + 0))), (0, .ref mo), (1, .int (nI r)), (3, .int (nI i))]) hx hb dX5_rank_51 rfl hl (by decide) rfl (fun ls hl => ?_)
            refine lv_iinc (v := nI (i + 1)) (lv' := [(3, .int (nI (i + 1))), (2, .int (nI ((zmc wa iv gh pr (zb dy) r i) + 0))), (0, .ref mo), (1, .int (nI r))]) hx hb dX5_rank_52 hl (k := 3) rfl (nI_1 _) (by decide) rfl (fun ls hl => ?_)
            refine lv_goto (tgt := 14) hx hb dX5_rank_55 (by decide) ?_
            have hl := lv_sub (l' := [(0, .ref mo), (1, .int (nI r)), (2, .int (nI ((zmc wa iv gh pr (zb dy) r i) + 0))), (3, .int (nI (i + 1)))]) hl [2, 3, 1, 0] rfl
            have hl5 : ∀ (x2 : Int32), x2 = nI ((zmc wa iv gh pr (zb dy) r i) + 0) → lv_has ls 4 [(0, .ref mo), (1, .int (nI r)), (2, .int x2), (3, .int (nI (i + 1)))] := by
              intro x2 h2; subst h2; exact hl
            have hl := hl5 (nI (zmc wa iv gh pr (zb dy) r (i + 1))) (congrArg nI (show zmc wa iv gh pr (zb dy) r (i + 1) = (zmc wa iv gh pr (zb dy) r i) + 0 from by first | rfl | (show zmc wa iv gh pr (zb dy) r i + (if i = r then 0 else if 0 < wa i then zah (zv (wa i) (iv i) (gh i) (zb dy)) (zv (wa r) (iv r) (gh r) (zb dy)) (pr i) (pr r) i r else 0) = _; (repeat' split) <;> omega)))
            exact ih_14 (i + 1) (by omega) (by first | assumption | omega) _ hl
          · skip
            replace c_4 := mt (nI_eq (by first | omega | (split <;> omega)) (by first | omega | (split <;> omega))).mpr c_4
            refine lv_aload_n hx hb dX5_rank_28 rfl (lv_at hl 0 rfl) ?_
            refine lv_iload_n hx hb dX5_rank_29 rfl (lv_at hl 3 rfl) ?_
            have hPc := hP.sub (ws' := [(mo, .inr (4, [.int (nI th), .int (nI n), .int (nI gu), .int (nI tn), .ref e0, .ref e1, .ref e2, .ref e3, .ref e4, .ref e5])), (e4, .inl (cA, 62, .inl (znw dy pu wa iv gh tf)))]) [0, 2] rfl
            refine vp_callSi (W.runV (As := [.int (nI i)]) (rest := [.int (nI (zmc wa iv gh pr (zb dy) r i))]) ⟨hx, hb, hml, hown, hts⟩ (c_X5_stands l dC dI cA mo e0 e1 e2 e3 e4 e5 th n gu tn dy pu wa iv gh tf i (by first | assumption | omega) (by first | assumption | omega)) (cwV 1 hts gX5_rank_X5_stands rfl rfl rfl (by decide +kernel) ⟨Nat.le_of_ble_eq_true rfl, Nat.le_of_ble_eq_true rfl⟩) ⟨fun a U g mk q => by obtain ⟨q0, qP, qK⟩ := q; exact ⟨q0, qP, va_K.moved (u := U) (U := U.calling g mk a) (Vm.Alike.refl U.vm) qK⟩, va_recv hK hP (ci := 4) (q0 := 0) rfl rfl, fun U hU hW => ⟨rfl, by rw [hU]; exact hPc, va_K.moved hW.alike hK⟩⟩ rfl rfl hl.1 rfl (lv_room (Nat.le_of_ble_eq_true rfl)) dX5_rank_30 ⟨Nat.le_of_ble_eq_true rfl, Nat.le_of_ble_eq_true rfl⟩) (fun r_6 hw_6 => ?_)
            subst hw_6
            refine lv_if_eq (tgt := 49) hx hb dX5_rank_33 (by decide) (fun c_7 => ?_) (fun c_7 => ?_)
            · skip
              replace c_7 := (zz_eq0 (by first | omega | (split <;> omega))).mp c_7
              replace c_7 : ¬ 0 < wa i := fun q => by rw [if_pos q] at c_7; first | exact absurd c_7 (by decide) | exact c_7 (by decide)
              refine lv_iconst (v := nI 0) hx hb dX5_rank_49 (by decide) ?_
              refine lv_iadd hx hb dX5_rank_50 ?_
              refine zz_top (nI_add _ _) ?_
              refine lv_istore_n (lv' := [(2, .int (nI ((zmc wa iv gh pr (zb dy) r i) + 0))), (0, .ref mo), (1, .int (nI r)), (3, .int (nI i))]) hx hb dX5_rank_51 rfl hl (by decide) rfl (fun ls hl => ?_)
              refine lv_iinc (v := nI (i + 1)) (lv' := [(3, .int (nI (i + 1))), (2, .int (nI ((zmc wa iv gh pr (zb dy) r i) + 0))), (0, .ref mo), (1, .int (nI r))]) hx hb dX5_rank_52 hl (k := 3) rfl (nI_1 _) (by decide) rfl (fun ls hl => ?_)
              refine lv_goto (tgt := 14) hx hb dX5_rank_55 (by decide) ?_
              have hl := lv_sub (l' := [(0, .ref mo), (1, .int (nI r)), (2, .int (nI ((zmc wa iv gh pr (zb dy) r i) + 0))), (3, .int (nI (i + 1)))]) hl [2, 3, 1, 0] rfl
              have hl8 : ∀ (x2 : Int32), x2 = nI ((zmc wa iv gh pr (zb dy) r i) + 0) → lv_has ls 4 [(0, .ref mo), (1, .int (nI r)), (2, .int x2), (3, .int (nI (i + 1)))] := by
                intro x2 h2; subst h2; exact hl
              have hl := hl8 (nI (zmc wa iv gh pr (zb dy) r (i + 1))) (congrArg nI (show zmc wa iv gh pr (zb dy) r (i + 1) = (zmc wa iv gh pr (zb dy) r i) + 0 from by first | rfl | (show zmc wa iv gh pr (zb dy) r i + (if i = r then 0 else if 0 < wa i then zah (zv (wa i) (iv i) (gh i) (zb dy)) (zv (wa r) (iv r) (gh r) (zb dy)) (pr i) (pr r) i r else 0) = _; (repeat' split) <;> omega)))
              exact ih_14 (i + 1) (by omega) (by first | assumption | omega) _ hl
            · skip
              replace c_7 := mt (zz_eq0 (by first | omega | (split <;> omega))).mpr c_7
              replace c_7 : 0 < wa i := Decidable.byContradiction fun q => by rw [if_neg q] at c_7; first | exact absurd c_7 (by decide) | exact c_7 rfl
              refine lv_aload_n hx hb dX5_rank_36 rfl (lv_at hl 0 rfl) ?_
              refine lv_iload_n hx hb dX5_rank_37 rfl (lv_at hl 3 rfl) ?_
              refine lv_iload_n hx hb dX5_rank_38 rfl (lv_at hl 1 rfl) ?_
              have hPc := hP.sub (ws' := [(mo, .inr (4, [.int (nI th), .int (nI n), .int (nI gu), .int (nI tn), .ref e0, .ref e1, .ref e2, .ref e3, .ref e4, .ref e5])), (e0, .inl (cA, 10, .inl (fun j => nI (pr j)))), (e4, .inl (cA, 62, .inl (znw dy pu wa iv gh tf)))]) [0, 1, 2] rfl
              refine vp_callSi (W.runV (As := [.int (nI i),.int (nI r)]) (rest := [.int (nI (zmc wa iv gh pr (zb dy) r i))]) ⟨hx, hb, hml, hown, hts⟩ (c_X5_isAhead l dC dI cA mo e0 e1 e2 e3 e4 e5 th n gu tn pr dy pu wa iv gh tf i r (by first | assumption | omega) (by first | assumption | omega) (by first | assumption | omega) (by first | assumption | omega) (by first | assumption | omega) (by first | assumption | omega) (by first | assumption | omega) (by first | assumption | omega) (by first | assumption | omega) (by first | assumption | omega) (by first | assumption | omega)) (cwV 2 hts gX5_rank_X5_isAhead rfl rfl rfl (by decide +kernel) ⟨Nat.le_of_ble_eq_true rfl, Nat.le_of_ble_eq_true rfl⟩) ⟨fun a U g mk q => by obtain ⟨q0, qP, qK⟩ := q; exact ⟨q0, qP, va_K.moved (u := U) (U := U.calling g mk a) (Vm.Alike.refl U.vm) qK⟩, va_recv hK hP (ci := 4) (q0 := 0) rfl rfl, fun U hU hW => ⟨rfl, by rw [hU]; exact hPc, va_K.moved hW.alike hK⟩⟩ rfl rfl hl.1 rfl (lv_room (Nat.le_of_ble_eq_true rfl)) dX5_rank_39 ⟨Nat.le_of_ble_eq_true rfl, Nat.le_of_ble_eq_true rfl⟩) (fun r_9 hw_9 => ?_)
              subst hw_9
              have ha9 := zah_le (zv (wa i) (iv i) (gh i) (zb dy)) (zv (wa r) (iv r) (gh r) (zb dy)) (pr i) (pr r) i r
              refine lv_if_eq (tgt := 49) hx hb dX5_rank_42 (by decide) (fun c_10 => ?_) (fun c_10 => ?_)
              · skip
                replace c_10 := (zz_eq0 (by first | omega | (split <;> omega))).mp c_10
                refine lv_iconst (v := nI 0) hx hb dX5_rank_49 (by decide) ?_
                refine lv_iadd hx hb dX5_rank_50 ?_
                refine zz_top (nI_add _ _) ?_
                refine lv_istore_n (lv' := [(2, .int (nI ((zmc wa iv gh pr (zb dy) r i) + 0))), (0, .ref mo), (1, .int (nI r)), (3, .int (nI i))]) hx hb dX5_rank_51 rfl hl (by decide) rfl (fun ls hl => ?_)
                refine lv_iinc (v := nI (i + 1)) (lv' := [(3, .int (nI (i + 1))), (2, .int (nI ((zmc wa iv gh pr (zb dy) r i) + 0))), (0, .ref mo), (1, .int (nI r))]) hx hb dX5_rank_52 hl (k := 3) rfl (nI_1 _) (by decide) rfl (fun ls hl => ?_)
                refine lv_goto (tgt := 14) hx hb dX5_rank_55 (by decide) ?_
                have hl := lv_sub (l' := [(0, .ref mo), (1, .int (nI r)), (2, .int (nI ((zmc wa iv gh pr (zb dy) r i) + 0))), (3, .int (nI (i + 1)))]) hl [2, 3, 1, 0] rfl
                have hl11 : ∀ (x2 : Int32), x2 = nI ((zmc wa iv gh pr (zb dy) r i) + 0) → lv_has ls 4 [(0, .ref mo), (1, .int (nI r)), (2, .int x2), (3, .int (nI (i + 1)))] := by
                  intro x2 h2; subst h2; exact hl
                have hl := hl11 (nI (zmc wa iv gh pr (zb dy) r (i + 1))) (congrArg nI (show zmc wa iv gh pr (zb dy) r (i + 1) = (zmc wa iv gh pr (zb dy) r i) + 0 from by first | rfl | (show zmc wa iv gh pr (zb dy) r i + (if i = r then 0 else if 0 < wa i then zah (zv (wa i) (iv i) (gh i) (zb dy)) (zv (wa r) (iv r) (gh r) (zb dy)) (pr i) (pr r) i r else 0) = _; (repeat' split) <;> omega)))
                exact ih_14 (i + 1) (by omega) (by first | assumption | omega) _ hl
              · skip
                replace c_10 := mt (zz_eq0 (by first | omega | (split <;> omega))).mpr c_10
                refine lv_iconst (v := nI 1) hx hb dX5_rank_45 (by decide) ?_
                refine lv_goto (tgt := 50) hx hb dX5_rank_46 (by decide) ?_
                refine lv_iadd hx hb dX5_rank_50 ?_
                refine zz_top (nI_add _ _) ?_
                refine lv_istore_n (lv' := [(2, .int (nI ((zmc wa iv gh pr (zb dy) r i) + 1))), (0, .ref mo), (1, .int (nI r)), (3, .int (nI i))]) hx hb dX5_rank_51 rfl hl (by decide) rfl (fun ls hl => ?_)
                refine lv_iinc (v := nI (i + 1)) (lv' := [(3, .int (nI (i + 1))), (2, .int (nI ((zmc wa iv gh pr (zb dy) r i) + 1))), (0, .ref mo), (1, .int (nI r))]) hx hb dX5_rank_52 hl (k := 3) rfl (nI_1 _) (by decide) rfl (fun ls hl => ?_)
                refine lv_goto (tgt := 14) hx hb dX5_rank_55 (by decide) ?_
                have hl := lv_sub (l' := [(0, .ref mo), (1, .int (nI r)), (2, .int (nI ((zmc wa iv gh pr (zb dy) r i) + 1))), (3, .int (nI (i + 1)))]) hl [2, 3, 1, 0] rfl
                have hl12 : ∀ (x2 : Int32), x2 = nI ((zmc wa iv gh pr (zb dy) r i) + 1) → lv_has ls 4 [(0, .ref mo), (1, .int (nI r)), (2, .int x2), (3, .int (nI (i + 1)))] := by
                  intro x2 h2; subst h2; exact hl
                have hl := hl12 (nI (zmc wa iv gh pr (zb dy) r (i + 1))) (congrArg nI (show zmc wa iv gh pr (zb dy) r (i + 1) = (zmc wa iv gh pr (zb dy) r i) + 1 from by first | rfl | (show zmc wa iv gh pr (zb dy) r i + (if i = r then 0 else if 0 < wa i then zah (zv (wa i) (iv i) (gh i) (zb dy)) (zv (wa r) (iv r) (gh r) (zb dy)) (pr i) (pr r) i r else 0) = _; (repeat' split) <;> omega)))
                exact ih_14 (i + 1) (by omega) (by first | assumption | omega) _ hl
    have hl := lv_sub (l' := [(0, .ref mo), (1, .int (nI r)), (2, .int (nI 0)), (3, .int (nI 0))]) hl [2, 3, 1, 0] rfl
    have hl13 : ∀ (x2 : Int32), x2 = nI 0 → lv_has ls 4 [(0, .ref mo), (1, .int (nI r)), (2, .int x2), (3, .int (nI 0))] := by
      intro x2 h2; subst h2; exact hl
    have hl := hl13 (nI (zmc wa iv gh pr (zb dy) r 0)) (congrArg nI (show zmc wa iv gh pr (zb dy) r 0 = 0 from by first | rfl | (show zmc wa iv gh pr (zb dy) r i + (if i = r then 0 else if 0 < wa i then zah (zv (wa i) (iv i) (gh i) (zb dy)) (zv (wa r) (iv r) (gh r) (zb dy)) (pr i) (pr r) i r else 0) = _; (repeat' split) <;> omega)))
    exact lp_14 _ 0 (Nat.lt_succ_self _) (by first | assumption | omega) _ hl
  · skip
    replace c_2 := (zz_eq0 (by first | omega | (split <;> omega))).mp c_2
    replace c_2 : ¬ 0 < wa r := fun q => by rw [if_pos q] at c_2; first | exact absurd c_2 (by decide) | exact c_2 (by decide)
    refine lv_iconst (v := (-1)) hx hb dX5_rank_8 (by decide) ?_
    exact W.iret hx hb hr (fun t ht hW => ⟨_, rfl, show (-1) = zri n (zmf wa iv gh pr (zb dy)) wa r from by (first | (unfold zri; rw [if_pos (by omega)]) | (rw [show i = n from by omega]; exact zri_mc hn (by assumption) hrn hwa hgh hpr hz9)), ht⟩) (fun _ h => nomatch h) dX5_rank_9
set_option maxHeartbeats 4000000 in
set_option maxRecDepth 100000 in
theorem c_come0 (l : Launch) (dC : Nat → ClassId) (dI : Nat → Nat → Nat) (cA : ClassId) (mo : Nat) (e0 : Nat) (e1 : Nat) (e2 : Nat) (e3 : Nat) (e4 : Nat) (e5 : Nat) (th : Nat) (n : Nat) (gu : Nat) (tn : Nat) : Met l yX5_come wsX5_come ({ frames := 0, cells := 0, slots := 0, locals := 0 } : Room) (va_Pc [.ref mo, .int (-1)] (fun U => va_P (dC, dI) vwCl [(mo, .inr (4, [.int (nI th), .int (nI n), .int (nI gu), .int (nI tn), .ref e0, .ref e1, .ref e2, .ref e3, .ref e4, .ref e5]))] U.heap ∧ va_K (dC, dI) vwCl [(cA, .int)] U)) (vp_Si (fun y9 : Int32 => y9 = nI 0)) 0 0 (fun _ => False) := by
  refine Met.ofW (cc := cX5_come) (maxL := 4) (ret := (some .int)) (by decide) rfl ?_
  intro p e s m args below meth c s₁ B hml hv
  obtain ⟨hargs, hP, hK⟩ := hv
  have hx := B.exec
  have hb := B.bytes
  have hr := B.returns
  have hts := atoms_spec (ws := wsX5_come) B.pre
  have hown : s.vm.findClass RX5 = some m.cls := findClass_of_methodNamed B.named
  have hlocks := B.notSynchronized
  have hl := lv_entry ([.ref mo, .int (-1)]) (n := 4) (Nat.le_of_ble_eq_true rfl)
  rw [hargs, lg_entry_eq, ← hargs]
  generalize (lg_sl ([.ref mo, .int (-1)]) ++ List.replicate (4 - (lg_sl ([.ref mo, .int (-1)])).length) Slot.unset).toArray = ls at hl ⊢
  have hl : lv_has ls 4 [(0, .ref mo), (1, .int (-1))] := hl
  refine lv_iload_n hx hb dX5_come_0 rfl (lv_at hl 1 rfl) ?_
  refine lv_iconst (v := (-1)) hx hb dX5_come_1 (by decide) ?_
  refine lv_icmp_ne (tgt := 7) hx hb dX5_come_2 (by decide) (fun c_1 => ?_) (fun c_1 => ?_)
  · skip
    exfalso; exact c_1 rfl
  · skip
    refine lv_iconst (v := nI 0) hx hb dX5_come_5 (by decide) ?_
    exact W.iret hx hb hr (fun t ht hW => ⟨_, rfl, rfl, ht⟩) (fun _ h => nomatch h) dX5_come_6
theorem i_X5_come_X5 : ∀ w ∈ u_ws RX5 TX5 10, w ∈ wsX5_come := by decide +kernel
set_option maxHeartbeats 4000000 in
set_option maxRecDepth 100000 in
theorem c_come1 (l : Launch) (dC : Nat → ClassId) (dI : Nat → Nat → Nat) (cA : ClassId) (mo : Nat) (e0 : Nat) (e1 : Nat) (e2 : Nat) (e3 : Nat) (e4 : Nat) (e5 : Nat) (th : Nat) (n : Nat) (gu : Nat) (tn : Nat) (k : Nat) (hk : k ≤ 10) (hg : gu ≤ 40) : Met l yX5_come wsX5_come ({ frames := 0, cells := 0, slots := 0, locals := 0 } : Room) (va_Pc [.ref mo, .int (nI k)] (fun U => va_P (dC, dI) vwCl [(mo, .inr (4, [.int (nI th), .int (nI n), .int (nI gu), .int (nI tn), .ref e0, .ref e1, .ref e2, .ref e3, .ref e4, .ref e5]))] U.heap ∧ va_K (dC, dI) vwCl [(cA, .int)] U)) (vp_Si (fun y9 : Int32 => y9 = nI (zhf gu k - zhf gu k / 2))) 0 0 (fun _ => False) := by
  refine Met.ofW (cc := cX5_come) (maxL := 4) (ret := (some .int)) (by decide) rfl ?_
  intro p e s m args below meth c s₁ B hml hv
  obtain ⟨hargs, hP, hK⟩ := hv
  have hx := B.exec
  have hb := B.bytes
  have hr := B.returns
  have hts := atoms_spec (ws := wsX5_come) B.pre
  have hown : s.vm.findClass RX5 = some m.cls := findClass_of_methodNamed B.named
  have hlocks := B.notSynchronized
  have hl := lv_entry ([.ref mo, .int (nI k)]) (n := 4) (Nat.le_of_ble_eq_true rfl)
  rw [hargs, lg_entry_eq, ← hargs]
  generalize (lg_sl ([.ref mo, .int (nI k)]) ++ List.replicate (4 - (lg_sl ([.ref mo, .int (nI k)])).length) Slot.unset).toArray = ls at hl ⊢
  have hl : lv_has ls 4 [(0, .ref mo), (1, .int (nI k))] := hl
  refine lv_iload_n hx hb dX5_come_0 rfl (lv_at hl 1 rfl) ?_
  refine lv_iconst (v := (-1)) hx hb dX5_come_1 (by decide) ?_
  refine lv_icmp_ne (tgt := 7) hx hb dX5_come_2 (by decide) (fun c_1 => ?_) (fun c_1 => ?_)
  · skip
    refine lv_aload_n hx hb dX5_come_7 rfl (lv_at hl 0 rfl) ?_
    refine va_get (D := (dC, dI)) (ci := 4) (v := .int (nI gu)) (C := RX5) (T := TX5) (N := 10) hx hb hts i_X5_come_X5 hown hK hP 0 rfl rfl 2 (by decide) (hts (.fieldLink RX5 7 "RuinViewsModel" "guests" "I") (List.mem_of_getElem? (i := 1) rfl)) (fun _ h9 => h9) rfl dX5_come_8 ?_
    refine lv_istore_n (lv' := [(2, .int (nI gu)), (0, .ref mo), (1, .int (nI k))]) hx hb dX5_come_11 rfl hl (by decide) rfl (fun ls hl => ?_)
    refine lv_iconst (v := nI 0) hx hb dX5_come_12 (by decide) ?_
    refine lv_istore_n (lv' := [(3, .int (nI 0)), (2, .int (nI gu)), (0, .ref mo), (1, .int (nI k))]) hx hb dX5_come_13 rfl hl (by decide) rfl (fun ls hl => ?_)
    have lp_14 : ∀ (f9 : Nat) (i : Nat) , (k - i) < f9 → (i ≤ k) → ∀ (ls : Array Slot), lv_has ls 4 [(0, .ref mo), (1, .int (nI k)), (2, .int (nI (zhf gu i))), (3, .int (nI i))] → W p l e ({ frames := 0, cells := 0, slots := 0, locals := 0 } : Room) s m args below meth c s.heap [] 0 0 (MQ below (vp_Si (fun y9 : Int32 => y9 = nI (zhf gu k - zhf gu k / 2))) args s 0 0 (fun _ => False)) (F0 m 14 ls []) := by
      intro f9
      induction f9 with
      | zero => intro i hm9; exact absurd hm9 (Nat.not_lt_zero _)
      | succ f9 ih_14 =>
        intro i hm9 hi ls hl
        have hz9 := zhf_le gu i
        refine lv_iload_n hx hb dX5_come_14 rfl (lv_at hl 3 rfl) ?_
        refine lv_iload_n hx hb dX5_come_15 rfl (lv_at hl 1 rfl) ?_
        refine lv_icmp_ge (tgt := 29) hx hb dX5_come_16 (by decide) (fun c_2 => ?_) (fun c_2 => ?_)
        · skip
          replace c_2 := (nI_leI (by omega) (by omega)).mp c_2
          refine lv_iload_n hx hb dX5_come_29 rfl (lv_at hl 2 rfl) ?_
          refine lv_iload_n hx hb dX5_come_30 rfl (lv_at hl 2 rfl) ?_
          refine lv_iconst (v := nI 2) hx hb dX5_come_31 (by decide) ?_
          refine lv_idiv hx hb dX5_come_32 (by decide) ?_
          refine zz_top (pk_div (by omega) (by decide) (by decide)) ?_
          refine lv_isub hx hb dX5_come_33 ?_
          refine zz_top (pk_sub (by omega)) ?_
          exact W.iret hx hb hr (fun t ht hW => ⟨_, rfl, congrArg nI (show (zhf gu i) - ((zhf gu i) / 2) = zhf gu k - zhf gu k / 2 from by (rw [show k = i from by omega])), ht⟩) (fun _ h => nomatch h) dX5_come_34
        · skip
          replace c_2 := mt (nI_leI (by omega) (by omega)).mpr c_2
          refine lv_iload_n hx hb dX5_come_19 rfl (lv_at hl 2 rfl) ?_
          refine lv_iconst (v := nI 2) hx hb dX5_come_20 (by decide) ?_
          refine lv_idiv hx hb dX5_come_21 (by decide) ?_
          refine zz_top (pk_div (by omega) (by decide) (by decide)) ?_
          refine lv_istore_n (lv' := [(2, .int (nI ((zhf gu i) / 2))), (0, .ref mo), (1, .int (nI k)), (3, .int (nI i))]) hx hb dX5_come_22 rfl hl (by decide) rfl (fun ls hl => ?_)
          refine lv_iinc (v := nI (i + 1)) (lv' := [(3, .int (nI (i + 1))), (2, .int (nI ((zhf gu i) / 2))), (0, .ref mo), (1, .int (nI k))]) hx hb dX5_come_23 hl (k := 3) rfl (nI_1 _) (by decide) rfl (fun ls hl => ?_)
          refine lv_goto (tgt := 14) hx hb dX5_come_26 (by decide) ?_
          have hl := lv_sub (l' := [(0, .ref mo), (1, .int (nI k)), (2, .int (nI ((zhf gu i) / 2))), (3, .int (nI (i + 1)))]) hl [2, 3, 1, 0] rfl
          have hl3 : ∀ (x2 : Int32), x2 = nI ((zhf gu i) / 2) → lv_has ls 4 [(0, .ref mo), (1, .int (nI k)), (2, .int x2), (3, .int (nI (i + 1)))] := by
            intro x2 h2; subst h2; exact hl
          have hl := hl3 (nI (zhf gu (i + 1))) (congrArg nI (show zhf gu (i + 1) = (zhf gu i) / 2 from by rfl))
          exact ih_14 (i + 1) (by omega) (by first | assumption | omega) _ hl
    have hl := lv_sub (l' := [(0, .ref mo), (1, .int (nI k)), (2, .int (nI gu)), (3, .int (nI 0))]) hl [2, 3, 1, 0] rfl
    have hl4 : ∀ (x2 : Int32), x2 = nI gu → lv_has ls 4 [(0, .ref mo), (1, .int (nI k)), (2, .int x2), (3, .int (nI 0))] := by
      intro x2 h2; subst h2; exact hl
    have hl := hl4 (nI (zhf gu 0)) (congrArg nI (show zhf gu 0 = gu from by rfl))
    exact lp_14 _ 0 (Nat.lt_succ_self _) (by first | assumption | omega) _ hl
  · skip
    exfalso; exact absurd c_1 (nI_nm1 (by omega))
set_option maxHeartbeats 4000000 in
theorem c_X5_come (l : Launch) (dC : Nat → ClassId) (dI : Nat → Nat → Nat) (cA : ClassId) (mo : Nat) (e0 : Nat) (e1 : Nat) (e2 : Nat) (e3 : Nat) (e4 : Nat) (e5 : Nat) (th : Nat) (n : Nat) (gu : Nat) (tn : Nat) (x : Int32) (hx : x = (-1) ∨ ∃ k, k ≤ 10 ∧ x = nI k) (hg : gu ≤ 40) : Met l yX5_come wsX5_come ({ frames := 0, cells := 0, slots := 0, locals := 0 } : Room) (va_Pc [.ref mo, .int x] (fun U => va_P (dC, dI) vwCl [(mo, .inr (4, [.int (nI th), .int (nI n), .int (nI gu), .int (nI tn), .ref e0, .ref e1, .ref e2, .ref e3, .ref e4, .ref e5]))] U.heap ∧ va_K (dC, dI) vwCl [(cA, .int)] U)) (vp_Si (fun y9 : Int32 => y9 = nI (zgs gu x))) 0 0 (fun _ => False) := by
  rcases hx with rfl | ⟨k, hk, rfl⟩
  · exact c_come0 l dC dI cA mo e0 e1 e2 e3 e4 e5 th n gu tn
  · rw [zgs_n hk]
    exact c_come1 l dC dI cA mo e0 e1 e2 e3 e4 e5 th n gu tn k hk hg
theorem i_X5_sell_X5 : ∀ w ∈ u_ws RX5 TX5 10, w ∈ wsX5_sell := by decide +kernel
set_option maxHeartbeats 4000000 in
set_option maxRecDepth 100000 in
theorem c_X5_sell (l : Launch) (dC : Nat → ClassId) (dI : Nat → Nat → Nat) (cA : ClassId) (mo : Nat) (e0 : Nat) (e1 : Nat) (e2 : Nat) (e3 : Nat) (e4 : Nat) (e5 : Nat) (th : Nat) (n : Nat) (gu : Nat) (tn : Nat) (pr : Nat → Nat) (dy : Nat) (pu : Int32) (wa : Nat → Nat) (iv : Nat → Nat) (gh : Nat → Nat) (tf : Nat → Nat) (sz : Nat) (hn : n ≤ 10) (hgu : gu ≤ 40) (hwa : ∀ j, wa j ≤ 20) (hiv : ∀ j, iv j ≤ 12) (hgh : ∀ j, gh j ≤ 5) (hpr : ∀ j, pr j ≤ 9) (hdy : dy < 2 ^ 31) : Met l yX5_sell wsX5_sell ({ frames := 5, cells := 0, slots := 0, locals := 113 } : Room) (va_Pc [.ref mo] (fun U => U.heap.size = sz ∧ va_P (dC, dI) vwCl [(mo, .inr (4, [.int (nI th), .int (nI n), .int (nI gu), .int (nI tn), .ref e0, .ref e1, .ref e2, .ref e3, .ref e4, .ref e5])), (e0, .inl (cA, 10, .inl (fun j => nI (pr j)))), (e4, .inl (cA, 62, .inl (znw dy pu wa iv gh tf)))] U.heap ∧ va_K (dC, dI) vwCl [(cA, .int)] U ∧ va_D (fun _ => True) [(mo, .inr (4, [.int (nI th), .int (nI n), .int (nI gu), .int (nI tn), .ref e0, .ref e1, .ref e2, .ref e3, .ref e4, .ref e5])), (e0, .inl (cA, 10, .inl (fun j => nI (pr j)))), (e4, .inl (cA, 62, .inl (znw dy pu wa iv gh tf)))])) (va_Qv (fun _ : Unit => True) (fun (_ : Unit) t => va_P (dC, dI) vwCl [(mo, .inr (4, [.int (nI th), .int (nI n), .int (nI gu), .int (nI tn), .ref e0, .ref e1, .ref e2, .ref e3, .ref e4, .ref e5])), (e0, .inl (cA, 10, .inl (fun j => nI (pr j)))), (e4, .inl (cA, 62, .inl (znw dy (pu + nI (zts gu n (zmf wa iv gh pr (zb dy)) wa pr n)) wa iv gh tf)))] t.heap ∧ va_D (va_A [(mo, .inr (4, [.int (nI th), .int (nI n), .int (nI gu), .int (nI tn), .ref e0, .ref e1, .ref e2, .ref e3, .ref e4, .ref e5])), (e0, .inl (cA, 10, .inl (fun j => nI (pr j)))), (e4, .inl (cA, 62, .inl (znw dy pu wa iv gh tf)))] sz) [(mo, .inr (4, [.int (nI th), .int (nI n), .int (nI gu), .int (nI tn), .ref e0, .ref e1, .ref e2, .ref e3, .ref e4, .ref e5])), (e0, .inl (cA, 10, .inl (fun j => nI (pr j)))), (e4, .inl (cA, 62, .inl (znw dy (pu + nI (zts gu n (zmf wa iv gh pr (zb dy)) wa pr n)) wa iv gh tf)))]) (va_A [(mo, .inr (4, [.int (nI th), .int (nI n), .int (nI gu), .int (nI tn), .ref e0, .ref e1, .ref e2, .ref e3, .ref e4, .ref e5])), (e0, .inl (cA, 10, .inl (fun j => nI (pr j)))), (e4, .inl (cA, 62, .inl (znw dy pu wa iv gh tf)))] sz)) 0 0 (va_A [(mo, .inr (4, [.int (nI th), .int (nI n), .int (nI gu), .int (nI tn), .ref e0, .ref e1, .ref e2, .ref e3, .ref e4, .ref e5])), (e0, .inl (cA, 10, .inl (fun j => nI (pr j)))), (e4, .inl (cA, 62, .inl (znw dy pu wa iv gh tf)))] sz) := by
  refine Met.ofW (cc := cX5_sell) (maxL := 2) (ret := none) (by decide) rfl ?_
  intro p e s m args below meth c s₁ B hml hv
  obtain ⟨hargs, hsz, hP, hK, hD0⟩ := hv
  have hx := B.exec
  have hb := B.bytes
  have hr := B.returns
  have hts := atoms_spec (ws := wsX5_sell) B.pre
  have hown : s.vm.findClass RX5 = some m.cls := findClass_of_methodNamed B.named
  have hlocks := B.notSynchronized
  subst hsz
  have hD := hD0.self (sz := s.heap.size)
  generalize hAe : va_A [(mo, .inr (4, [.int (nI th), .int (nI n), .int (nI gu), .int (nI tn), .ref e0, .ref e1, .ref e2, .ref e3, .ref e4, .ref e5])), (e0, .inl (cA, 10, .inl (fun j => nI (pr j)))), (e4, .inl (cA, 62, .inl (znw dy pu wa iv gh tf)))] s.heap.size = A at hD ⊢
  have hA : ∀ q : Nat, s.heap.size ≤ q → A q := fun q h => by rw [← hAe]; exact Or.inr h
  have hS : va_S A s.heap s.heap [] := va_S.rf
  have hP : va_P (dC, dI) vwCl [(mo, .inr (4, [.int (nI th), .int (nI n), .int (nI gu), .int (nI tn), .ref e0, .ref e1, .ref e2, .ref e3, .ref e4, .ref e5])), (e0, .inl (cA, 10, .inl (fun j => nI (pr j)))), (e4, .inl (cA, 62, .inl (znw dy pu wa iv gh tf)))] s.heap := hP
  have hl := lv_entry ([.ref mo]) (n := 2) (Nat.le_of_ble_eq_true rfl)
  rw [hargs, lg_entry_eq, ← hargs]
  generalize (lg_sl ([.ref mo]) ++ List.replicate (2 - (lg_sl ([.ref mo])).length) Slot.unset).toArray = ls at hl ⊢
  have hl : lv_has ls 2 [(0, .ref mo)] := hl
  refine lv_iconst (v := nI 0) hx hb dX5_sell_0 (by decide) ?_
  refine lv_istore_n (lv' := [(1, .int (nI 0)), (0, .ref mo)]) hx hb dX5_sell_1 rfl hl (by decide) rfl (fun ls hl => ?_)
  have lp_2 : ∀ (f9 : Nat) (i : Nat) , (n - i) < f9 → (i ≤ n) → ∀ (H : Heap) (locs : List Loc), va_P (dC, dI) vwCl [(mo, .inr (4, [.int (nI th), .int (nI n), .int (nI gu), .int (nI tn), .ref e0, .ref e1, .ref e2, .ref e3, .ref e4, .ref e5])), (e0, .inl (cA, 10, .inl (fun j => nI (pr j)))), (e4, .inl (cA, 62, .inl (znw dy (pu + nI (zts gu n (zmf wa iv gh pr (zb dy)) wa pr i)) wa iv gh tf)))] H → va_D A [(mo, .inr (4, [.int (nI th), .int (nI n), .int (nI gu), .int (nI tn), .ref e0, .ref e1, .ref e2, .ref e3, .ref e4, .ref e5])), (e0, .inl (cA, 10, .inl (fun j => nI (pr j)))), (e4, .inl (cA, 62, .inl (znw dy (pu + nI (zts gu n (zmf wa iv gh pr (zb dy)) wa pr i)) wa iv gh tf)))] → va_S A s.heap H locs → ∀ (ls : Array Slot), lv_has ls 2 [(0, .ref mo), (1, .int (nI i))] → W p l e ({ frames := 5, cells := 0, slots := 0, locals := 113 } : Room) s m args below meth c H locs 0 0 (MQ below (va_Qv (fun _ : Unit => True) (fun (_ : Unit) t => va_P (dC, dI) vwCl [(mo, .inr (4, [.int (nI th), .int (nI n), .int (nI gu), .int (nI tn), .ref e0, .ref e1, .ref e2, .ref e3, .ref e4, .ref e5])), (e0, .inl (cA, 10, .inl (fun j => nI (pr j)))), (e4, .inl (cA, 62, .inl (znw dy (pu + nI (zts gu n (zmf wa iv gh pr (zb dy)) wa pr n)) wa iv gh tf)))] t.heap ∧ va_D A [(mo, .inr (4, [.int (nI th), .int (nI n), .int (nI gu), .int (nI tn), .ref e0, .ref e1, .ref e2, .ref e3, .ref e4, .ref e5])), (e0, .inl (cA, 10, .inl (fun j => nI (pr j)))), (e4, .inl (cA, 62, .inl (znw dy (pu + nI (zts gu n (zmf wa iv gh pr (zb dy)) wa pr n)) wa iv gh tf)))]) A) args s 0 0 A) (F0 m 2 ls []) := by
    intro f9
    induction f9 with
    | zero => intro i hm9; exact absurd hm9 (Nat.not_lt_zero _)
    | succ f9 ih_2 =>
      intro i hm9 hi H locs hP hD hS ls hl
      refine lv_iload_n hx hb dX5_sell_2 rfl (lv_at hl 1 rfl) ?_
      refine lv_aload_n hx hb dX5_sell_3 rfl (lv_at hl 0 rfl) ?_
      refine va_get (D := (dC, dI)) (ci := 4) (v := .int (nI n)) (C := RX5) (T := TX5) (N := 10) hx hb hts i_X5_sell_X5 hown hK hP 0 rfl rfl 1 (by decide) (hts (.fieldLink RX5 35 "RuinViewsModel" "ruins" "I") (List.mem_of_getElem? (i := 1) rfl)) (fun _ h9 => h9) rfl dX5_sell_4 ?_
      refine lv_icmp_ge (tgt := 41) hx hb dX5_sell_7 (by decide) (fun c_1 => ?_) (fun c_1 => ?_)
      · skip
        replace c_1 := (nI_leI (by omega) (by omega)).mp c_1
        have hw2 : ∀ (x0 : Nat → Int32), x0 = znw dy (pu + nI (zts gu n (zmf wa iv gh pr (zb dy)) wa pr i)) wa iv gh tf → va_P (dC, dI) vwCl [(mo, .inr (4, [.int (nI th), .int (nI n), .int (nI gu), .int (nI tn), .ref e0, .ref e1, .ref e2, .ref e3, .ref e4, .ref e5])), (e0, .inl (cA, 10, .inl (fun j => nI (pr j)))), (e4, .inl (cA, 62, .inl x0))] H ∧ va_D A [(mo, .inr (4, [.int (nI th), .int (nI n), .int (nI gu), .int (nI tn), .ref e0, .ref e1, .ref e2, .ref e3, .ref e4, .ref e5])), (e0, .inl (cA, 10, .inl (fun j => nI (pr j)))), (e4, .inl (cA, 62, .inl x0))] := by
          intro x0 h0; subst h0; exact ⟨hP, hD⟩
        obtain ⟨hP, hD⟩ := hw2 (znw dy (pu + nI (zts gu n (zmf wa iv gh pr (zb dy)) wa pr n)) wa iv gh tf) (show (znw dy (pu + nI (zts gu n (zmf wa iv gh pr (zb dy)) wa pr n)) wa iv gh tf) = znw dy (pu + nI (zts gu n (zmf wa iv gh pr (zb dy)) wa pr i)) wa iv gh tf from by (rw [show n = i from by omega]))
        exact W.vret hx hb hr (fun t ht hW => ⟨⟨(), rfl, trivial, by rw [ht]; exact hP, hD⟩, hS.F ht⟩) hS.2.2 dX5_sell_41
      · skip
        replace c_1 := mt (nI_leI (by omega) (by omega)).mpr c_1
        refine lv_aload_n hx hb dX5_sell_10 rfl (lv_at hl 0 rfl) ?_
        refine va_get (D := (dC, dI)) (ci := 4) (v := .ref e4) (C := RX5) (T := TX5) (N := 10) hx hb hts i_X5_sell_X5 hown hK hP 0 rfl rfl 8 (by decide) (hts (.fieldLink RX5 26 "RuinViewsModel" "now" "[I") (List.mem_of_getElem? (i := 2) rfl)) (fun _ h9 => h9) rfl dX5_sell_11 ?_
        refine lv_iconst (v := nI 1) hx hb dX5_sell_14 (by decide) ?_
        refine lv_dup2_11 hx hb dX5_sell_15 rfl rfl ?_
        refine zz_aldI hx hb hK hP 2 (f := znw dy (pu + nI (zts gu n (zmf wa iv gh pr (zb dy)) wa pr i)) wa iv gh tf) rfl rfl (by omega) (by decide) dX5_sell_16 ?_
        refine zz_top (znw_1 _ _ _ _ _ _) ?_
        refine lv_aload_n hx hb dX5_sell_17 rfl (lv_at hl 0 rfl) ?_
        refine lv_aload_n hx hb dX5_sell_18 rfl (lv_at hl 0 rfl) ?_
        refine lv_iload_n hx hb dX5_sell_19 rfl (lv_at hl 1 rfl) ?_
        have hPc := hP.sub (ws' := [(mo, .inr (4, [.int (nI th), .int (nI n), .int (nI gu), .int (nI tn), .ref e0, .ref e1, .ref e2, .ref e3, .ref e4, .ref e5])), (e0, .inl (cA, 10, .inl (fun j => nI (pr j)))), (e4, .inl (cA, 62, .inl (znw dy (pu + nI (zts gu n (zmf wa iv gh pr (zb dy)) wa pr i)) wa iv gh tf)))]) [0, 1, 2] rfl
        refine vp_callSi (W.runV (As := [.int (nI i)]) (rest := [.ref mo, .int (pu + nI (zts gu n (zmf wa iv gh pr (zb dy)) wa pr i)), .int (nI 1), .ref e4]) ⟨hx, hb, hml, hown, hts⟩ (c_X5_rank l dC dI cA mo e0 e1 e2 e3 e4 e5 th n gu tn pr dy (pu + nI (zts gu n (zmf wa iv gh pr (zb dy)) wa pr i)) wa iv gh tf i (by first | assumption | omega) (by first | assumption | omega) (by first | assumption | omega) (by first | assumption | omega) (by first | assumption | omega) (by first | assumption | omega) (by first | assumption | omega)) (cwV 1 hts gX5_sell_X5_rank rfl rfl rfl (by decide +kernel) ⟨Nat.le_of_ble_eq_true rfl, Nat.le_of_ble_eq_true rfl⟩) ⟨fun a U g mk q => by obtain ⟨q0, qP, qK⟩ := q; exact ⟨q0, qP, va_K.moved (u := U) (U := U.calling g mk a) (Vm.Alike.refl U.vm) qK⟩, va_recv hK hP (ci := 4) (q0 := 0) rfl rfl, fun U hU hW => ⟨rfl, by rw [hU]; exact hPc, va_K.moved hW.alike hK⟩⟩ rfl rfl hl.1 rfl (lv_room (Nat.le_of_ble_eq_true rfl)) dX5_sell_20 ⟨Nat.le_of_ble_eq_true rfl, Nat.le_of_ble_eq_true rfl⟩) (fun r_3 hw_3 => ?_)
        subst hw_3
        have hPc := hP.sub (ws' := [(mo, .inr (4, [.int (nI th), .int (nI n), .int (nI gu), .int (nI tn), .ref e0, .ref e1, .ref e2, .ref e3, .ref e4, .ref e5]))]) [0] rfl
        refine vp_callSi (W.runV (As := [.int (zri n (zmf wa iv gh pr (zb dy)) wa i)]) (rest := [.int (pu + nI (zts gu n (zmf wa iv gh pr (zb dy)) wa pr i)), .int (nI 1), .ref e4]) ⟨hx, hb, hml, hown, hts⟩ (c_X5_come l dC dI cA mo e0 e1 e2 e3 e4 e5 th n gu tn (zri n (zmf wa iv gh pr (zb dy)) wa i) (by exact zri_c _ _ _ hn) (by first | assumption | omega)) (cwV 1 hts gX5_sell_X5_come rfl rfl rfl (by decide +kernel) ⟨Nat.le_of_ble_eq_true rfl, Nat.le_of_ble_eq_true rfl⟩) ⟨fun a U g mk q => by obtain ⟨q0, qP, qK⟩ := q; exact ⟨q0, qP, va_K.moved (u := U) (U := U.calling g mk a) (Vm.Alike.refl U.vm) qK⟩, va_recv hK hP (ci := 4) (q0 := 0) rfl rfl, fun U hU hW => ⟨rfl, by rw [hU]; exact hPc, va_K.moved hW.alike hK⟩⟩ rfl rfl hl.1 rfl (lv_room (Nat.le_of_ble_eq_true rfl)) dX5_sell_23 ⟨Nat.le_of_ble_eq_true rfl, Nat.le_of_ble_eq_true rfl⟩) (fun r_4 hw_4 => ?_)
        subst hw_4
        refine lv_aload_n hx hb dX5_sell_26 rfl (lv_at hl 0 rfl) ?_
        refine va_get (D := (dC, dI)) (ci := 4) (v := .ref e0) (C := RX5) (T := TX5) (N := 10) hx hb hts i_X5_sell_X5 hown hK hP 0 rfl rfl 4 (by decide) (hts (.fieldLink RX5 13 "RuinViewsModel" "price" "[I") (List.mem_of_getElem? (i := 3) rfl)) (fun _ h9 => h9) rfl dX5_sell_27 ?_
        refine lv_iload_n hx hb dX5_sell_30 rfl (lv_at hl 1 rfl) ?_
        refine zz_ald hx hb hK hP 1 (f := pr) rfl rfl (by omega) (by decide) dX5_sell_31 ?_
        refine lv_imul hx hb dX5_sell_32 ?_
        refine zz_top (pk_mul _ _) ?_
        refine lv_iadd hx hb dX5_sell_33 ?_
        refine zz_astI hx hb hK hP hD hS 2 (f := znw dy (pu + nI (zts gu n (zmf wa iv gh pr (zb dy)) wa pr i)) wa iv gh tf) rfl rfl (by omega) (by decide) dX5_sell_34 (fun H locs hP hD hS => ?_)
        have hP : va_P (dC, dI) vwCl [(mo, .inr (4, [.int (nI th), .int (nI n), .int (nI gu), .int (nI tn), .ref e0, .ref e1, .ref e2, .ref e3, .ref e4, .ref e5])), (e0, .inl (cA, 10, .inl (fun j => nI (pr j)))), (e4, .inl (cA, 62, .inl (upd (znw dy (pu + nI (zts gu n (zmf wa iv gh pr (zb dy)) wa pr i)) wa iv gh tf) 1 ((pu + nI (zts gu n (zmf wa iv gh pr (zb dy)) wa pr i)) + (nI ((zgs gu (zri n (zmf wa iv gh pr (zb dy)) wa i)) * (pr i)))))))] H := hP
        have hD : va_D A [(mo, .inr (4, [.int (nI th), .int (nI n), .int (nI gu), .int (nI tn), .ref e0, .ref e1, .ref e2, .ref e3, .ref e4, .ref e5])), (e0, .inl (cA, 10, .inl (fun j => nI (pr j)))), (e4, .inl (cA, 62, .inl (upd (znw dy (pu + nI (zts gu n (zmf wa iv gh pr (zb dy)) wa pr i)) wa iv gh tf) 1 ((pu + nI (zts gu n (zmf wa iv gh pr (zb dy)) wa pr i)) + (nI ((zgs gu (zri n (zmf wa iv gh pr (zb dy)) wa i)) * (pr i)))))))] := hD
        have hw5 : ∀ (x0 : Nat → Int32), x0 = upd (znw dy (pu + nI (zts gu n (zmf wa iv gh pr (zb dy)) wa pr i)) wa iv gh tf) 1 ((pu + nI (zts gu n (zmf wa iv gh pr (zb dy)) wa pr i)) + (nI ((zgs gu (zri n (zmf wa iv gh pr (zb dy)) wa i)) * (pr i)))) → va_P (dC, dI) vwCl [(mo, .inr (4, [.int (nI th), .int (nI n), .int (nI gu), .int (nI tn), .ref e0, .ref e1, .ref e2, .ref e3, .ref e4, .ref e5])), (e0, .inl (cA, 10, .inl (fun j => nI (pr j)))), (e4, .inl (cA, 62, .inl x0))] H ∧ va_D A [(mo, .inr (4, [.int (nI th), .int (nI n), .int (nI gu), .int (nI tn), .ref e0, .ref e1, .ref e2, .ref e3, .ref e4, .ref e5])), (e0, .inl (cA, 10, .inl (fun j => nI (pr j)))), (e4, .inl (cA, 62, .inl x0))] := by
          intro x0 h0; subst h0; exact ⟨hP, hD⟩
        obtain ⟨hP, hD⟩ := hw5 (znw dy ((pu + nI (zts gu n (zmf wa iv gh pr (zb dy)) wa pr i)) + (nI ((zgs gu (zri n (zmf wa iv gh pr (zb dy)) wa i)) * (pr i)))) wa iv gh tf) (show (znw dy ((pu + nI (zts gu n (zmf wa iv gh pr (zb dy)) wa pr i)) + (nI ((zgs gu (zri n (zmf wa iv gh pr (zb dy)) wa i)) * (pr i)))) wa iv gh tf) = upd (znw dy (pu + nI (zts gu n (zmf wa iv gh pr (zb dy)) wa pr i)) wa iv gh tf) 1 ((pu + nI (zts gu n (zmf wa iv gh pr (zb dy)) wa pr i)) + (nI ((zgs gu (zri n (zmf wa iv gh pr (zb dy)) wa i)) * (pr i)))) from by exact (znw_up _ _ _ _ _ _ _ ).symm)
        refine lv_iinc (v := nI (i + 1)) (lv' := [(1, .int (nI (i + 1))), (0, .ref mo)]) hx hb dX5_sell_35 hl (k := 1) rfl (nI_1 _) (by decide) rfl (fun ls hl => ?_)
        refine lv_goto (tgt := 2) hx hb dX5_sell_38 (by decide) ?_
        have hl := lv_sub (l' := [(0, .ref mo), (1, .int (nI (i + 1)))]) hl [1, 0] rfl
        have hw6 : ∀ (x0 : Nat → Int32), x0 = znw dy ((pu + nI (zts gu n (zmf wa iv gh pr (zb dy)) wa pr i)) + (nI ((zgs gu (zri n (zmf wa iv gh pr (zb dy)) wa i)) * (pr i)))) wa iv gh tf → va_P (dC, dI) vwCl [(mo, .inr (4, [.int (nI th), .int (nI n), .int (nI gu), .int (nI tn), .ref e0, .ref e1, .ref e2, .ref e3, .ref e4, .ref e5])), (e0, .inl (cA, 10, .inl (fun j => nI (pr j)))), (e4, .inl (cA, 62, .inl x0))] H ∧ va_D A [(mo, .inr (4, [.int (nI th), .int (nI n), .int (nI gu), .int (nI tn), .ref e0, .ref e1, .ref e2, .ref e3, .ref e4, .ref e5])), (e0, .inl (cA, 10, .inl (fun j => nI (pr j)))), (e4, .inl (cA, 62, .inl x0))] := by
          intro x0 h0; subst h0; exact ⟨hP, hD⟩
        obtain ⟨hP, hD⟩ := hw6 (znw dy (pu + nI (zts gu n (zmf wa iv gh pr (zb dy)) wa pr (i + 1))) wa iv gh tf) (show (znw dy (pu + nI (zts gu n (zmf wa iv gh pr (zb dy)) wa pr (i + 1))) wa iv gh tf) = znw dy ((pu + nI (zts gu n (zmf wa iv gh pr (zb dy)) wa pr i)) + (nI ((zgs gu (zri n (zmf wa iv gh pr (zb dy)) wa i)) * (pr i)))) wa iv gh tf from by (first | exact znw_cg (zp_0 _) rfl rfl rfl rfl | exact znw_cg (zp_s _ _ _) rfl rfl rfl rfl))
        exact ih_2 (i + 1) (by omega) (by first | assumption | omega) _ _ hP hD hS _ hl
  have hl := lv_sub (l' := [(0, .ref mo), (1, .int (nI 0))]) hl [1, 0] rfl
  have hw7 : ∀ (x0 : Nat → Int32), x0 = znw dy pu wa iv gh tf → va_P (dC, dI) vwCl [(mo, .inr (4, [.int (nI th), .int (nI n), .int (nI gu), .int (nI tn), .ref e0, .ref e1, .ref e2, .ref e3, .ref e4, .ref e5])), (e0, .inl (cA, 10, .inl (fun j => nI (pr j)))), (e4, .inl (cA, 62, .inl x0))] s.heap ∧ va_D A [(mo, .inr (4, [.int (nI th), .int (nI n), .int (nI gu), .int (nI tn), .ref e0, .ref e1, .ref e2, .ref e3, .ref e4, .ref e5])), (e0, .inl (cA, 10, .inl (fun j => nI (pr j)))), (e4, .inl (cA, 62, .inl x0))] := by
    intro x0 h0; subst h0; exact ⟨hP, hD⟩
  obtain ⟨hP, hD⟩ := hw7 (znw dy (pu + nI (zts gu n (zmf wa iv gh pr (zb dy)) wa pr 0)) wa iv gh tf) (show (znw dy (pu + nI (zts gu n (zmf wa iv gh pr (zb dy)) wa pr 0)) wa iv gh tf) = znw dy pu wa iv gh tf from by (first | exact znw_cg (zp_0 _) rfl rfl rfl rfl | exact znw_cg (zp_s _ _ _) rfl rfl rfl rfl))
  exact lp_2 _ 0 (Nat.lt_succ_self _) (by first | assumption | omega) _ _ hP hD hS _ hl
theorem i_X5_redeem_X5 : ∀ w ∈ u_ws RX5 TX5 10, w ∈ wsX5_redeem := by decide +kernel
set_option maxHeartbeats 4000000 in
set_option maxRecDepth 100000 in
theorem c_X5_redeem (l : Launch) (dC : Nat → ClassId) (dI : Nat → Nat → Nat) (cA : ClassId) (mo : Nat) (e0 : Nat) (e1 : Nat) (e2 : Nat) (e3 : Nat) (e4 : Nat) (e5 : Nat) (th : Nat) (n : Nat) (gu : Nat) (tn : Nat) (tr : Nat → Nat) (td : Nat → Nat) (tp : Nat → Nat) (dy : Nat) (pu : Int32) (wa : Nat → Nat) (iv : Nat → Nat) (gh : Nat → Nat) (tf : Nat → Nat) (sz : Nat) (hn : n ≤ 10) (htn : tn ≤ 30) (hwa : ∀ j, wa j ≤ 20) (htr : ∀ t, t < tn → tr t < n) (htd : ∀ t, td t ≤ 50000) (htf : ∀ t, tf t ≤ 2) (hdy : dy < 2 ^ 31) : Met l yX5_redeem wsX5_redeem ({ frames := 2, cells := 0, slots := 0, locals := 43 } : Room) (va_Pc [.ref mo] (fun U => U.heap.size = sz ∧ va_P (dC, dI) vwCl [(mo, .inr (4, [.int (nI th), .int (nI n), .int (nI gu), .int (nI tn), .ref e0, .ref e1, .ref e2, .ref e3, .ref e4, .ref e5])), (e1, .inl (cA, 30, .inl (fun j => nI (tr j)))), (e2, .inl (cA, 30, .inl (fun j => nI (td j)))), (e3, .inl (cA, 30, .inl (fun j => nI (tp j)))), (e4, .inl (cA, 62, .inl (znw dy pu wa iv gh tf)))] U.heap ∧ va_K (dC, dI) vwCl [(cA, .int)] U ∧ va_D (fun _ => True) [(mo, .inr (4, [.int (nI th), .int (nI n), .int (nI gu), .int (nI tn), .ref e0, .ref e1, .ref e2, .ref e3, .ref e4, .ref e5])), (e1, .inl (cA, 30, .inl (fun j => nI (tr j)))), (e2, .inl (cA, 30, .inl (fun j => nI (td j)))), (e3, .inl (cA, 30, .inl (fun j => nI (tp j)))), (e4, .inl (cA, 62, .inl (znw dy pu wa iv gh tf)))])) (va_Qv (fun _ : Unit => True) (fun (_ : Unit) t => va_P (dC, dI) vwCl [(mo, .inr (4, [.int (nI th), .int (nI n), .int (nI gu), .int (nI tn), .ref e0, .ref e1, .ref e2, .ref e3, .ref e4, .ref e5])), (e1, .inl (cA, 30, .inl (fun j => nI (tr j)))), (e2, .inl (cA, 30, .inl (fun j => nI (td j)))), (e3, .inl (cA, 30, .inl (fun j => nI (tp j)))), (e4, .inl (cA, 62, .inl (znw dy (pu - nI (zbak dy wa tr td tp tf tn)) wa iv gh (zfat tn dy wa tr td tf))))] t.heap ∧ va_D (va_A [(mo, .inr (4, [.int (nI th), .int (nI n), .int (nI gu), .int (nI tn), .ref e0, .ref e1, .ref e2, .ref e3, .ref e4, .ref e5])), (e1, .inl (cA, 30, .inl (fun j => nI (tr j)))), (e2, .inl (cA, 30, .inl (fun j => nI (td j)))), (e3, .inl (cA, 30, .inl (fun j => nI (tp j)))), (e4, .inl (cA, 62, .inl (znw dy pu wa iv gh tf)))] sz) [(mo, .inr (4, [.int (nI th), .int (nI n), .int (nI gu), .int (nI tn), .ref e0, .ref e1, .ref e2, .ref e3, .ref e4, .ref e5])), (e1, .inl (cA, 30, .inl (fun j => nI (tr j)))), (e2, .inl (cA, 30, .inl (fun j => nI (td j)))), (e3, .inl (cA, 30, .inl (fun j => nI (tp j)))), (e4, .inl (cA, 62, .inl (znw dy (pu - nI (zbak dy wa tr td tp tf tn)) wa iv gh (zfat tn dy wa tr td tf))))]) (va_A [(mo, .inr (4, [.int (nI th), .int (nI n), .int (nI gu), .int (nI tn), .ref e0, .ref e1, .ref e2, .ref e3, .ref e4, .ref e5])), (e1, .inl (cA, 30, .inl (fun j => nI (tr j)))), (e2, .inl (cA, 30, .inl (fun j => nI (td j)))), (e3, .inl (cA, 30, .inl (fun j => nI (tp j)))), (e4, .inl (cA, 62, .inl (znw dy pu wa iv gh tf)))] sz)) 0 0 (va_A [(mo, .inr (4, [.int (nI th), .int (nI n), .int (nI gu), .int (nI tn), .ref e0, .ref e1, .ref e2, .ref e3, .ref e4, .ref e5])), (e1, .inl (cA, 30, .inl (fun j => nI (tr j)))), (e2, .inl (cA, 30, .inl (fun j => nI (td j)))), (e3, .inl (cA, 30, .inl (fun j => nI (tp j)))), (e4, .inl (cA, 62, .inl (znw dy pu wa iv gh tf)))] sz) := by
  refine Met.ofW (cc := cX5_redeem) (maxL := 3) (ret := none) (by decide) rfl ?_
  intro p e s m args below meth c s₁ B hml hv
  obtain ⟨hargs, hsz, hP, hK, hD0⟩ := hv
  have hx := B.exec
  have hb := B.bytes
  have hr := B.returns
  have hts := atoms_spec (ws := wsX5_redeem) B.pre
  have hown : s.vm.findClass RX5 = some m.cls := findClass_of_methodNamed B.named
  have hlocks := B.notSynchronized
  subst hsz
  have hD := hD0.self (sz := s.heap.size)
  generalize hAe : va_A [(mo, .inr (4, [.int (nI th), .int (nI n), .int (nI gu), .int (nI tn), .ref e0, .ref e1, .ref e2, .ref e3, .ref e4, .ref e5])), (e1, .inl (cA, 30, .inl (fun j => nI (tr j)))), (e2, .inl (cA, 30, .inl (fun j => nI (td j)))), (e3, .inl (cA, 30, .inl (fun j => nI (tp j)))), (e4, .inl (cA, 62, .inl (znw dy pu wa iv gh tf)))] s.heap.size = A at hD ⊢
  have hA : ∀ q : Nat, s.heap.size ≤ q → A q := fun q h => by rw [← hAe]; exact Or.inr h
  have hS : va_S A s.heap s.heap [] := va_S.rf
  have hP : va_P (dC, dI) vwCl [(mo, .inr (4, [.int (nI th), .int (nI n), .int (nI gu), .int (nI tn), .ref e0, .ref e1, .ref e2, .ref e3, .ref e4, .ref e5])), (e1, .inl (cA, 30, .inl (fun j => nI (tr j)))), (e2, .inl (cA, 30, .inl (fun j => nI (td j)))), (e3, .inl (cA, 30, .inl (fun j => nI (tp j)))), (e4, .inl (cA, 62, .inl (znw dy pu wa iv gh tf)))] s.heap := hP
  have hl := lv_entry ([.ref mo]) (n := 3) (Nat.le_of_ble_eq_true rfl)
  rw [hargs, lg_entry_eq, ← hargs]
  generalize (lg_sl ([.ref mo]) ++ List.replicate (3 - (lg_sl ([.ref mo])).length) Slot.unset).toArray = ls at hl ⊢
  have hl : lv_has ls 3 [(0, .ref mo)] := hl
  refine lv_iconst (v := nI 0) hx hb dX5_redeem_0 (by decide) ?_
  refine lv_istore_n (lv' := [(1, .int (nI 0)), (0, .ref mo)]) hx hb dX5_redeem_1 rfl hl (by decide) rfl (fun ls hl => ?_)
  have lp_2 : ∀ (f9 : Nat) (i : Nat) , (tn - i) < f9 → (i ≤ tn) → ∀ (H : Heap) (locs : List Loc), va_P (dC, dI) vwCl [(mo, .inr (4, [.int (nI th), .int (nI n), .int (nI gu), .int (nI tn), .ref e0, .ref e1, .ref e2, .ref e3, .ref e4, .ref e5])), (e1, .inl (cA, 30, .inl (fun j => nI (tr j)))), (e2, .inl (cA, 30, .inl (fun j => nI (td j)))), (e3, .inl (cA, 30, .inl (fun j => nI (tp j)))), (e4, .inl (cA, 62, .inl (znw dy (pu - nI (zbak dy wa tr td tp tf i)) wa iv gh (zfat i dy wa tr td tf))))] H → va_D A [(mo, .inr (4, [.int (nI th), .int (nI n), .int (nI gu), .int (nI tn), .ref e0, .ref e1, .ref e2, .ref e3, .ref e4, .ref e5])), (e1, .inl (cA, 30, .inl (fun j => nI (tr j)))), (e2, .inl (cA, 30, .inl (fun j => nI (td j)))), (e3, .inl (cA, 30, .inl (fun j => nI (tp j)))), (e4, .inl (cA, 62, .inl (znw dy (pu - nI (zbak dy wa tr td tp tf i)) wa iv gh (zfat i dy wa tr td tf))))] → va_S A s.heap H locs → ∀ (ls : Array Slot), lv_has ls 3 [(0, .ref mo), (1, .int (nI i))] → W p l e ({ frames := 2, cells := 0, slots := 0, locals := 43 } : Room) s m args below meth c H locs 0 0 (MQ below (va_Qv (fun _ : Unit => True) (fun (_ : Unit) t => va_P (dC, dI) vwCl [(mo, .inr (4, [.int (nI th), .int (nI n), .int (nI gu), .int (nI tn), .ref e0, .ref e1, .ref e2, .ref e3, .ref e4, .ref e5])), (e1, .inl (cA, 30, .inl (fun j => nI (tr j)))), (e2, .inl (cA, 30, .inl (fun j => nI (td j)))), (e3, .inl (cA, 30, .inl (fun j => nI (tp j)))), (e4, .inl (cA, 62, .inl (znw dy (pu - nI (zbak dy wa tr td tp tf tn)) wa iv gh (zfat tn dy wa tr td tf))))] t.heap ∧ va_D A [(mo, .inr (4, [.int (nI th), .int (nI n), .int (nI gu), .int (nI tn), .ref e0, .ref e1, .ref e2, .ref e3, .ref e4, .ref e5])), (e1, .inl (cA, 30, .inl (fun j => nI (tr j)))), (e2, .inl (cA, 30, .inl (fun j => nI (td j)))), (e3, .inl (cA, 30, .inl (fun j => nI (tp j)))), (e4, .inl (cA, 62, .inl (znw dy (pu - nI (zbak dy wa tr td tp tf tn)) wa iv gh (zfat tn dy wa tr td tf))))]) A) args s 0 0 A) (F0 m 2 ls []) := by
    intro f9
    induction f9 with
    | zero => intro i hm9; exact absurd hm9 (Nat.not_lt_zero _)
    | succ f9 ih_2 =>
      intro i hm9 hi H locs hP hD hS ls hl
      have hf9 := htf i
      have hd9 := htd i
      refine lv_iload_n hx hb dX5_redeem_2 rfl (lv_at hl 1 rfl) ?_
      refine lv_aload_n hx hb dX5_redeem_3 rfl (lv_at hl 0 rfl) ?_
      refine va_get (D := (dC, dI)) (ci := 4) (v := .int (nI tn)) (C := RX5) (T := TX5) (N := 10) hx hb hts i_X5_redeem_X5 hown hK hP 0 rfl rfl 3 (by decide) (hts (.fieldLink RX5 42 "RuinViewsModel" "tickets" "I") (List.mem_of_getElem? (i := 1) rfl)) (fun _ h9 => h9) rfl dX5_redeem_4 ?_
      refine lv_icmp_ge (tgt := 94) hx hb dX5_redeem_7 (by decide) (fun c_1 => ?_) (fun c_1 => ?_)
      · skip
        replace c_1 := (nI_leI (by first | omega | (split <;> omega)) (by first | omega | (split <;> omega))).mp c_1
        have hw2 : ∀ (x0 : Nat → Int32), x0 = znw dy (pu - nI (zbak dy wa tr td tp tf i)) wa iv gh (zfat i dy wa tr td tf) → va_P (dC, dI) vwCl [(mo, .inr (4, [.int (nI th), .int (nI n), .int (nI gu), .int (nI tn), .ref e0, .ref e1, .ref e2, .ref e3, .ref e4, .ref e5])), (e1, .inl (cA, 30, .inl (fun j => nI (tr j)))), (e2, .inl (cA, 30, .inl (fun j => nI (td j)))), (e3, .inl (cA, 30, .inl (fun j => nI (tp j)))), (e4, .inl (cA, 62, .inl x0))] H ∧ va_D A [(mo, .inr (4, [.int (nI th), .int (nI n), .int (nI gu), .int (nI tn), .ref e0, .ref e1, .ref e2, .ref e3, .ref e4, .ref e5])), (e1, .inl (cA, 30, .inl (fun j => nI (tr j)))), (e2, .inl (cA, 30, .inl (fun j => nI (td j)))), (e3, .inl (cA, 30, .inl (fun j => nI (tp j)))), (e4, .inl (cA, 62, .inl x0))] := by
          intro x0 h0; subst h0; exact ⟨hP, hD⟩
        obtain ⟨hP, hD⟩ := hw2 (znw dy (pu - nI (zbak dy wa tr td tp tf tn)) wa iv gh (zfat tn dy wa tr td tf)) (show (znw dy (pu - nI (zbak dy wa tr td tp tf tn)) wa iv gh (zfat tn dy wa tr td tf)) = znw dy (pu - nI (zbak dy wa tr td tp tf i)) wa iv gh (zfat i dy wa tr td tf) from by (rw [show tn = i from by omega]))
        exact W.vret hx hb hr (fun t ht hW => ⟨⟨(), rfl, trivial, by rw [ht]; exact hP, hD⟩, hS.F ht⟩) hS.2.2 dX5_redeem_94
      · skip
        replace c_1 := mt (nI_leI (by first | omega | (split <;> omega)) (by first | omega | (split <;> omega))).mpr c_1
        refine lv_aload_n hx hb dX5_redeem_10 rfl (lv_at hl 0 rfl) ?_
        refine va_get (D := (dC, dI)) (ci := 4) (v := .ref e2) (C := RX5) (T := TX5) (N := 10) hx hb hts i_X5_redeem_X5 hown hK hP 0 rfl rfl 6 (by decide) (hts (.fieldLink RX5 20 "RuinViewsModel" "when" "[I") (List.mem_of_getElem? (i := 2) rfl)) (fun _ h9 => h9) rfl dX5_redeem_11 ?_
        refine lv_iload_n hx hb dX5_redeem_14 rfl (lv_at hl 1 rfl) ?_
        refine zz_ald hx hb hK hP 2 (f := td) rfl rfl (by omega) (by decide) dX5_redeem_15 ?_
        refine lv_aload_n hx hb dX5_redeem_16 rfl (lv_at hl 0 rfl) ?_
        refine va_get (D := (dC, dI)) (ci := 4) (v := .ref e4) (C := RX5) (T := TX5) (N := 10) hx hb hts i_X5_redeem_X5 hown hK hP 0 rfl rfl 8 (by decide) (hts (.fieldLink RX5 26 "RuinViewsModel" "now" "[I") (List.mem_of_getElem? (i := 3) rfl)) (fun _ h9 => h9) rfl dX5_redeem_17 ?_
        refine lv_iconst (v := nI 0) hx hb dX5_redeem_20 (by decide) ?_
        refine zz_aldI hx hb hK hP 4 (f := znw dy (pu - nI (zbak dy wa tr td tp tf i)) wa iv gh (zfat i dy wa tr td tf)) rfl rfl (by omega) (by decide) dX5_redeem_21 ?_
        refine zz_top (znw_0 _ _ _ _ _ _) ?_
        refine lv_icmp_ne (tgt := 88) hx hb dX5_redeem_22 (by decide) (fun c_3 => ?_) (fun c_3 => ?_)
        · skip
          replace c_3 := mt (nI_eq (by first | omega | (split <;> omega)) (by first | omega | (split <;> omega))).mpr c_3
          refine lv_iinc (v := nI (i + 1)) (lv' := [(1, .int (nI (i + 1))), (0, .ref mo)]) hx hb dX5_redeem_88 hl (k := 1) rfl (nI_1 _) (by decide) rfl (fun ls hl => ?_)
          refine lv_goto (tgt := 2) hx hb dX5_redeem_91 (by decide) ?_
          have hl := lv_sub (l' := [(0, .ref mo), (1, .int (nI (i + 1)))]) hl [1, 0] rfl
          have hw4 : ∀ (x0 : Nat → Int32), x0 = znw dy (pu - nI (zbak dy wa tr td tp tf i)) wa iv gh (zfat i dy wa tr td tf) → va_P (dC, dI) vwCl [(mo, .inr (4, [.int (nI th), .int (nI n), .int (nI gu), .int (nI tn), .ref e0, .ref e1, .ref e2, .ref e3, .ref e4, .ref e5])), (e1, .inl (cA, 30, .inl (fun j => nI (tr j)))), (e2, .inl (cA, 30, .inl (fun j => nI (td j)))), (e3, .inl (cA, 30, .inl (fun j => nI (tp j)))), (e4, .inl (cA, 62, .inl x0))] H ∧ va_D A [(mo, .inr (4, [.int (nI th), .int (nI n), .int (nI gu), .int (nI tn), .ref e0, .ref e1, .ref e2, .ref e3, .ref e4, .ref e5])), (e1, .inl (cA, 30, .inl (fun j => nI (tr j)))), (e2, .inl (cA, 30, .inl (fun j => nI (td j)))), (e3, .inl (cA, 30, .inl (fun j => nI (tp j)))), (e4, .inl (cA, 62, .inl x0))] := by
            intro x0 h0; subst h0; exact ⟨hP, hD⟩
          obtain ⟨hP, hD⟩ := hw4 (znw dy (pu - nI (zbak dy wa tr td tp tf (i + 1))) wa iv gh (zfat (i + 1) dy wa tr td tf)) (show (znw dy (pu - nI (zbak dy wa tr td tp tf (i + 1))) wa iv gh (zfat (i + 1) dy wa tr td tf)) = znw dy (pu - nI (zbak dy wa tr td tp tf i)) wa iv gh (zfat i dy wa tr td tf) from by (first | (exfalso; omega) | exact znw_cg (zm_0 _) rfl rfl rfl zA_0 | exact znw_cg (congrArg (fun q => pu - nI q) (show zbak dy wa tr td tp tf (i + 1) = zbak dy wa tr td tp tf i from by show zbak dy wa tr td tp tf i + (if tf i = 0 ∧ td i = dy ∧ ¬ 0 < wa (tr i) then tp i else 0) = _; rw [if_neg (by omega)]; omega)) rfl rfl rfl (by first | exact zA_k (by unfold zft; rw [if_neg (by omega)]) | exact zA_s (by unfold zft; rw [if_pos (by omega), if_pos (by assumption)])) | exact znw_cg (by rw [show zbak dy wa tr td tp tf (i + 1) = zbak dy wa tr td tp tf i + tp i from by show zbak dy wa tr td tp tf i + (if tf i = 0 ∧ td i = dy ∧ ¬ 0 < wa (tr i) then tp i else 0) = _; rw [if_pos (by omega)]]; exact zm_s _ _ _) rfl rfl rfl (zA_s (by unfold zft; rw [if_pos (by omega), if_neg (by assumption)]))))
          exact ih_2 (i + 1) (by omega) (by first | assumption | omega) _ _ hP hD hS _ hl
        · skip
          replace c_3 := (nI_eq (by first | omega | (split <;> omega)) (by first | omega | (split <;> omega))).mp c_3
          refine lv_aload_n hx hb dX5_redeem_25 rfl (lv_at hl 0 rfl) ?_
          refine va_get (D := (dC, dI)) (ci := 4) (v := .ref e4) (C := RX5) (T := TX5) (N := 10) hx hb hts i_X5_redeem_X5 hown hK hP 0 rfl rfl 8 (by decide) (hts (.fieldLink RX5 26 "RuinViewsModel" "now" "[I") (List.mem_of_getElem? (i := 3) rfl)) (fun _ h9 => h9) rfl dX5_redeem_26 ?_
          refine lv_bipush (v := nI 32) hx hb dX5_redeem_29 (by decide) ?_
          refine lv_iload_n hx hb dX5_redeem_31 rfl (lv_at hl 1 rfl) ?_
          refine lv_iadd hx hb dX5_redeem_32 ?_
          refine zz_top (nI_add _ _) ?_
          refine zz_aldI hx hb hK hP 4 (f := znw dy (pu - nI (zbak dy wa tr td tp tf i)) wa iv gh (zfat i dy wa tr td tf)) rfl rfl (by omega) (by decide) dX5_redeem_33 ?_
          refine zz_top ((znw_t _ _ _ _ _ _ (by omega)).trans (congrArg nI (show zfat i dy wa tr td tf i = tf i from by simp [zfat]))) ?_
          refine lv_if_eq (tgt := 40) hx hb dX5_redeem_34 (by decide) (fun c_5 => ?_) (fun c_5 => ?_)
          · skip
            replace c_5 := (zz_eq0 (by first | omega | (split <;> omega))).mp c_5
            have hr9 := htr i (by omega)
            have hw9 := hwa (tr i)
            refine lv_aload_n hx hb dX5_redeem_40 rfl (lv_at hl 0 rfl) ?_
            refine lv_aload_n hx hb dX5_redeem_41 rfl (lv_at hl 0 rfl) ?_
            refine va_get (D := (dC, dI)) (ci := 4) (v := .ref e1) (C := RX5) (T := TX5) (N := 10) hx hb hts i_X5_redeem_X5 hown hK hP 0 rfl rfl 5 (by decide) (hts (.fieldLink RX5 17 "RuinViewsModel" "place" "[I") (List.mem_of_getElem? (i := 4) rfl)) (fun _ h9 => h9) rfl dX5_redeem_42 ?_
            refine lv_iload_n hx hb dX5_redeem_45 rfl (lv_at hl 1 rfl) ?_
            refine zz_ald hx hb hK hP 1 (f := tr) rfl rfl (by omega) (by decide) dX5_redeem_46 ?_
            have hPc := hP.sub (ws' := [(mo, .inr (4, [.int (nI th), .int (nI n), .int (nI gu), .int (nI tn), .ref e0, .ref e1, .ref e2, .ref e3, .ref e4, .ref e5])), (e4, .inl (cA, 62, .inl (znw dy (pu - nI (zbak dy wa tr td tp tf i)) wa iv gh (zfat i dy wa tr td tf))))]) [0, 4] rfl
            refine vp_callSi (W.runV (As := [.int (nI (tr i))]) (rest := []) ⟨hx, hb, hml, hown, hts⟩ (c_X5_stands l dC dI cA mo e0 e1 e2 e3 e4 e5 th n gu tn dy (pu - nI (zbak dy wa tr td tp tf i)) wa iv gh (zfat i dy wa tr td tf) (tr i) (by first | assumption | omega) (by first | assumption | omega)) (cwV 1 hts gX5_redeem_X5_stands rfl rfl rfl (by decide +kernel) ⟨Nat.le_of_ble_eq_true rfl, Nat.le_of_ble_eq_true rfl⟩) ⟨fun a U g mk q => by obtain ⟨q0, qP, qK⟩ := q; exact ⟨q0, qP, va_K.moved (u := U) (U := U.calling g mk a) (Vm.Alike.refl U.vm) qK⟩, va_recv hK hP (ci := 4) (q0 := 0) rfl rfl, fun U hU hW => ⟨rfl, by rw [hU]; exact hPc, va_K.moved hW.alike hK⟩⟩ rfl rfl hl.1 rfl (lv_room (Nat.le_of_ble_eq_true rfl)) dX5_redeem_47 ⟨Nat.le_of_ble_eq_true rfl, Nat.le_of_ble_eq_true rfl⟩) (fun r_6 hw_6 => ?_)
            subst hw_6
            refine lv_istore_n (lv' := [(2, .int (nI (if 0 < wa (tr i) then 1 else 0))), (0, .ref mo), (1, .int (nI i))]) hx hb dX5_redeem_50 rfl hl (by decide) rfl (fun ls hl => ?_)
            refine lv_aload_n hx hb dX5_redeem_51 rfl (lv_at hl 1 rfl) ?_
            refine va_get (D := (dC, dI)) (ci := 4) (v := .ref e4) (C := RX5) (T := TX5) (N := 10) hx hb hts i_X5_redeem_X5 hown hK hP 0 rfl rfl 8 (by decide) (hts (.fieldLink RX5 26 "RuinViewsModel" "now" "[I") (List.mem_of_getElem? (i := 3) rfl)) (fun _ h9 => h9) rfl dX5_redeem_52 ?_
            refine lv_bipush (v := nI 32) hx hb dX5_redeem_55 (by decide) ?_
            refine lv_iload_n hx hb dX5_redeem_57 rfl (lv_at hl 2 rfl) ?_
            refine lv_iadd hx hb dX5_redeem_58 ?_
            refine zz_top (nI_add _ _) ?_
            refine lv_iload_n hx hb dX5_redeem_59 rfl (lv_at hl 0 rfl) ?_
            refine lv_if_eq (tgt := 67) hx hb dX5_redeem_60 (by decide) (fun c_7 => ?_) (fun c_7 => ?_)
            · skip
              replace c_7 := (zz_eq0 (by first | omega | (split <;> omega))).mp c_7
              replace c_7 : ¬ 0 < wa (tr i) := fun q => by rw [if_pos q] at c_7; first | exact absurd c_7 (by decide) | exact c_7 (by decide)
              refine lv_iconst (v := nI 2) hx hb dX5_redeem_67 (by decide) ?_
              refine zz_astI hx hb hK hP hD hS 4 (f := znw dy (pu - nI (zbak dy wa tr td tp tf i)) wa iv gh (zfat i dy wa tr td tf)) rfl rfl (by omega) (by decide) dX5_redeem_68 (fun H locs hP hD hS => ?_)
              have hP : va_P (dC, dI) vwCl [(mo, .inr (4, [.int (nI th), .int (nI n), .int (nI gu), .int (nI tn), .ref e0, .ref e1, .ref e2, .ref e3, .ref e4, .ref e5])), (e1, .inl (cA, 30, .inl (fun j => nI (tr j)))), (e2, .inl (cA, 30, .inl (fun j => nI (td j)))), (e3, .inl (cA, 30, .inl (fun j => nI (tp j)))), (e4, .inl (cA, 62, .inl (upd (znw dy (pu - nI (zbak dy wa tr td tp tf i)) wa iv gh (zfat i dy wa tr td tf)) (32 + i) (nI 2))))] H := hP
              have hD : va_D A [(mo, .inr (4, [.int (nI th), .int (nI n), .int (nI gu), .int (nI tn), .ref e0, .ref e1, .ref e2, .ref e3, .ref e4, .ref e5])), (e1, .inl (cA, 30, .inl (fun j => nI (tr j)))), (e2, .inl (cA, 30, .inl (fun j => nI (td j)))), (e3, .inl (cA, 30, .inl (fun j => nI (tp j)))), (e4, .inl (cA, 62, .inl (upd (znw dy (pu - nI (zbak dy wa tr td tp tf i)) wa iv gh (zfat i dy wa tr td tf)) (32 + i) (nI 2))))] := hD
              have hw8 : ∀ (x0 : Nat → Int32), x0 = upd (znw dy (pu - nI (zbak dy wa tr td tp tf i)) wa iv gh (zfat i dy wa tr td tf)) (32 + i) (nI 2) → va_P (dC, dI) vwCl [(mo, .inr (4, [.int (nI th), .int (nI n), .int (nI gu), .int (nI tn), .ref e0, .ref e1, .ref e2, .ref e3, .ref e4, .ref e5])), (e1, .inl (cA, 30, .inl (fun j => nI (tr j)))), (e2, .inl (cA, 30, .inl (fun j => nI (td j)))), (e3, .inl (cA, 30, .inl (fun j => nI (tp j)))), (e4, .inl (cA, 62, .inl x0))] H ∧ va_D A [(mo, .inr (4, [.int (nI th), .int (nI n), .int (nI gu), .int (nI tn), .ref e0, .ref e1, .ref e2, .ref e3, .ref e4, .ref e5])), (e1, .inl (cA, 30, .inl (fun j => nI (tr j)))), (e2, .inl (cA, 30, .inl (fun j => nI (td j)))), (e3, .inl (cA, 30, .inl (fun j => nI (tp j)))), (e4, .inl (cA, 62, .inl x0))] := by
                intro x0 h0; subst h0; exact ⟨hP, hD⟩
              obtain ⟨hP, hD⟩ := hw8 (znw dy (pu - nI (zbak dy wa tr td tp tf i)) wa iv gh (zup (zfat i dy wa tr td tf) i 2)) (show (znw dy (pu - nI (zbak dy wa tr td tp tf i)) wa iv gh (zup (zfat i dy wa tr td tf) i 2)) = upd (znw dy (pu - nI (zbak dy wa tr td tp tf i)) wa iv gh (zfat i dy wa tr td tf)) (32 + i) (nI 2) from by exact (znw_ut _ _ _ _ _ _ _ (by omega)).symm)
              refine lv_iload_n hx hb dX5_redeem_69 rfl (lv_at hl 0 rfl) ?_
              refine lv_if_ne (tgt := 88) hx hb dX5_redeem_70 (by decide) (fun c_9 => ?_) (fun c_9 => ?_)
              · skip
                replace c_9 := mt (zz_eq0 (by first | omega | (split <;> omega))).mpr c_9
                replace c_9 : 0 < wa (tr i) := Decidable.byContradiction fun q => by rw [if_neg q] at c_9; exact c_9 rfl
                refine lv_iinc (v := nI (i + 1)) (lv' := [(1, .int (nI (i + 1))), (2, .int (nI (if 0 < wa (tr i) then 1 else 0))), (0, .ref mo)]) hx hb dX5_redeem_88 hl (k := 2) rfl (nI_1 _) (by decide) rfl (fun ls hl => ?_)
                refine lv_goto (tgt := 2) hx hb dX5_redeem_91 (by decide) ?_
                have hl := lv_sub (l' := [(0, .ref mo), (1, .int (nI (i + 1)))]) hl [2, 0] rfl
                have hw10 : ∀ (x0 : Nat → Int32), x0 = znw dy (pu - nI (zbak dy wa tr td tp tf i)) wa iv gh (zup (zfat i dy wa tr td tf) i 2) → va_P (dC, dI) vwCl [(mo, .inr (4, [.int (nI th), .int (nI n), .int (nI gu), .int (nI tn), .ref e0, .ref e1, .ref e2, .ref e3, .ref e4, .ref e5])), (e1, .inl (cA, 30, .inl (fun j => nI (tr j)))), (e2, .inl (cA, 30, .inl (fun j => nI (td j)))), (e3, .inl (cA, 30, .inl (fun j => nI (tp j)))), (e4, .inl (cA, 62, .inl x0))] H ∧ va_D A [(mo, .inr (4, [.int (nI th), .int (nI n), .int (nI gu), .int (nI tn), .ref e0, .ref e1, .ref e2, .ref e3, .ref e4, .ref e5])), (e1, .inl (cA, 30, .inl (fun j => nI (tr j)))), (e2, .inl (cA, 30, .inl (fun j => nI (td j)))), (e3, .inl (cA, 30, .inl (fun j => nI (tp j)))), (e4, .inl (cA, 62, .inl x0))] := by
                  intro x0 h0; subst h0; exact ⟨hP, hD⟩
                obtain ⟨hP, hD⟩ := hw10 (znw dy (pu - nI (zbak dy wa tr td tp tf (i + 1))) wa iv gh (zfat (i + 1) dy wa tr td tf)) (show (znw dy (pu - nI (zbak dy wa tr td tp tf (i + 1))) wa iv gh (zfat (i + 1) dy wa tr td tf)) = znw dy (pu - nI (zbak dy wa tr td tp tf i)) wa iv gh (zup (zfat i dy wa tr td tf) i 2) from by (first | (exfalso; omega) | exact znw_cg (zm_0 _) rfl rfl rfl zA_0 | exact znw_cg (congrArg (fun q => pu - nI q) (show zbak dy wa tr td tp tf (i + 1) = zbak dy wa tr td tp tf i from by show zbak dy wa tr td tp tf i + (if tf i = 0 ∧ td i = dy ∧ ¬ 0 < wa (tr i) then tp i else 0) = _; rw [if_neg (by omega)]; omega)) rfl rfl rfl (by first | exact zA_k (by unfold zft; rw [if_neg (by omega)]) | exact zA_s (by unfold zft; rw [if_pos (by omega), if_pos (by assumption)])) | exact znw_cg (by rw [show zbak dy wa tr td tp tf (i + 1) = zbak dy wa tr td tp tf i + tp i from by show zbak dy wa tr td tp tf i + (if tf i = 0 ∧ td i = dy ∧ ¬ 0 < wa (tr i) then tp i else 0) = _; rw [if_pos (by omega)]]; exact zm_s _ _ _) rfl rfl rfl (zA_s (by unfold zft; rw [if_pos (by omega), if_neg (by assumption)]))))
                exact ih_2 (i + 1) (by omega) (by first | assumption | omega) _ _ hP hD hS _ hl
              · skip
                replace c_9 := (zz_eq0 (by first | omega | (split <;> omega))).mp c_9
                replace c_9 : ¬ 0 < wa (tr i) := fun q => by rw [if_pos q] at c_9; exact absurd c_9 (by decide)
                refine lv_aload_n hx hb dX5_redeem_73 rfl (lv_at hl 1 rfl) ?_
                refine va_get (D := (dC, dI)) (ci := 4) (v := .ref e4) (C := RX5) (T := TX5) (N := 10) hx hb hts i_X5_redeem_X5 hown hK hP 0 rfl rfl 8 (by decide) (hts (.fieldLink RX5 26 "RuinViewsModel" "now" "[I") (List.mem_of_getElem? (i := 3) rfl)) (fun _ h9 => h9) rfl dX5_redeem_74 ?_
                refine lv_iconst (v := nI 1) hx hb dX5_redeem_77 (by decide) ?_
                refine lv_dup2_11 hx hb dX5_redeem_78 rfl rfl ?_
                refine zz_aldI hx hb hK hP 4 (f := znw dy (pu - nI (zbak dy wa tr td tp tf i)) wa iv gh (zup (zfat i dy wa tr td tf) i 2)) rfl rfl (by omega) (by decide) dX5_redeem_79 ?_
                refine zz_top (znw_1 _ _ _ _ _ _) ?_
                refine lv_aload_n hx hb dX5_redeem_80 rfl (lv_at hl 1 rfl) ?_
                refine va_get (D := (dC, dI)) (ci := 4) (v := .ref e3) (C := RX5) (T := TX5) (N := 10) hx hb hts i_X5_redeem_X5 hown hK hP 0 rfl rfl 7 (by decide) (hts (.fieldLink RX5 23 "RuinViewsModel" "paid" "[I") (List.mem_of_getElem? (i := 5) rfl)) (fun _ h9 => h9) rfl dX5_redeem_81 ?_
                refine lv_iload_n hx hb dX5_redeem_84 rfl (lv_at hl 2 rfl) ?_
                refine zz_ald hx hb hK hP 3 (f := tp) rfl rfl (by omega) (by decide) dX5_redeem_85 ?_
                refine lv_isub hx hb dX5_redeem_86 ?_
                refine zz_astI hx hb hK hP hD hS 4 (f := znw dy (pu - nI (zbak dy wa tr td tp tf i)) wa iv gh (zup (zfat i dy wa tr td tf) i 2)) rfl rfl (by omega) (by decide) dX5_redeem_87 (fun H locs hP hD hS => ?_)
                have hP : va_P (dC, dI) vwCl [(mo, .inr (4, [.int (nI th), .int (nI n), .int (nI gu), .int (nI tn), .ref e0, .ref e1, .ref e2, .ref e3, .ref e4, .ref e5])), (e1, .inl (cA, 30, .inl (fun j => nI (tr j)))), (e2, .inl (cA, 30, .inl (fun j => nI (td j)))), (e3, .inl (cA, 30, .inl (fun j => nI (tp j)))), (e4, .inl (cA, 62, .inl (upd (znw dy (pu - nI (zbak dy wa tr td tp tf i)) wa iv gh (zup (zfat i dy wa tr td tf) i 2)) 1 ((pu - nI (zbak dy wa tr td tp tf i)) - (nI (tp i))))))] H := hP
                have hD : va_D A [(mo, .inr (4, [.int (nI th), .int (nI n), .int (nI gu), .int (nI tn), .ref e0, .ref e1, .ref e2, .ref e3, .ref e4, .ref e5])), (e1, .inl (cA, 30, .inl (fun j => nI (tr j)))), (e2, .inl (cA, 30, .inl (fun j => nI (td j)))), (e3, .inl (cA, 30, .inl (fun j => nI (tp j)))), (e4, .inl (cA, 62, .inl (upd (znw dy (pu - nI (zbak dy wa tr td tp tf i)) wa iv gh (zup (zfat i dy wa tr td tf) i 2)) 1 ((pu - nI (zbak dy wa tr td tp tf i)) - (nI (tp i))))))] := hD
                have hw11 : ∀ (x0 : Nat → Int32), x0 = upd (znw dy (pu - nI (zbak dy wa tr td tp tf i)) wa iv gh (zup (zfat i dy wa tr td tf) i 2)) 1 ((pu - nI (zbak dy wa tr td tp tf i)) - (nI (tp i))) → va_P (dC, dI) vwCl [(mo, .inr (4, [.int (nI th), .int (nI n), .int (nI gu), .int (nI tn), .ref e0, .ref e1, .ref e2, .ref e3, .ref e4, .ref e5])), (e1, .inl (cA, 30, .inl (fun j => nI (tr j)))), (e2, .inl (cA, 30, .inl (fun j => nI (td j)))), (e3, .inl (cA, 30, .inl (fun j => nI (tp j)))), (e4, .inl (cA, 62, .inl x0))] H ∧ va_D A [(mo, .inr (4, [.int (nI th), .int (nI n), .int (nI gu), .int (nI tn), .ref e0, .ref e1, .ref e2, .ref e3, .ref e4, .ref e5])), (e1, .inl (cA, 30, .inl (fun j => nI (tr j)))), (e2, .inl (cA, 30, .inl (fun j => nI (td j)))), (e3, .inl (cA, 30, .inl (fun j => nI (tp j)))), (e4, .inl (cA, 62, .inl x0))] := by
                  intro x0 h0; subst h0; exact ⟨hP, hD⟩
                obtain ⟨hP, hD⟩ := hw11 (znw dy ((pu - nI (zbak dy wa tr td tp tf i)) - (nI (tp i))) wa iv gh (zup (zfat i dy wa tr td tf) i 2)) (show (znw dy ((pu - nI (zbak dy wa tr td tp tf i)) - (nI (tp i))) wa iv gh (zup (zfat i dy wa tr td tf) i 2)) = upd (znw dy (pu - nI (zbak dy wa tr td tp tf i)) wa iv gh (zup (zfat i dy wa tr td tf) i 2)) 1 ((pu - nI (zbak dy wa tr td tp tf i)) - (nI (tp i))) from by exact (znw_up _ _ _ _ _ _ _ ).symm)
                refine lv_iinc (v := nI (i + 1)) (lv' := [(1, .int (nI (i + 1))), (2, .int (nI (if 0 < wa (tr i) then 1 else 0))), (0, .ref mo)]) hx hb dX5_redeem_88 hl (k := 2) rfl (nI_1 _) (by decide) rfl (fun ls hl => ?_)
                refine lv_goto (tgt := 2) hx hb dX5_redeem_91 (by decide) ?_
                have hl := lv_sub (l' := [(0, .ref mo), (1, .int (nI (i + 1)))]) hl [2, 0] rfl
                have hw12 : ∀ (x0 : Nat → Int32), x0 = znw dy ((pu - nI (zbak dy wa tr td tp tf i)) - (nI (tp i))) wa iv gh (zup (zfat i dy wa tr td tf) i 2) → va_P (dC, dI) vwCl [(mo, .inr (4, [.int (nI th), .int (nI n), .int (nI gu), .int (nI tn), .ref e0, .ref e1, .ref e2, .ref e3, .ref e4, .ref e5])), (e1, .inl (cA, 30, .inl (fun j => nI (tr j)))), (e2, .inl (cA, 30, .inl (fun j => nI (td j)))), (e3, .inl (cA, 30, .inl (fun j => nI (tp j)))), (e4, .inl (cA, 62, .inl x0))] H ∧ va_D A [(mo, .inr (4, [.int (nI th), .int (nI n), .int (nI gu), .int (nI tn), .ref e0, .ref e1, .ref e2, .ref e3, .ref e4, .ref e5])), (e1, .inl (cA, 30, .inl (fun j => nI (tr j)))), (e2, .inl (cA, 30, .inl (fun j => nI (td j)))), (e3, .inl (cA, 30, .inl (fun j => nI (tp j)))), (e4, .inl (cA, 62, .inl x0))] := by
                  intro x0 h0; subst h0; exact ⟨hP, hD⟩
                obtain ⟨hP, hD⟩ := hw12 (znw dy (pu - nI (zbak dy wa tr td tp tf (i + 1))) wa iv gh (zfat (i + 1) dy wa tr td tf)) (show (znw dy (pu - nI (zbak dy wa tr td tp tf (i + 1))) wa iv gh (zfat (i + 1) dy wa tr td tf)) = znw dy ((pu - nI (zbak dy wa tr td tp tf i)) - (nI (tp i))) wa iv gh (zup (zfat i dy wa tr td tf) i 2) from by (first | (exfalso; omega) | exact znw_cg (zm_0 _) rfl rfl rfl zA_0 | exact znw_cg (congrArg (fun q => pu - nI q) (show zbak dy wa tr td tp tf (i + 1) = zbak dy wa tr td tp tf i from by show zbak dy wa tr td tp tf i + (if tf i = 0 ∧ td i = dy ∧ ¬ 0 < wa (tr i) then tp i else 0) = _; rw [if_neg (by omega)]; omega)) rfl rfl rfl (by first | exact zA_k (by unfold zft; rw [if_neg (by omega)]) | exact zA_s (by unfold zft; rw [if_pos (by omega), if_pos (by assumption)])) | exact znw_cg (by rw [show zbak dy wa tr td tp tf (i + 1) = zbak dy wa tr td tp tf i + tp i from by show zbak dy wa tr td tp tf i + (if tf i = 0 ∧ td i = dy ∧ ¬ 0 < wa (tr i) then tp i else 0) = _; rw [if_pos (by omega)]]; exact zm_s _ _ _) rfl rfl rfl (zA_s (by unfold zft; rw [if_pos (by omega), if_neg (by assumption)]))))
                exact ih_2 (i + 1) (by omega) (by first | assumption | omega) _ _ hP hD hS _ hl
            · skip
              replace c_7 := mt (zz_eq0 (by first | omega | (split <;> omega))).mpr c_7
              replace c_7 : 0 < wa (tr i) := Decidable.byContradiction fun q => by rw [if_neg q] at c_7; first | exact absurd c_7 (by decide) | exact c_7 rfl
              refine lv_iconst (v := nI 1) hx hb dX5_redeem_63 (by decide) ?_
              refine lv_goto (tgt := 68) hx hb dX5_redeem_64 (by decide) ?_
              refine zz_astI hx hb hK hP hD hS 4 (f := znw dy (pu - nI (zbak dy wa tr td tp tf i)) wa iv gh (zfat i dy wa tr td tf)) rfl rfl (by omega) (by decide) dX5_redeem_68 (fun H locs hP hD hS => ?_)
              have hP : va_P (dC, dI) vwCl [(mo, .inr (4, [.int (nI th), .int (nI n), .int (nI gu), .int (nI tn), .ref e0, .ref e1, .ref e2, .ref e3, .ref e4, .ref e5])), (e1, .inl (cA, 30, .inl (fun j => nI (tr j)))), (e2, .inl (cA, 30, .inl (fun j => nI (td j)))), (e3, .inl (cA, 30, .inl (fun j => nI (tp j)))), (e4, .inl (cA, 62, .inl (upd (znw dy (pu - nI (zbak dy wa tr td tp tf i)) wa iv gh (zfat i dy wa tr td tf)) (32 + i) (nI 1))))] H := hP
              have hD : va_D A [(mo, .inr (4, [.int (nI th), .int (nI n), .int (nI gu), .int (nI tn), .ref e0, .ref e1, .ref e2, .ref e3, .ref e4, .ref e5])), (e1, .inl (cA, 30, .inl (fun j => nI (tr j)))), (e2, .inl (cA, 30, .inl (fun j => nI (td j)))), (e3, .inl (cA, 30, .inl (fun j => nI (tp j)))), (e4, .inl (cA, 62, .inl (upd (znw dy (pu - nI (zbak dy wa tr td tp tf i)) wa iv gh (zfat i dy wa tr td tf)) (32 + i) (nI 1))))] := hD
              have hw13 : ∀ (x0 : Nat → Int32), x0 = upd (znw dy (pu - nI (zbak dy wa tr td tp tf i)) wa iv gh (zfat i dy wa tr td tf)) (32 + i) (nI 1) → va_P (dC, dI) vwCl [(mo, .inr (4, [.int (nI th), .int (nI n), .int (nI gu), .int (nI tn), .ref e0, .ref e1, .ref e2, .ref e3, .ref e4, .ref e5])), (e1, .inl (cA, 30, .inl (fun j => nI (tr j)))), (e2, .inl (cA, 30, .inl (fun j => nI (td j)))), (e3, .inl (cA, 30, .inl (fun j => nI (tp j)))), (e4, .inl (cA, 62, .inl x0))] H ∧ va_D A [(mo, .inr (4, [.int (nI th), .int (nI n), .int (nI gu), .int (nI tn), .ref e0, .ref e1, .ref e2, .ref e3, .ref e4, .ref e5])), (e1, .inl (cA, 30, .inl (fun j => nI (tr j)))), (e2, .inl (cA, 30, .inl (fun j => nI (td j)))), (e3, .inl (cA, 30, .inl (fun j => nI (tp j)))), (e4, .inl (cA, 62, .inl x0))] := by
                intro x0 h0; subst h0; exact ⟨hP, hD⟩
              obtain ⟨hP, hD⟩ := hw13 (znw dy (pu - nI (zbak dy wa tr td tp tf i)) wa iv gh (zup (zfat i dy wa tr td tf) i 1)) (show (znw dy (pu - nI (zbak dy wa tr td tp tf i)) wa iv gh (zup (zfat i dy wa tr td tf) i 1)) = upd (znw dy (pu - nI (zbak dy wa tr td tp tf i)) wa iv gh (zfat i dy wa tr td tf)) (32 + i) (nI 1) from by exact (znw_ut _ _ _ _ _ _ _ (by omega)).symm)
              refine lv_iload_n hx hb dX5_redeem_69 rfl (lv_at hl 0 rfl) ?_
              refine lv_if_ne (tgt := 88) hx hb dX5_redeem_70 (by decide) (fun c_14 => ?_) (fun c_14 => ?_)
              · skip
                replace c_14 := mt (zz_eq0 (by first | omega | (split <;> omega))).mpr c_14
                replace c_14 : 0 < wa (tr i) := Decidable.byContradiction fun q => by rw [if_neg q] at c_14; exact c_14 rfl
                refine lv_iinc (v := nI (i + 1)) (lv' := [(1, .int (nI (i + 1))), (2, .int (nI (if 0 < wa (tr i) then 1 else 0))), (0, .ref mo)]) hx hb dX5_redeem_88 hl (k := 2) rfl (nI_1 _) (by decide) rfl (fun ls hl => ?_)
                refine lv_goto (tgt := 2) hx hb dX5_redeem_91 (by decide) ?_
                have hl := lv_sub (l' := [(0, .ref mo), (1, .int (nI (i + 1)))]) hl [2, 0] rfl
                have hw15 : ∀ (x0 : Nat → Int32), x0 = znw dy (pu - nI (zbak dy wa tr td tp tf i)) wa iv gh (zup (zfat i dy wa tr td tf) i 1) → va_P (dC, dI) vwCl [(mo, .inr (4, [.int (nI th), .int (nI n), .int (nI gu), .int (nI tn), .ref e0, .ref e1, .ref e2, .ref e3, .ref e4, .ref e5])), (e1, .inl (cA, 30, .inl (fun j => nI (tr j)))), (e2, .inl (cA, 30, .inl (fun j => nI (td j)))), (e3, .inl (cA, 30, .inl (fun j => nI (tp j)))), (e4, .inl (cA, 62, .inl x0))] H ∧ va_D A [(mo, .inr (4, [.int (nI th), .int (nI n), .int (nI gu), .int (nI tn), .ref e0, .ref e1, .ref e2, .ref e3, .ref e4, .ref e5])), (e1, .inl (cA, 30, .inl (fun j => nI (tr j)))), (e2, .inl (cA, 30, .inl (fun j => nI (td j)))), (e3, .inl (cA, 30, .inl (fun j => nI (tp j)))), (e4, .inl (cA, 62, .inl x0))] := by
                  intro x0 h0; subst h0; exact ⟨hP, hD⟩
                obtain ⟨hP, hD⟩ := hw15 (znw dy (pu - nI (zbak dy wa tr td tp tf (i + 1))) wa iv gh (zfat (i + 1) dy wa tr td tf)) (show (znw dy (pu - nI (zbak dy wa tr td tp tf (i + 1))) wa iv gh (zfat (i + 1) dy wa tr td tf)) = znw dy (pu - nI (zbak dy wa tr td tp tf i)) wa iv gh (zup (zfat i dy wa tr td tf) i 1) from by (first | (exfalso; omega) | exact znw_cg (zm_0 _) rfl rfl rfl zA_0 | exact znw_cg (congrArg (fun q => pu - nI q) (show zbak dy wa tr td tp tf (i + 1) = zbak dy wa tr td tp tf i from by show zbak dy wa tr td tp tf i + (if tf i = 0 ∧ td i = dy ∧ ¬ 0 < wa (tr i) then tp i else 0) = _; rw [if_neg (by omega)]; omega)) rfl rfl rfl (by first | exact zA_k (by unfold zft; rw [if_neg (by omega)]) | exact zA_s (by unfold zft; rw [if_pos (by omega), if_pos (by assumption)])) | exact znw_cg (by rw [show zbak dy wa tr td tp tf (i + 1) = zbak dy wa tr td tp tf i + tp i from by show zbak dy wa tr td tp tf i + (if tf i = 0 ∧ td i = dy ∧ ¬ 0 < wa (tr i) then tp i else 0) = _; rw [if_pos (by omega)]]; exact zm_s _ _ _) rfl rfl rfl (zA_s (by unfold zft; rw [if_pos (by omega), if_neg (by assumption)]))))
                exact ih_2 (i + 1) (by omega) (by first | assumption | omega) _ _ hP hD hS _ hl
              · skip
                replace c_14 := (zz_eq0 (by first | omega | (split <;> omega))).mp c_14
                replace c_14 : ¬ 0 < wa (tr i) := fun q => by rw [if_pos q] at c_14; exact absurd c_14 (by decide)
                refine lv_aload_n hx hb dX5_redeem_73 rfl (lv_at hl 1 rfl) ?_
                refine va_get (D := (dC, dI)) (ci := 4) (v := .ref e4) (C := RX5) (T := TX5) (N := 10) hx hb hts i_X5_redeem_X5 hown hK hP 0 rfl rfl 8 (by decide) (hts (.fieldLink RX5 26 "RuinViewsModel" "now" "[I") (List.mem_of_getElem? (i := 3) rfl)) (fun _ h9 => h9) rfl dX5_redeem_74 ?_
                refine lv_iconst (v := nI 1) hx hb dX5_redeem_77 (by decide) ?_
                refine lv_dup2_11 hx hb dX5_redeem_78 rfl rfl ?_
                refine zz_aldI hx hb hK hP 4 (f := znw dy (pu - nI (zbak dy wa tr td tp tf i)) wa iv gh (zup (zfat i dy wa tr td tf) i 1)) rfl rfl (by omega) (by decide) dX5_redeem_79 ?_
                refine zz_top (znw_1 _ _ _ _ _ _) ?_
                refine lv_aload_n hx hb dX5_redeem_80 rfl (lv_at hl 1 rfl) ?_
                refine va_get (D := (dC, dI)) (ci := 4) (v := .ref e3) (C := RX5) (T := TX5) (N := 10) hx hb hts i_X5_redeem_X5 hown hK hP 0 rfl rfl 7 (by decide) (hts (.fieldLink RX5 23 "RuinViewsModel" "paid" "[I") (List.mem_of_getElem? (i := 5) rfl)) (fun _ h9 => h9) rfl dX5_redeem_81 ?_
                refine lv_iload_n hx hb dX5_redeem_84 rfl (lv_at hl 2 rfl) ?_
                refine zz_ald hx hb hK hP 3 (f := tp) rfl rfl (by omega) (by decide) dX5_redeem_85 ?_
                refine lv_isub hx hb dX5_redeem_86 ?_
                refine zz_astI hx hb hK hP hD hS 4 (f := znw dy (pu - nI (zbak dy wa tr td tp tf i)) wa iv gh (zup (zfat i dy wa tr td tf) i 1)) rfl rfl (by omega) (by decide) dX5_redeem_87 (fun H locs hP hD hS => ?_)
                have hP : va_P (dC, dI) vwCl [(mo, .inr (4, [.int (nI th), .int (nI n), .int (nI gu), .int (nI tn), .ref e0, .ref e1, .ref e2, .ref e3, .ref e4, .ref e5])), (e1, .inl (cA, 30, .inl (fun j => nI (tr j)))), (e2, .inl (cA, 30, .inl (fun j => nI (td j)))), (e3, .inl (cA, 30, .inl (fun j => nI (tp j)))), (e4, .inl (cA, 62, .inl (upd (znw dy (pu - nI (zbak dy wa tr td tp tf i)) wa iv gh (zup (zfat i dy wa tr td tf) i 1)) 1 ((pu - nI (zbak dy wa tr td tp tf i)) - (nI (tp i))))))] H := hP
                have hD : va_D A [(mo, .inr (4, [.int (nI th), .int (nI n), .int (nI gu), .int (nI tn), .ref e0, .ref e1, .ref e2, .ref e3, .ref e4, .ref e5])), (e1, .inl (cA, 30, .inl (fun j => nI (tr j)))), (e2, .inl (cA, 30, .inl (fun j => nI (td j)))), (e3, .inl (cA, 30, .inl (fun j => nI (tp j)))), (e4, .inl (cA, 62, .inl (upd (znw dy (pu - nI (zbak dy wa tr td tp tf i)) wa iv gh (zup (zfat i dy wa tr td tf) i 1)) 1 ((pu - nI (zbak dy wa tr td tp tf i)) - (nI (tp i))))))] := hD
                have hw16 : ∀ (x0 : Nat → Int32), x0 = upd (znw dy (pu - nI (zbak dy wa tr td tp tf i)) wa iv gh (zup (zfat i dy wa tr td tf) i 1)) 1 ((pu - nI (zbak dy wa tr td tp tf i)) - (nI (tp i))) → va_P (dC, dI) vwCl [(mo, .inr (4, [.int (nI th), .int (nI n), .int (nI gu), .int (nI tn), .ref e0, .ref e1, .ref e2, .ref e3, .ref e4, .ref e5])), (e1, .inl (cA, 30, .inl (fun j => nI (tr j)))), (e2, .inl (cA, 30, .inl (fun j => nI (td j)))), (e3, .inl (cA, 30, .inl (fun j => nI (tp j)))), (e4, .inl (cA, 62, .inl x0))] H ∧ va_D A [(mo, .inr (4, [.int (nI th), .int (nI n), .int (nI gu), .int (nI tn), .ref e0, .ref e1, .ref e2, .ref e3, .ref e4, .ref e5])), (e1, .inl (cA, 30, .inl (fun j => nI (tr j)))), (e2, .inl (cA, 30, .inl (fun j => nI (td j)))), (e3, .inl (cA, 30, .inl (fun j => nI (tp j)))), (e4, .inl (cA, 62, .inl x0))] := by
                  intro x0 h0; subst h0; exact ⟨hP, hD⟩
                obtain ⟨hP, hD⟩ := hw16 (znw dy ((pu - nI (zbak dy wa tr td tp tf i)) - (nI (tp i))) wa iv gh (zup (zfat i dy wa tr td tf) i 1)) (show (znw dy ((pu - nI (zbak dy wa tr td tp tf i)) - (nI (tp i))) wa iv gh (zup (zfat i dy wa tr td tf) i 1)) = upd (znw dy (pu - nI (zbak dy wa tr td tp tf i)) wa iv gh (zup (zfat i dy wa tr td tf) i 1)) 1 ((pu - nI (zbak dy wa tr td tp tf i)) - (nI (tp i))) from by exact (znw_up _ _ _ _ _ _ _ ).symm)
                refine lv_iinc (v := nI (i + 1)) (lv' := [(1, .int (nI (i + 1))), (2, .int (nI (if 0 < wa (tr i) then 1 else 0))), (0, .ref mo)]) hx hb dX5_redeem_88 hl (k := 2) rfl (nI_1 _) (by decide) rfl (fun ls hl => ?_)
                refine lv_goto (tgt := 2) hx hb dX5_redeem_91 (by decide) ?_
                have hl := lv_sub (l' := [(0, .ref mo), (1, .int (nI (i + 1)))]) hl [2, 0] rfl
                have hw17 : ∀ (x0 : Nat → Int32), x0 = znw dy ((pu - nI (zbak dy wa tr td tp tf i)) - (nI (tp i))) wa iv gh (zup (zfat i dy wa tr td tf) i 1) → va_P (dC, dI) vwCl [(mo, .inr (4, [.int (nI th), .int (nI n), .int (nI gu), .int (nI tn), .ref e0, .ref e1, .ref e2, .ref e3, .ref e4, .ref e5])), (e1, .inl (cA, 30, .inl (fun j => nI (tr j)))), (e2, .inl (cA, 30, .inl (fun j => nI (td j)))), (e3, .inl (cA, 30, .inl (fun j => nI (tp j)))), (e4, .inl (cA, 62, .inl x0))] H ∧ va_D A [(mo, .inr (4, [.int (nI th), .int (nI n), .int (nI gu), .int (nI tn), .ref e0, .ref e1, .ref e2, .ref e3, .ref e4, .ref e5])), (e1, .inl (cA, 30, .inl (fun j => nI (tr j)))), (e2, .inl (cA, 30, .inl (fun j => nI (td j)))), (e3, .inl (cA, 30, .inl (fun j => nI (tp j)))), (e4, .inl (cA, 62, .inl x0))] := by
                  intro x0 h0; subst h0; exact ⟨hP, hD⟩
                obtain ⟨hP, hD⟩ := hw17 (znw dy (pu - nI (zbak dy wa tr td tp tf (i + 1))) wa iv gh (zfat (i + 1) dy wa tr td tf)) (show (znw dy (pu - nI (zbak dy wa tr td tp tf (i + 1))) wa iv gh (zfat (i + 1) dy wa tr td tf)) = znw dy ((pu - nI (zbak dy wa tr td tp tf i)) - (nI (tp i))) wa iv gh (zup (zfat i dy wa tr td tf) i 1) from by (first | (exfalso; omega) | exact znw_cg (zm_0 _) rfl rfl rfl zA_0 | exact znw_cg (congrArg (fun q => pu - nI q) (show zbak dy wa tr td tp tf (i + 1) = zbak dy wa tr td tp tf i from by show zbak dy wa tr td tp tf i + (if tf i = 0 ∧ td i = dy ∧ ¬ 0 < wa (tr i) then tp i else 0) = _; rw [if_neg (by omega)]; omega)) rfl rfl rfl (by first | exact zA_k (by unfold zft; rw [if_neg (by omega)]) | exact zA_s (by unfold zft; rw [if_pos (by omega), if_pos (by assumption)])) | exact znw_cg (by rw [show zbak dy wa tr td tp tf (i + 1) = zbak dy wa tr td tp tf i + tp i from by show zbak dy wa tr td tp tf i + (if tf i = 0 ∧ td i = dy ∧ ¬ 0 < wa (tr i) then tp i else 0) = _; rw [if_pos (by omega)]]; exact zm_s _ _ _) rfl rfl rfl (zA_s (by unfold zft; rw [if_pos (by omega), if_neg (by assumption)]))))
                exact ih_2 (i + 1) (by omega) (by first | assumption | omega) _ _ hP hD hS _ hl
          · skip
            replace c_5 := mt (zz_eq0 (by first | omega | (split <;> omega))).mpr c_5
            refine lv_goto (tgt := 88) hx hb dX5_redeem_37 (by decide) ?_
            refine lv_iinc (v := nI (i + 1)) (lv' := [(1, .int (nI (i + 1))), (0, .ref mo)]) hx hb dX5_redeem_88 hl (k := 1) rfl (nI_1 _) (by decide) rfl (fun ls hl => ?_)
            refine lv_goto (tgt := 2) hx hb dX5_redeem_91 (by decide) ?_
            have hl := lv_sub (l' := [(0, .ref mo), (1, .int (nI (i + 1)))]) hl [1, 0] rfl
            have hw18 : ∀ (x0 : Nat → Int32), x0 = znw dy (pu - nI (zbak dy wa tr td tp tf i)) wa iv gh (zfat i dy wa tr td tf) → va_P (dC, dI) vwCl [(mo, .inr (4, [.int (nI th), .int (nI n), .int (nI gu), .int (nI tn), .ref e0, .ref e1, .ref e2, .ref e3, .ref e4, .ref e5])), (e1, .inl (cA, 30, .inl (fun j => nI (tr j)))), (e2, .inl (cA, 30, .inl (fun j => nI (td j)))), (e3, .inl (cA, 30, .inl (fun j => nI (tp j)))), (e4, .inl (cA, 62, .inl x0))] H ∧ va_D A [(mo, .inr (4, [.int (nI th), .int (nI n), .int (nI gu), .int (nI tn), .ref e0, .ref e1, .ref e2, .ref e3, .ref e4, .ref e5])), (e1, .inl (cA, 30, .inl (fun j => nI (tr j)))), (e2, .inl (cA, 30, .inl (fun j => nI (td j)))), (e3, .inl (cA, 30, .inl (fun j => nI (tp j)))), (e4, .inl (cA, 62, .inl x0))] := by
              intro x0 h0; subst h0; exact ⟨hP, hD⟩
            obtain ⟨hP, hD⟩ := hw18 (znw dy (pu - nI (zbak dy wa tr td tp tf (i + 1))) wa iv gh (zfat (i + 1) dy wa tr td tf)) (show (znw dy (pu - nI (zbak dy wa tr td tp tf (i + 1))) wa iv gh (zfat (i + 1) dy wa tr td tf)) = znw dy (pu - nI (zbak dy wa tr td tp tf i)) wa iv gh (zfat i dy wa tr td tf) from by (first | (exfalso; omega) | exact znw_cg (zm_0 _) rfl rfl rfl zA_0 | exact znw_cg (congrArg (fun q => pu - nI q) (show zbak dy wa tr td tp tf (i + 1) = zbak dy wa tr td tp tf i from by show zbak dy wa tr td tp tf i + (if tf i = 0 ∧ td i = dy ∧ ¬ 0 < wa (tr i) then tp i else 0) = _; rw [if_neg (by omega)]; omega)) rfl rfl rfl (by first | exact zA_k (by unfold zft; rw [if_neg (by omega)]) | exact zA_s (by unfold zft; rw [if_pos (by omega), if_pos (by assumption)])) | exact znw_cg (by rw [show zbak dy wa tr td tp tf (i + 1) = zbak dy wa tr td tp tf i + tp i from by show zbak dy wa tr td tp tf i + (if tf i = 0 ∧ td i = dy ∧ ¬ 0 < wa (tr i) then tp i else 0) = _; rw [if_pos (by omega)]]; exact zm_s _ _ _) rfl rfl rfl (zA_s (by unfold zft; rw [if_pos (by omega), if_neg (by assumption)]))))
            exact ih_2 (i + 1) (by omega) (by first | assumption | omega) _ _ hP hD hS _ hl
  have hl := lv_sub (l' := [(0, .ref mo), (1, .int (nI 0))]) hl [1, 0] rfl
  have hw19 : ∀ (x0 : Nat → Int32), x0 = znw dy pu wa iv gh tf → va_P (dC, dI) vwCl [(mo, .inr (4, [.int (nI th), .int (nI n), .int (nI gu), .int (nI tn), .ref e0, .ref e1, .ref e2, .ref e3, .ref e4, .ref e5])), (e1, .inl (cA, 30, .inl (fun j => nI (tr j)))), (e2, .inl (cA, 30, .inl (fun j => nI (td j)))), (e3, .inl (cA, 30, .inl (fun j => nI (tp j)))), (e4, .inl (cA, 62, .inl x0))] s.heap ∧ va_D A [(mo, .inr (4, [.int (nI th), .int (nI n), .int (nI gu), .int (nI tn), .ref e0, .ref e1, .ref e2, .ref e3, .ref e4, .ref e5])), (e1, .inl (cA, 30, .inl (fun j => nI (tr j)))), (e2, .inl (cA, 30, .inl (fun j => nI (td j)))), (e3, .inl (cA, 30, .inl (fun j => nI (tp j)))), (e4, .inl (cA, 62, .inl x0))] := by
    intro x0 h0; subst h0; exact ⟨hP, hD⟩
  obtain ⟨hP, hD⟩ := hw19 (znw dy (pu - nI (zbak dy wa tr td tp tf 0)) wa iv gh (zfat 0 dy wa tr td tf)) (show (znw dy (pu - nI (zbak dy wa tr td tp tf 0)) wa iv gh (zfat 0 dy wa tr td tf)) = znw dy pu wa iv gh tf from by (first | (exfalso; omega) | exact znw_cg (zm_0 _) rfl rfl rfl zA_0 | exact znw_cg (congrArg (fun q => pu - nI q) (show zbak dy wa tr td tp tf (i + 1) = zbak dy wa tr td tp tf i from by show zbak dy wa tr td tp tf i + (if tf i = 0 ∧ td i = dy ∧ ¬ 0 < wa (tr i) then tp i else 0) = _; rw [if_neg (by omega)]; omega)) rfl rfl rfl (by first | exact zA_k (by unfold zft; rw [if_neg (by omega)]) | exact zA_s (by unfold zft; rw [if_pos (by omega), if_pos (by assumption)])) | exact znw_cg (by rw [show zbak dy wa tr td tp tf (i + 1) = zbak dy wa tr td tp tf i + tp i from by show zbak dy wa tr td tp tf i + (if tf i = 0 ∧ td i = dy ∧ ¬ 0 < wa (tr i) then tp i else 0) = _; rw [if_pos (by omega)]]; exact zm_s _ _ _) rfl rfl rfl (zA_s (by unfold zft; rw [if_pos (by omega), if_neg (by assumption)]))))
  exact lp_2 _ 0 (Nat.lt_succ_self _) (by first | assumption | omega) _ _ hP hD hS _ hl
theorem i_X5_grow_X5 : ∀ w ∈ u_ws RX5 TX5 10, w ∈ wsX5_grow := by decide +kernel
set_option maxHeartbeats 4000000 in
set_option maxRecDepth 100000 in
theorem c_X5_grow (l : Launch) (dC : Nat → ClassId) (dI : Nat → Nat → Nat) (cA : ClassId) (mo : Nat) (e0 : Nat) (e1 : Nat) (e2 : Nat) (e3 : Nat) (e4 : Nat) (e5 : Nat) (th : Nat) (n : Nat) (gu : Nat) (tn : Nat) (dy : Nat) (pu : Int32) (wa : Nat → Nat) (iv : Nat → Nat) (gh : Nat → Nat) (tf : Nat → Nat) (r : Nat) (sz : Nat) (hrn : r < 10) (hw : wa r ≤ 20) (hi : iv r ≤ 12) (hdy : dy < 2 ^ 31) : Met l yX5_grow wsX5_grow ({ frames := 2, cells := 0, slots := 0, locals := 43 } : Room) (va_Pc [.ref mo, .int (nI r)] (fun U => U.heap.size = sz ∧ va_P (dC, dI) vwCl [(mo, .inr (4, [.int (nI th), .int (nI n), .int (nI gu), .int (nI tn), .ref e0, .ref e1, .ref e2, .ref e3, .ref e4, .ref e5])), (e4, .inl (cA, 62, .inl (znw dy pu wa iv gh tf)))] U.heap ∧ va_K (dC, dI) vwCl [(cA, .int)] U ∧ va_D (fun _ => True) [(mo, .inr (4, [.int (nI th), .int (nI n), .int (nI gu), .int (nI tn), .ref e0, .ref e1, .ref e2, .ref e3, .ref e4, .ref e5])), (e4, .inl (cA, 62, .inl (znw dy pu wa iv gh tf)))])) (va_Qv (fun _ : Unit => True) (fun (_ : Unit) t => va_P (dC, dI) vwCl [(mo, .inr (4, [.int (nI th), .int (nI n), .int (nI gu), .int (nI tn), .ref e0, .ref e1, .ref e2, .ref e3, .ref e4, .ref e5])), (e4, .inl (cA, 62, .inl (znw dy pu (zup wa r (z_wa dy (wa r) (iv r))) (zup iv r (z_iv dy (wa r) (iv r))) gh tf)))] t.heap ∧ va_D (va_A [(mo, .inr (4, [.int (nI th), .int (nI n), .int (nI gu), .int (nI tn), .ref e0, .ref e1, .ref e2, .ref e3, .ref e4, .ref e5])), (e4, .inl (cA, 62, .inl (znw dy pu wa iv gh tf)))] sz) [(mo, .inr (4, [.int (nI th), .int (nI n), .int (nI gu), .int (nI tn), .ref e0, .ref e1, .ref e2, .ref e3, .ref e4, .ref e5])), (e4, .inl (cA, 62, .inl (znw dy pu (zup wa r (z_wa dy (wa r) (iv r))) (zup iv r (z_iv dy (wa r) (iv r))) gh tf)))]) (va_A [(mo, .inr (4, [.int (nI th), .int (nI n), .int (nI gu), .int (nI tn), .ref e0, .ref e1, .ref e2, .ref e3, .ref e4, .ref e5])), (e4, .inl (cA, 62, .inl (znw dy pu wa iv gh tf)))] sz)) 0 0 (va_A [(mo, .inr (4, [.int (nI th), .int (nI n), .int (nI gu), .int (nI tn), .ref e0, .ref e1, .ref e2, .ref e3, .ref e4, .ref e5])), (e4, .inl (cA, 62, .inl (znw dy pu wa iv gh tf)))] sz) := by
  refine Met.ofW (cc := cX5_grow) (maxL := 2) (ret := none) (by decide) rfl ?_
  intro p e s m args below meth c s₁ B hml hv
  obtain ⟨hargs, hsz, hP, hK, hD0⟩ := hv
  have hx := B.exec
  have hb := B.bytes
  have hr := B.returns
  have hts := atoms_spec (ws := wsX5_grow) B.pre
  have hown : s.vm.findClass RX5 = some m.cls := findClass_of_methodNamed B.named
  have hlocks := B.notSynchronized
  subst hsz
  have hD := hD0.self (sz := s.heap.size)
  generalize hAe : va_A [(mo, .inr (4, [.int (nI th), .int (nI n), .int (nI gu), .int (nI tn), .ref e0, .ref e1, .ref e2, .ref e3, .ref e4, .ref e5])), (e4, .inl (cA, 62, .inl (znw dy pu wa iv gh tf)))] s.heap.size = A at hD ⊢
  have hA : ∀ q : Nat, s.heap.size ≤ q → A q := fun q h => by rw [← hAe]; exact Or.inr h
  have hS : va_S A s.heap s.heap [] := va_S.rf
  have hP : va_P (dC, dI) vwCl [(mo, .inr (4, [.int (nI th), .int (nI n), .int (nI gu), .int (nI tn), .ref e0, .ref e1, .ref e2, .ref e3, .ref e4, .ref e5])), (e4, .inl (cA, 62, .inl (znw dy pu wa iv gh tf)))] s.heap := hP
  have hl := lv_entry ([.ref mo, .int (nI r)]) (n := 2) (Nat.le_of_ble_eq_true rfl)
  rw [hargs, lg_entry_eq, ← hargs]
  generalize (lg_sl ([.ref mo, .int (nI r)]) ++ List.replicate (2 - (lg_sl ([.ref mo, .int (nI r)])).length) Slot.unset).toArray = ls at hl ⊢
  have hl : lv_has ls 2 [(0, .ref mo), (1, .int (nI r))] := hl
  refine lv_aload_n hx hb dX5_grow_0 rfl (lv_at hl 0 rfl) ?_
  refine lv_iload_n hx hb dX5_grow_1 rfl (lv_at hl 1 rfl) ?_
  have hPc := hP.sub (ws' := [(mo, .inr (4, [.int (nI th), .int (nI n), .int (nI gu), .int (nI tn), .ref e0, .ref e1, .ref e2, .ref e3, .ref e4, .ref e5])), (e4, .inl (cA, 62, .inl (znw dy pu wa iv gh tf)))]) [0, 1] rfl
  refine vp_callSi (W.runV (As := [.int (nI r)]) (rest := []) ⟨hx, hb, hml, hown, hts⟩ (c_X5_stands l dC dI cA mo e0 e1 e2 e3 e4 e5 th n gu tn dy pu wa iv gh tf r (by first | assumption | omega) (by first | assumption | omega)) (cwV 1 hts gX5_grow_X5_stands rfl rfl rfl (by decide +kernel) ⟨Nat.le_of_ble_eq_true rfl, Nat.le_of_ble_eq_true rfl⟩) ⟨fun a U g mk q => by obtain ⟨q0, qP, qK⟩ := q; exact ⟨q0, qP, va_K.moved (u := U) (U := U.calling g mk a) (Vm.Alike.refl U.vm) qK⟩, va_recv hK hP (ci := 4) (q0 := 0) rfl rfl, fun U hU hW => ⟨rfl, by rw [hU]; exact hPc, va_K.moved hW.alike hK⟩⟩ rfl rfl hl.1 rfl (lv_room (Nat.le_of_ble_eq_true rfl)) dX5_grow_2 ⟨Nat.le_of_ble_eq_true rfl, Nat.le_of_ble_eq_true rfl⟩) (fun r_1 hw_1 => ?_)
  subst hw_1
  refine lv_if_ne (tgt := 9) hx hb dX5_grow_5 (by decide) (fun c_2 => ?_) (fun c_2 => ?_)
  · skip
    replace c_2 := mt (zz_eq0 (by first | omega | (split <;> omega))).mpr c_2
    replace c_2 : 0 < wa r := Decidable.byContradiction fun q => by rw [if_neg q] at c_2; first | exact absurd c_2 (by decide) | exact c_2 rfl
    refine lv_aload_n hx hb dX5_grow_9 rfl (lv_at hl 0 rfl) ?_
    refine va_get (D := (dC, dI)) (ci := 4) (v := .ref e4) (C := RX5) (T := TX5) (N := 10) hx hb hts i_X5_grow_X5 hown hK hP 0 rfl rfl 8 (by decide) (hts (.fieldLink RX5 26 "RuinViewsModel" "now" "[I") (List.mem_of_getElem? (i := 1) rfl)) (fun _ h9 => h9) rfl dX5_grow_10 ?_
    refine lv_iconst (v := nI 0) hx hb dX5_grow_13 (by decide) ?_
    refine zz_aldI hx hb hK hP 1 (f := znw dy pu wa iv gh tf) rfl rfl (by omega) (by decide) dX5_grow_14 ?_
    refine zz_top (znw_0 _ _ _ _ _ _) ?_
    refine lv_iconst (v := nI 3) hx hb dX5_grow_15 (by decide) ?_
    refine lv_irem hx hb dX5_grow_16 (by decide) ?_
    refine zz_top (pk_rem (by first | omega | (split <;> omega)) (by decide) (by decide)) ?_
    refine lv_iconst (v := nI 2) hx hb dX5_grow_17 (by decide) ?_
    refine lv_icmp_ne (tgt := 40) hx hb dX5_grow_18 (by decide) (fun c_3 => ?_) (fun c_3 => ?_)
    · skip
      replace c_3 := mt (nI_eq (by first | omega | (split <;> omega)) (by first | omega | (split <;> omega))).mpr c_3
      refine lv_aload_n hx hb dX5_grow_40 rfl (lv_at hl 0 rfl) ?_
      refine lv_iload_n hx hb dX5_grow_41 rfl (lv_at hl 1 rfl) ?_
      refine lv_iconst (v := nI 1) hx hb dX5_grow_42 (by decide) ?_
      have hPc := hP.sub (ws' := [(mo, .inr (4, [.int (nI th), .int (nI n), .int (nI gu), .int (nI tn), .ref e0, .ref e1, .ref e2, .ref e3, .ref e4, .ref e5])), (e4, .inl (cA, 62, .inl (znw dy pu wa iv gh tf)))]) [0, 1] rfl
      refine vp_callSi (W.runV (As := [.int (nI r),.int (nI 1)]) (rest := []) ⟨hx, hb, hml, hown, hts⟩ (c_ru1 l dC dI cA mo e0 e1 e2 e3 e4 e5 th n gu tn dy pu wa iv gh tf r (by first | assumption | omega)) (cwV 2 hts gX5_grow_X5_ru rfl rfl rfl (by decide +kernel) ⟨Nat.le_of_ble_eq_true rfl, Nat.le_of_ble_eq_true rfl⟩) ⟨fun a U g mk q => by obtain ⟨q0, qP, qK⟩ := q; exact ⟨q0, qP, va_K.moved (u := U) (U := U.calling g mk a) (Vm.Alike.refl U.vm) qK⟩, va_recv hK hP (ci := 4) (q0 := 0) rfl rfl, fun U hU hW => ⟨rfl, by rw [hU]; exact hPc, va_K.moved hW.alike hK⟩⟩ rfl rfl hl.1 rfl (lv_room (Nat.le_of_ble_eq_true rfl)) dX5_grow_43 ⟨Nat.le_of_ble_eq_true rfl, Nat.le_of_ble_eq_true rfl⟩) (fun r_4 hw_4 => ?_)
      subst hw_4
      refine lv_bipush (v := nI 9) hx hb dX5_grow_46 (by decide) ?_
      refine lv_icmp_le (tgt := 65) hx hb dX5_grow_48 (by decide) (fun c_5 => ?_) (fun c_5 => ?_)
      · skip
        replace c_5 := (nI_leI (by first | omega | (split <;> omega)) (by first | omega | (split <;> omega))).mp c_5
        have hw6 : ∀ (x0 : Nat → Int32), x0 = znw dy pu wa iv gh tf → va_P (dC, dI) vwCl [(mo, .inr (4, [.int (nI th), .int (nI n), .int (nI gu), .int (nI tn), .ref e0, .ref e1, .ref e2, .ref e3, .ref e4, .ref e5])), (e4, .inl (cA, 62, .inl x0))] s.heap ∧ va_D A [(mo, .inr (4, [.int (nI th), .int (nI n), .int (nI gu), .int (nI tn), .ref e0, .ref e1, .ref e2, .ref e3, .ref e4, .ref e5])), (e4, .inl (cA, 62, .inl x0))] := by
          intro x0 h0; subst h0; exact ⟨hP, hD⟩
        obtain ⟨hP, hD⟩ := hw6 (znw dy pu (zup wa r (z_wa dy (wa r) (iv r))) (zup iv r (z_iv dy (wa r) (iv r))) gh tf) (show (znw dy pu (zup wa r (z_wa dy (wa r) (iv r))) (zup iv r (z_iv dy (wa r) (iv r))) gh tf) = znw dy pu wa iv gh tf from by (refine znw_cg rfl ?_ ?_ rfl rfl <;> first | exact zup_eq _ (by unfold z_wa z_iv; (repeat' split) <;> omega) | exact zup_eq _ (by unfold z_iv; (repeat' split) <;> omega) | exact congrArg (zup _ _) (by unfold z_wa z_iv; (repeat' split) <;> omega) | exact congrArg (zup _ _) (by unfold z_iv; (repeat' split) <;> omega)))
        exact W.vret hx hb hr (fun t ht hW => ⟨⟨(), rfl, trivial, by rw [ht]; exact hP, hD⟩, hS.F ht⟩) hS.2.2 dX5_grow_65
      · skip
        replace c_5 := mt (nI_leI (by first | omega | (split <;> omega)) (by first | omega | (split <;> omega))).mpr c_5
        refine lv_aload_n hx hb dX5_grow_51 rfl (lv_at hl 0 rfl) ?_
        refine lv_iload_n hx hb dX5_grow_52 rfl (lv_at hl 1 rfl) ?_
        refine lv_iconst (v := nI 0) hx hb dX5_grow_53 (by decide) ?_
        refine lv_aload_n hx hb dX5_grow_54 rfl (lv_at hl 0 rfl) ?_
        refine lv_iload_n hx hb dX5_grow_55 rfl (lv_at hl 1 rfl) ?_
        refine lv_iconst (v := nI 0) hx hb dX5_grow_56 (by decide) ?_
        have hPc := hP.sub (ws' := [(mo, .inr (4, [.int (nI th), .int (nI n), .int (nI gu), .int (nI tn), .ref e0, .ref e1, .ref e2, .ref e3, .ref e4, .ref e5])), (e4, .inl (cA, 62, .inl (znw dy pu wa iv gh tf)))]) [0, 1] rfl
        refine vp_callSi (W.runV (As := [.int (nI r),.int (nI 0)]) (rest := [.int (nI 0), .int (nI r), .ref mo]) ⟨hx, hb, hml, hown, hts⟩ (c_ru0 l dC dI cA mo e0 e1 e2 e3 e4 e5 th n gu tn dy pu wa iv gh tf r (by first | assumption | omega)) (cwV 2 hts gX5_grow_X5_ru rfl rfl rfl (by decide +kernel) ⟨Nat.le_of_ble_eq_true rfl, Nat.le_of_ble_eq_true rfl⟩) ⟨fun a U g mk q => by obtain ⟨q0, qP, qK⟩ := q; exact ⟨q0, qP, va_K.moved (u := U) (U := U.calling g mk a) (Vm.Alike.refl U.vm) qK⟩, va_recv hK hP (ci := 4) (q0 := 0) rfl rfl, fun U hU hW => ⟨rfl, by rw [hU]; exact hPc, va_K.moved hW.alike hK⟩⟩ rfl rfl hl.1 rfl (lv_room (Nat.le_of_ble_eq_true rfl)) dX5_grow_57 ⟨Nat.le_of_ble_eq_true rfl, Nat.le_of_ble_eq_true rfl⟩) (fun r_7 hw_7 => ?_)
        subst hw_7
        refine lv_iconst (v := nI 1) hx hb dX5_grow_60 (by decide) ?_
        refine lv_isub hx hb dX5_grow_61 ?_
        refine zz_top (pk_sub (by first | omega | (split <;> omega))) ?_
        have hPc := hP.sub (ws' := [(mo, .inr (4, [.int (nI th), .int (nI n), .int (nI gu), .int (nI tn), .ref e0, .ref e1, .ref e2, .ref e3, .ref e4, .ref e5])), (e4, .inl (cA, 62, .inl (znw dy pu wa iv gh tf)))]) [0, 1] rfl
        have hDc := hD.sub (ws' := [(mo, .inr (4, [.int (nI th), .int (nI n), .int (nI gu), .int (nI tn), .ref e0, .ref e1, .ref e2, .ref e3, .ref e4, .ref e5])), (e4, .inl (cA, 62, .inl (znw dy pu wa iv gh tf)))]) [0, 1] (by decide) rfl
        have hFc := va_free (wc := [(mo, .inr (4, [.int (nI th), .int (nI n), .int (nI gu), .int (nI tn), .ref e0, .ref e1, .ref e2, .ref e3, .ref e4, .ref e5])), (e4, .inl (cA, 62, .inl (znw dy pu wa iv gh tf)))]) hD hS hA [0, 1] rfl
        refine va_callv (va_runV (As := [.int (nI r),.int (nI 0),.int (nI ((wa r) - 1))]) (rest := []) ⟨hx, hb, hml, hown, hts⟩ (c_let0 l dC dI cA mo e0 e1 e2 e3 e4 e5 th n gu tn dy pu wa iv gh tf r ((wa r) - 1) s.heap.size (by first | assumption | omega)) (cwV 3 hts gX5_grow_X5_let rfl rfl rfl (by decide +kernel) ⟨Nat.le_of_ble_eq_true rfl, Nat.le_of_ble_eq_true rfl⟩) ⟨fun a U g mk q => by obtain ⟨q0, q1, qP, qK, qD⟩ := q; exact ⟨q0, q1, qP, va_K.moved (u := U) (U := U.calling g mk a) (Vm.Alike.refl U.vm) qK, qD⟩, va_recv hK hP (ci := 4) (q0 := 0) rfl rfl, fun U hU hW => ⟨rfl, by rw [hU], by rw [hU]; exact hPc, va_K.moved hW.alike hK, hDc.weaken (fun _ _ _ _ => trivial)⟩⟩ rfl rfl hl.1 rfl (lv_room (Nat.le_of_ble_eq_true rfl)) dX5_grow_62 ⟨Nat.le_of_ble_eq_true rfl, Nat.le_of_ble_eq_true rfl⟩) hS (fun q _ h => hFc q h) hFc (fun u t H1 locs ht hvm hw_8 hB hz1 hk1 hS => ?_)
        obtain ⟨hP1, hD1⟩ := hB
        rw [ht] at hP1
        obtain ⟨hP, hD⟩ := va_join (wr := []) (w1 := [(mo, .inr (4, [.int (nI th), .int (nI n), .int (nI gu), .int (nI tn), .ref e0, .ref e1, .ref e2, .ref e3, .ref e4, .ref e5])), (e4, .inl (cA, 62, .inl (znw dy pu (zup wa r ((wa r) - 1)) iv gh tf)))]) hP hD [0, 1] [] rfl rfl (by decide) (by decide) hk1 hFc hP1 hD1
        generalize H1 = H at hP hS ⊢
        have hP : va_P (dC, dI) vwCl [(mo, .inr (4, [.int (nI th), .int (nI n), .int (nI gu), .int (nI tn), .ref e0, .ref e1, .ref e2, .ref e3, .ref e4, .ref e5])), (e4, .inl (cA, 62, .inl (znw dy pu (zup wa r ((wa r) - 1)) iv gh tf)))] H := hP
        have hD : va_D A [(mo, .inr (4, [.int (nI th), .int (nI n), .int (nI gu), .int (nI tn), .ref e0, .ref e1, .ref e2, .ref e3, .ref e4, .ref e5])), (e4, .inl (cA, 62, .inl (znw dy pu (zup wa r ((wa r) - 1)) iv gh tf)))] := hD
        have hw9 : ∀ (x0 : Nat → Int32), x0 = znw dy pu (zup wa r ((wa r) - 1)) iv gh tf → va_P (dC, dI) vwCl [(mo, .inr (4, [.int (nI th), .int (nI n), .int (nI gu), .int (nI tn), .ref e0, .ref e1, .ref e2, .ref e3, .ref e4, .ref e5])), (e4, .inl (cA, 62, .inl x0))] H ∧ va_D A [(mo, .inr (4, [.int (nI th), .int (nI n), .int (nI gu), .int (nI tn), .ref e0, .ref e1, .ref e2, .ref e3, .ref e4, .ref e5])), (e4, .inl (cA, 62, .inl x0))] := by
          intro x0 h0; subst h0; exact ⟨hP, hD⟩
        obtain ⟨hP, hD⟩ := hw9 (znw dy pu (zup wa r (z_wa dy (wa r) (iv r))) (zup iv r (z_iv dy (wa r) (iv r))) gh tf) (show (znw dy pu (zup wa r (z_wa dy (wa r) (iv r))) (zup iv r (z_iv dy (wa r) (iv r))) gh tf) = znw dy pu (zup wa r ((wa r) - 1)) iv gh tf from by (refine znw_cg rfl ?_ ?_ rfl rfl <;> first | exact zup_eq _ (by unfold z_wa z_iv; (repeat' split) <;> omega) | exact zup_eq _ (by unfold z_iv; (repeat' split) <;> omega) | exact congrArg (zup _ _) (by unfold z_wa z_iv; (repeat' split) <;> omega) | exact congrArg (zup _ _) (by unfold z_iv; (repeat' split) <;> omega)))
        exact W.vret hx hb hr (fun t ht hW => ⟨⟨(), rfl, trivial, by rw [ht]; exact hP, hD⟩, hS.F ht⟩) hS.2.2 dX5_grow_65
    · skip
      replace c_3 := (nI_eq (by first | omega | (split <;> omega)) (by first | omega | (split <;> omega))).mp c_3
      refine lv_aload_n hx hb dX5_grow_21 rfl (lv_at hl 0 rfl) ?_
      refine lv_iload_n hx hb dX5_grow_22 rfl (lv_at hl 1 rfl) ?_
      refine lv_iconst (v := nI 1) hx hb dX5_grow_23 (by decide) ?_
      refine lv_bipush (v := nI 12) hx hb dX5_grow_24 (by decide) ?_
      refine lv_aload_n hx hb dX5_grow_26 rfl (lv_at hl 0 rfl) ?_
      refine lv_iload_n hx hb dX5_grow_27 rfl (lv_at hl 1 rfl) ?_
      refine lv_iconst (v := nI 1) hx hb dX5_grow_28 (by decide) ?_
      have hPc := hP.sub (ws' := [(mo, .inr (4, [.int (nI th), .int (nI n), .int (nI gu), .int (nI tn), .ref e0, .ref e1, .ref e2, .ref e3, .ref e4, .ref e5])), (e4, .inl (cA, 62, .inl (znw dy pu wa iv gh tf)))]) [0, 1] rfl
      refine vp_callSi (W.runV (As := [.int (nI r),.int (nI 1)]) (rest := [.int (nI 12), .int (nI 1), .int (nI r), .ref mo]) ⟨hx, hb, hml, hown, hts⟩ (c_ru1 l dC dI cA mo e0 e1 e2 e3 e4 e5 th n gu tn dy pu wa iv gh tf r (by first | assumption | omega)) (cwV 2 hts gX5_grow_X5_ru rfl rfl rfl (by decide +kernel) ⟨Nat.le_of_ble_eq_true rfl, Nat.le_of_ble_eq_true rfl⟩) ⟨fun a U g mk q => by obtain ⟨q0, qP, qK⟩ := q; exact ⟨q0, qP, va_K.moved (u := U) (U := U.calling g mk a) (Vm.Alike.refl U.vm) qK⟩, va_recv hK hP (ci := 4) (q0 := 0) rfl rfl, fun U hU hW => ⟨rfl, by rw [hU]; exact hPc, va_K.moved hW.alike hK⟩⟩ rfl rfl hl.1 rfl (lv_room (Nat.le_of_ble_eq_true rfl)) dX5_grow_29 ⟨Nat.le_of_ble_eq_true rfl, Nat.le_of_ble_eq_true rfl⟩) (fun r_10 hw_10 => ?_)
      subst hw_10
      refine lv_iconst (v := nI 1) hx hb dX5_grow_32 (by decide) ?_
      refine lv_iadd hx hb dX5_grow_33 ?_
      refine zz_top (nI_add _ _) ?_
      refine va_mmin hx hb (by rw [hml]; exact hl.1.symm) hown (hts (.methodLink RX5 51 Lib.Math.min.name) (List.mem_of_getElem? (i := 2) rfl)) (hts (.static Lib.Math.min.name) (List.mem_of_getElem? (i := 3) rfl)) (hts (.initialized "java/lang/Math") (List.mem_of_getElem? (i := 4) rfl)) (hts (.code Lib.Math.min.name Lib.Math.min.code 2 (some .int)) (List.mem_of_getElem? (i := 5) rfl)) (Nat.le_of_ble_eq_true rfl) (Nat.le_of_ble_eq_true rfl) (Nat.le_of_ble_eq_true rfl) (Nat.le_of_ble_eq_true rfl) dX5_grow_34 ?_
      refine zz_top (zz_min (by first | omega | (split <;> omega)) (by first | omega | (split <;> omega))) ?_
      have hPc := hP.sub (ws' := [(mo, .inr (4, [.int (nI th), .int (nI n), .int (nI gu), .int (nI tn), .ref e0, .ref e1, .ref e2, .ref e3, .ref e4, .ref e5])), (e4, .inl (cA, 62, .inl (znw dy pu wa iv gh tf)))]) [0, 1] rfl
      have hDc := hD.sub (ws' := [(mo, .inr (4, [.int (nI th), .int (nI n), .int (nI gu), .int (nI tn), .ref e0, .ref e1, .ref e2, .ref e3, .ref e4, .ref e5])), (e4, .inl (cA, 62, .inl (znw dy pu wa iv gh tf)))]) [0, 1] (by decide) rfl
      have hFc := va_free (wc := [(mo, .inr (4, [.int (nI th), .int (nI n), .int (nI gu), .int (nI tn), .ref e0, .ref e1, .ref e2, .ref e3, .ref e4, .ref e5])), (e4, .inl (cA, 62, .inl (znw dy pu wa iv gh tf)))]) hD hS hA [0, 1] rfl
      refine va_callv (va_runV (As := [.int (nI r),.int (nI 1),.int (nI (min 12 ((iv r) + 1)))]) (rest := []) ⟨hx, hb, hml, hown, hts⟩ (c_let1 l dC dI cA mo e0 e1 e2 e3 e4 e5 th n gu tn dy pu wa iv gh tf r (min 12 ((iv r) + 1)) s.heap.size (by first | assumption | omega)) (cwV 3 hts gX5_grow_X5_let rfl rfl rfl (by decide +kernel) ⟨Nat.le_of_ble_eq_true rfl, Nat.le_of_ble_eq_true rfl⟩) ⟨fun a U g mk q => by obtain ⟨q0, q1, qP, qK, qD⟩ := q; exact ⟨q0, q1, qP, va_K.moved (u := U) (U := U.calling g mk a) (Vm.Alike.refl U.vm) qK, qD⟩, va_recv hK hP (ci := 4) (q0 := 0) rfl rfl, fun U hU hW => ⟨rfl, by rw [hU], by rw [hU]; exact hPc, va_K.moved hW.alike hK, hDc.weaken (fun _ _ _ _ => trivial)⟩⟩ rfl rfl hl.1 rfl (lv_room (Nat.le_of_ble_eq_true rfl)) dX5_grow_37 ⟨Nat.le_of_ble_eq_true rfl, Nat.le_of_ble_eq_true rfl⟩) hS (fun q _ h => hFc q h) hFc (fun u t H1 locs ht hvm hw_11 hB hz1 hk1 hS => ?_)
      obtain ⟨hP1, hD1⟩ := hB
      rw [ht] at hP1
      obtain ⟨hP, hD⟩ := va_join (wr := []) (w1 := [(mo, .inr (4, [.int (nI th), .int (nI n), .int (nI gu), .int (nI tn), .ref e0, .ref e1, .ref e2, .ref e3, .ref e4, .ref e5])), (e4, .inl (cA, 62, .inl (znw dy pu wa (zup iv r (min 12 ((iv r) + 1))) gh tf)))]) hP hD [0, 1] [] rfl rfl (by decide) (by decide) hk1 hFc hP1 hD1
      generalize H1 = H at hP hS ⊢
      have hP : va_P (dC, dI) vwCl [(mo, .inr (4, [.int (nI th), .int (nI n), .int (nI gu), .int (nI tn), .ref e0, .ref e1, .ref e2, .ref e3, .ref e4, .ref e5])), (e4, .inl (cA, 62, .inl (znw dy pu wa (zup iv r (min 12 ((iv r) + 1))) gh tf)))] H := hP
      have hD : va_D A [(mo, .inr (4, [.int (nI th), .int (nI n), .int (nI gu), .int (nI tn), .ref e0, .ref e1, .ref e2, .ref e3, .ref e4, .ref e5])), (e4, .inl (cA, 62, .inl (znw dy pu wa (zup iv r (min 12 ((iv r) + 1))) gh tf)))] := hD
      refine lv_aload_n hx hb dX5_grow_40 rfl (lv_at hl 0 rfl) ?_
      refine lv_iload_n hx hb dX5_grow_41 rfl (lv_at hl 1 rfl) ?_
      refine lv_iconst (v := nI 1) hx hb dX5_grow_42 (by decide) ?_
      have hPc := hP.sub (ws' := [(mo, .inr (4, [.int (nI th), .int (nI n), .int (nI gu), .int (nI tn), .ref e0, .ref e1, .ref e2, .ref e3, .ref e4, .ref e5])), (e4, .inl (cA, 62, .inl (znw dy pu wa (zup iv r (min 12 ((iv r) + 1))) gh tf)))]) [0, 1] rfl
      refine vp_callSi (W.runV (As := [.int (nI r),.int (nI 1)]) (rest := []) ⟨hx, hb, hml, hown, hts⟩ (c_ru1 l dC dI cA mo e0 e1 e2 e3 e4 e5 th n gu tn dy pu wa (zup iv r (min 12 ((iv r) + 1))) gh tf r (by first | assumption | omega)) (cwV 2 hts gX5_grow_X5_ru rfl rfl rfl (by decide +kernel) ⟨Nat.le_of_ble_eq_true rfl, Nat.le_of_ble_eq_true rfl⟩) ⟨fun a U g mk q => by obtain ⟨q0, qP, qK⟩ := q; exact ⟨q0, qP, va_K.moved (u := U) (U := U.calling g mk a) (Vm.Alike.refl U.vm) qK⟩, va_recv hK hP (ci := 4) (q0 := 0) rfl rfl, fun U hU hW => ⟨rfl, by rw [hU]; exact hPc, va_K.moved hW.alike hK⟩⟩ rfl rfl hl.1 rfl (lv_room (Nat.le_of_ble_eq_true rfl)) dX5_grow_43 ⟨Nat.le_of_ble_eq_true rfl, Nat.le_of_ble_eq_true rfl⟩) (fun r_12 hw_12 => ?_)
      subst hw_12
      refine zz_top (congrArg nI (zup_s _ _ _)) ?_
      refine lv_bipush (v := nI 9) hx hb dX5_grow_46 (by decide) ?_
      refine lv_icmp_le (tgt := 65) hx hb dX5_grow_48 (by decide) (fun c_13 => ?_) (fun c_13 => ?_)
      · skip
        replace c_13 := (nI_leI (by first | omega | (split <;> omega)) (by first | omega | (split <;> omega))).mp c_13
        have hw14 : ∀ (x0 : Nat → Int32), x0 = znw dy pu wa (zup iv r (min 12 ((iv r) + 1))) gh tf → va_P (dC, dI) vwCl [(mo, .inr (4, [.int (nI th), .int (nI n), .int (nI gu), .int (nI tn), .ref e0, .ref e1, .ref e2, .ref e3, .ref e4, .ref e5])), (e4, .inl (cA, 62, .inl x0))] H ∧ va_D A [(mo, .inr (4, [.int (nI th), .int (nI n), .int (nI gu), .int (nI tn), .ref e0, .ref e1, .ref e2, .ref e3, .ref e4, .ref e5])), (e4, .inl (cA, 62, .inl x0))] := by
          intro x0 h0; subst h0; exact ⟨hP, hD⟩
        obtain ⟨hP, hD⟩ := hw14 (znw dy pu (zup wa r (z_wa dy (wa r) (iv r))) (zup iv r (z_iv dy (wa r) (iv r))) gh tf) (show (znw dy pu (zup wa r (z_wa dy (wa r) (iv r))) (zup iv r (z_iv dy (wa r) (iv r))) gh tf) = znw dy pu wa (zup iv r (min 12 ((iv r) + 1))) gh tf from by (refine znw_cg rfl ?_ ?_ rfl rfl <;> first | exact zup_eq _ (by unfold z_wa z_iv; (repeat' split) <;> omega) | exact zup_eq _ (by unfold z_iv; (repeat' split) <;> omega) | exact congrArg (zup _ _) (by unfold z_wa z_iv; (repeat' split) <;> omega) | exact congrArg (zup _ _) (by unfold z_iv; (repeat' split) <;> omega)))
        exact W.vret hx hb hr (fun t ht hW => ⟨⟨(), rfl, trivial, by rw [ht]; exact hP, hD⟩, hS.F ht⟩) hS.2.2 dX5_grow_65
      · skip
        replace c_13 := mt (nI_leI (by first | omega | (split <;> omega)) (by first | omega | (split <;> omega))).mpr c_13
        refine lv_aload_n hx hb dX5_grow_51 rfl (lv_at hl 0 rfl) ?_
        refine lv_iload_n hx hb dX5_grow_52 rfl (lv_at hl 1 rfl) ?_
        refine lv_iconst (v := nI 0) hx hb dX5_grow_53 (by decide) ?_
        refine lv_aload_n hx hb dX5_grow_54 rfl (lv_at hl 0 rfl) ?_
        refine lv_iload_n hx hb dX5_grow_55 rfl (lv_at hl 1 rfl) ?_
        refine lv_iconst (v := nI 0) hx hb dX5_grow_56 (by decide) ?_
        have hPc := hP.sub (ws' := [(mo, .inr (4, [.int (nI th), .int (nI n), .int (nI gu), .int (nI tn), .ref e0, .ref e1, .ref e2, .ref e3, .ref e4, .ref e5])), (e4, .inl (cA, 62, .inl (znw dy pu wa (zup iv r (min 12 ((iv r) + 1))) gh tf)))]) [0, 1] rfl
        refine vp_callSi (W.runV (As := [.int (nI r),.int (nI 0)]) (rest := [.int (nI 0), .int (nI r), .ref mo]) ⟨hx, hb, hml, hown, hts⟩ (c_ru0 l dC dI cA mo e0 e1 e2 e3 e4 e5 th n gu tn dy pu wa (zup iv r (min 12 ((iv r) + 1))) gh tf r (by first | assumption | omega)) (cwV 2 hts gX5_grow_X5_ru rfl rfl rfl (by decide +kernel) ⟨Nat.le_of_ble_eq_true rfl, Nat.le_of_ble_eq_true rfl⟩) ⟨fun a U g mk q => by obtain ⟨q0, qP, qK⟩ := q; exact ⟨q0, qP, va_K.moved (u := U) (U := U.calling g mk a) (Vm.Alike.refl U.vm) qK⟩, va_recv hK hP (ci := 4) (q0 := 0) rfl rfl, fun U hU hW => ⟨rfl, by rw [hU]; exact hPc, va_K.moved hW.alike hK⟩⟩ rfl rfl hl.1 rfl (lv_room (Nat.le_of_ble_eq_true rfl)) dX5_grow_57 ⟨Nat.le_of_ble_eq_true rfl, Nat.le_of_ble_eq_true rfl⟩) (fun r_15 hw_15 => ?_)
        subst hw_15
        refine lv_iconst (v := nI 1) hx hb dX5_grow_60 (by decide) ?_
        refine lv_isub hx hb dX5_grow_61 ?_
        refine zz_top (pk_sub (by first | omega | (split <;> omega))) ?_
        have hPc := hP.sub (ws' := [(mo, .inr (4, [.int (nI th), .int (nI n), .int (nI gu), .int (nI tn), .ref e0, .ref e1, .ref e2, .ref e3, .ref e4, .ref e5])), (e4, .inl (cA, 62, .inl (znw dy pu wa (zup iv r (min 12 ((iv r) + 1))) gh tf)))]) [0, 1] rfl
        have hDc := hD.sub (ws' := [(mo, .inr (4, [.int (nI th), .int (nI n), .int (nI gu), .int (nI tn), .ref e0, .ref e1, .ref e2, .ref e3, .ref e4, .ref e5])), (e4, .inl (cA, 62, .inl (znw dy pu wa (zup iv r (min 12 ((iv r) + 1))) gh tf)))]) [0, 1] (by decide) rfl
        have hFc := va_free (wc := [(mo, .inr (4, [.int (nI th), .int (nI n), .int (nI gu), .int (nI tn), .ref e0, .ref e1, .ref e2, .ref e3, .ref e4, .ref e5])), (e4, .inl (cA, 62, .inl (znw dy pu wa (zup iv r (min 12 ((iv r) + 1))) gh tf)))]) hD hS hA [0, 1] rfl
        refine va_callv (va_runV (As := [.int (nI r),.int (nI 0),.int (nI ((wa r) - 1))]) (rest := []) ⟨hx, hb, hml, hown, hts⟩ (c_let0 l dC dI cA mo e0 e1 e2 e3 e4 e5 th n gu tn dy pu wa (zup iv r (min 12 ((iv r) + 1))) gh tf r ((wa r) - 1) H.size (by first | assumption | omega)) (cwV 3 hts gX5_grow_X5_let rfl rfl rfl (by decide +kernel) ⟨Nat.le_of_ble_eq_true rfl, Nat.le_of_ble_eq_true rfl⟩) ⟨fun a U g mk q => by obtain ⟨q0, q1, qP, qK, qD⟩ := q; exact ⟨q0, q1, qP, va_K.moved (u := U) (U := U.calling g mk a) (Vm.Alike.refl U.vm) qK, qD⟩, va_recv hK hP (ci := 4) (q0 := 0) rfl rfl, fun U hU hW => ⟨rfl, by rw [hU], by rw [hU]; exact hPc, va_K.moved hW.alike hK, hDc.weaken (fun _ _ _ _ => trivial)⟩⟩ rfl rfl hl.1 rfl (lv_room (Nat.le_of_ble_eq_true rfl)) dX5_grow_62 ⟨Nat.le_of_ble_eq_true rfl, Nat.le_of_ble_eq_true rfl⟩) hS (fun q _ h => hFc q h) hFc (fun u t H1 locs ht hvm hw_16 hB hz1 hk1 hS => ?_)
        obtain ⟨hP1, hD1⟩ := hB
        rw [ht] at hP1
        obtain ⟨hP, hD⟩ := va_join (wr := []) (w1 := [(mo, .inr (4, [.int (nI th), .int (nI n), .int (nI gu), .int (nI tn), .ref e0, .ref e1, .ref e2, .ref e3, .ref e4, .ref e5])), (e4, .inl (cA, 62, .inl (znw dy pu (zup wa r ((wa r) - 1)) (zup iv r (min 12 ((iv r) + 1))) gh tf)))]) hP hD [0, 1] [] rfl rfl (by decide) (by decide) hk1 hFc hP1 hD1
        generalize H1 = H at hP hS ⊢
        have hP : va_P (dC, dI) vwCl [(mo, .inr (4, [.int (nI th), .int (nI n), .int (nI gu), .int (nI tn), .ref e0, .ref e1, .ref e2, .ref e3, .ref e4, .ref e5])), (e4, .inl (cA, 62, .inl (znw dy pu (zup wa r ((wa r) - 1)) (zup iv r (min 12 ((iv r) + 1))) gh tf)))] H := hP
        have hD : va_D A [(mo, .inr (4, [.int (nI th), .int (nI n), .int (nI gu), .int (nI tn), .ref e0, .ref e1, .ref e2, .ref e3, .ref e4, .ref e5])), (e4, .inl (cA, 62, .inl (znw dy pu (zup wa r ((wa r) - 1)) (zup iv r (min 12 ((iv r) + 1))) gh tf)))] := hD
        have hw17 : ∀ (x0 : Nat → Int32), x0 = znw dy pu (zup wa r ((wa r) - 1)) (zup iv r (min 12 ((iv r) + 1))) gh tf → va_P (dC, dI) vwCl [(mo, .inr (4, [.int (nI th), .int (nI n), .int (nI gu), .int (nI tn), .ref e0, .ref e1, .ref e2, .ref e3, .ref e4, .ref e5])), (e4, .inl (cA, 62, .inl x0))] H ∧ va_D A [(mo, .inr (4, [.int (nI th), .int (nI n), .int (nI gu), .int (nI tn), .ref e0, .ref e1, .ref e2, .ref e3, .ref e4, .ref e5])), (e4, .inl (cA, 62, .inl x0))] := by
          intro x0 h0; subst h0; exact ⟨hP, hD⟩
        obtain ⟨hP, hD⟩ := hw17 (znw dy pu (zup wa r (z_wa dy (wa r) (iv r))) (zup iv r (z_iv dy (wa r) (iv r))) gh tf) (show (znw dy pu (zup wa r (z_wa dy (wa r) (iv r))) (zup iv r (z_iv dy (wa r) (iv r))) gh tf) = znw dy pu (zup wa r ((wa r) - 1)) (zup iv r (min 12 ((iv r) + 1))) gh tf from by (refine znw_cg rfl ?_ ?_ rfl rfl <;> first | exact zup_eq _ (by unfold z_wa z_iv; (repeat' split) <;> omega) | exact zup_eq _ (by unfold z_iv; (repeat' split) <;> omega) | exact congrArg (zup _ _) (by unfold z_wa z_iv; (repeat' split) <;> omega) | exact congrArg (zup _ _) (by unfold z_iv; (repeat' split) <;> omega)))
        exact W.vret hx hb hr (fun t ht hW => ⟨⟨(), rfl, trivial, by rw [ht]; exact hP, hD⟩, hS.F ht⟩) hS.2.2 dX5_grow_65
  · skip
    replace c_2 := (zz_eq0 (by first | omega | (split <;> omega))).mp c_2
    replace c_2 : ¬ 0 < wa r := fun q => by rw [if_pos q] at c_2; first | exact absurd c_2 (by decide) | exact c_2 (by decide)
    have hw18 : ∀ (x0 : Nat → Int32), x0 = znw dy pu wa iv gh tf → va_P (dC, dI) vwCl [(mo, .inr (4, [.int (nI th), .int (nI n), .int (nI gu), .int (nI tn), .ref e0, .ref e1, .ref e2, .ref e3, .ref e4, .ref e5])), (e4, .inl (cA, 62, .inl x0))] s.heap ∧ va_D A [(mo, .inr (4, [.int (nI th), .int (nI n), .int (nI gu), .int (nI tn), .ref e0, .ref e1, .ref e2, .ref e3, .ref e4, .ref e5])), (e4, .inl (cA, 62, .inl x0))] := by
      intro x0 h0; subst h0; exact ⟨hP, hD⟩
    obtain ⟨hP, hD⟩ := hw18 (znw dy pu (zup wa r (z_wa dy (wa r) (iv r))) (zup iv r (z_iv dy (wa r) (iv r))) gh tf) (show (znw dy pu (zup wa r (z_wa dy (wa r) (iv r))) (zup iv r (z_iv dy (wa r) (iv r))) gh tf) = znw dy pu wa iv gh tf from by (refine znw_cg rfl ?_ ?_ rfl rfl <;> first | exact zup_eq _ (by unfold z_wa z_iv; (repeat' split) <;> omega) | exact zup_eq _ (by unfold z_iv; (repeat' split) <;> omega) | exact congrArg (zup _ _) (by unfold z_wa z_iv; (repeat' split) <;> omega) | exact congrArg (zup _ _) (by unfold z_iv; (repeat' split) <;> omega)))
    exact W.vret hx hb hr (fun t ht hW => ⟨⟨(), rfl, trivial, by rw [ht]; exact hP, hD⟩, hS.F ht⟩) hS.2.2 dX5_grow_8
set_option maxHeartbeats 4000000 in
set_option maxRecDepth 100000 in
theorem c_X5_haunt (l : Launch) (dC : Nat → ClassId) (dI : Nat → Nat → Nat) (cA : ClassId) (mo : Nat) (e0 : Nat) (e1 : Nat) (e2 : Nat) (e3 : Nat) (e4 : Nat) (e5 : Nat) (th : Nat) (n : Nat) (gu : Nat) (tn : Nat) (dy : Nat) (pu : Int32) (wa : Nat → Nat) (iv : Nat → Nat) (gh : Nat → Nat) (tf : Nat → Nat) (r : Nat) (sz : Nat) (hrn : r < 10) (hw : wa r ≤ 20) (hi : iv r ≤ 12) (hg : gh r ≤ 5) (hdy : dy < 2 ^ 31) : Met l yX5_haunt wsX5_haunt ({ frames := 2, cells := 0, slots := 0, locals := 45 } : Room) (va_Pc [.ref mo, .int (nI r)] (fun U => U.heap.size = sz ∧ va_P (dC, dI) vwCl [(mo, .inr (4, [.int (nI th), .int (nI n), .int (nI gu), .int (nI tn), .ref e0, .ref e1, .ref e2, .ref e3, .ref e4, .ref e5])), (e4, .inl (cA, 62, .inl (znw dy pu wa iv gh tf)))] U.heap ∧ va_K (dC, dI) vwCl [(cA, .int)] U ∧ va_D (fun _ => True) [(mo, .inr (4, [.int (nI th), .int (nI n), .int (nI gu), .int (nI tn), .ref e0, .ref e1, .ref e2, .ref e3, .ref e4, .ref e5])), (e4, .inl (cA, 62, .inl (znw dy pu wa iv gh tf)))])) (va_Qv (fun _ : Unit => True) (fun (_ : Unit) t => va_P (dC, dI) vwCl [(mo, .inr (4, [.int (nI th), .int (nI n), .int (nI gu), .int (nI tn), .ref e0, .ref e1, .ref e2, .ref e3, .ref e4, .ref e5])), (e4, .inl (cA, 62, .inl (znw dy pu wa iv (zup gh r (z_gb (zb dy) (wa r) (iv r) (gh r))) tf)))] t.heap ∧ va_D (va_A [(mo, .inr (4, [.int (nI th), .int (nI n), .int (nI gu), .int (nI tn), .ref e0, .ref e1, .ref e2, .ref e3, .ref e4, .ref e5])), (e4, .inl (cA, 62, .inl (znw dy pu wa iv gh tf)))] sz) [(mo, .inr (4, [.int (nI th), .int (nI n), .int (nI gu), .int (nI tn), .ref e0, .ref e1, .ref e2, .ref e3, .ref e4, .ref e5])), (e4, .inl (cA, 62, .inl (znw dy pu wa iv (zup gh r (z_gb (zb dy) (wa r) (iv r) (gh r))) tf)))]) (va_A [(mo, .inr (4, [.int (nI th), .int (nI n), .int (nI gu), .int (nI tn), .ref e0, .ref e1, .ref e2, .ref e3, .ref e4, .ref e5])), (e4, .inl (cA, 62, .inl (znw dy pu wa iv gh tf)))] sz)) 0 0 (va_A [(mo, .inr (4, [.int (nI th), .int (nI n), .int (nI gu), .int (nI tn), .ref e0, .ref e1, .ref e2, .ref e3, .ref e4, .ref e5])), (e4, .inl (cA, 62, .inl (znw dy pu wa iv gh tf)))] sz) := by
  refine Met.ofW (cc := cX5_haunt) (maxL := 3) (ret := none) (by decide) rfl ?_
  intro p e s m args below meth c s₁ B hml hv
  obtain ⟨hargs, hsz, hP, hK, hD0⟩ := hv
  have hx := B.exec
  have hb := B.bytes
  have hr := B.returns
  have hts := atoms_spec (ws := wsX5_haunt) B.pre
  have hown : s.vm.findClass RX5 = some m.cls := findClass_of_methodNamed B.named
  have hlocks := B.notSynchronized
  subst hsz
  have hD := hD0.self (sz := s.heap.size)
  generalize hAe : va_A [(mo, .inr (4, [.int (nI th), .int (nI n), .int (nI gu), .int (nI tn), .ref e0, .ref e1, .ref e2, .ref e3, .ref e4, .ref e5])), (e4, .inl (cA, 62, .inl (znw dy pu wa iv gh tf)))] s.heap.size = A at hD ⊢
  have hA : ∀ q : Nat, s.heap.size ≤ q → A q := fun q h => by rw [← hAe]; exact Or.inr h
  have hS : va_S A s.heap s.heap [] := va_S.rf
  have hP : va_P (dC, dI) vwCl [(mo, .inr (4, [.int (nI th), .int (nI n), .int (nI gu), .int (nI tn), .ref e0, .ref e1, .ref e2, .ref e3, .ref e4, .ref e5])), (e4, .inl (cA, 62, .inl (znw dy pu wa iv gh tf)))] s.heap := hP
  have hl := lv_entry ([.ref mo, .int (nI r)]) (n := 3) (Nat.le_of_ble_eq_true rfl)
  rw [hargs, lg_entry_eq, ← hargs]
  generalize (lg_sl ([.ref mo, .int (nI r)]) ++ List.replicate (3 - (lg_sl ([.ref mo, .int (nI r)])).length) Slot.unset).toArray = ls at hl ⊢
  have hl : lv_has ls 3 [(0, .ref mo), (1, .int (nI r))] := hl
  have hz9 := zg_le (iv r)
  have hz8 := zb_le dy
  refine lv_aload_n hx hb dX5_haunt_0 rfl (lv_at hl 0 rfl) ?_
  refine lv_iload_n hx hb dX5_haunt_1 rfl (lv_at hl 1 rfl) ?_
  refine lv_iconst (v := nI 2) hx hb dX5_haunt_2 (by decide) ?_
  have hPc := hP.sub (ws' := [(mo, .inr (4, [.int (nI th), .int (nI n), .int (nI gu), .int (nI tn), .ref e0, .ref e1, .ref e2, .ref e3, .ref e4, .ref e5])), (e4, .inl (cA, 62, .inl (znw dy pu wa iv gh tf)))]) [0, 1] rfl
  refine vp_callSi (W.runV (As := [.int (nI r),.int (nI 2)]) (rest := []) ⟨hx, hb, hml, hown, hts⟩ (c_ru2 l dC dI cA mo e0 e1 e2 e3 e4 e5 th n gu tn dy pu wa iv gh tf r (by first | assumption | omega)) (cwV 2 hts gX5_haunt_X5_ru rfl rfl rfl (by decide +kernel) ⟨Nat.le_of_ble_eq_true rfl, Nat.le_of_ble_eq_true rfl⟩) ⟨fun a U g mk q => by obtain ⟨q0, qP, qK⟩ := q; exact ⟨q0, qP, va_K.moved (u := U) (U := U.calling g mk a) (Vm.Alike.refl U.vm) qK⟩, va_recv hK hP (ci := 4) (q0 := 0) rfl rfl, fun U hU hW => ⟨rfl, by rw [hU]; exact hPc, va_K.moved hW.alike hK⟩⟩ rfl rfl hl.1 rfl (lv_room (Nat.le_of_ble_eq_true rfl)) dX5_haunt_3 ⟨Nat.le_of_ble_eq_true rfl, Nat.le_of_ble_eq_true rfl⟩) (fun r_1 hw_1 => ?_)
  subst hw_1
  refine lv_istore_n (lv' := [(2, .int (nI (gh r))), (0, .ref mo), (1, .int (nI r))]) hx hb dX5_haunt_6 rfl hl (by decide) rfl (fun ls hl => ?_)
  refine lv_aload_n hx hb dX5_haunt_7 rfl (lv_at hl 1 rfl) ?_
  have hPc := hP.sub (ws' := [(mo, .inr (4, [.int (nI th), .int (nI n), .int (nI gu), .int (nI tn), .ref e0, .ref e1, .ref e2, .ref e3, .ref e4, .ref e5])), (e4, .inl (cA, 62, .inl (znw dy pu wa iv gh tf)))]) [0, 1] rfl
  refine vp_callSi (W.runV (As := []) (rest := []) ⟨hx, hb, hml, hown, hts⟩ (c_X5_light l dC dI cA mo e0 e1 e2 e3 e4 e5 th n gu tn dy pu wa iv gh tf (by first | assumption | omega)) (cwV 0 hts gX5_haunt_X5_light rfl rfl rfl (by decide +kernel) ⟨Nat.le_of_ble_eq_true rfl, Nat.le_of_ble_eq_true rfl⟩) ⟨fun a U g mk q => by obtain ⟨q0, qP, qK⟩ := q; exact ⟨q0, qP, va_K.moved (u := U) (U := U.calling g mk a) (Vm.Alike.refl U.vm) qK⟩, va_recv hK hP (ci := 4) (q0 := 0) rfl rfl, fun U hU hW => ⟨rfl, by rw [hU]; exact hPc, va_K.moved hW.alike hK⟩⟩ rfl rfl hl.1 rfl (lv_room (Nat.le_of_ble_eq_true rfl)) dX5_haunt_8 ⟨Nat.le_of_ble_eq_true rfl, Nat.le_of_ble_eq_true rfl⟩) (fun r_2 hw_2 => ?_)
  subst hw_2
  refine lv_iconst (v := nI 4) hx hb dX5_haunt_11 (by decide) ?_
  refine lv_icmp_ne (tgt := 45) hx hb dX5_haunt_12 (by decide) (fun c_3 => ?_) (fun c_3 => ?_)
  · skip
    replace c_3 := mt (nI_eq (by first | omega | (split <;> omega)) (by first | omega | (split <;> omega))).mpr c_3
    refine lv_aload_n hx hb dX5_haunt_45 rfl (lv_at hl 1 rfl) ?_
    have hPc := hP.sub (ws' := [(mo, .inr (4, [.int (nI th), .int (nI n), .int (nI gu), .int (nI tn), .ref e0, .ref e1, .ref e2, .ref e3, .ref e4, .ref e5])), (e4, .inl (cA, 62, .inl (znw dy pu wa iv gh tf)))]) [0, 1] rfl
    refine vp_callSi (W.runV (As := []) (rest := []) ⟨hx, hb, hml, hown, hts⟩ (c_X5_light l dC dI cA mo e0 e1 e2 e3 e4 e5 th n gu tn dy pu wa iv gh tf (by first | assumption | omega)) (cwV 0 hts gX5_haunt_X5_light rfl rfl rfl (by decide +kernel) ⟨Nat.le_of_ble_eq_true rfl, Nat.le_of_ble_eq_true rfl⟩) ⟨fun a U g mk q => by obtain ⟨q0, qP, qK⟩ := q; exact ⟨q0, qP, va_K.moved (u := U) (U := U.calling g mk a) (Vm.Alike.refl U.vm) qK⟩, va_recv hK hP (ci := 4) (q0 := 0) rfl rfl, fun U hU hW => ⟨rfl, by rw [hU]; exact hPc, va_K.moved hW.alike hK⟩⟩ rfl rfl hl.1 rfl (lv_room (Nat.le_of_ble_eq_true rfl)) dX5_haunt_46 ⟨Nat.le_of_ble_eq_true rfl, Nat.le_of_ble_eq_true rfl⟩) (fun r_4 hw_4 => ?_)
    subst hw_4
    refine lv_if_ne (tgt := 81) hx hb dX5_haunt_49 (by decide) (fun c_5 => ?_) (fun c_5 => ?_)
    · skip
      replace c_5 := mt (zz_eq0 (by first | omega | (split <;> omega))).mpr c_5
      have hw6 : ∀ (x0 : Nat → Int32), x0 = znw dy pu wa iv gh tf → va_P (dC, dI) vwCl [(mo, .inr (4, [.int (nI th), .int (nI n), .int (nI gu), .int (nI tn), .ref e0, .ref e1, .ref e2, .ref e3, .ref e4, .ref e5])), (e4, .inl (cA, 62, .inl x0))] s.heap ∧ va_D A [(mo, .inr (4, [.int (nI th), .int (nI n), .int (nI gu), .int (nI tn), .ref e0, .ref e1, .ref e2, .ref e3, .ref e4, .ref e5])), (e4, .inl (cA, 62, .inl x0))] := by
        intro x0 h0; subst h0; exact ⟨hP, hD⟩
      obtain ⟨hP, hD⟩ := hw6 (znw dy pu wa iv (zup gh r (z_gb (zb dy) (wa r) (iv r) (gh r))) tf) (show (znw dy pu wa iv (zup gh r (z_gb (zb dy) (wa r) (iv r) (gh r))) tf) = znw dy pu wa iv gh tf from by (refine znw_cg rfl rfl rfl ?_ rfl; first | exact zup_eq _ (by unfold z_gb; (repeat' split) <;> omega) | exact congrArg (zup _ _) (by unfold z_gb; (repeat' split) <;> omega) | (rw [zup_up]; exact congrArg (zup _ _) (by unfold z_gb; (repeat' split) <;> omega))))
      exact W.vret hx hb hr (fun t ht hW => ⟨⟨(), rfl, trivial, by rw [ht]; exact hP, hD⟩, hS.F ht⟩) hS.2.2 dX5_haunt_81
    · skip
      replace c_5 := (zz_eq0 (by first | omega | (split <;> omega))).mp c_5
      refine lv_iload_n hx hb dX5_haunt_52 rfl (lv_at hl 0 rfl) ?_
      refine lv_if_le (tgt := 81) hx hb dX5_haunt_53 (by decide) (fun c_7 => ?_) (fun c_7 => ?_)
      · skip
        replace c_7 := (zz_lez (by first | omega | (split <;> omega))).mp c_7
        have hw8 : ∀ (x0 : Nat → Int32), x0 = znw dy pu wa iv gh tf → va_P (dC, dI) vwCl [(mo, .inr (4, [.int (nI th), .int (nI n), .int (nI gu), .int (nI tn), .ref e0, .ref e1, .ref e2, .ref e3, .ref e4, .ref e5])), (e4, .inl (cA, 62, .inl x0))] s.heap ∧ va_D A [(mo, .inr (4, [.int (nI th), .int (nI n), .int (nI gu), .int (nI tn), .ref e0, .ref e1, .ref e2, .ref e3, .ref e4, .ref e5])), (e4, .inl (cA, 62, .inl x0))] := by
          intro x0 h0; subst h0; exact ⟨hP, hD⟩
        obtain ⟨hP, hD⟩ := hw8 (znw dy pu wa iv (zup gh r (z_gb (zb dy) (wa r) (iv r) (gh r))) tf) (show (znw dy pu wa iv (zup gh r (z_gb (zb dy) (wa r) (iv r) (gh r))) tf) = znw dy pu wa iv gh tf from by (refine znw_cg rfl rfl rfl ?_ rfl; first | exact zup_eq _ (by unfold z_gb; (repeat' split) <;> omega) | exact congrArg (zup _ _) (by unfold z_gb; (repeat' split) <;> omega) | (rw [zup_up]; exact congrArg (zup _ _) (by unfold z_gb; (repeat' split) <;> omega))))
        exact W.vret hx hb hr (fun t ht hW => ⟨⟨(), rfl, trivial, by rw [ht]; exact hP, hD⟩, hS.F ht⟩) hS.2.2 dX5_haunt_81
      · skip
        replace c_7 := mt (zz_lez (by first | omega | (split <;> omega))).mpr c_7
        refine lv_aload_n hx hb dX5_haunt_56 rfl (lv_at hl 1 rfl) ?_
        refine lv_iload_n hx hb dX5_haunt_57 rfl (lv_at hl 2 rfl) ?_
        have hPc := hP.sub (ws' := [(mo, .inr (4, [.int (nI th), .int (nI n), .int (nI gu), .int (nI tn), .ref e0, .ref e1, .ref e2, .ref e3, .ref e4, .ref e5])), (e4, .inl (cA, 62, .inl (znw dy pu wa iv gh tf)))]) [0, 1] rfl
        refine vp_callSi (W.runV (As := [.int (nI r)]) (rest := []) ⟨hx, hb, hml, hown, hts⟩ (c_X5_grade l dC dI cA mo e0 e1 e2 e3 e4 e5 th n gu tn dy pu wa iv gh tf r (by first | assumption | omega) (by first | assumption | omega)) (cwV 1 hts gX5_haunt_X5_grade rfl rfl rfl (by decide +kernel) ⟨Nat.le_of_ble_eq_true rfl, Nat.le_of_ble_eq_true rfl⟩) ⟨fun a U g mk q => by obtain ⟨q0, qP, qK⟩ := q; exact ⟨q0, qP, va_K.moved (u := U) (U := U.calling g mk a) (Vm.Alike.refl U.vm) qK⟩, va_recv hK hP (ci := 4) (q0 := 0) rfl rfl, fun U hU hW => ⟨rfl, by rw [hU]; exact hPc, va_K.moved hW.alike hK⟩⟩ rfl rfl hl.1 rfl (lv_room (Nat.le_of_ble_eq_true rfl)) dX5_haunt_58 ⟨Nat.le_of_ble_eq_true rfl, Nat.le_of_ble_eq_true rfl⟩) (fun r_9 hw_9 => ?_)
        subst hw_9
        refine lv_if_eq (tgt := 72) hx hb dX5_haunt_61 (by decide) (fun c_10 => ?_) (fun c_10 => ?_)
        · skip
          replace c_10 := (zz_eq0 (by first | omega | (split <;> omega))).mp c_10
          refine lv_aload_n hx hb dX5_haunt_72 rfl (lv_at hl 1 rfl) ?_
          refine lv_iload_n hx hb dX5_haunt_73 rfl (lv_at hl 2 rfl) ?_
          refine lv_iconst (v := nI 2) hx hb dX5_haunt_74 (by decide) ?_
          refine lv_iload_n hx hb dX5_haunt_75 rfl (lv_at hl 0 rfl) ?_
          refine lv_iconst (v := nI 1) hx hb dX5_haunt_76 (by decide) ?_
          refine lv_isub hx hb dX5_haunt_77 ?_
          refine zz_top (pk_sub (by first | omega | (split <;> omega))) ?_
          have hPc := hP.sub (ws' := [(mo, .inr (4, [.int (nI th), .int (nI n), .int (nI gu), .int (nI tn), .ref e0, .ref e1, .ref e2, .ref e3, .ref e4, .ref e5])), (e4, .inl (cA, 62, .inl (znw dy pu wa iv gh tf)))]) [0, 1] rfl
          have hDc := hD.sub (ws' := [(mo, .inr (4, [.int (nI th), .int (nI n), .int (nI gu), .int (nI tn), .ref e0, .ref e1, .ref e2, .ref e3, .ref e4, .ref e5])), (e4, .inl (cA, 62, .inl (znw dy pu wa iv gh tf)))]) [0, 1] (by decide) rfl
          have hFc := va_free (wc := [(mo, .inr (4, [.int (nI th), .int (nI n), .int (nI gu), .int (nI tn), .ref e0, .ref e1, .ref e2, .ref e3, .ref e4, .ref e5])), (e4, .inl (cA, 62, .inl (znw dy pu wa iv gh tf)))]) hD hS hA [0, 1] rfl
          refine va_callv (va_runV (As := [.int (nI r),.int (nI 2),.int (nI ((gh r) - 1))]) (rest := []) ⟨hx, hb, hml, hown, hts⟩ (c_let2 l dC dI cA mo e0 e1 e2 e3 e4 e5 th n gu tn dy pu wa iv gh tf r ((gh r) - 1) s.heap.size (by first | assumption | omega)) (cwV 3 hts gX5_haunt_X5_let rfl rfl rfl (by decide +kernel) ⟨Nat.le_of_ble_eq_true rfl, Nat.le_of_ble_eq_true rfl⟩) ⟨fun a U g mk q => by obtain ⟨q0, q1, qP, qK, qD⟩ := q; exact ⟨q0, q1, qP, va_K.moved (u := U) (U := U.calling g mk a) (Vm.Alike.refl U.vm) qK, qD⟩, va_recv hK hP (ci := 4) (q0 := 0) rfl rfl, fun U hU hW => ⟨rfl, by rw [hU], by rw [hU]; exact hPc, va_K.moved hW.alike hK, hDc.weaken (fun _ _ _ _ => trivial)⟩⟩ rfl rfl hl.1 rfl (lv_room (Nat.le_of_ble_eq_true rfl)) dX5_haunt_78 ⟨Nat.le_of_ble_eq_true rfl, Nat.le_of_ble_eq_true rfl⟩) hS (fun q _ h => hFc q h) hFc (fun u t H1 locs ht hvm hw_11 hB hz1 hk1 hS => ?_)
          obtain ⟨hP1, hD1⟩ := hB
          rw [ht] at hP1
          obtain ⟨hP, hD⟩ := va_join (wr := []) (w1 := [(mo, .inr (4, [.int (nI th), .int (nI n), .int (nI gu), .int (nI tn), .ref e0, .ref e1, .ref e2, .ref e3, .ref e4, .ref e5])), (e4, .inl (cA, 62, .inl (znw dy pu wa iv (zup gh r ((gh r) - 1)) tf)))]) hP hD [0, 1] [] rfl rfl (by decide) (by decide) hk1 hFc hP1 hD1
          generalize H1 = H at hP hS ⊢
          have hP : va_P (dC, dI) vwCl [(mo, .inr (4, [.int (nI th), .int (nI n), .int (nI gu), .int (nI tn), .ref e0, .ref e1, .ref e2, .ref e3, .ref e4, .ref e5])), (e4, .inl (cA, 62, .inl (znw dy pu wa iv (zup gh r ((gh r) - 1)) tf)))] H := hP
          have hD : va_D A [(mo, .inr (4, [.int (nI th), .int (nI n), .int (nI gu), .int (nI tn), .ref e0, .ref e1, .ref e2, .ref e3, .ref e4, .ref e5])), (e4, .inl (cA, 62, .inl (znw dy pu wa iv (zup gh r ((gh r) - 1)) tf)))] := hD
          have hw12 : ∀ (x0 : Nat → Int32), x0 = znw dy pu wa iv (zup gh r ((gh r) - 1)) tf → va_P (dC, dI) vwCl [(mo, .inr (4, [.int (nI th), .int (nI n), .int (nI gu), .int (nI tn), .ref e0, .ref e1, .ref e2, .ref e3, .ref e4, .ref e5])), (e4, .inl (cA, 62, .inl x0))] H ∧ va_D A [(mo, .inr (4, [.int (nI th), .int (nI n), .int (nI gu), .int (nI tn), .ref e0, .ref e1, .ref e2, .ref e3, .ref e4, .ref e5])), (e4, .inl (cA, 62, .inl x0))] := by
            intro x0 h0; subst h0; exact ⟨hP, hD⟩
          obtain ⟨hP, hD⟩ := hw12 (znw dy pu wa iv (zup gh r (z_gb (zb dy) (wa r) (iv r) (gh r))) tf) (show (znw dy pu wa iv (zup gh r (z_gb (zb dy) (wa r) (iv r) (gh r))) tf) = znw dy pu wa iv (zup gh r ((gh r) - 1)) tf from by (refine znw_cg rfl rfl rfl ?_ rfl; first | exact zup_eq _ (by unfold z_gb; (repeat' split) <;> omega) | exact congrArg (zup _ _) (by unfold z_gb; (repeat' split) <;> omega) | (rw [zup_up]; exact congrArg (zup _ _) (by unfold z_gb; (repeat' split) <;> omega))))
          exact W.vret hx hb hr (fun t ht hW => ⟨⟨(), rfl, trivial, by rw [ht]; exact hP, hD⟩, hS.F ht⟩) hS.2.2 dX5_haunt_81
        · skip
          replace c_10 := mt (zz_eq0 (by first | omega | (split <;> omega))).mpr c_10
          refine lv_aload_n hx hb dX5_haunt_64 rfl (lv_at hl 1 rfl) ?_
          refine lv_iload_n hx hb dX5_haunt_65 rfl (lv_at hl 2 rfl) ?_
          have hPc := hP.sub (ws' := [(mo, .inr (4, [.int (nI th), .int (nI n), .int (nI gu), .int (nI tn), .ref e0, .ref e1, .ref e2, .ref e3, .ref e4, .ref e5])), (e4, .inl (cA, 62, .inl (znw dy pu wa iv gh tf)))]) [0, 1] rfl
          refine vp_callSi (W.runV (As := [.int (nI r)]) (rest := []) ⟨hx, hb, hml, hown, hts⟩ (c_X5_stands l dC dI cA mo e0 e1 e2 e3 e4 e5 th n gu tn dy pu wa iv gh tf r (by first | assumption | omega) (by first | assumption | omega)) (cwV 1 hts gX5_haunt_X5_stands rfl rfl rfl (by decide +kernel) ⟨Nat.le_of_ble_eq_true rfl, Nat.le_of_ble_eq_true rfl⟩) ⟨fun a U g mk q => by obtain ⟨q0, qP, qK⟩ := q; exact ⟨q0, qP, va_K.moved (u := U) (U := U.calling g mk a) (Vm.Alike.refl U.vm) qK⟩, va_recv hK hP (ci := 4) (q0 := 0) rfl rfl, fun U hU hW => ⟨rfl, by rw [hU]; exact hPc, va_K.moved hW.alike hK⟩⟩ rfl rfl hl.1 rfl (lv_room (Nat.le_of_ble_eq_true rfl)) dX5_haunt_66 ⟨Nat.le_of_ble_eq_true rfl, Nat.le_of_ble_eq_true rfl⟩) (fun r_13 hw_13 => ?_)
          subst hw_13
          refine lv_if_ne (tgt := 81) hx hb dX5_haunt_69 (by decide) (fun c_14 => ?_) (fun c_14 => ?_)
          · skip
            replace c_14 := mt (zz_eq0 (by first | omega | (split <;> omega))).mpr c_14
            replace c_14 : 0 < wa r := Decidable.byContradiction fun q => by rw [if_neg q] at c_14; first | exact absurd c_14 (by decide) | exact c_14 rfl
            have hw15 : ∀ (x0 : Nat → Int32), x0 = znw dy pu wa iv gh tf → va_P (dC, dI) vwCl [(mo, .inr (4, [.int (nI th), .int (nI n), .int (nI gu), .int (nI tn), .ref e0, .ref e1, .ref e2, .ref e3, .ref e4, .ref e5])), (e4, .inl (cA, 62, .inl x0))] s.heap ∧ va_D A [(mo, .inr (4, [.int (nI th), .int (nI n), .int (nI gu), .int (nI tn), .ref e0, .ref e1, .ref e2, .ref e3, .ref e4, .ref e5])), (e4, .inl (cA, 62, .inl x0))] := by
              intro x0 h0; subst h0; exact ⟨hP, hD⟩
            obtain ⟨hP, hD⟩ := hw15 (znw dy pu wa iv (zup gh r (z_gb (zb dy) (wa r) (iv r) (gh r))) tf) (show (znw dy pu wa iv (zup gh r (z_gb (zb dy) (wa r) (iv r) (gh r))) tf) = znw dy pu wa iv gh tf from by (refine znw_cg rfl rfl rfl ?_ rfl; first | exact zup_eq _ (by unfold z_gb; (repeat' split) <;> omega) | exact congrArg (zup _ _) (by unfold z_gb; (repeat' split) <;> omega) | (rw [zup_up]; exact congrArg (zup _ _) (by unfold z_gb; (repeat' split) <;> omega))))
            exact W.vret hx hb hr (fun t ht hW => ⟨⟨(), rfl, trivial, by rw [ht]; exact hP, hD⟩, hS.F ht⟩) hS.2.2 dX5_haunt_81
          · skip
            replace c_14 := (zz_eq0 (by first | omega | (split <;> omega))).mp c_14
            replace c_14 : ¬ 0 < wa r := fun q => by rw [if_pos q] at c_14; first | exact absurd c_14 (by decide) | exact c_14 (by decide)
            refine lv_aload_n hx hb dX5_haunt_72 rfl (lv_at hl 1 rfl) ?_
            refine lv_iload_n hx hb dX5_haunt_73 rfl (lv_at hl 2 rfl) ?_
            refine lv_iconst (v := nI 2) hx hb dX5_haunt_74 (by decide) ?_
            refine lv_iload_n hx hb dX5_haunt_75 rfl (lv_at hl 0 rfl) ?_
            refine lv_iconst (v := nI 1) hx hb dX5_haunt_76 (by decide) ?_
            refine lv_isub hx hb dX5_haunt_77 ?_
            refine zz_top (pk_sub (by first | omega | (split <;> omega))) ?_
            have hPc := hP.sub (ws' := [(mo, .inr (4, [.int (nI th), .int (nI n), .int (nI gu), .int (nI tn), .ref e0, .ref e1, .ref e2, .ref e3, .ref e4, .ref e5])), (e4, .inl (cA, 62, .inl (znw dy pu wa iv gh tf)))]) [0, 1] rfl
            have hDc := hD.sub (ws' := [(mo, .inr (4, [.int (nI th), .int (nI n), .int (nI gu), .int (nI tn), .ref e0, .ref e1, .ref e2, .ref e3, .ref e4, .ref e5])), (e4, .inl (cA, 62, .inl (znw dy pu wa iv gh tf)))]) [0, 1] (by decide) rfl
            have hFc := va_free (wc := [(mo, .inr (4, [.int (nI th), .int (nI n), .int (nI gu), .int (nI tn), .ref e0, .ref e1, .ref e2, .ref e3, .ref e4, .ref e5])), (e4, .inl (cA, 62, .inl (znw dy pu wa iv gh tf)))]) hD hS hA [0, 1] rfl
            refine va_callv (va_runV (As := [.int (nI r),.int (nI 2),.int (nI ((gh r) - 1))]) (rest := []) ⟨hx, hb, hml, hown, hts⟩ (c_let2 l dC dI cA mo e0 e1 e2 e3 e4 e5 th n gu tn dy pu wa iv gh tf r ((gh r) - 1) s.heap.size (by first | assumption | omega)) (cwV 3 hts gX5_haunt_X5_let rfl rfl rfl (by decide +kernel) ⟨Nat.le_of_ble_eq_true rfl, Nat.le_of_ble_eq_true rfl⟩) ⟨fun a U g mk q => by obtain ⟨q0, q1, qP, qK, qD⟩ := q; exact ⟨q0, q1, qP, va_K.moved (u := U) (U := U.calling g mk a) (Vm.Alike.refl U.vm) qK, qD⟩, va_recv hK hP (ci := 4) (q0 := 0) rfl rfl, fun U hU hW => ⟨rfl, by rw [hU], by rw [hU]; exact hPc, va_K.moved hW.alike hK, hDc.weaken (fun _ _ _ _ => trivial)⟩⟩ rfl rfl hl.1 rfl (lv_room (Nat.le_of_ble_eq_true rfl)) dX5_haunt_78 ⟨Nat.le_of_ble_eq_true rfl, Nat.le_of_ble_eq_true rfl⟩) hS (fun q _ h => hFc q h) hFc (fun u t H1 locs ht hvm hw_16 hB hz1 hk1 hS => ?_)
            obtain ⟨hP1, hD1⟩ := hB
            rw [ht] at hP1
            obtain ⟨hP, hD⟩ := va_join (wr := []) (w1 := [(mo, .inr (4, [.int (nI th), .int (nI n), .int (nI gu), .int (nI tn), .ref e0, .ref e1, .ref e2, .ref e3, .ref e4, .ref e5])), (e4, .inl (cA, 62, .inl (znw dy pu wa iv (zup gh r ((gh r) - 1)) tf)))]) hP hD [0, 1] [] rfl rfl (by decide) (by decide) hk1 hFc hP1 hD1
            generalize H1 = H at hP hS ⊢
            have hP : va_P (dC, dI) vwCl [(mo, .inr (4, [.int (nI th), .int (nI n), .int (nI gu), .int (nI tn), .ref e0, .ref e1, .ref e2, .ref e3, .ref e4, .ref e5])), (e4, .inl (cA, 62, .inl (znw dy pu wa iv (zup gh r ((gh r) - 1)) tf)))] H := hP
            have hD : va_D A [(mo, .inr (4, [.int (nI th), .int (nI n), .int (nI gu), .int (nI tn), .ref e0, .ref e1, .ref e2, .ref e3, .ref e4, .ref e5])), (e4, .inl (cA, 62, .inl (znw dy pu wa iv (zup gh r ((gh r) - 1)) tf)))] := hD
            have hw17 : ∀ (x0 : Nat → Int32), x0 = znw dy pu wa iv (zup gh r ((gh r) - 1)) tf → va_P (dC, dI) vwCl [(mo, .inr (4, [.int (nI th), .int (nI n), .int (nI gu), .int (nI tn), .ref e0, .ref e1, .ref e2, .ref e3, .ref e4, .ref e5])), (e4, .inl (cA, 62, .inl x0))] H ∧ va_D A [(mo, .inr (4, [.int (nI th), .int (nI n), .int (nI gu), .int (nI tn), .ref e0, .ref e1, .ref e2, .ref e3, .ref e4, .ref e5])), (e4, .inl (cA, 62, .inl x0))] := by
              intro x0 h0; subst h0; exact ⟨hP, hD⟩
            obtain ⟨hP, hD⟩ := hw17 (znw dy pu wa iv (zup gh r (z_gb (zb dy) (wa r) (iv r) (gh r))) tf) (show (znw dy pu wa iv (zup gh r (z_gb (zb dy) (wa r) (iv r) (gh r))) tf) = znw dy pu wa iv (zup gh r ((gh r) - 1)) tf from by (refine znw_cg rfl rfl rfl ?_ rfl; first | exact zup_eq _ (by unfold z_gb; (repeat' split) <;> omega) | exact congrArg (zup _ _) (by unfold z_gb; (repeat' split) <;> omega) | (rw [zup_up]; exact congrArg (zup _ _) (by unfold z_gb; (repeat' split) <;> omega))))
            exact W.vret hx hb hr (fun t ht hW => ⟨⟨(), rfl, trivial, by rw [ht]; exact hP, hD⟩, hS.F ht⟩) hS.2.2 dX5_haunt_81
  · skip
    replace c_3 := (nI_eq (by first | omega | (split <;> omega)) (by first | omega | (split <;> omega))).mp c_3
    refine lv_aload_n hx hb dX5_haunt_15 rfl (lv_at hl 1 rfl) ?_
    refine lv_iload_n hx hb dX5_haunt_16 rfl (lv_at hl 2 rfl) ?_
    have hPc := hP.sub (ws' := [(mo, .inr (4, [.int (nI th), .int (nI n), .int (nI gu), .int (nI tn), .ref e0, .ref e1, .ref e2, .ref e3, .ref e4, .ref e5])), (e4, .inl (cA, 62, .inl (znw dy pu wa iv gh tf)))]) [0, 1] rfl
    refine vp_callSi (W.runV (As := [.int (nI r)]) (rest := []) ⟨hx, hb, hml, hown, hts⟩ (c_X5_stands l dC dI cA mo e0 e1 e2 e3 e4 e5 th n gu tn dy pu wa iv gh tf r (by first | assumption | omega) (by first | assumption | omega)) (cwV 1 hts gX5_haunt_X5_stands rfl rfl rfl (by decide +kernel) ⟨Nat.le_of_ble_eq_true rfl, Nat.le_of_ble_eq_true rfl⟩) ⟨fun a U g mk q => by obtain ⟨q0, qP, qK⟩ := q; exact ⟨q0, qP, va_K.moved (u := U) (U := U.calling g mk a) (Vm.Alike.refl U.vm) qK⟩, va_recv hK hP (ci := 4) (q0 := 0) rfl rfl, fun U hU hW => ⟨rfl, by rw [hU]; exact hPc, va_K.moved hW.alike hK⟩⟩ rfl rfl hl.1 rfl (lv_room (Nat.le_of_ble_eq_true rfl)) dX5_haunt_17 ⟨Nat.le_of_ble_eq_true rfl, Nat.le_of_ble_eq_true rfl⟩) (fun r_18 hw_18 => ?_)
    subst hw_18
    refine lv_if_eq (tgt := 45) hx hb dX5_haunt_20 (by decide) (fun c_19 => ?_) (fun c_19 => ?_)
    · skip
      replace c_19 := (zz_eq0 (by first | omega | (split <;> omega))).mp c_19
      replace c_19 : ¬ 0 < wa r := fun q => by rw [if_pos q] at c_19; first | exact absurd c_19 (by decide) | exact c_19 (by decide)
      refine lv_aload_n hx hb dX5_haunt_45 rfl (lv_at hl 1 rfl) ?_
      have hPc := hP.sub (ws' := [(mo, .inr (4, [.int (nI th), .int (nI n), .int (nI gu), .int (nI tn), .ref e0, .ref e1, .ref e2, .ref e3, .ref e4, .ref e5])), (e4, .inl (cA, 62, .inl (znw dy pu wa iv gh tf)))]) [0, 1] rfl
      refine vp_callSi (W.runV (As := []) (rest := []) ⟨hx, hb, hml, hown, hts⟩ (c_X5_light l dC dI cA mo e0 e1 e2 e3 e4 e5 th n gu tn dy pu wa iv gh tf (by first | assumption | omega)) (cwV 0 hts gX5_haunt_X5_light rfl rfl rfl (by decide +kernel) ⟨Nat.le_of_ble_eq_true rfl, Nat.le_of_ble_eq_true rfl⟩) ⟨fun a U g mk q => by obtain ⟨q0, qP, qK⟩ := q; exact ⟨q0, qP, va_K.moved (u := U) (U := U.calling g mk a) (Vm.Alike.refl U.vm) qK⟩, va_recv hK hP (ci := 4) (q0 := 0) rfl rfl, fun U hU hW => ⟨rfl, by rw [hU]; exact hPc, va_K.moved hW.alike hK⟩⟩ rfl rfl hl.1 rfl (lv_room (Nat.le_of_ble_eq_true rfl)) dX5_haunt_46 ⟨Nat.le_of_ble_eq_true rfl, Nat.le_of_ble_eq_true rfl⟩) (fun r_20 hw_20 => ?_)
      subst hw_20
      refine lv_if_ne (tgt := 81) hx hb dX5_haunt_49 (by decide) (fun c_21 => ?_) (fun c_21 => ?_)
      · skip
        replace c_21 := mt (zz_eq0 (by first | omega | (split <;> omega))).mpr c_21
        have hw22 : ∀ (x0 : Nat → Int32), x0 = znw dy pu wa iv gh tf → va_P (dC, dI) vwCl [(mo, .inr (4, [.int (nI th), .int (nI n), .int (nI gu), .int (nI tn), .ref e0, .ref e1, .ref e2, .ref e3, .ref e4, .ref e5])), (e4, .inl (cA, 62, .inl x0))] s.heap ∧ va_D A [(mo, .inr (4, [.int (nI th), .int (nI n), .int (nI gu), .int (nI tn), .ref e0, .ref e1, .ref e2, .ref e3, .ref e4, .ref e5])), (e4, .inl (cA, 62, .inl x0))] := by
          intro x0 h0; subst h0; exact ⟨hP, hD⟩
        obtain ⟨hP, hD⟩ := hw22 (znw dy pu wa iv (zup gh r (z_gb (zb dy) (wa r) (iv r) (gh r))) tf) (show (znw dy pu wa iv (zup gh r (z_gb (zb dy) (wa r) (iv r) (gh r))) tf) = znw dy pu wa iv gh tf from by (refine znw_cg rfl rfl rfl ?_ rfl; first | exact zup_eq _ (by unfold z_gb; (repeat' split) <;> omega) | exact congrArg (zup _ _) (by unfold z_gb; (repeat' split) <;> omega) | (rw [zup_up]; exact congrArg (zup _ _) (by unfold z_gb; (repeat' split) <;> omega))))
        exact W.vret hx hb hr (fun t ht hW => ⟨⟨(), rfl, trivial, by rw [ht]; exact hP, hD⟩, hS.F ht⟩) hS.2.2 dX5_haunt_81
      · skip
        replace c_21 := (zz_eq0 (by first | omega | (split <;> omega))).mp c_21
        refine lv_iload_n hx hb dX5_haunt_52 rfl (lv_at hl 0 rfl) ?_
        refine lv_if_le (tgt := 81) hx hb dX5_haunt_53 (by decide) (fun c_23 => ?_) (fun c_23 => ?_)
        · skip
          replace c_23 := (zz_lez (by first | omega | (split <;> omega))).mp c_23
          have hw24 : ∀ (x0 : Nat → Int32), x0 = znw dy pu wa iv gh tf → va_P (dC, dI) vwCl [(mo, .inr (4, [.int (nI th), .int (nI n), .int (nI gu), .int (nI tn), .ref e0, .ref e1, .ref e2, .ref e3, .ref e4, .ref e5])), (e4, .inl (cA, 62, .inl x0))] s.heap ∧ va_D A [(mo, .inr (4, [.int (nI th), .int (nI n), .int (nI gu), .int (nI tn), .ref e0, .ref e1, .ref e2, .ref e3, .ref e4, .ref e5])), (e4, .inl (cA, 62, .inl x0))] := by
            intro x0 h0; subst h0; exact ⟨hP, hD⟩
          obtain ⟨hP, hD⟩ := hw24 (znw dy pu wa iv (zup gh r (z_gb (zb dy) (wa r) (iv r) (gh r))) tf) (show (znw dy pu wa iv (zup gh r (z_gb (zb dy) (wa r) (iv r) (gh r))) tf) = znw dy pu wa iv gh tf from by (refine znw_cg rfl rfl rfl ?_ rfl; first | exact zup_eq _ (by unfold z_gb; (repeat' split) <;> omega) | exact congrArg (zup _ _) (by unfold z_gb; (repeat' split) <;> omega) | (rw [zup_up]; exact congrArg (zup _ _) (by unfold z_gb; (repeat' split) <;> omega))))
          exact W.vret hx hb hr (fun t ht hW => ⟨⟨(), rfl, trivial, by rw [ht]; exact hP, hD⟩, hS.F ht⟩) hS.2.2 dX5_haunt_81
        · skip
          replace c_23 := mt (zz_lez (by first | omega | (split <;> omega))).mpr c_23
          refine lv_aload_n hx hb dX5_haunt_56 rfl (lv_at hl 1 rfl) ?_
          refine lv_iload_n hx hb dX5_haunt_57 rfl (lv_at hl 2 rfl) ?_
          have hPc := hP.sub (ws' := [(mo, .inr (4, [.int (nI th), .int (nI n), .int (nI gu), .int (nI tn), .ref e0, .ref e1, .ref e2, .ref e3, .ref e4, .ref e5])), (e4, .inl (cA, 62, .inl (znw dy pu wa iv gh tf)))]) [0, 1] rfl
          refine vp_callSi (W.runV (As := [.int (nI r)]) (rest := []) ⟨hx, hb, hml, hown, hts⟩ (c_X5_grade l dC dI cA mo e0 e1 e2 e3 e4 e5 th n gu tn dy pu wa iv gh tf r (by first | assumption | omega) (by first | assumption | omega)) (cwV 1 hts gX5_haunt_X5_grade rfl rfl rfl (by decide +kernel) ⟨Nat.le_of_ble_eq_true rfl, Nat.le_of_ble_eq_true rfl⟩) ⟨fun a U g mk q => by obtain ⟨q0, qP, qK⟩ := q; exact ⟨q0, qP, va_K.moved (u := U) (U := U.calling g mk a) (Vm.Alike.refl U.vm) qK⟩, va_recv hK hP (ci := 4) (q0 := 0) rfl rfl, fun U hU hW => ⟨rfl, by rw [hU]; exact hPc, va_K.moved hW.alike hK⟩⟩ rfl rfl hl.1 rfl (lv_room (Nat.le_of_ble_eq_true rfl)) dX5_haunt_58 ⟨Nat.le_of_ble_eq_true rfl, Nat.le_of_ble_eq_true rfl⟩) (fun r_25 hw_25 => ?_)
          subst hw_25
          refine lv_if_eq (tgt := 72) hx hb dX5_haunt_61 (by decide) (fun c_26 => ?_) (fun c_26 => ?_)
          · skip
            replace c_26 := (zz_eq0 (by first | omega | (split <;> omega))).mp c_26
            refine lv_aload_n hx hb dX5_haunt_72 rfl (lv_at hl 1 rfl) ?_
            refine lv_iload_n hx hb dX5_haunt_73 rfl (lv_at hl 2 rfl) ?_
            refine lv_iconst (v := nI 2) hx hb dX5_haunt_74 (by decide) ?_
            refine lv_iload_n hx hb dX5_haunt_75 rfl (lv_at hl 0 rfl) ?_
            refine lv_iconst (v := nI 1) hx hb dX5_haunt_76 (by decide) ?_
            refine lv_isub hx hb dX5_haunt_77 ?_
            refine zz_top (pk_sub (by first | omega | (split <;> omega))) ?_
            have hPc := hP.sub (ws' := [(mo, .inr (4, [.int (nI th), .int (nI n), .int (nI gu), .int (nI tn), .ref e0, .ref e1, .ref e2, .ref e3, .ref e4, .ref e5])), (e4, .inl (cA, 62, .inl (znw dy pu wa iv gh tf)))]) [0, 1] rfl
            have hDc := hD.sub (ws' := [(mo, .inr (4, [.int (nI th), .int (nI n), .int (nI gu), .int (nI tn), .ref e0, .ref e1, .ref e2, .ref e3, .ref e4, .ref e5])), (e4, .inl (cA, 62, .inl (znw dy pu wa iv gh tf)))]) [0, 1] (by decide) rfl
            have hFc := va_free (wc := [(mo, .inr (4, [.int (nI th), .int (nI n), .int (nI gu), .int (nI tn), .ref e0, .ref e1, .ref e2, .ref e3, .ref e4, .ref e5])), (e4, .inl (cA, 62, .inl (znw dy pu wa iv gh tf)))]) hD hS hA [0, 1] rfl
            refine va_callv (va_runV (As := [.int (nI r),.int (nI 2),.int (nI ((gh r) - 1))]) (rest := []) ⟨hx, hb, hml, hown, hts⟩ (c_let2 l dC dI cA mo e0 e1 e2 e3 e4 e5 th n gu tn dy pu wa iv gh tf r ((gh r) - 1) s.heap.size (by first | assumption | omega)) (cwV 3 hts gX5_haunt_X5_let rfl rfl rfl (by decide +kernel) ⟨Nat.le_of_ble_eq_true rfl, Nat.le_of_ble_eq_true rfl⟩) ⟨fun a U g mk q => by obtain ⟨q0, q1, qP, qK, qD⟩ := q; exact ⟨q0, q1, qP, va_K.moved (u := U) (U := U.calling g mk a) (Vm.Alike.refl U.vm) qK, qD⟩, va_recv hK hP (ci := 4) (q0 := 0) rfl rfl, fun U hU hW => ⟨rfl, by rw [hU], by rw [hU]; exact hPc, va_K.moved hW.alike hK, hDc.weaken (fun _ _ _ _ => trivial)⟩⟩ rfl rfl hl.1 rfl (lv_room (Nat.le_of_ble_eq_true rfl)) dX5_haunt_78 ⟨Nat.le_of_ble_eq_true rfl, Nat.le_of_ble_eq_true rfl⟩) hS (fun q _ h => hFc q h) hFc (fun u t H1 locs ht hvm hw_27 hB hz1 hk1 hS => ?_)
            obtain ⟨hP1, hD1⟩ := hB
            rw [ht] at hP1
            obtain ⟨hP, hD⟩ := va_join (wr := []) (w1 := [(mo, .inr (4, [.int (nI th), .int (nI n), .int (nI gu), .int (nI tn), .ref e0, .ref e1, .ref e2, .ref e3, .ref e4, .ref e5])), (e4, .inl (cA, 62, .inl (znw dy pu wa iv (zup gh r ((gh r) - 1)) tf)))]) hP hD [0, 1] [] rfl rfl (by decide) (by decide) hk1 hFc hP1 hD1
            generalize H1 = H at hP hS ⊢
            have hP : va_P (dC, dI) vwCl [(mo, .inr (4, [.int (nI th), .int (nI n), .int (nI gu), .int (nI tn), .ref e0, .ref e1, .ref e2, .ref e3, .ref e4, .ref e5])), (e4, .inl (cA, 62, .inl (znw dy pu wa iv (zup gh r ((gh r) - 1)) tf)))] H := hP
            have hD : va_D A [(mo, .inr (4, [.int (nI th), .int (nI n), .int (nI gu), .int (nI tn), .ref e0, .ref e1, .ref e2, .ref e3, .ref e4, .ref e5])), (e4, .inl (cA, 62, .inl (znw dy pu wa iv (zup gh r ((gh r) - 1)) tf)))] := hD
            have hw28 : ∀ (x0 : Nat → Int32), x0 = znw dy pu wa iv (zup gh r ((gh r) - 1)) tf → va_P (dC, dI) vwCl [(mo, .inr (4, [.int (nI th), .int (nI n), .int (nI gu), .int (nI tn), .ref e0, .ref e1, .ref e2, .ref e3, .ref e4, .ref e5])), (e4, .inl (cA, 62, .inl x0))] H ∧ va_D A [(mo, .inr (4, [.int (nI th), .int (nI n), .int (nI gu), .int (nI tn), .ref e0, .ref e1, .ref e2, .ref e3, .ref e4, .ref e5])), (e4, .inl (cA, 62, .inl x0))] := by
              intro x0 h0; subst h0; exact ⟨hP, hD⟩
            obtain ⟨hP, hD⟩ := hw28 (znw dy pu wa iv (zup gh r (z_gb (zb dy) (wa r) (iv r) (gh r))) tf) (show (znw dy pu wa iv (zup gh r (z_gb (zb dy) (wa r) (iv r) (gh r))) tf) = znw dy pu wa iv (zup gh r ((gh r) - 1)) tf from by (refine znw_cg rfl rfl rfl ?_ rfl; first | exact zup_eq _ (by unfold z_gb; (repeat' split) <;> omega) | exact congrArg (zup _ _) (by unfold z_gb; (repeat' split) <;> omega) | (rw [zup_up]; exact congrArg (zup _ _) (by unfold z_gb; (repeat' split) <;> omega))))
            exact W.vret hx hb hr (fun t ht hW => ⟨⟨(), rfl, trivial, by rw [ht]; exact hP, hD⟩, hS.F ht⟩) hS.2.2 dX5_haunt_81
          · skip
            replace c_26 := mt (zz_eq0 (by first | omega | (split <;> omega))).mpr c_26
            refine lv_aload_n hx hb dX5_haunt_64 rfl (lv_at hl 1 rfl) ?_
            refine lv_iload_n hx hb dX5_haunt_65 rfl (lv_at hl 2 rfl) ?_
            have hPc := hP.sub (ws' := [(mo, .inr (4, [.int (nI th), .int (nI n), .int (nI gu), .int (nI tn), .ref e0, .ref e1, .ref e2, .ref e3, .ref e4, .ref e5])), (e4, .inl (cA, 62, .inl (znw dy pu wa iv gh tf)))]) [0, 1] rfl
            refine vp_callSi (W.runV (As := [.int (nI r)]) (rest := []) ⟨hx, hb, hml, hown, hts⟩ (c_X5_stands l dC dI cA mo e0 e1 e2 e3 e4 e5 th n gu tn dy pu wa iv gh tf r (by first | assumption | omega) (by first | assumption | omega)) (cwV 1 hts gX5_haunt_X5_stands rfl rfl rfl (by decide +kernel) ⟨Nat.le_of_ble_eq_true rfl, Nat.le_of_ble_eq_true rfl⟩) ⟨fun a U g mk q => by obtain ⟨q0, qP, qK⟩ := q; exact ⟨q0, qP, va_K.moved (u := U) (U := U.calling g mk a) (Vm.Alike.refl U.vm) qK⟩, va_recv hK hP (ci := 4) (q0 := 0) rfl rfl, fun U hU hW => ⟨rfl, by rw [hU]; exact hPc, va_K.moved hW.alike hK⟩⟩ rfl rfl hl.1 rfl (lv_room (Nat.le_of_ble_eq_true rfl)) dX5_haunt_66 ⟨Nat.le_of_ble_eq_true rfl, Nat.le_of_ble_eq_true rfl⟩) (fun r_29 hw_29 => ?_)
            subst hw_29
            refine lv_if_ne (tgt := 81) hx hb dX5_haunt_69 (by decide) (fun c_30 => ?_) (fun c_30 => ?_)
            · skip
              replace c_30 := mt (zz_eq0 (by first | omega | (split <;> omega))).mpr c_30
              replace c_30 : 0 < wa r := Decidable.byContradiction fun q => by rw [if_neg q] at c_30; first | exact absurd c_30 (by decide) | exact c_30 rfl
              have hw31 : ∀ (x0 : Nat → Int32), x0 = znw dy pu wa iv gh tf → va_P (dC, dI) vwCl [(mo, .inr (4, [.int (nI th), .int (nI n), .int (nI gu), .int (nI tn), .ref e0, .ref e1, .ref e2, .ref e3, .ref e4, .ref e5])), (e4, .inl (cA, 62, .inl x0))] s.heap ∧ va_D A [(mo, .inr (4, [.int (nI th), .int (nI n), .int (nI gu), .int (nI tn), .ref e0, .ref e1, .ref e2, .ref e3, .ref e4, .ref e5])), (e4, .inl (cA, 62, .inl x0))] := by
                intro x0 h0; subst h0; exact ⟨hP, hD⟩
              obtain ⟨hP, hD⟩ := hw31 (znw dy pu wa iv (zup gh r (z_gb (zb dy) (wa r) (iv r) (gh r))) tf) (show (znw dy pu wa iv (zup gh r (z_gb (zb dy) (wa r) (iv r) (gh r))) tf) = znw dy pu wa iv gh tf from by (refine znw_cg rfl rfl rfl ?_ rfl; first | exact zup_eq _ (by unfold z_gb; (repeat' split) <;> omega) | exact congrArg (zup _ _) (by unfold z_gb; (repeat' split) <;> omega) | (rw [zup_up]; exact congrArg (zup _ _) (by unfold z_gb; (repeat' split) <;> omega))))
              exact W.vret hx hb hr (fun t ht hW => ⟨⟨(), rfl, trivial, by rw [ht]; exact hP, hD⟩, hS.F ht⟩) hS.2.2 dX5_haunt_81
            · skip
              replace c_30 := (zz_eq0 (by first | omega | (split <;> omega))).mp c_30
              replace c_30 : ¬ 0 < wa r := fun q => by rw [if_pos q] at c_30; first | exact absurd c_30 (by decide) | exact c_30 (by decide)
              refine lv_aload_n hx hb dX5_haunt_72 rfl (lv_at hl 1 rfl) ?_
              refine lv_iload_n hx hb dX5_haunt_73 rfl (lv_at hl 2 rfl) ?_
              refine lv_iconst (v := nI 2) hx hb dX5_haunt_74 (by decide) ?_
              refine lv_iload_n hx hb dX5_haunt_75 rfl (lv_at hl 0 rfl) ?_
              refine lv_iconst (v := nI 1) hx hb dX5_haunt_76 (by decide) ?_
              refine lv_isub hx hb dX5_haunt_77 ?_
              refine zz_top (pk_sub (by first | omega | (split <;> omega))) ?_
              have hPc := hP.sub (ws' := [(mo, .inr (4, [.int (nI th), .int (nI n), .int (nI gu), .int (nI tn), .ref e0, .ref e1, .ref e2, .ref e3, .ref e4, .ref e5])), (e4, .inl (cA, 62, .inl (znw dy pu wa iv gh tf)))]) [0, 1] rfl
              have hDc := hD.sub (ws' := [(mo, .inr (4, [.int (nI th), .int (nI n), .int (nI gu), .int (nI tn), .ref e0, .ref e1, .ref e2, .ref e3, .ref e4, .ref e5])), (e4, .inl (cA, 62, .inl (znw dy pu wa iv gh tf)))]) [0, 1] (by decide) rfl
              have hFc := va_free (wc := [(mo, .inr (4, [.int (nI th), .int (nI n), .int (nI gu), .int (nI tn), .ref e0, .ref e1, .ref e2, .ref e3, .ref e4, .ref e5])), (e4, .inl (cA, 62, .inl (znw dy pu wa iv gh tf)))]) hD hS hA [0, 1] rfl
              refine va_callv (va_runV (As := [.int (nI r),.int (nI 2),.int (nI ((gh r) - 1))]) (rest := []) ⟨hx, hb, hml, hown, hts⟩ (c_let2 l dC dI cA mo e0 e1 e2 e3 e4 e5 th n gu tn dy pu wa iv gh tf r ((gh r) - 1) s.heap.size (by first | assumption | omega)) (cwV 3 hts gX5_haunt_X5_let rfl rfl rfl (by decide +kernel) ⟨Nat.le_of_ble_eq_true rfl, Nat.le_of_ble_eq_true rfl⟩) ⟨fun a U g mk q => by obtain ⟨q0, q1, qP, qK, qD⟩ := q; exact ⟨q0, q1, qP, va_K.moved (u := U) (U := U.calling g mk a) (Vm.Alike.refl U.vm) qK, qD⟩, va_recv hK hP (ci := 4) (q0 := 0) rfl rfl, fun U hU hW => ⟨rfl, by rw [hU], by rw [hU]; exact hPc, va_K.moved hW.alike hK, hDc.weaken (fun _ _ _ _ => trivial)⟩⟩ rfl rfl hl.1 rfl (lv_room (Nat.le_of_ble_eq_true rfl)) dX5_haunt_78 ⟨Nat.le_of_ble_eq_true rfl, Nat.le_of_ble_eq_true rfl⟩) hS (fun q _ h => hFc q h) hFc (fun u t H1 locs ht hvm hw_32 hB hz1 hk1 hS => ?_)
              obtain ⟨hP1, hD1⟩ := hB
              rw [ht] at hP1
              obtain ⟨hP, hD⟩ := va_join (wr := []) (w1 := [(mo, .inr (4, [.int (nI th), .int (nI n), .int (nI gu), .int (nI tn), .ref e0, .ref e1, .ref e2, .ref e3, .ref e4, .ref e5])), (e4, .inl (cA, 62, .inl (znw dy pu wa iv (zup gh r ((gh r) - 1)) tf)))]) hP hD [0, 1] [] rfl rfl (by decide) (by decide) hk1 hFc hP1 hD1
              generalize H1 = H at hP hS ⊢
              have hP : va_P (dC, dI) vwCl [(mo, .inr (4, [.int (nI th), .int (nI n), .int (nI gu), .int (nI tn), .ref e0, .ref e1, .ref e2, .ref e3, .ref e4, .ref e5])), (e4, .inl (cA, 62, .inl (znw dy pu wa iv (zup gh r ((gh r) - 1)) tf)))] H := hP
              have hD : va_D A [(mo, .inr (4, [.int (nI th), .int (nI n), .int (nI gu), .int (nI tn), .ref e0, .ref e1, .ref e2, .ref e3, .ref e4, .ref e5])), (e4, .inl (cA, 62, .inl (znw dy pu wa iv (zup gh r ((gh r) - 1)) tf)))] := hD
              have hw33 : ∀ (x0 : Nat → Int32), x0 = znw dy pu wa iv (zup gh r ((gh r) - 1)) tf → va_P (dC, dI) vwCl [(mo, .inr (4, [.int (nI th), .int (nI n), .int (nI gu), .int (nI tn), .ref e0, .ref e1, .ref e2, .ref e3, .ref e4, .ref e5])), (e4, .inl (cA, 62, .inl x0))] H ∧ va_D A [(mo, .inr (4, [.int (nI th), .int (nI n), .int (nI gu), .int (nI tn), .ref e0, .ref e1, .ref e2, .ref e3, .ref e4, .ref e5])), (e4, .inl (cA, 62, .inl x0))] := by
                intro x0 h0; subst h0; exact ⟨hP, hD⟩
              obtain ⟨hP, hD⟩ := hw33 (znw dy pu wa iv (zup gh r (z_gb (zb dy) (wa r) (iv r) (gh r))) tf) (show (znw dy pu wa iv (zup gh r (z_gb (zb dy) (wa r) (iv r) (gh r))) tf) = znw dy pu wa iv (zup gh r ((gh r) - 1)) tf from by (refine znw_cg rfl rfl rfl ?_ rfl; first | exact zup_eq _ (by unfold z_gb; (repeat' split) <;> omega) | exact congrArg (zup _ _) (by unfold z_gb; (repeat' split) <;> omega) | (rw [zup_up]; exact congrArg (zup _ _) (by unfold z_gb; (repeat' split) <;> omega))))
              exact W.vret hx hb hr (fun t ht hW => ⟨⟨(), rfl, trivial, by rw [ht]; exact hP, hD⟩, hS.F ht⟩) hS.2.2 dX5_haunt_81
    · skip
      replace c_19 := mt (zz_eq0 (by first | omega | (split <;> omega))).mpr c_19
      replace c_19 : 0 < wa r := Decidable.byContradiction fun q => by rw [if_neg q] at c_19; first | exact absurd c_19 (by decide) | exact c_19 rfl
      refine lv_aload_n hx hb dX5_haunt_23 rfl (lv_at hl 1 rfl) ?_
      refine lv_iload_n hx hb dX5_haunt_24 rfl (lv_at hl 2 rfl) ?_
      have hPc := hP.sub (ws' := [(mo, .inr (4, [.int (nI th), .int (nI n), .int (nI gu), .int (nI tn), .ref e0, .ref e1, .ref e2, .ref e3, .ref e4, .ref e5])), (e4, .inl (cA, 62, .inl (znw dy pu wa iv gh tf)))]) [0, 1] rfl
      refine vp_callSi (W.runV (As := [.int (nI r)]) (rest := []) ⟨hx, hb, hml, hown, hts⟩ (c_X5_grade l dC dI cA mo e0 e1 e2 e3 e4 e5 th n gu tn dy pu wa iv gh tf r (by first | assumption | omega) (by first | assumption | omega)) (cwV 1 hts gX5_haunt_X5_grade rfl rfl rfl (by decide +kernel) ⟨Nat.le_of_ble_eq_true rfl, Nat.le_of_ble_eq_true rfl⟩) ⟨fun a U g mk q => by obtain ⟨q0, qP, qK⟩ := q; exact ⟨q0, qP, va_K.moved (u := U) (U := U.calling g mk a) (Vm.Alike.refl U.vm) qK⟩, va_recv hK hP (ci := 4) (q0 := 0) rfl rfl, fun U hU hW => ⟨rfl, by rw [hU]; exact hPc, va_K.moved hW.alike hK⟩⟩ rfl rfl hl.1 rfl (lv_room (Nat.le_of_ble_eq_true rfl)) dX5_haunt_25 ⟨Nat.le_of_ble_eq_true rfl, Nat.le_of_ble_eq_true rfl⟩) (fun r_34 hw_34 => ?_)
      subst hw_34
      refine lv_iconst (v := nI 3) hx hb dX5_haunt_28 (by decide) ?_
      refine lv_icmp_ne (tgt := 45) hx hb dX5_haunt_29 (by decide) (fun c_35 => ?_) (fun c_35 => ?_)
      · skip
        replace c_35 := mt (nI_eq (by first | omega | (split <;> omega)) (by first | omega | (split <;> omega))).mpr c_35
        refine lv_aload_n hx hb dX5_haunt_45 rfl (lv_at hl 1 rfl) ?_
        have hPc := hP.sub (ws' := [(mo, .inr (4, [.int (nI th), .int (nI n), .int (nI gu), .int (nI tn), .ref e0, .ref e1, .ref e2, .ref e3, .ref e4, .ref e5])), (e4, .inl (cA, 62, .inl (znw dy pu wa iv gh tf)))]) [0, 1] rfl
        refine vp_callSi (W.runV (As := []) (rest := []) ⟨hx, hb, hml, hown, hts⟩ (c_X5_light l dC dI cA mo e0 e1 e2 e3 e4 e5 th n gu tn dy pu wa iv gh tf (by first | assumption | omega)) (cwV 0 hts gX5_haunt_X5_light rfl rfl rfl (by decide +kernel) ⟨Nat.le_of_ble_eq_true rfl, Nat.le_of_ble_eq_true rfl⟩) ⟨fun a U g mk q => by obtain ⟨q0, qP, qK⟩ := q; exact ⟨q0, qP, va_K.moved (u := U) (U := U.calling g mk a) (Vm.Alike.refl U.vm) qK⟩, va_recv hK hP (ci := 4) (q0 := 0) rfl rfl, fun U hU hW => ⟨rfl, by rw [hU]; exact hPc, va_K.moved hW.alike hK⟩⟩ rfl rfl hl.1 rfl (lv_room (Nat.le_of_ble_eq_true rfl)) dX5_haunt_46 ⟨Nat.le_of_ble_eq_true rfl, Nat.le_of_ble_eq_true rfl⟩) (fun r_36 hw_36 => ?_)
        subst hw_36
        refine lv_if_ne (tgt := 81) hx hb dX5_haunt_49 (by decide) (fun c_37 => ?_) (fun c_37 => ?_)
        · skip
          replace c_37 := mt (zz_eq0 (by first | omega | (split <;> omega))).mpr c_37
          have hw38 : ∀ (x0 : Nat → Int32), x0 = znw dy pu wa iv gh tf → va_P (dC, dI) vwCl [(mo, .inr (4, [.int (nI th), .int (nI n), .int (nI gu), .int (nI tn), .ref e0, .ref e1, .ref e2, .ref e3, .ref e4, .ref e5])), (e4, .inl (cA, 62, .inl x0))] s.heap ∧ va_D A [(mo, .inr (4, [.int (nI th), .int (nI n), .int (nI gu), .int (nI tn), .ref e0, .ref e1, .ref e2, .ref e3, .ref e4, .ref e5])), (e4, .inl (cA, 62, .inl x0))] := by
            intro x0 h0; subst h0; exact ⟨hP, hD⟩
          obtain ⟨hP, hD⟩ := hw38 (znw dy pu wa iv (zup gh r (z_gb (zb dy) (wa r) (iv r) (gh r))) tf) (show (znw dy pu wa iv (zup gh r (z_gb (zb dy) (wa r) (iv r) (gh r))) tf) = znw dy pu wa iv gh tf from by (refine znw_cg rfl rfl rfl ?_ rfl; first | exact zup_eq _ (by unfold z_gb; (repeat' split) <;> omega) | exact congrArg (zup _ _) (by unfold z_gb; (repeat' split) <;> omega) | (rw [zup_up]; exact congrArg (zup _ _) (by unfold z_gb; (repeat' split) <;> omega))))
          exact W.vret hx hb hr (fun t ht hW => ⟨⟨(), rfl, trivial, by rw [ht]; exact hP, hD⟩, hS.F ht⟩) hS.2.2 dX5_haunt_81
        · skip
          replace c_37 := (zz_eq0 (by first | omega | (split <;> omega))).mp c_37
          refine lv_iload_n hx hb dX5_haunt_52 rfl (lv_at hl 0 rfl) ?_
          refine lv_if_le (tgt := 81) hx hb dX5_haunt_53 (by decide) (fun c_39 => ?_) (fun c_39 => ?_)
          · skip
            replace c_39 := (zz_lez (by first | omega | (split <;> omega))).mp c_39
            have hw40 : ∀ (x0 : Nat → Int32), x0 = znw dy pu wa iv gh tf → va_P (dC, dI) vwCl [(mo, .inr (4, [.int (nI th), .int (nI n), .int (nI gu), .int (nI tn), .ref e0, .ref e1, .ref e2, .ref e3, .ref e4, .ref e5])), (e4, .inl (cA, 62, .inl x0))] s.heap ∧ va_D A [(mo, .inr (4, [.int (nI th), .int (nI n), .int (nI gu), .int (nI tn), .ref e0, .ref e1, .ref e2, .ref e3, .ref e4, .ref e5])), (e4, .inl (cA, 62, .inl x0))] := by
              intro x0 h0; subst h0; exact ⟨hP, hD⟩
            obtain ⟨hP, hD⟩ := hw40 (znw dy pu wa iv (zup gh r (z_gb (zb dy) (wa r) (iv r) (gh r))) tf) (show (znw dy pu wa iv (zup gh r (z_gb (zb dy) (wa r) (iv r) (gh r))) tf) = znw dy pu wa iv gh tf from by (refine znw_cg rfl rfl rfl ?_ rfl; first | exact zup_eq _ (by unfold z_gb; (repeat' split) <;> omega) | exact congrArg (zup _ _) (by unfold z_gb; (repeat' split) <;> omega) | (rw [zup_up]; exact congrArg (zup _ _) (by unfold z_gb; (repeat' split) <;> omega))))
            exact W.vret hx hb hr (fun t ht hW => ⟨⟨(), rfl, trivial, by rw [ht]; exact hP, hD⟩, hS.F ht⟩) hS.2.2 dX5_haunt_81
          · skip
            replace c_39 := mt (zz_lez (by first | omega | (split <;> omega))).mpr c_39
            refine lv_aload_n hx hb dX5_haunt_56 rfl (lv_at hl 1 rfl) ?_
            refine lv_iload_n hx hb dX5_haunt_57 rfl (lv_at hl 2 rfl) ?_
            have hPc := hP.sub (ws' := [(mo, .inr (4, [.int (nI th), .int (nI n), .int (nI gu), .int (nI tn), .ref e0, .ref e1, .ref e2, .ref e3, .ref e4, .ref e5])), (e4, .inl (cA, 62, .inl (znw dy pu wa iv gh tf)))]) [0, 1] rfl
            refine vp_callSi (W.runV (As := [.int (nI r)]) (rest := []) ⟨hx, hb, hml, hown, hts⟩ (c_X5_grade l dC dI cA mo e0 e1 e2 e3 e4 e5 th n gu tn dy pu wa iv gh tf r (by first | assumption | omega) (by first | assumption | omega)) (cwV 1 hts gX5_haunt_X5_grade rfl rfl rfl (by decide +kernel) ⟨Nat.le_of_ble_eq_true rfl, Nat.le_of_ble_eq_true rfl⟩) ⟨fun a U g mk q => by obtain ⟨q0, qP, qK⟩ := q; exact ⟨q0, qP, va_K.moved (u := U) (U := U.calling g mk a) (Vm.Alike.refl U.vm) qK⟩, va_recv hK hP (ci := 4) (q0 := 0) rfl rfl, fun U hU hW => ⟨rfl, by rw [hU]; exact hPc, va_K.moved hW.alike hK⟩⟩ rfl rfl hl.1 rfl (lv_room (Nat.le_of_ble_eq_true rfl)) dX5_haunt_58 ⟨Nat.le_of_ble_eq_true rfl, Nat.le_of_ble_eq_true rfl⟩) (fun r_41 hw_41 => ?_)
            subst hw_41
            refine lv_if_eq (tgt := 72) hx hb dX5_haunt_61 (by decide) (fun c_42 => ?_) (fun c_42 => ?_)
            · skip
              replace c_42 := (zz_eq0 (by first | omega | (split <;> omega))).mp c_42
              refine lv_aload_n hx hb dX5_haunt_72 rfl (lv_at hl 1 rfl) ?_
              refine lv_iload_n hx hb dX5_haunt_73 rfl (lv_at hl 2 rfl) ?_
              refine lv_iconst (v := nI 2) hx hb dX5_haunt_74 (by decide) ?_
              refine lv_iload_n hx hb dX5_haunt_75 rfl (lv_at hl 0 rfl) ?_
              refine lv_iconst (v := nI 1) hx hb dX5_haunt_76 (by decide) ?_
              refine lv_isub hx hb dX5_haunt_77 ?_
              refine zz_top (pk_sub (by first | omega | (split <;> omega))) ?_
              have hPc := hP.sub (ws' := [(mo, .inr (4, [.int (nI th), .int (nI n), .int (nI gu), .int (nI tn), .ref e0, .ref e1, .ref e2, .ref e3, .ref e4, .ref e5])), (e4, .inl (cA, 62, .inl (znw dy pu wa iv gh tf)))]) [0, 1] rfl
              have hDc := hD.sub (ws' := [(mo, .inr (4, [.int (nI th), .int (nI n), .int (nI gu), .int (nI tn), .ref e0, .ref e1, .ref e2, .ref e3, .ref e4, .ref e5])), (e4, .inl (cA, 62, .inl (znw dy pu wa iv gh tf)))]) [0, 1] (by decide) rfl
              have hFc := va_free (wc := [(mo, .inr (4, [.int (nI th), .int (nI n), .int (nI gu), .int (nI tn), .ref e0, .ref e1, .ref e2, .ref e3, .ref e4, .ref e5])), (e4, .inl (cA, 62, .inl (znw dy pu wa iv gh tf)))]) hD hS hA [0, 1] rfl
              refine va_callv (va_runV (As := [.int (nI r),.int (nI 2),.int (nI ((gh r) - 1))]) (rest := []) ⟨hx, hb, hml, hown, hts⟩ (c_let2 l dC dI cA mo e0 e1 e2 e3 e4 e5 th n gu tn dy pu wa iv gh tf r ((gh r) - 1) s.heap.size (by first | assumption | omega)) (cwV 3 hts gX5_haunt_X5_let rfl rfl rfl (by decide +kernel) ⟨Nat.le_of_ble_eq_true rfl, Nat.le_of_ble_eq_true rfl⟩) ⟨fun a U g mk q => by obtain ⟨q0, q1, qP, qK, qD⟩ := q; exact ⟨q0, q1, qP, va_K.moved (u := U) (U := U.calling g mk a) (Vm.Alike.refl U.vm) qK, qD⟩, va_recv hK hP (ci := 4) (q0 := 0) rfl rfl, fun U hU hW => ⟨rfl, by rw [hU], by rw [hU]; exact hPc, va_K.moved hW.alike hK, hDc.weaken (fun _ _ _ _ => trivial)⟩⟩ rfl rfl hl.1 rfl (lv_room (Nat.le_of_ble_eq_true rfl)) dX5_haunt_78 ⟨Nat.le_of_ble_eq_true rfl, Nat.le_of_ble_eq_true rfl⟩) hS (fun q _ h => hFc q h) hFc (fun u t H1 locs ht hvm hw_43 hB hz1 hk1 hS => ?_)
              obtain ⟨hP1, hD1⟩ := hB
              rw [ht] at hP1
              obtain ⟨hP, hD⟩ := va_join (wr := []) (w1 := [(mo, .inr (4, [.int (nI th), .int (nI n), .int (nI gu), .int (nI tn), .ref e0, .ref e1, .ref e2, .ref e3, .ref e4, .ref e5])), (e4, .inl (cA, 62, .inl (znw dy pu wa iv (zup gh r ((gh r) - 1)) tf)))]) hP hD [0, 1] [] rfl rfl (by decide) (by decide) hk1 hFc hP1 hD1
              generalize H1 = H at hP hS ⊢
              have hP : va_P (dC, dI) vwCl [(mo, .inr (4, [.int (nI th), .int (nI n), .int (nI gu), .int (nI tn), .ref e0, .ref e1, .ref e2, .ref e3, .ref e4, .ref e5])), (e4, .inl (cA, 62, .inl (znw dy pu wa iv (zup gh r ((gh r) - 1)) tf)))] H := hP
              have hD : va_D A [(mo, .inr (4, [.int (nI th), .int (nI n), .int (nI gu), .int (nI tn), .ref e0, .ref e1, .ref e2, .ref e3, .ref e4, .ref e5])), (e4, .inl (cA, 62, .inl (znw dy pu wa iv (zup gh r ((gh r) - 1)) tf)))] := hD
              have hw44 : ∀ (x0 : Nat → Int32), x0 = znw dy pu wa iv (zup gh r ((gh r) - 1)) tf → va_P (dC, dI) vwCl [(mo, .inr (4, [.int (nI th), .int (nI n), .int (nI gu), .int (nI tn), .ref e0, .ref e1, .ref e2, .ref e3, .ref e4, .ref e5])), (e4, .inl (cA, 62, .inl x0))] H ∧ va_D A [(mo, .inr (4, [.int (nI th), .int (nI n), .int (nI gu), .int (nI tn), .ref e0, .ref e1, .ref e2, .ref e3, .ref e4, .ref e5])), (e4, .inl (cA, 62, .inl x0))] := by
                intro x0 h0; subst h0; exact ⟨hP, hD⟩
              obtain ⟨hP, hD⟩ := hw44 (znw dy pu wa iv (zup gh r (z_gb (zb dy) (wa r) (iv r) (gh r))) tf) (show (znw dy pu wa iv (zup gh r (z_gb (zb dy) (wa r) (iv r) (gh r))) tf) = znw dy pu wa iv (zup gh r ((gh r) - 1)) tf from by (refine znw_cg rfl rfl rfl ?_ rfl; first | exact zup_eq _ (by unfold z_gb; (repeat' split) <;> omega) | exact congrArg (zup _ _) (by unfold z_gb; (repeat' split) <;> omega) | (rw [zup_up]; exact congrArg (zup _ _) (by unfold z_gb; (repeat' split) <;> omega))))
              exact W.vret hx hb hr (fun t ht hW => ⟨⟨(), rfl, trivial, by rw [ht]; exact hP, hD⟩, hS.F ht⟩) hS.2.2 dX5_haunt_81
            · skip
              replace c_42 := mt (zz_eq0 (by first | omega | (split <;> omega))).mpr c_42
              refine lv_aload_n hx hb dX5_haunt_64 rfl (lv_at hl 1 rfl) ?_
              refine lv_iload_n hx hb dX5_haunt_65 rfl (lv_at hl 2 rfl) ?_
              have hPc := hP.sub (ws' := [(mo, .inr (4, [.int (nI th), .int (nI n), .int (nI gu), .int (nI tn), .ref e0, .ref e1, .ref e2, .ref e3, .ref e4, .ref e5])), (e4, .inl (cA, 62, .inl (znw dy pu wa iv gh tf)))]) [0, 1] rfl
              refine vp_callSi (W.runV (As := [.int (nI r)]) (rest := []) ⟨hx, hb, hml, hown, hts⟩ (c_X5_stands l dC dI cA mo e0 e1 e2 e3 e4 e5 th n gu tn dy pu wa iv gh tf r (by first | assumption | omega) (by first | assumption | omega)) (cwV 1 hts gX5_haunt_X5_stands rfl rfl rfl (by decide +kernel) ⟨Nat.le_of_ble_eq_true rfl, Nat.le_of_ble_eq_true rfl⟩) ⟨fun a U g mk q => by obtain ⟨q0, qP, qK⟩ := q; exact ⟨q0, qP, va_K.moved (u := U) (U := U.calling g mk a) (Vm.Alike.refl U.vm) qK⟩, va_recv hK hP (ci := 4) (q0 := 0) rfl rfl, fun U hU hW => ⟨rfl, by rw [hU]; exact hPc, va_K.moved hW.alike hK⟩⟩ rfl rfl hl.1 rfl (lv_room (Nat.le_of_ble_eq_true rfl)) dX5_haunt_66 ⟨Nat.le_of_ble_eq_true rfl, Nat.le_of_ble_eq_true rfl⟩) (fun r_45 hw_45 => ?_)
              subst hw_45
              refine lv_if_ne (tgt := 81) hx hb dX5_haunt_69 (by decide) (fun c_46 => ?_) (fun c_46 => ?_)
              · skip
                replace c_46 := mt (zz_eq0 (by first | omega | (split <;> omega))).mpr c_46
                replace c_46 : 0 < wa r := Decidable.byContradiction fun q => by rw [if_neg q] at c_46; first | exact absurd c_46 (by decide) | exact c_46 rfl
                have hw47 : ∀ (x0 : Nat → Int32), x0 = znw dy pu wa iv gh tf → va_P (dC, dI) vwCl [(mo, .inr (4, [.int (nI th), .int (nI n), .int (nI gu), .int (nI tn), .ref e0, .ref e1, .ref e2, .ref e3, .ref e4, .ref e5])), (e4, .inl (cA, 62, .inl x0))] s.heap ∧ va_D A [(mo, .inr (4, [.int (nI th), .int (nI n), .int (nI gu), .int (nI tn), .ref e0, .ref e1, .ref e2, .ref e3, .ref e4, .ref e5])), (e4, .inl (cA, 62, .inl x0))] := by
                  intro x0 h0; subst h0; exact ⟨hP, hD⟩
                obtain ⟨hP, hD⟩ := hw47 (znw dy pu wa iv (zup gh r (z_gb (zb dy) (wa r) (iv r) (gh r))) tf) (show (znw dy pu wa iv (zup gh r (z_gb (zb dy) (wa r) (iv r) (gh r))) tf) = znw dy pu wa iv gh tf from by (refine znw_cg rfl rfl rfl ?_ rfl; first | exact zup_eq _ (by unfold z_gb; (repeat' split) <;> omega) | exact congrArg (zup _ _) (by unfold z_gb; (repeat' split) <;> omega) | (rw [zup_up]; exact congrArg (zup _ _) (by unfold z_gb; (repeat' split) <;> omega))))
                exact W.vret hx hb hr (fun t ht hW => ⟨⟨(), rfl, trivial, by rw [ht]; exact hP, hD⟩, hS.F ht⟩) hS.2.2 dX5_haunt_81
              · skip
                replace c_46 := (zz_eq0 (by first | omega | (split <;> omega))).mp c_46
                replace c_46 : ¬ 0 < wa r := fun q => by rw [if_pos q] at c_46; first | exact absurd c_46 (by decide) | exact c_46 (by decide)
                refine lv_aload_n hx hb dX5_haunt_72 rfl (lv_at hl 1 rfl) ?_
                refine lv_iload_n hx hb dX5_haunt_73 rfl (lv_at hl 2 rfl) ?_
                refine lv_iconst (v := nI 2) hx hb dX5_haunt_74 (by decide) ?_
                refine lv_iload_n hx hb dX5_haunt_75 rfl (lv_at hl 0 rfl) ?_
                refine lv_iconst (v := nI 1) hx hb dX5_haunt_76 (by decide) ?_
                refine lv_isub hx hb dX5_haunt_77 ?_
                refine zz_top (pk_sub (by first | omega | (split <;> omega))) ?_
                have hPc := hP.sub (ws' := [(mo, .inr (4, [.int (nI th), .int (nI n), .int (nI gu), .int (nI tn), .ref e0, .ref e1, .ref e2, .ref e3, .ref e4, .ref e5])), (e4, .inl (cA, 62, .inl (znw dy pu wa iv gh tf)))]) [0, 1] rfl
                have hDc := hD.sub (ws' := [(mo, .inr (4, [.int (nI th), .int (nI n), .int (nI gu), .int (nI tn), .ref e0, .ref e1, .ref e2, .ref e3, .ref e4, .ref e5])), (e4, .inl (cA, 62, .inl (znw dy pu wa iv gh tf)))]) [0, 1] (by decide) rfl
                have hFc := va_free (wc := [(mo, .inr (4, [.int (nI th), .int (nI n), .int (nI gu), .int (nI tn), .ref e0, .ref e1, .ref e2, .ref e3, .ref e4, .ref e5])), (e4, .inl (cA, 62, .inl (znw dy pu wa iv gh tf)))]) hD hS hA [0, 1] rfl
                refine va_callv (va_runV (As := [.int (nI r),.int (nI 2),.int (nI ((gh r) - 1))]) (rest := []) ⟨hx, hb, hml, hown, hts⟩ (c_let2 l dC dI cA mo e0 e1 e2 e3 e4 e5 th n gu tn dy pu wa iv gh tf r ((gh r) - 1) s.heap.size (by first | assumption | omega)) (cwV 3 hts gX5_haunt_X5_let rfl rfl rfl (by decide +kernel) ⟨Nat.le_of_ble_eq_true rfl, Nat.le_of_ble_eq_true rfl⟩) ⟨fun a U g mk q => by obtain ⟨q0, q1, qP, qK, qD⟩ := q; exact ⟨q0, q1, qP, va_K.moved (u := U) (U := U.calling g mk a) (Vm.Alike.refl U.vm) qK, qD⟩, va_recv hK hP (ci := 4) (q0 := 0) rfl rfl, fun U hU hW => ⟨rfl, by rw [hU], by rw [hU]; exact hPc, va_K.moved hW.alike hK, hDc.weaken (fun _ _ _ _ => trivial)⟩⟩ rfl rfl hl.1 rfl (lv_room (Nat.le_of_ble_eq_true rfl)) dX5_haunt_78 ⟨Nat.le_of_ble_eq_true rfl, Nat.le_of_ble_eq_true rfl⟩) hS (fun q _ h => hFc q h) hFc (fun u t H1 locs ht hvm hw_48 hB hz1 hk1 hS => ?_)
                obtain ⟨hP1, hD1⟩ := hB
                rw [ht] at hP1
                obtain ⟨hP, hD⟩ := va_join (wr := []) (w1 := [(mo, .inr (4, [.int (nI th), .int (nI n), .int (nI gu), .int (nI tn), .ref e0, .ref e1, .ref e2, .ref e3, .ref e4, .ref e5])), (e4, .inl (cA, 62, .inl (znw dy pu wa iv (zup gh r ((gh r) - 1)) tf)))]) hP hD [0, 1] [] rfl rfl (by decide) (by decide) hk1 hFc hP1 hD1
                generalize H1 = H at hP hS ⊢
                have hP : va_P (dC, dI) vwCl [(mo, .inr (4, [.int (nI th), .int (nI n), .int (nI gu), .int (nI tn), .ref e0, .ref e1, .ref e2, .ref e3, .ref e4, .ref e5])), (e4, .inl (cA, 62, .inl (znw dy pu wa iv (zup gh r ((gh r) - 1)) tf)))] H := hP
                have hD : va_D A [(mo, .inr (4, [.int (nI th), .int (nI n), .int (nI gu), .int (nI tn), .ref e0, .ref e1, .ref e2, .ref e3, .ref e4, .ref e5])), (e4, .inl (cA, 62, .inl (znw dy pu wa iv (zup gh r ((gh r) - 1)) tf)))] := hD
                have hw49 : ∀ (x0 : Nat → Int32), x0 = znw dy pu wa iv (zup gh r ((gh r) - 1)) tf → va_P (dC, dI) vwCl [(mo, .inr (4, [.int (nI th), .int (nI n), .int (nI gu), .int (nI tn), .ref e0, .ref e1, .ref e2, .ref e3, .ref e4, .ref e5])), (e4, .inl (cA, 62, .inl x0))] H ∧ va_D A [(mo, .inr (4, [.int (nI th), .int (nI n), .int (nI gu), .int (nI tn), .ref e0, .ref e1, .ref e2, .ref e3, .ref e4, .ref e5])), (e4, .inl (cA, 62, .inl x0))] := by
                  intro x0 h0; subst h0; exact ⟨hP, hD⟩
                obtain ⟨hP, hD⟩ := hw49 (znw dy pu wa iv (zup gh r (z_gb (zb dy) (wa r) (iv r) (gh r))) tf) (show (znw dy pu wa iv (zup gh r (z_gb (zb dy) (wa r) (iv r) (gh r))) tf) = znw dy pu wa iv (zup gh r ((gh r) - 1)) tf from by (refine znw_cg rfl rfl rfl ?_ rfl; first | exact zup_eq _ (by unfold z_gb; (repeat' split) <;> omega) | exact congrArg (zup _ _) (by unfold z_gb; (repeat' split) <;> omega) | (rw [zup_up]; exact congrArg (zup _ _) (by unfold z_gb; (repeat' split) <;> omega))))
                exact W.vret hx hb hr (fun t ht hW => ⟨⟨(), rfl, trivial, by rw [ht]; exact hP, hD⟩, hS.F ht⟩) hS.2.2 dX5_haunt_81
      · skip
        replace c_35 := (nI_eq (by first | omega | (split <;> omega)) (by first | omega | (split <;> omega))).mp c_35
        refine lv_aload_n hx hb dX5_haunt_32 rfl (lv_at hl 1 rfl) ?_
        refine lv_iload_n hx hb dX5_haunt_33 rfl (lv_at hl 2 rfl) ?_
        refine lv_iconst (v := nI 2) hx hb dX5_haunt_34 (by decide) ?_
        refine lv_iconst (v := nI 5) hx hb dX5_haunt_35 (by decide) ?_
        refine lv_iload_n hx hb dX5_haunt_36 rfl (lv_at hl 0 rfl) ?_
        refine lv_iconst (v := nI 1) hx hb dX5_haunt_37 (by decide) ?_
        refine lv_iadd hx hb dX5_haunt_38 ?_
        refine zz_top (nI_add _ _) ?_
        refine va_mmin hx hb (by rw [hml]; exact hl.1.symm) hown (hts (.methodLink RX5 51 Lib.Math.min.name) (List.mem_of_getElem? (i := 1) rfl)) (hts (.static Lib.Math.min.name) (List.mem_of_getElem? (i := 2) rfl)) (hts (.initialized "java/lang/Math") (List.mem_of_getElem? (i := 3) rfl)) (hts (.code Lib.Math.min.name Lib.Math.min.code 2 (some .int)) (List.mem_of_getElem? (i := 4) rfl)) (Nat.le_of_ble_eq_true rfl) (Nat.le_of_ble_eq_true rfl) (Nat.le_of_ble_eq_true rfl) (Nat.le_of_ble_eq_true rfl) dX5_haunt_39 ?_
        refine zz_top (zz_min (by first | omega | (split <;> omega)) (by first | omega | (split <;> omega))) ?_
        have hPc := hP.sub (ws' := [(mo, .inr (4, [.int (nI th), .int (nI n), .int (nI gu), .int (nI tn), .ref e0, .ref e1, .ref e2, .ref e3, .ref e4, .ref e5])), (e4, .inl (cA, 62, .inl (znw dy pu wa iv gh tf)))]) [0, 1] rfl
        have hDc := hD.sub (ws' := [(mo, .inr (4, [.int (nI th), .int (nI n), .int (nI gu), .int (nI tn), .ref e0, .ref e1, .ref e2, .ref e3, .ref e4, .ref e5])), (e4, .inl (cA, 62, .inl (znw dy pu wa iv gh tf)))]) [0, 1] (by decide) rfl
        have hFc := va_free (wc := [(mo, .inr (4, [.int (nI th), .int (nI n), .int (nI gu), .int (nI tn), .ref e0, .ref e1, .ref e2, .ref e3, .ref e4, .ref e5])), (e4, .inl (cA, 62, .inl (znw dy pu wa iv gh tf)))]) hD hS hA [0, 1] rfl
        refine va_callv (va_runV (As := [.int (nI r),.int (nI 2),.int (nI (min 5 ((gh r) + 1)))]) (rest := []) ⟨hx, hb, hml, hown, hts⟩ (c_let2 l dC dI cA mo e0 e1 e2 e3 e4 e5 th n gu tn dy pu wa iv gh tf r (min 5 ((gh r) + 1)) s.heap.size (by first | assumption | omega)) (cwV 3 hts gX5_haunt_X5_let rfl rfl rfl (by decide +kernel) ⟨Nat.le_of_ble_eq_true rfl, Nat.le_of_ble_eq_true rfl⟩) ⟨fun a U g mk q => by obtain ⟨q0, q1, qP, qK, qD⟩ := q; exact ⟨q0, q1, qP, va_K.moved (u := U) (U := U.calling g mk a) (Vm.Alike.refl U.vm) qK, qD⟩, va_recv hK hP (ci := 4) (q0 := 0) rfl rfl, fun U hU hW => ⟨rfl, by rw [hU], by rw [hU]; exact hPc, va_K.moved hW.alike hK, hDc.weaken (fun _ _ _ _ => trivial)⟩⟩ rfl rfl hl.1 rfl (lv_room (Nat.le_of_ble_eq_true rfl)) dX5_haunt_42 ⟨Nat.le_of_ble_eq_true rfl, Nat.le_of_ble_eq_true rfl⟩) hS (fun q _ h => hFc q h) hFc (fun u t H1 locs ht hvm hw_50 hB hz1 hk1 hS => ?_)
        obtain ⟨hP1, hD1⟩ := hB
        rw [ht] at hP1
        obtain ⟨hP, hD⟩ := va_join (wr := []) (w1 := [(mo, .inr (4, [.int (nI th), .int (nI n), .int (nI gu), .int (nI tn), .ref e0, .ref e1, .ref e2, .ref e3, .ref e4, .ref e5])), (e4, .inl (cA, 62, .inl (znw dy pu wa iv (zup gh r (min 5 ((gh r) + 1))) tf)))]) hP hD [0, 1] [] rfl rfl (by decide) (by decide) hk1 hFc hP1 hD1
        generalize H1 = H at hP hS ⊢
        have hP : va_P (dC, dI) vwCl [(mo, .inr (4, [.int (nI th), .int (nI n), .int (nI gu), .int (nI tn), .ref e0, .ref e1, .ref e2, .ref e3, .ref e4, .ref e5])), (e4, .inl (cA, 62, .inl (znw dy pu wa iv (zup gh r (min 5 ((gh r) + 1))) tf)))] H := hP
        have hD : va_D A [(mo, .inr (4, [.int (nI th), .int (nI n), .int (nI gu), .int (nI tn), .ref e0, .ref e1, .ref e2, .ref e3, .ref e4, .ref e5])), (e4, .inl (cA, 62, .inl (znw dy pu wa iv (zup gh r (min 5 ((gh r) + 1))) tf)))] := hD
        refine lv_aload_n hx hb dX5_haunt_45 rfl (lv_at hl 1 rfl) ?_
        have hPc := hP.sub (ws' := [(mo, .inr (4, [.int (nI th), .int (nI n), .int (nI gu), .int (nI tn), .ref e0, .ref e1, .ref e2, .ref e3, .ref e4, .ref e5])), (e4, .inl (cA, 62, .inl (znw dy pu wa iv (zup gh r (min 5 ((gh r) + 1))) tf)))]) [0, 1] rfl
        refine vp_callSi (W.runV (As := []) (rest := []) ⟨hx, hb, hml, hown, hts⟩ (c_X5_light l dC dI cA mo e0 e1 e2 e3 e4 e5 th n gu tn dy pu wa iv (zup gh r (min 5 ((gh r) + 1))) tf (by first | assumption | omega)) (cwV 0 hts gX5_haunt_X5_light rfl rfl rfl (by decide +kernel) ⟨Nat.le_of_ble_eq_true rfl, Nat.le_of_ble_eq_true rfl⟩) ⟨fun a U g mk q => by obtain ⟨q0, qP, qK⟩ := q; exact ⟨q0, qP, va_K.moved (u := U) (U := U.calling g mk a) (Vm.Alike.refl U.vm) qK⟩, va_recv hK hP (ci := 4) (q0 := 0) rfl rfl, fun U hU hW => ⟨rfl, by rw [hU]; exact hPc, va_K.moved hW.alike hK⟩⟩ rfl rfl hl.1 rfl (lv_room (Nat.le_of_ble_eq_true rfl)) dX5_haunt_46 ⟨Nat.le_of_ble_eq_true rfl, Nat.le_of_ble_eq_true rfl⟩) (fun r_51 hw_51 => ?_)
        subst hw_51
        refine lv_if_ne (tgt := 81) hx hb dX5_haunt_49 (by decide) (fun c_52 => ?_) (fun c_52 => ?_)
        · skip
          replace c_52 := mt (zz_eq0 (by first | omega | (split <;> omega))).mpr c_52
          have hw53 : ∀ (x0 : Nat → Int32), x0 = znw dy pu wa iv (zup gh r (min 5 ((gh r) + 1))) tf → va_P (dC, dI) vwCl [(mo, .inr (4, [.int (nI th), .int (nI n), .int (nI gu), .int (nI tn), .ref e0, .ref e1, .ref e2, .ref e3, .ref e4, .ref e5])), (e4, .inl (cA, 62, .inl x0))] H ∧ va_D A [(mo, .inr (4, [.int (nI th), .int (nI n), .int (nI gu), .int (nI tn), .ref e0, .ref e1, .ref e2, .ref e3, .ref e4, .ref e5])), (e4, .inl (cA, 62, .inl x0))] := by
            intro x0 h0; subst h0; exact ⟨hP, hD⟩
          obtain ⟨hP, hD⟩ := hw53 (znw dy pu wa iv (zup gh r (z_gb (zb dy) (wa r) (iv r) (gh r))) tf) (show (znw dy pu wa iv (zup gh r (z_gb (zb dy) (wa r) (iv r) (gh r))) tf) = znw dy pu wa iv (zup gh r (min 5 ((gh r) + 1))) tf from by (refine znw_cg rfl rfl rfl ?_ rfl; first | exact zup_eq _ (by unfold z_gb; (repeat' split) <;> omega) | exact congrArg (zup _ _) (by unfold z_gb; (repeat' split) <;> omega) | (rw [zup_up]; exact congrArg (zup _ _) (by unfold z_gb; (repeat' split) <;> omega))))
          exact W.vret hx hb hr (fun t ht hW => ⟨⟨(), rfl, trivial, by rw [ht]; exact hP, hD⟩, hS.F ht⟩) hS.2.2 dX5_haunt_81
        · skip
          replace c_52 := (zz_eq0 (by first | omega | (split <;> omega))).mp c_52
          refine lv_iload_n hx hb dX5_haunt_52 rfl (lv_at hl 0 rfl) ?_
          refine lv_if_le (tgt := 81) hx hb dX5_haunt_53 (by decide) (fun c_54 => ?_) (fun c_54 => ?_)
          · skip
            replace c_54 := (zz_lez (by first | omega | (split <;> omega))).mp c_54
            have hw55 : ∀ (x0 : Nat → Int32), x0 = znw dy pu wa iv (zup gh r (min 5 ((gh r) + 1))) tf → va_P (dC, dI) vwCl [(mo, .inr (4, [.int (nI th), .int (nI n), .int (nI gu), .int (nI tn), .ref e0, .ref e1, .ref e2, .ref e3, .ref e4, .ref e5])), (e4, .inl (cA, 62, .inl x0))] H ∧ va_D A [(mo, .inr (4, [.int (nI th), .int (nI n), .int (nI gu), .int (nI tn), .ref e0, .ref e1, .ref e2, .ref e3, .ref e4, .ref e5])), (e4, .inl (cA, 62, .inl x0))] := by
              intro x0 h0; subst h0; exact ⟨hP, hD⟩
            obtain ⟨hP, hD⟩ := hw55 (znw dy pu wa iv (zup gh r (z_gb (zb dy) (wa r) (iv r) (gh r))) tf) (show (znw dy pu wa iv (zup gh r (z_gb (zb dy) (wa r) (iv r) (gh r))) tf) = znw dy pu wa iv (zup gh r (min 5 ((gh r) + 1))) tf from by (refine znw_cg rfl rfl rfl ?_ rfl; first | exact zup_eq _ (by unfold z_gb; (repeat' split) <;> omega) | exact congrArg (zup _ _) (by unfold z_gb; (repeat' split) <;> omega) | (rw [zup_up]; exact congrArg (zup _ _) (by unfold z_gb; (repeat' split) <;> omega))))
            exact W.vret hx hb hr (fun t ht hW => ⟨⟨(), rfl, trivial, by rw [ht]; exact hP, hD⟩, hS.F ht⟩) hS.2.2 dX5_haunt_81
          · skip
            replace c_54 := mt (zz_lez (by first | omega | (split <;> omega))).mpr c_54
            refine lv_aload_n hx hb dX5_haunt_56 rfl (lv_at hl 1 rfl) ?_
            refine lv_iload_n hx hb dX5_haunt_57 rfl (lv_at hl 2 rfl) ?_
            have hPc := hP.sub (ws' := [(mo, .inr (4, [.int (nI th), .int (nI n), .int (nI gu), .int (nI tn), .ref e0, .ref e1, .ref e2, .ref e3, .ref e4, .ref e5])), (e4, .inl (cA, 62, .inl (znw dy pu wa iv (zup gh r (min 5 ((gh r) + 1))) tf)))]) [0, 1] rfl
            refine vp_callSi (W.runV (As := [.int (nI r)]) (rest := []) ⟨hx, hb, hml, hown, hts⟩ (c_X5_grade l dC dI cA mo e0 e1 e2 e3 e4 e5 th n gu tn dy pu wa iv (zup gh r (min 5 ((gh r) + 1))) tf r (by first | assumption | omega) (by first | assumption | omega)) (cwV 1 hts gX5_haunt_X5_grade rfl rfl rfl (by decide +kernel) ⟨Nat.le_of_ble_eq_true rfl, Nat.le_of_ble_eq_true rfl⟩) ⟨fun a U g mk q => by obtain ⟨q0, qP, qK⟩ := q; exact ⟨q0, qP, va_K.moved (u := U) (U := U.calling g mk a) (Vm.Alike.refl U.vm) qK⟩, va_recv hK hP (ci := 4) (q0 := 0) rfl rfl, fun U hU hW => ⟨rfl, by rw [hU]; exact hPc, va_K.moved hW.alike hK⟩⟩ rfl rfl hl.1 rfl (lv_room (Nat.le_of_ble_eq_true rfl)) dX5_haunt_58 ⟨Nat.le_of_ble_eq_true rfl, Nat.le_of_ble_eq_true rfl⟩) (fun r_56 hw_56 => ?_)
            subst hw_56
            refine lv_if_eq (tgt := 72) hx hb dX5_haunt_61 (by decide) (fun c_57 => ?_) (fun c_57 => ?_)
            · skip
              replace c_57 := (zz_eq0 (by first | omega | (split <;> omega))).mp c_57
              refine lv_aload_n hx hb dX5_haunt_72 rfl (lv_at hl 1 rfl) ?_
              refine lv_iload_n hx hb dX5_haunt_73 rfl (lv_at hl 2 rfl) ?_
              refine lv_iconst (v := nI 2) hx hb dX5_haunt_74 (by decide) ?_
              refine lv_iload_n hx hb dX5_haunt_75 rfl (lv_at hl 0 rfl) ?_
              refine lv_iconst (v := nI 1) hx hb dX5_haunt_76 (by decide) ?_
              refine lv_isub hx hb dX5_haunt_77 ?_
              refine zz_top (pk_sub (by first | omega | (split <;> omega))) ?_
              have hPc := hP.sub (ws' := [(mo, .inr (4, [.int (nI th), .int (nI n), .int (nI gu), .int (nI tn), .ref e0, .ref e1, .ref e2, .ref e3, .ref e4, .ref e5])), (e4, .inl (cA, 62, .inl (znw dy pu wa iv (zup gh r (min 5 ((gh r) + 1))) tf)))]) [0, 1] rfl
              have hDc := hD.sub (ws' := [(mo, .inr (4, [.int (nI th), .int (nI n), .int (nI gu), .int (nI tn), .ref e0, .ref e1, .ref e2, .ref e3, .ref e4, .ref e5])), (e4, .inl (cA, 62, .inl (znw dy pu wa iv (zup gh r (min 5 ((gh r) + 1))) tf)))]) [0, 1] (by decide) rfl
              have hFc := va_free (wc := [(mo, .inr (4, [.int (nI th), .int (nI n), .int (nI gu), .int (nI tn), .ref e0, .ref e1, .ref e2, .ref e3, .ref e4, .ref e5])), (e4, .inl (cA, 62, .inl (znw dy pu wa iv (zup gh r (min 5 ((gh r) + 1))) tf)))]) hD hS hA [0, 1] rfl
              refine va_callv (va_runV (As := [.int (nI r),.int (nI 2),.int (nI ((gh r) - 1))]) (rest := []) ⟨hx, hb, hml, hown, hts⟩ (c_let2 l dC dI cA mo e0 e1 e2 e3 e4 e5 th n gu tn dy pu wa iv (zup gh r (min 5 ((gh r) + 1))) tf r ((gh r) - 1) H.size (by first | assumption | omega)) (cwV 3 hts gX5_haunt_X5_let rfl rfl rfl (by decide +kernel) ⟨Nat.le_of_ble_eq_true rfl, Nat.le_of_ble_eq_true rfl⟩) ⟨fun a U g mk q => by obtain ⟨q0, q1, qP, qK, qD⟩ := q; exact ⟨q0, q1, qP, va_K.moved (u := U) (U := U.calling g mk a) (Vm.Alike.refl U.vm) qK, qD⟩, va_recv hK hP (ci := 4) (q0 := 0) rfl rfl, fun U hU hW => ⟨rfl, by rw [hU], by rw [hU]; exact hPc, va_K.moved hW.alike hK, hDc.weaken (fun _ _ _ _ => trivial)⟩⟩ rfl rfl hl.1 rfl (lv_room (Nat.le_of_ble_eq_true rfl)) dX5_haunt_78 ⟨Nat.le_of_ble_eq_true rfl, Nat.le_of_ble_eq_true rfl⟩) hS (fun q _ h => hFc q h) hFc (fun u t H1 locs ht hvm hw_58 hB hz1 hk1 hS => ?_)
              obtain ⟨hP1, hD1⟩ := hB
              rw [ht] at hP1
              obtain ⟨hP, hD⟩ := va_join (wr := []) (w1 := [(mo, .inr (4, [.int (nI th), .int (nI n), .int (nI gu), .int (nI tn), .ref e0, .ref e1, .ref e2, .ref e3, .ref e4, .ref e5])), (e4, .inl (cA, 62, .inl (znw dy pu wa iv (zup (zup gh r (min 5 ((gh r) + 1))) r ((gh r) - 1)) tf)))]) hP hD [0, 1] [] rfl rfl (by decide) (by decide) hk1 hFc hP1 hD1
              generalize H1 = H at hP hS ⊢
              have hP : va_P (dC, dI) vwCl [(mo, .inr (4, [.int (nI th), .int (nI n), .int (nI gu), .int (nI tn), .ref e0, .ref e1, .ref e2, .ref e3, .ref e4, .ref e5])), (e4, .inl (cA, 62, .inl (znw dy pu wa iv (zup (zup gh r (min 5 ((gh r) + 1))) r ((gh r) - 1)) tf)))] H := hP
              have hD : va_D A [(mo, .inr (4, [.int (nI th), .int (nI n), .int (nI gu), .int (nI tn), .ref e0, .ref e1, .ref e2, .ref e3, .ref e4, .ref e5])), (e4, .inl (cA, 62, .inl (znw dy pu wa iv (zup (zup gh r (min 5 ((gh r) + 1))) r ((gh r) - 1)) tf)))] := hD
              have hw59 : ∀ (x0 : Nat → Int32), x0 = znw dy pu wa iv (zup (zup gh r (min 5 ((gh r) + 1))) r ((gh r) - 1)) tf → va_P (dC, dI) vwCl [(mo, .inr (4, [.int (nI th), .int (nI n), .int (nI gu), .int (nI tn), .ref e0, .ref e1, .ref e2, .ref e3, .ref e4, .ref e5])), (e4, .inl (cA, 62, .inl x0))] H ∧ va_D A [(mo, .inr (4, [.int (nI th), .int (nI n), .int (nI gu), .int (nI tn), .ref e0, .ref e1, .ref e2, .ref e3, .ref e4, .ref e5])), (e4, .inl (cA, 62, .inl x0))] := by
                intro x0 h0; subst h0; exact ⟨hP, hD⟩
              obtain ⟨hP, hD⟩ := hw59 (znw dy pu wa iv (zup gh r (z_gb (zb dy) (wa r) (iv r) (gh r))) tf) (show (znw dy pu wa iv (zup gh r (z_gb (zb dy) (wa r) (iv r) (gh r))) tf) = znw dy pu wa iv (zup (zup gh r (min 5 ((gh r) + 1))) r ((gh r) - 1)) tf from by (refine znw_cg rfl rfl rfl ?_ rfl; first | exact zup_eq _ (by unfold z_gb; (repeat' split) <;> omega) | exact congrArg (zup _ _) (by unfold z_gb; (repeat' split) <;> omega) | (rw [zup_up]; exact congrArg (zup _ _) (by unfold z_gb; (repeat' split) <;> omega))))
              exact W.vret hx hb hr (fun t ht hW => ⟨⟨(), rfl, trivial, by rw [ht]; exact hP, hD⟩, hS.F ht⟩) hS.2.2 dX5_haunt_81
            · skip
              replace c_57 := mt (zz_eq0 (by first | omega | (split <;> omega))).mpr c_57
              refine lv_aload_n hx hb dX5_haunt_64 rfl (lv_at hl 1 rfl) ?_
              refine lv_iload_n hx hb dX5_haunt_65 rfl (lv_at hl 2 rfl) ?_
              have hPc := hP.sub (ws' := [(mo, .inr (4, [.int (nI th), .int (nI n), .int (nI gu), .int (nI tn), .ref e0, .ref e1, .ref e2, .ref e3, .ref e4, .ref e5])), (e4, .inl (cA, 62, .inl (znw dy pu wa iv (zup gh r (min 5 ((gh r) + 1))) tf)))]) [0, 1] rfl
              refine vp_callSi (W.runV (As := [.int (nI r)]) (rest := []) ⟨hx, hb, hml, hown, hts⟩ (c_X5_stands l dC dI cA mo e0 e1 e2 e3 e4 e5 th n gu tn dy pu wa iv (zup gh r (min 5 ((gh r) + 1))) tf r (by first | assumption | omega) (by first | assumption | omega)) (cwV 1 hts gX5_haunt_X5_stands rfl rfl rfl (by decide +kernel) ⟨Nat.le_of_ble_eq_true rfl, Nat.le_of_ble_eq_true rfl⟩) ⟨fun a U g mk q => by obtain ⟨q0, qP, qK⟩ := q; exact ⟨q0, qP, va_K.moved (u := U) (U := U.calling g mk a) (Vm.Alike.refl U.vm) qK⟩, va_recv hK hP (ci := 4) (q0 := 0) rfl rfl, fun U hU hW => ⟨rfl, by rw [hU]; exact hPc, va_K.moved hW.alike hK⟩⟩ rfl rfl hl.1 rfl (lv_room (Nat.le_of_ble_eq_true rfl)) dX5_haunt_66 ⟨Nat.le_of_ble_eq_true rfl, Nat.le_of_ble_eq_true rfl⟩) (fun r_60 hw_60 => ?_)
              subst hw_60
              refine lv_if_ne (tgt := 81) hx hb dX5_haunt_69 (by decide) (fun c_61 => ?_) (fun c_61 => ?_)
              · skip
                replace c_61 := mt (zz_eq0 (by first | omega | (split <;> omega))).mpr c_61
                replace c_61 : 0 < wa r := Decidable.byContradiction fun q => by rw [if_neg q] at c_61; first | exact absurd c_61 (by decide) | exact c_61 rfl
                have hw62 : ∀ (x0 : Nat → Int32), x0 = znw dy pu wa iv (zup gh r (min 5 ((gh r) + 1))) tf → va_P (dC, dI) vwCl [(mo, .inr (4, [.int (nI th), .int (nI n), .int (nI gu), .int (nI tn), .ref e0, .ref e1, .ref e2, .ref e3, .ref e4, .ref e5])), (e4, .inl (cA, 62, .inl x0))] H ∧ va_D A [(mo, .inr (4, [.int (nI th), .int (nI n), .int (nI gu), .int (nI tn), .ref e0, .ref e1, .ref e2, .ref e3, .ref e4, .ref e5])), (e4, .inl (cA, 62, .inl x0))] := by
                  intro x0 h0; subst h0; exact ⟨hP, hD⟩
                obtain ⟨hP, hD⟩ := hw62 (znw dy pu wa iv (zup gh r (z_gb (zb dy) (wa r) (iv r) (gh r))) tf) (show (znw dy pu wa iv (zup gh r (z_gb (zb dy) (wa r) (iv r) (gh r))) tf) = znw dy pu wa iv (zup gh r (min 5 ((gh r) + 1))) tf from by (refine znw_cg rfl rfl rfl ?_ rfl; first | exact zup_eq _ (by unfold z_gb; (repeat' split) <;> omega) | exact congrArg (zup _ _) (by unfold z_gb; (repeat' split) <;> omega) | (rw [zup_up]; exact congrArg (zup _ _) (by unfold z_gb; (repeat' split) <;> omega))))
                exact W.vret hx hb hr (fun t ht hW => ⟨⟨(), rfl, trivial, by rw [ht]; exact hP, hD⟩, hS.F ht⟩) hS.2.2 dX5_haunt_81
              · skip
                replace c_61 := (zz_eq0 (by first | omega | (split <;> omega))).mp c_61
                replace c_61 : ¬ 0 < wa r := fun q => by rw [if_pos q] at c_61; first | exact absurd c_61 (by decide) | exact c_61 (by decide)
                refine lv_aload_n hx hb dX5_haunt_72 rfl (lv_at hl 1 rfl) ?_
                refine lv_iload_n hx hb dX5_haunt_73 rfl (lv_at hl 2 rfl) ?_
                refine lv_iconst (v := nI 2) hx hb dX5_haunt_74 (by decide) ?_
                refine lv_iload_n hx hb dX5_haunt_75 rfl (lv_at hl 0 rfl) ?_
                refine lv_iconst (v := nI 1) hx hb dX5_haunt_76 (by decide) ?_
                refine lv_isub hx hb dX5_haunt_77 ?_
                refine zz_top (pk_sub (by first | omega | (split <;> omega))) ?_
                have hPc := hP.sub (ws' := [(mo, .inr (4, [.int (nI th), .int (nI n), .int (nI gu), .int (nI tn), .ref e0, .ref e1, .ref e2, .ref e3, .ref e4, .ref e5])), (e4, .inl (cA, 62, .inl (znw dy pu wa iv (zup gh r (min 5 ((gh r) + 1))) tf)))]) [0, 1] rfl
                have hDc := hD.sub (ws' := [(mo, .inr (4, [.int (nI th), .int (nI n), .int (nI gu), .int (nI tn), .ref e0, .ref e1, .ref e2, .ref e3, .ref e4, .ref e5])), (e4, .inl (cA, 62, .inl (znw dy pu wa iv (zup gh r (min 5 ((gh r) + 1))) tf)))]) [0, 1] (by decide) rfl
                have hFc := va_free (wc := [(mo, .inr (4, [.int (nI th), .int (nI n), .int (nI gu), .int (nI tn), .ref e0, .ref e1, .ref e2, .ref e3, .ref e4, .ref e5])), (e4, .inl (cA, 62, .inl (znw dy pu wa iv (zup gh r (min 5 ((gh r) + 1))) tf)))]) hD hS hA [0, 1] rfl
                refine va_callv (va_runV (As := [.int (nI r),.int (nI 2),.int (nI ((gh r) - 1))]) (rest := []) ⟨hx, hb, hml, hown, hts⟩ (c_let2 l dC dI cA mo e0 e1 e2 e3 e4 e5 th n gu tn dy pu wa iv (zup gh r (min 5 ((gh r) + 1))) tf r ((gh r) - 1) H.size (by first | assumption | omega)) (cwV 3 hts gX5_haunt_X5_let rfl rfl rfl (by decide +kernel) ⟨Nat.le_of_ble_eq_true rfl, Nat.le_of_ble_eq_true rfl⟩) ⟨fun a U g mk q => by obtain ⟨q0, q1, qP, qK, qD⟩ := q; exact ⟨q0, q1, qP, va_K.moved (u := U) (U := U.calling g mk a) (Vm.Alike.refl U.vm) qK, qD⟩, va_recv hK hP (ci := 4) (q0 := 0) rfl rfl, fun U hU hW => ⟨rfl, by rw [hU], by rw [hU]; exact hPc, va_K.moved hW.alike hK, hDc.weaken (fun _ _ _ _ => trivial)⟩⟩ rfl rfl hl.1 rfl (lv_room (Nat.le_of_ble_eq_true rfl)) dX5_haunt_78 ⟨Nat.le_of_ble_eq_true rfl, Nat.le_of_ble_eq_true rfl⟩) hS (fun q _ h => hFc q h) hFc (fun u t H1 locs ht hvm hw_63 hB hz1 hk1 hS => ?_)
                obtain ⟨hP1, hD1⟩ := hB
                rw [ht] at hP1
                obtain ⟨hP, hD⟩ := va_join (wr := []) (w1 := [(mo, .inr (4, [.int (nI th), .int (nI n), .int (nI gu), .int (nI tn), .ref e0, .ref e1, .ref e2, .ref e3, .ref e4, .ref e5])), (e4, .inl (cA, 62, .inl (znw dy pu wa iv (zup (zup gh r (min 5 ((gh r) + 1))) r ((gh r) - 1)) tf)))]) hP hD [0, 1] [] rfl rfl (by decide) (by decide) hk1 hFc hP1 hD1
                generalize H1 = H at hP hS ⊢
                have hP : va_P (dC, dI) vwCl [(mo, .inr (4, [.int (nI th), .int (nI n), .int (nI gu), .int (nI tn), .ref e0, .ref e1, .ref e2, .ref e3, .ref e4, .ref e5])), (e4, .inl (cA, 62, .inl (znw dy pu wa iv (zup (zup gh r (min 5 ((gh r) + 1))) r ((gh r) - 1)) tf)))] H := hP
                have hD : va_D A [(mo, .inr (4, [.int (nI th), .int (nI n), .int (nI gu), .int (nI tn), .ref e0, .ref e1, .ref e2, .ref e3, .ref e4, .ref e5])), (e4, .inl (cA, 62, .inl (znw dy pu wa iv (zup (zup gh r (min 5 ((gh r) + 1))) r ((gh r) - 1)) tf)))] := hD
                have hw64 : ∀ (x0 : Nat → Int32), x0 = znw dy pu wa iv (zup (zup gh r (min 5 ((gh r) + 1))) r ((gh r) - 1)) tf → va_P (dC, dI) vwCl [(mo, .inr (4, [.int (nI th), .int (nI n), .int (nI gu), .int (nI tn), .ref e0, .ref e1, .ref e2, .ref e3, .ref e4, .ref e5])), (e4, .inl (cA, 62, .inl x0))] H ∧ va_D A [(mo, .inr (4, [.int (nI th), .int (nI n), .int (nI gu), .int (nI tn), .ref e0, .ref e1, .ref e2, .ref e3, .ref e4, .ref e5])), (e4, .inl (cA, 62, .inl x0))] := by
                  intro x0 h0; subst h0; exact ⟨hP, hD⟩
                obtain ⟨hP, hD⟩ := hw64 (znw dy pu wa iv (zup gh r (z_gb (zb dy) (wa r) (iv r) (gh r))) tf) (show (znw dy pu wa iv (zup gh r (z_gb (zb dy) (wa r) (iv r) (gh r))) tf) = znw dy pu wa iv (zup (zup gh r (min 5 ((gh r) + 1))) r ((gh r) - 1)) tf from by (refine znw_cg rfl rfl rfl ?_ rfl; first | exact zup_eq _ (by unfold z_gb; (repeat' split) <;> omega) | exact congrArg (zup _ _) (by unfold z_gb; (repeat' split) <;> omega) | (rw [zup_up]; exact congrArg (zup _ _) (by unfold z_gb; (repeat' split) <;> omega))))
                exact W.vret hx hb hr (fun t ht hW => ⟨⟨(), rfl, trivial, by rw [ht]; exact hP, hD⟩, hS.F ht⟩) hS.2.2 dX5_haunt_81
theorem i_X5_dayOn_X5 : ∀ w ∈ u_ws RX5 TX5 10, w ∈ wsX5_dayOn := by decide +kernel
set_option maxHeartbeats 4000000 in
set_option maxRecDepth 100000 in
theorem c_X5_dayOn (l : Launch) (dC : Nat → ClassId) (dI : Nat → Nat → Nat) (cA : ClassId) (mo : Nat) (e0 : Nat) (e1 : Nat) (e2 : Nat) (e3 : Nat) (e4 : Nat) (e5 : Nat) (th : Nat) (z : ZS) (kp : Nat → Int32) (sz : Nat) (hz : zok z) (hd9 : zdy z < 60000) : Met l yX5_dayOn wsX5_dayOn ({ frames := 6, cells := 0, slots := 0, locals := 134 } : Room) (va_Pc [.ref mo] (fun U => U.heap.size = sz ∧ va_P (dC, dI) vwCl [(mo, .inr (4, [.int (nI th), .int (nI (zn z)), .int (nI (zgu z)), .int (nI (ztn z)), .ref e0, .ref e1, .ref e2, .ref e3, .ref e4, .ref e5])), (e0, .inl (cA, 10, .inl (fun j => nI ((zpr z) j)))), (e1, .inl (cA, 30, .inl (fun j => nI ((ztr z) j)))), (e2, .inl (cA, 30, .inl (fun j => nI ((ztd z) j)))), (e3, .inl (cA, 30, .inl (fun j => nI ((ztp z) j)))), (e4, .inl (cA, 62, .inl (znw (zdy z) (zpu z) (zwa z) (ziv z) (zgh z) (ztf z)))), (e5, .inl (cA, 62, .inl kp))] U.heap ∧ va_K (dC, dI) vwCl [(cA, .int)] U ∧ va_D (fun _ => True) [(mo, .inr (4, [.int (nI th), .int (nI (zn z)), .int (nI (zgu z)), .int (nI (ztn z)), .ref e0, .ref e1, .ref e2, .ref e3, .ref e4, .ref e5])), (e0, .inl (cA, 10, .inl (fun j => nI ((zpr z) j)))), (e1, .inl (cA, 30, .inl (fun j => nI ((ztr z) j)))), (e2, .inl (cA, 30, .inl (fun j => nI ((ztd z) j)))), (e3, .inl (cA, 30, .inl (fun j => nI ((ztp z) j)))), (e4, .inl (cA, 62, .inl (znw (zdy z) (zpu z) (zwa z) (ziv z) (zgh z) (ztf z)))), (e5, .inl (cA, 62, .inl kp))])) (va_Qv (fun _ : Unit => True) (fun (_ : Unit) t => va_P (dC, dI) vwCl [(mo, .inr (4, [.int (nI th), .int (nI (zn (zd1 z))), .int (nI (zgu (zd1 z))), .int (nI (ztn (zd1 z))), .ref e0, .ref e1, .ref e2, .ref e3, .ref e4, .ref e5])), (e0, .inl (cA, 10, .inl (fun j => nI ((zpr (zd1 z)) j)))), (e1, .inl (cA, 30, .inl (fun j => nI ((ztr (zd1 z)) j)))), (e2, .inl (cA, 30, .inl (fun j => nI ((ztd (zd1 z)) j)))), (e3, .inl (cA, 30, .inl (fun j => nI ((ztp (zd1 z)) j)))), (e4, .inl (cA, 62, .inl (znw (zdy (zd1 z)) (zpu (zd1 z)) (zwa (zd1 z)) (ziv (zd1 z)) (zgh (zd1 z)) (ztf (zd1 z))))), (e5, .inl (cA, 62, .inl kp))] t.heap ∧ va_D (va_A [(mo, .inr (4, [.int (nI th), .int (nI (zn z)), .int (nI (zgu z)), .int (nI (ztn z)), .ref e0, .ref e1, .ref e2, .ref e3, .ref e4, .ref e5])), (e0, .inl (cA, 10, .inl (fun j => nI ((zpr z) j)))), (e1, .inl (cA, 30, .inl (fun j => nI ((ztr z) j)))), (e2, .inl (cA, 30, .inl (fun j => nI ((ztd z) j)))), (e3, .inl (cA, 30, .inl (fun j => nI ((ztp z) j)))), (e4, .inl (cA, 62, .inl (znw (zdy z) (zpu z) (zwa z) (ziv z) (zgh z) (ztf z)))), (e5, .inl (cA, 62, .inl kp))] sz) [(mo, .inr (4, [.int (nI th), .int (nI (zn (zd1 z))), .int (nI (zgu (zd1 z))), .int (nI (ztn (zd1 z))), .ref e0, .ref e1, .ref e2, .ref e3, .ref e4, .ref e5])), (e0, .inl (cA, 10, .inl (fun j => nI ((zpr (zd1 z)) j)))), (e1, .inl (cA, 30, .inl (fun j => nI ((ztr (zd1 z)) j)))), (e2, .inl (cA, 30, .inl (fun j => nI ((ztd (zd1 z)) j)))), (e3, .inl (cA, 30, .inl (fun j => nI ((ztp (zd1 z)) j)))), (e4, .inl (cA, 62, .inl (znw (zdy (zd1 z)) (zpu (zd1 z)) (zwa (zd1 z)) (ziv (zd1 z)) (zgh (zd1 z)) (ztf (zd1 z))))), (e5, .inl (cA, 62, .inl kp))]) (va_A [(mo, .inr (4, [.int (nI th), .int (nI (zn z)), .int (nI (zgu z)), .int (nI (ztn z)), .ref e0, .ref e1, .ref e2, .ref e3, .ref e4, .ref e5])), (e0, .inl (cA, 10, .inl (fun j => nI ((zpr z) j)))), (e1, .inl (cA, 30, .inl (fun j => nI ((ztr z) j)))), (e2, .inl (cA, 30, .inl (fun j => nI ((ztd z) j)))), (e3, .inl (cA, 30, .inl (fun j => nI ((ztp z) j)))), (e4, .inl (cA, 62, .inl (znw (zdy z) (zpu z) (zwa z) (ziv z) (zgh z) (ztf z)))), (e5, .inl (cA, 62, .inl kp))] sz)) 0 0 (va_A [(mo, .inr (4, [.int (nI th), .int (nI (zn z)), .int (nI (zgu z)), .int (nI (ztn z)), .ref e0, .ref e1, .ref e2, .ref e3, .ref e4, .ref e5])), (e0, .inl (cA, 10, .inl (fun j => nI ((zpr z) j)))), (e1, .inl (cA, 30, .inl (fun j => nI ((ztr z) j)))), (e2, .inl (cA, 30, .inl (fun j => nI ((ztd z) j)))), (e3, .inl (cA, 30, .inl (fun j => nI ((ztp z) j)))), (e4, .inl (cA, 62, .inl (znw (zdy z) (zpu z) (zwa z) (ziv z) (zgh z) (ztf z)))), (e5, .inl (cA, 62, .inl kp))] sz) := by
  refine Met.ofW (cc := cX5_dayOn) (maxL := 2) (ret := none) (by decide) rfl ?_
  intro p e s m args below meth c s₁ B hml hv
  obtain ⟨hargs, hsz, hP, hK, hD0⟩ := hv
  have hx := B.exec
  have hb := B.bytes
  have hr := B.returns
  have hts := atoms_spec (ws := wsX5_dayOn) B.pre
  have hown : s.vm.findClass RX5 = some m.cls := findClass_of_methodNamed B.named
  have hlocks := B.notSynchronized
  subst hsz
  have hD := hD0.self (sz := s.heap.size)
  generalize hAe : va_A [(mo, .inr (4, [.int (nI th), .int (nI (zn z)), .int (nI (zgu z)), .int (nI (ztn z)), .ref e0, .ref e1, .ref e2, .ref e3, .ref e4, .ref e5])), (e0, .inl (cA, 10, .inl (fun j => nI ((zpr z) j)))), (e1, .inl (cA, 30, .inl (fun j => nI ((ztr z) j)))), (e2, .inl (cA, 30, .inl (fun j => nI ((ztd z) j)))), (e3, .inl (cA, 30, .inl (fun j => nI ((ztp z) j)))), (e4, .inl (cA, 62, .inl (znw (zdy z) (zpu z) (zwa z) (ziv z) (zgh z) (ztf z)))), (e5, .inl (cA, 62, .inl kp))] s.heap.size = A at hD ⊢
  have hA : ∀ q : Nat, s.heap.size ≤ q → A q := fun q h => by rw [← hAe]; exact Or.inr h
  have hS : va_S A s.heap s.heap [] := va_S.rf
  have hP : va_P (dC, dI) vwCl [(mo, .inr (4, [.int (nI th), .int (nI (zn z)), .int (nI (zgu z)), .int (nI (ztn z)), .ref e0, .ref e1, .ref e2, .ref e3, .ref e4, .ref e5])), (e0, .inl (cA, 10, .inl (fun j => nI ((zpr z) j)))), (e1, .inl (cA, 30, .inl (fun j => nI ((ztr z) j)))), (e2, .inl (cA, 30, .inl (fun j => nI ((ztd z) j)))), (e3, .inl (cA, 30, .inl (fun j => nI ((ztp z) j)))), (e4, .inl (cA, 62, .inl (znw (zdy z) (zpu z) (zwa z) (ziv z) (zgh z) (ztf z)))), (e5, .inl (cA, 62, .inl kp))] s.heap := hP
  have hl := lv_entry ([.ref mo]) (n := 2) (Nat.le_of_ble_eq_true rfl)
  rw [hargs, lg_entry_eq, ← hargs]
  generalize (lg_sl ([.ref mo]) ++ List.replicate (2 - (lg_sl ([.ref mo])).length) Slot.unset).toArray = ls at hl ⊢
  have hl : lv_has ls 2 [(0, .ref mo)] := hl
  obtain ⟨o1, o2, o3, o4, o5, o6, o7, o8, o9, o10, o11⟩ := hz
  refine lv_aload_n hx hb dX5_dayOn_0 rfl (lv_at hl 0 rfl) ?_
  have hPc := hP.sub (ws' := [(mo, .inr (4, [.int (nI th), .int (nI (zn z)), .int (nI (zgu z)), .int (nI (ztn z)), .ref e0, .ref e1, .ref e2, .ref e3, .ref e4, .ref e5])), (e0, .inl (cA, 10, .inl (fun j => nI ((zpr z) j)))), (e4, .inl (cA, 62, .inl (znw (zdy z) (zpu z) (zwa z) (ziv z) (zgh z) (ztf z))))]) [0, 1, 5] rfl
  have hDc := hD.sub (ws' := [(mo, .inr (4, [.int (nI th), .int (nI (zn z)), .int (nI (zgu z)), .int (nI (ztn z)), .ref e0, .ref e1, .ref e2, .ref e3, .ref e4, .ref e5])), (e0, .inl (cA, 10, .inl (fun j => nI ((zpr z) j)))), (e4, .inl (cA, 62, .inl (znw (zdy z) (zpu z) (zwa z) (ziv z) (zgh z) (ztf z))))]) [0, 1, 5] (by decide) rfl
  have hFc := va_free (wc := [(mo, .inr (4, [.int (nI th), .int (nI (zn z)), .int (nI (zgu z)), .int (nI (ztn z)), .ref e0, .ref e1, .ref e2, .ref e3, .ref e4, .ref e5])), (e0, .inl (cA, 10, .inl (fun j => nI ((zpr z) j)))), (e4, .inl (cA, 62, .inl (znw (zdy z) (zpu z) (zwa z) (ziv z) (zgh z) (ztf z))))]) hD hS hA [0, 1, 5] rfl
  refine va_callv (va_runV (As := []) (rest := []) ⟨hx, hb, hml, hown, hts⟩ (c_X5_sell l dC dI cA mo e0 e1 e2 e3 e4 e5 th (zn z) (zgu z) (ztn z) (zpr z) (zdy z) (zpu z) (zwa z) (ziv z) (zgh z) (ztf z) s.heap.size (by first | assumption | omega) (by first | assumption | omega) (by first | assumption | omega) (by first | assumption | omega) (by first | assumption | omega) (by first | assumption | omega) (by first | assumption | omega)) (cwV 0 hts gX5_dayOn_X5_sell rfl rfl rfl (by decide +kernel) ⟨Nat.le_of_ble_eq_true rfl, Nat.le_of_ble_eq_true rfl⟩) ⟨fun a U g mk q => by obtain ⟨q0, q1, qP, qK, qD⟩ := q; exact ⟨q0, q1, qP, va_K.moved (u := U) (U := U.calling g mk a) (Vm.Alike.refl U.vm) qK, qD⟩, va_recv hK hP (ci := 4) (q0 := 0) rfl rfl, fun U hU hW => ⟨rfl, by rw [hU], by rw [hU]; exact hPc, va_K.moved hW.alike hK, hDc.weaken (fun _ _ _ _ => trivial)⟩⟩ rfl rfl hl.1 rfl (lv_room (Nat.le_of_ble_eq_true rfl)) dX5_dayOn_1 ⟨Nat.le_of_ble_eq_true rfl, Nat.le_of_ble_eq_true rfl⟩) hS (fun q _ h => hFc q h) hFc (fun u t H1 locs ht hvm hw_1 hB hz1 hk1 hS => ?_)
  obtain ⟨hP1, hD1⟩ := hB
  rw [ht] at hP1
  obtain ⟨hP, hD⟩ := va_join (wr := [(e1, .inl (cA, 30, .inl (fun j => nI ((ztr z) j)))), (e2, .inl (cA, 30, .inl (fun j => nI ((ztd z) j)))), (e3, .inl (cA, 30, .inl (fun j => nI ((ztp z) j)))), (e5, .inl (cA, 62, .inl kp))]) (w1 := [(mo, .inr (4, [.int (nI th), .int (nI (zn z)), .int (nI (zgu z)), .int (nI (ztn z)), .ref e0, .ref e1, .ref e2, .ref e3, .ref e4, .ref e5])), (e0, .inl (cA, 10, .inl (fun j => nI ((zpr z) j)))), (e4, .inl (cA, 62, .inl (znw (zdy z) ((zpu z) + nI (zts (zgu z) (zn z) (zmf (zwa z) (ziv z) (zgh z) (zpr z) (zb (zdy z))) (zwa z) (zpr z) (zn z))) (zwa z) (ziv z) (zgh z) (ztf z))))]) hP hD [0, 1, 5] [2, 3, 4, 6] rfl rfl (by decide) (by decide) hk1 hFc hP1 hD1
  generalize H1 = H at hP hS ⊢
  have hP := hP.sub (ws' := [(mo, .inr (4, [.int (nI th), .int (nI (zn z)), .int (nI (zgu z)), .int (nI (ztn z)), .ref e0, .ref e1, .ref e2, .ref e3, .ref e4, .ref e5])), (e0, .inl (cA, 10, .inl (fun j => nI ((zpr z) j)))), (e1, .inl (cA, 30, .inl (fun j => nI ((ztr z) j)))), (e2, .inl (cA, 30, .inl (fun j => nI ((ztd z) j)))), (e3, .inl (cA, 30, .inl (fun j => nI ((ztp z) j)))), (e4, .inl (cA, 62, .inl (znw (zdy z) ((zpu z) + nI (zts (zgu z) (zn z) (zmf (zwa z) (ziv z) (zgh z) (zpr z) (zb (zdy z))) (zwa z) (zpr z) (zn z))) (zwa z) (ziv z) (zgh z) (ztf z)))), (e5, .inl (cA, 62, .inl kp))]) [4, 5, 0, 1, 2, 6, 3] rfl
  have hD := hD.sub (ws' := [(mo, .inr (4, [.int (nI th), .int (nI (zn z)), .int (nI (zgu z)), .int (nI (ztn z)), .ref e0, .ref e1, .ref e2, .ref e3, .ref e4, .ref e5])), (e0, .inl (cA, 10, .inl (fun j => nI ((zpr z) j)))), (e1, .inl (cA, 30, .inl (fun j => nI ((ztr z) j)))), (e2, .inl (cA, 30, .inl (fun j => nI ((ztd z) j)))), (e3, .inl (cA, 30, .inl (fun j => nI ((ztp z) j)))), (e4, .inl (cA, 62, .inl (znw (zdy z) ((zpu z) + nI (zts (zgu z) (zn z) (zmf (zwa z) (ziv z) (zgh z) (zpr z) (zb (zdy z))) (zwa z) (zpr z) (zn z))) (zwa z) (ziv z) (zgh z) (ztf z)))), (e5, .inl (cA, 62, .inl kp))]) [4, 5, 0, 1, 2, 6, 3] (by decide) rfl
  refine lv_aload_n hx hb dX5_dayOn_4 rfl (lv_at hl 0 rfl) ?_
  have hPc := hP.sub (ws' := [(mo, .inr (4, [.int (nI th), .int (nI (zn z)), .int (nI (zgu z)), .int (nI (ztn z)), .ref e0, .ref e1, .ref e2, .ref e3, .ref e4, .ref e5])), (e1, .inl (cA, 30, .inl (fun j => nI ((ztr z) j)))), (e2, .inl (cA, 30, .inl (fun j => nI ((ztd z) j)))), (e3, .inl (cA, 30, .inl (fun j => nI ((ztp z) j)))), (e4, .inl (cA, 62, .inl (znw (zdy z) ((zpu z) + nI (zts (zgu z) (zn z) (zmf (zwa z) (ziv z) (zgh z) (zpr z) (zb (zdy z))) (zwa z) (zpr z) (zn z))) (zwa z) (ziv z) (zgh z) (ztf z))))]) [0, 2, 3, 4, 5] rfl
  have hDc := hD.sub (ws' := [(mo, .inr (4, [.int (nI th), .int (nI (zn z)), .int (nI (zgu z)), .int (nI (ztn z)), .ref e0, .ref e1, .ref e2, .ref e3, .ref e4, .ref e5])), (e1, .inl (cA, 30, .inl (fun j => nI ((ztr z) j)))), (e2, .inl (cA, 30, .inl (fun j => nI ((ztd z) j)))), (e3, .inl (cA, 30, .inl (fun j => nI ((ztp z) j)))), (e4, .inl (cA, 62, .inl (znw (zdy z) ((zpu z) + nI (zts (zgu z) (zn z) (zmf (zwa z) (ziv z) (zgh z) (zpr z) (zb (zdy z))) (zwa z) (zpr z) (zn z))) (zwa z) (ziv z) (zgh z) (ztf z))))]) [0, 2, 3, 4, 5] (by decide) rfl
  have hFc := va_free (wc := [(mo, .inr (4, [.int (nI th), .int (nI (zn z)), .int (nI (zgu z)), .int (nI (ztn z)), .ref e0, .ref e1, .ref e2, .ref e3, .ref e4, .ref e5])), (e1, .inl (cA, 30, .inl (fun j => nI ((ztr z) j)))), (e2, .inl (cA, 30, .inl (fun j => nI ((ztd z) j)))), (e3, .inl (cA, 30, .inl (fun j => nI ((ztp z) j)))), (e4, .inl (cA, 62, .inl (znw (zdy z) ((zpu z) + nI (zts (zgu z) (zn z) (zmf (zwa z) (ziv z) (zgh z) (zpr z) (zb (zdy z))) (zwa z) (zpr z) (zn z))) (zwa z) (ziv z) (zgh z) (ztf z))))]) hD hS hA [0, 2, 3, 4, 5] rfl
  refine va_callv (va_runV (As := []) (rest := []) ⟨hx, hb, hml, hown, hts⟩ (c_X5_redeem l dC dI cA mo e0 e1 e2 e3 e4 e5 th (zn z) (zgu z) (ztn z) (ztr z) (ztd z) (ztp z) (zdy z) ((zpu z) + nI (zts (zgu z) (zn z) (zmf (zwa z) (ziv z) (zgh z) (zpr z) (zb (zdy z))) (zwa z) (zpr z) (zn z))) (zwa z) (ziv z) (zgh z) (ztf z) H.size (by first | assumption | omega) (by first | assumption | omega) (by first | assumption | omega) (by first | assumption | omega) (by first | assumption | omega) (by first | assumption | omega) (by first | assumption | omega)) (cwV 0 hts gX5_dayOn_X5_redeem rfl rfl rfl (by decide +kernel) ⟨Nat.le_of_ble_eq_true rfl, Nat.le_of_ble_eq_true rfl⟩) ⟨fun a U g mk q => by obtain ⟨q0, q1, qP, qK, qD⟩ := q; exact ⟨q0, q1, qP, va_K.moved (u := U) (U := U.calling g mk a) (Vm.Alike.refl U.vm) qK, qD⟩, va_recv hK hP (ci := 4) (q0 := 0) rfl rfl, fun U hU hW => ⟨rfl, by rw [hU], by rw [hU]; exact hPc, va_K.moved hW.alike hK, hDc.weaken (fun _ _ _ _ => trivial)⟩⟩ rfl rfl hl.1 rfl (lv_room (Nat.le_of_ble_eq_true rfl)) dX5_dayOn_5 ⟨Nat.le_of_ble_eq_true rfl, Nat.le_of_ble_eq_true rfl⟩) hS (fun q _ h => hFc q h) hFc (fun u t H1 locs ht hvm hw_2 hB hz1 hk1 hS => ?_)
  obtain ⟨hP1, hD1⟩ := hB
  rw [ht] at hP1
  obtain ⟨hP, hD⟩ := va_join (wr := [(e0, .inl (cA, 10, .inl (fun j => nI ((zpr z) j)))), (e5, .inl (cA, 62, .inl kp))]) (w1 := [(mo, .inr (4, [.int (nI th), .int (nI (zn z)), .int (nI (zgu z)), .int (nI (ztn z)), .ref e0, .ref e1, .ref e2, .ref e3, .ref e4, .ref e5])), (e1, .inl (cA, 30, .inl (fun j => nI ((ztr z) j)))), (e2, .inl (cA, 30, .inl (fun j => nI ((ztd z) j)))), (e3, .inl (cA, 30, .inl (fun j => nI ((ztp z) j)))), (e4, .inl (cA, 62, .inl (znw (zdy z) (((zpu z) + nI (zts (zgu z) (zn z) (zmf (zwa z) (ziv z) (zgh z) (zpr z) (zb (zdy z))) (zwa z) (zpr z) (zn z))) - nI (zbak (zdy z) (zwa z) (ztr z) (ztd z) (ztp z) (ztf z) (ztn z))) (zwa z) (ziv z) (zgh z) (zfat (ztn z) (zdy z) (zwa z) (ztr z) (ztd z) (ztf z)))))]) hP hD [0, 2, 3, 4, 5] [1, 6] rfl rfl (by decide) (by decide) hk1 hFc hP1 hD1
  generalize H1 = H at hP hS ⊢
  have hP := hP.sub (ws' := [(mo, .inr (4, [.int (nI th), .int (nI (zn z)), .int (nI (zgu z)), .int (nI (ztn z)), .ref e0, .ref e1, .ref e2, .ref e3, .ref e4, .ref e5])), (e0, .inl (cA, 10, .inl (fun j => nI ((zpr z) j)))), (e1, .inl (cA, 30, .inl (fun j => nI ((ztr z) j)))), (e2, .inl (cA, 30, .inl (fun j => nI ((ztd z) j)))), (e3, .inl (cA, 30, .inl (fun j => nI ((ztp z) j)))), (e4, .inl (cA, 62, .inl (znw (zdy z) (((zpu z) + nI (zts (zgu z) (zn z) (zmf (zwa z) (ziv z) (zgh z) (zpr z) (zb (zdy z))) (zwa z) (zpr z) (zn z))) - nI (zbak (zdy z) (zwa z) (ztr z) (ztd z) (ztp z) (ztf z) (ztn z))) (zwa z) (ziv z) (zgh z) (zfat (ztn z) (zdy z) (zwa z) (ztr z) (ztd z) (ztf z))))), (e5, .inl (cA, 62, .inl kp))]) [2, 0, 3, 4, 5, 6, 1] rfl
  have hD := hD.sub (ws' := [(mo, .inr (4, [.int (nI th), .int (nI (zn z)), .int (nI (zgu z)), .int (nI (ztn z)), .ref e0, .ref e1, .ref e2, .ref e3, .ref e4, .ref e5])), (e0, .inl (cA, 10, .inl (fun j => nI ((zpr z) j)))), (e1, .inl (cA, 30, .inl (fun j => nI ((ztr z) j)))), (e2, .inl (cA, 30, .inl (fun j => nI ((ztd z) j)))), (e3, .inl (cA, 30, .inl (fun j => nI ((ztp z) j)))), (e4, .inl (cA, 62, .inl (znw (zdy z) (((zpu z) + nI (zts (zgu z) (zn z) (zmf (zwa z) (ziv z) (zgh z) (zpr z) (zb (zdy z))) (zwa z) (zpr z) (zn z))) - nI (zbak (zdy z) (zwa z) (ztr z) (ztd z) (ztp z) (ztf z) (ztn z))) (zwa z) (ziv z) (zgh z) (zfat (ztn z) (zdy z) (zwa z) (ztr z) (ztd z) (ztf z))))), (e5, .inl (cA, 62, .inl kp))]) [2, 0, 3, 4, 5, 6, 1] (by decide) rfl
  refine lv_iconst (v := nI 0) hx hb dX5_dayOn_8 (by decide) ?_
  refine lv_istore_n (lv' := [(1, .int (nI 0)), (0, .ref mo)]) hx hb dX5_dayOn_9 rfl hl (by decide) rfl (fun ls hl => ?_)
  have lp_10 : ∀ (f9 : Nat) (i : Nat) , (zn z - i) < f9 → (i ≤ zn z) → ∀ (H : Heap) (locs : List Loc), va_P (dC, dI) vwCl [(mo, .inr (4, [.int (nI th), .int (nI (zn z)), .int (nI (zgu z)), .int (nI (ztn z)), .ref e0, .ref e1, .ref e2, .ref e3, .ref e4, .ref e5])), (e0, .inl (cA, 10, .inl (fun j => nI ((zpr z) j)))), (e1, .inl (cA, 30, .inl (fun j => nI ((ztr z) j)))), (e2, .inl (cA, 30, .inl (fun j => nI ((ztd z) j)))), (e3, .inl (cA, 30, .inl (fun j => nI ((ztp z) j)))), (e4, .inl (cA, 62, .inl (znw (zdy z) ((zpu z + nI (ztk z)) - nI (zbak (zdy z) (zwa z) (ztr z) (ztd z) (ztp z) (ztf z) (ztn z))) (zAw (zdy z) i (zwa z) (ziv z)) (zAi (zdy z) i (zwa z) (ziv z)) (zgh z) (zfat (ztn z) (zdy z) (zwa z) (ztr z) (ztd z) (ztf z))))), (e5, .inl (cA, 62, .inl kp))] H → va_D A [(mo, .inr (4, [.int (nI th), .int (nI (zn z)), .int (nI (zgu z)), .int (nI (ztn z)), .ref e0, .ref e1, .ref e2, .ref e3, .ref e4, .ref e5])), (e0, .inl (cA, 10, .inl (fun j => nI ((zpr z) j)))), (e1, .inl (cA, 30, .inl (fun j => nI ((ztr z) j)))), (e2, .inl (cA, 30, .inl (fun j => nI ((ztd z) j)))), (e3, .inl (cA, 30, .inl (fun j => nI ((ztp z) j)))), (e4, .inl (cA, 62, .inl (znw (zdy z) ((zpu z + nI (ztk z)) - nI (zbak (zdy z) (zwa z) (ztr z) (ztd z) (ztp z) (ztf z) (ztn z))) (zAw (zdy z) i (zwa z) (ziv z)) (zAi (zdy z) i (zwa z) (ziv z)) (zgh z) (zfat (ztn z) (zdy z) (zwa z) (ztr z) (ztd z) (ztf z))))), (e5, .inl (cA, 62, .inl kp))] → va_S A s.heap H locs → ∀ (ls : Array Slot), lv_has ls 2 [(0, .ref mo), (1, .int (nI i))] → W p l e ({ frames := 6, cells := 0, slots := 0, locals := 134 } : Room) s m args below meth c H locs 0 0 (MQ below (va_Qv (fun _ : Unit => True) (fun (_ : Unit) t => va_P (dC, dI) vwCl [(mo, .inr (4, [.int (nI th), .int (nI (zn (zd1 z))), .int (nI (zgu (zd1 z))), .int (nI (ztn (zd1 z))), .ref e0, .ref e1, .ref e2, .ref e3, .ref e4, .ref e5])), (e0, .inl (cA, 10, .inl (fun j => nI ((zpr (zd1 z)) j)))), (e1, .inl (cA, 30, .inl (fun j => nI ((ztr (zd1 z)) j)))), (e2, .inl (cA, 30, .inl (fun j => nI ((ztd (zd1 z)) j)))), (e3, .inl (cA, 30, .inl (fun j => nI ((ztp (zd1 z)) j)))), (e4, .inl (cA, 62, .inl (znw (zdy (zd1 z)) (zpu (zd1 z)) (zwa (zd1 z)) (ziv (zd1 z)) (zgh (zd1 z)) (ztf (zd1 z))))), (e5, .inl (cA, 62, .inl kp))] t.heap ∧ va_D A [(mo, .inr (4, [.int (nI th), .int (nI (zn (zd1 z))), .int (nI (zgu (zd1 z))), .int (nI (ztn (zd1 z))), .ref e0, .ref e1, .ref e2, .ref e3, .ref e4, .ref e5])), (e0, .inl (cA, 10, .inl (fun j => nI ((zpr (zd1 z)) j)))), (e1, .inl (cA, 30, .inl (fun j => nI ((ztr (zd1 z)) j)))), (e2, .inl (cA, 30, .inl (fun j => nI ((ztd (zd1 z)) j)))), (e3, .inl (cA, 30, .inl (fun j => nI ((ztp (zd1 z)) j)))), (e4, .inl (cA, 62, .inl (znw (zdy (zd1 z)) (zpu (zd1 z)) (zwa (zd1 z)) (ziv (zd1 z)) (zgh (zd1 z)) (ztf (zd1 z))))), (e5, .inl (cA, 62, .inl kp))]) A) args s 0 0 A) (F0 m 10 ls []) := by
    intro f9
    induction f9 with
    | zero => intro i hm9; exact absurd hm9 (Nat.not_lt_zero _)
    | succ f9 ih_10 =>
      intro i hm9 hi H locs hP hD hS ls hl
      have e91 : zAw (zdy z) i (zwa z) (ziv z) i = zwa z i := by simp [zAw]
      have e92 : zAi (zdy z) i (zwa z) (ziv z) i = ziv z i := by simp [zAi]
      have hw9 := o4 i
      have hi9 := o5 i
      refine lv_iload_n hx hb dX5_dayOn_10 rfl (lv_at hl 1 rfl) ?_
      refine lv_aload_n hx hb dX5_dayOn_11 rfl (lv_at hl 0 rfl) ?_
      refine va_get (D := (dC, dI)) (ci := 4) (v := .int (nI (zn z))) (C := RX5) (T := TX5) (N := 10) hx hb hts i_X5_dayOn_X5 hown hK hP 0 rfl rfl 1 (by decide) (hts (.fieldLink RX5 35 "RuinViewsModel" "ruins" "I") (List.mem_of_getElem? (i := 1) rfl)) (fun _ h9 => h9) rfl dX5_dayOn_12 ?_
      refine lv_icmp_ge (tgt := 29) hx hb dX5_dayOn_15 (by decide) (fun c_3 => ?_) (fun c_3 => ?_)
      · skip
        replace c_3 := (nI_leI (by omega) (by omega)).mp c_3
        refine lv_iconst (v := nI 0) hx hb dX5_dayOn_29 (by decide) ?_
        refine lv_istore_n (lv' := [(1, .int (nI 0)), (0, .ref mo)]) hx hb dX5_dayOn_30 rfl hl (by decide) rfl (fun ls hl => ?_)
        have lp_31 : ∀ (f9 : Nat) (i : Nat) , (zn z - i) < f9 → (i ≤ zn z) → ∀ (H : Heap) (locs : List Loc), va_P (dC, dI) vwCl [(mo, .inr (4, [.int (nI th), .int (nI (zn z)), .int (nI (zgu z)), .int (nI (ztn z)), .ref e0, .ref e1, .ref e2, .ref e3, .ref e4, .ref e5])), (e0, .inl (cA, 10, .inl (fun j => nI ((zpr z) j)))), (e1, .inl (cA, 30, .inl (fun j => nI ((ztr z) j)))), (e2, .inl (cA, 30, .inl (fun j => nI ((ztd z) j)))), (e3, .inl (cA, 30, .inl (fun j => nI ((ztp z) j)))), (e4, .inl (cA, 62, .inl (znw (zdy z) ((zpu z + nI (ztk z)) - nI (zbak (zdy z) (zwa z) (ztr z) (ztd z) (ztp z) (ztf z) (ztn z))) (zAw (zdy z) (zn z) (zwa z) (ziv z)) (zAi (zdy z) (zn z) (zwa z) (ziv z)) (zAh (zb (zdy z)) i (zAw (zdy z) (zn z) (zwa z) (ziv z)) (zAi (zdy z) (zn z) (zwa z) (ziv z)) (zgh z)) (zfat (ztn z) (zdy z) (zwa z) (ztr z) (ztd z) (ztf z))))), (e5, .inl (cA, 62, .inl kp))] H → va_D A [(mo, .inr (4, [.int (nI th), .int (nI (zn z)), .int (nI (zgu z)), .int (nI (ztn z)), .ref e0, .ref e1, .ref e2, .ref e3, .ref e4, .ref e5])), (e0, .inl (cA, 10, .inl (fun j => nI ((zpr z) j)))), (e1, .inl (cA, 30, .inl (fun j => nI ((ztr z) j)))), (e2, .inl (cA, 30, .inl (fun j => nI ((ztd z) j)))), (e3, .inl (cA, 30, .inl (fun j => nI ((ztp z) j)))), (e4, .inl (cA, 62, .inl (znw (zdy z) ((zpu z + nI (ztk z)) - nI (zbak (zdy z) (zwa z) (ztr z) (ztd z) (ztp z) (ztf z) (ztn z))) (zAw (zdy z) (zn z) (zwa z) (ziv z)) (zAi (zdy z) (zn z) (zwa z) (ziv z)) (zAh (zb (zdy z)) i (zAw (zdy z) (zn z) (zwa z) (ziv z)) (zAi (zdy z) (zn z) (zwa z) (ziv z)) (zgh z)) (zfat (ztn z) (zdy z) (zwa z) (ztr z) (ztd z) (ztf z))))), (e5, .inl (cA, 62, .inl kp))] → va_S A s.heap H locs → ∀ (ls : Array Slot), lv_has ls 2 [(0, .ref mo), (1, .int (nI i))] → W p l e ({ frames := 6, cells := 0, slots := 0, locals := 134 } : Room) s m args below meth c H locs 0 0 (MQ below (va_Qv (fun _ : Unit => True) (fun (_ : Unit) t => va_P (dC, dI) vwCl [(mo, .inr (4, [.int (nI th), .int (nI (zn (zd1 z))), .int (nI (zgu (zd1 z))), .int (nI (ztn (zd1 z))), .ref e0, .ref e1, .ref e2, .ref e3, .ref e4, .ref e5])), (e0, .inl (cA, 10, .inl (fun j => nI ((zpr (zd1 z)) j)))), (e1, .inl (cA, 30, .inl (fun j => nI ((ztr (zd1 z)) j)))), (e2, .inl (cA, 30, .inl (fun j => nI ((ztd (zd1 z)) j)))), (e3, .inl (cA, 30, .inl (fun j => nI ((ztp (zd1 z)) j)))), (e4, .inl (cA, 62, .inl (znw (zdy (zd1 z)) (zpu (zd1 z)) (zwa (zd1 z)) (ziv (zd1 z)) (zgh (zd1 z)) (ztf (zd1 z))))), (e5, .inl (cA, 62, .inl kp))] t.heap ∧ va_D A [(mo, .inr (4, [.int (nI th), .int (nI (zn (zd1 z))), .int (nI (zgu (zd1 z))), .int (nI (ztn (zd1 z))), .ref e0, .ref e1, .ref e2, .ref e3, .ref e4, .ref e5])), (e0, .inl (cA, 10, .inl (fun j => nI ((zpr (zd1 z)) j)))), (e1, .inl (cA, 30, .inl (fun j => nI ((ztr (zd1 z)) j)))), (e2, .inl (cA, 30, .inl (fun j => nI ((ztd (zd1 z)) j)))), (e3, .inl (cA, 30, .inl (fun j => nI ((ztp (zd1 z)) j)))), (e4, .inl (cA, 62, .inl (znw (zdy (zd1 z)) (zpu (zd1 z)) (zwa (zd1 z)) (ziv (zd1 z)) (zgh (zd1 z)) (ztf (zd1 z))))), (e5, .inl (cA, 62, .inl kp))]) A) args s 0 0 A) (F0 m 31 ls []) := by
          intro f9
          induction f9 with
          | zero => intro i hm9; exact absurd hm9 (Nat.not_lt_zero _)
          | succ f9 ih_31 =>
            intro i hm9 hi H locs hP hD hS ls hl
            have e93 : zAh (zb (zdy z)) i (zAw (zdy z) (zn z) (zwa z) (ziv z)) (zAi (zdy z) (zn z) (zwa z) (ziv z)) (zgh z) i = zgh z i := by simp [zAh]
            have hw9 := zAw_le (d := zdy z) (i := zn z) (iv := ziv z) o4 i
            have hi9 := zAi_le (d := zdy z) (i := zn z) (wa := zwa z) o5 i
            have hg9 := o6 i
            refine lv_iload_n hx hb dX5_dayOn_31 rfl (lv_at hl 1 rfl) ?_
            refine lv_aload_n hx hb dX5_dayOn_32 rfl (lv_at hl 0 rfl) ?_
            refine va_get (D := (dC, dI)) (ci := 4) (v := .int (nI (zn z))) (C := RX5) (T := TX5) (N := 10) hx hb hts i_X5_dayOn_X5 hown hK hP 0 rfl rfl 1 (by decide) (hts (.fieldLink RX5 35 "RuinViewsModel" "ruins" "I") (List.mem_of_getElem? (i := 1) rfl)) (fun _ h9 => h9) rfl dX5_dayOn_33 ?_
            refine lv_icmp_ge (tgt := 50) hx hb dX5_dayOn_36 (by decide) (fun c_4 => ?_) (fun c_4 => ?_)
            · skip
              replace c_4 := (nI_leI (by omega) (by omega)).mp c_4
              refine lv_aload_n hx hb dX5_dayOn_50 rfl (lv_at hl 0 rfl) ?_
              refine va_get (D := (dC, dI)) (ci := 4) (v := .ref e4) (C := RX5) (T := TX5) (N := 10) hx hb hts i_X5_dayOn_X5 hown hK hP 0 rfl rfl 8 (by decide) (hts (.fieldLink RX5 26 "RuinViewsModel" "now" "[I") (List.mem_of_getElem? (i := 2) rfl)) (fun _ h9 => h9) rfl dX5_dayOn_51 ?_
              refine lv_iconst (v := nI 0) hx hb dX5_dayOn_54 (by decide) ?_
              refine lv_dup2_11 hx hb dX5_dayOn_55 rfl rfl ?_
              refine zz_aldI hx hb hK hP 5 (f := znw (zdy z) ((zpu z + nI (ztk z)) - nI (zbak (zdy z) (zwa z) (ztr z) (ztd z) (ztp z) (ztf z) (ztn z))) (zAw (zdy z) (zn z) (zwa z) (ziv z)) (zAi (zdy z) (zn z) (zwa z) (ziv z)) (zAh (zb (zdy z)) i (zAw (zdy z) (zn z) (zwa z) (ziv z)) (zAi (zdy z) (zn z) (zwa z) (ziv z)) (zgh z)) (zfat (ztn z) (zdy z) (zwa z) (ztr z) (ztd z) (ztf z))) rfl rfl (by omega) (by decide) dX5_dayOn_56 ?_
              refine zz_top (znw_0 _ _ _ _ _ _) ?_
              refine lv_iconst (v := nI 1) hx hb dX5_dayOn_57 (by decide) ?_
              refine lv_iadd hx hb dX5_dayOn_58 ?_
              refine zz_top (nI_add _ _) ?_
              refine zz_astI hx hb hK hP hD hS 5 (f := znw (zdy z) ((zpu z + nI (ztk z)) - nI (zbak (zdy z) (zwa z) (ztr z) (ztd z) (ztp z) (ztf z) (ztn z))) (zAw (zdy z) (zn z) (zwa z) (ziv z)) (zAi (zdy z) (zn z) (zwa z) (ziv z)) (zAh (zb (zdy z)) i (zAw (zdy z) (zn z) (zwa z) (ziv z)) (zAi (zdy z) (zn z) (zwa z) (ziv z)) (zgh z)) (zfat (ztn z) (zdy z) (zwa z) (ztr z) (ztd z) (ztf z))) rfl rfl (by omega) (by decide) dX5_dayOn_59 (fun H locs hP hD hS => ?_)
              have hP : va_P (dC, dI) vwCl [(mo, .inr (4, [.int (nI th), .int (nI (zn z)), .int (nI (zgu z)), .int (nI (ztn z)), .ref e0, .ref e1, .ref e2, .ref e3, .ref e4, .ref e5])), (e0, .inl (cA, 10, .inl (fun j => nI ((zpr z) j)))), (e1, .inl (cA, 30, .inl (fun j => nI ((ztr z) j)))), (e2, .inl (cA, 30, .inl (fun j => nI ((ztd z) j)))), (e3, .inl (cA, 30, .inl (fun j => nI ((ztp z) j)))), (e4, .inl (cA, 62, .inl (upd (znw (zdy z) ((zpu z + nI (ztk z)) - nI (zbak (zdy z) (zwa z) (ztr z) (ztd z) (ztp z) (ztf z) (ztn z))) (zAw (zdy z) (zn z) (zwa z) (ziv z)) (zAi (zdy z) (zn z) (zwa z) (ziv z)) (zAh (zb (zdy z)) i (zAw (zdy z) (zn z) (zwa z) (ziv z)) (zAi (zdy z) (zn z) (zwa z) (ziv z)) (zgh z)) (zfat (ztn z) (zdy z) (zwa z) (ztr z) (ztd z) (ztf z))) 0 (nI ((zdy z) + 1))))), (e5, .inl (cA, 62, .inl kp))] H := hP
              have hD : va_D A [(mo, .inr (4, [.int (nI th), .int (nI (zn z)), .int (nI (zgu z)), .int (nI (ztn z)), .ref e0, .ref e1, .ref e2, .ref e3, .ref e4, .ref e5])), (e0, .inl (cA, 10, .inl (fun j => nI ((zpr z) j)))), (e1, .inl (cA, 30, .inl (fun j => nI ((ztr z) j)))), (e2, .inl (cA, 30, .inl (fun j => nI ((ztd z) j)))), (e3, .inl (cA, 30, .inl (fun j => nI ((ztp z) j)))), (e4, .inl (cA, 62, .inl (upd (znw (zdy z) ((zpu z + nI (ztk z)) - nI (zbak (zdy z) (zwa z) (ztr z) (ztd z) (ztp z) (ztf z) (ztn z))) (zAw (zdy z) (zn z) (zwa z) (ziv z)) (zAi (zdy z) (zn z) (zwa z) (ziv z)) (zAh (zb (zdy z)) i (zAw (zdy z) (zn z) (zwa z) (ziv z)) (zAi (zdy z) (zn z) (zwa z) (ziv z)) (zgh z)) (zfat (ztn z) (zdy z) (zwa z) (ztr z) (ztd z) (ztf z))) 0 (nI ((zdy z) + 1))))), (e5, .inl (cA, 62, .inl kp))] := hD
              have hw5 : ∀ (x0 : Nat → Int32), x0 = upd (znw (zdy z) ((zpu z + nI (ztk z)) - nI (zbak (zdy z) (zwa z) (ztr z) (ztd z) (ztp z) (ztf z) (ztn z))) (zAw (zdy z) (zn z) (zwa z) (ziv z)) (zAi (zdy z) (zn z) (zwa z) (ziv z)) (zAh (zb (zdy z)) i (zAw (zdy z) (zn z) (zwa z) (ziv z)) (zAi (zdy z) (zn z) (zwa z) (ziv z)) (zgh z)) (zfat (ztn z) (zdy z) (zwa z) (ztr z) (ztd z) (ztf z))) 0 (nI ((zdy z) + 1)) → va_P (dC, dI) vwCl [(mo, .inr (4, [.int (nI th), .int (nI (zn z)), .int (nI (zgu z)), .int (nI (ztn z)), .ref e0, .ref e1, .ref e2, .ref e3, .ref e4, .ref e5])), (e0, .inl (cA, 10, .inl (fun j => nI ((zpr z) j)))), (e1, .inl (cA, 30, .inl (fun j => nI ((ztr z) j)))), (e2, .inl (cA, 30, .inl (fun j => nI ((ztd z) j)))), (e3, .inl (cA, 30, .inl (fun j => nI ((ztp z) j)))), (e4, .inl (cA, 62, .inl x0)), (e5, .inl (cA, 62, .inl kp))] H ∧ va_D A [(mo, .inr (4, [.int (nI th), .int (nI (zn z)), .int (nI (zgu z)), .int (nI (ztn z)), .ref e0, .ref e1, .ref e2, .ref e3, .ref e4, .ref e5])), (e0, .inl (cA, 10, .inl (fun j => nI ((zpr z) j)))), (e1, .inl (cA, 30, .inl (fun j => nI ((ztr z) j)))), (e2, .inl (cA, 30, .inl (fun j => nI ((ztd z) j)))), (e3, .inl (cA, 30, .inl (fun j => nI ((ztp z) j)))), (e4, .inl (cA, 62, .inl x0)), (e5, .inl (cA, 62, .inl kp))] := by
                intro x0 h0; subst h0; exact ⟨hP, hD⟩
              obtain ⟨hP, hD⟩ := hw5 (znw ((zdy z) + 1) ((zpu z + nI (ztk z)) - nI (zbak (zdy z) (zwa z) (ztr z) (ztd z) (ztp z) (ztf z) (ztn z))) (zAw (zdy z) (zn z) (zwa z) (ziv z)) (zAi (zdy z) (zn z) (zwa z) (ziv z)) (zAh (zb (zdy z)) i (zAw (zdy z) (zn z) (zwa z) (ziv z)) (zAi (zdy z) (zn z) (zwa z) (ziv z)) (zgh z)) (zfat (ztn z) (zdy z) (zwa z) (ztr z) (ztd z) (ztf z))) (show (znw ((zdy z) + 1) ((zpu z + nI (ztk z)) - nI (zbak (zdy z) (zwa z) (ztr z) (ztd z) (ztp z) (ztf z) (ztn z))) (zAw (zdy z) (zn z) (zwa z) (ziv z)) (zAi (zdy z) (zn z) (zwa z) (ziv z)) (zAh (zb (zdy z)) i (zAw (zdy z) (zn z) (zwa z) (ziv z)) (zAi (zdy z) (zn z) (zwa z) (ziv z)) (zgh z)) (zfat (ztn z) (zdy z) (zwa z) (ztr z) (ztd z) (ztf z))) = upd (znw (zdy z) ((zpu z + nI (ztk z)) - nI (zbak (zdy z) (zwa z) (ztr z) (ztd z) (ztp z) (ztf z) (ztn z))) (zAw (zdy z) (zn z) (zwa z) (ziv z)) (zAi (zdy z) (zn z) (zwa z) (ziv z)) (zAh (zb (zdy z)) i (zAw (zdy z) (zn z) (zwa z) (ziv z)) (zAi (zdy z) (zn z) (zwa z) (ziv z)) (zgh z)) (zfat (ztn z) (zdy z) (zwa z) (ztr z) (ztd z) (ztf z))) 0 (nI ((zdy z) + 1)) from by exact (znw_ud _ _ _ _ _ _ _ ).symm)
              have hw6 : ∀ (x0 : Nat) (x1 : Nat) (x2 : Nat) (x3 : Nat → Nat) (x4 : Nat → Nat) (x5 : Nat → Nat) (x6 : Nat → Nat) (x7 : Nat → Int32), x0 = zn z → x1 = zgu z → x2 = ztn z → x3 = zpr z → x4 = ztr z → x5 = ztd z → x6 = ztp z → x7 = znw ((zdy z) + 1) ((zpu z + nI (ztk z)) - nI (zbak (zdy z) (zwa z) (ztr z) (ztd z) (ztp z) (ztf z) (ztn z))) (zAw (zdy z) (zn z) (zwa z) (ziv z)) (zAi (zdy z) (zn z) (zwa z) (ziv z)) (zAh (zb (zdy z)) i (zAw (zdy z) (zn z) (zwa z) (ziv z)) (zAi (zdy z) (zn z) (zwa z) (ziv z)) (zgh z)) (zfat (ztn z) (zdy z) (zwa z) (ztr z) (ztd z) (ztf z)) → va_P (dC, dI) vwCl [(mo, .inr (4, [.int (nI th), .int (nI x0), .int (nI x1), .int (nI x2), .ref e0, .ref e1, .ref e2, .ref e3, .ref e4, .ref e5])), (e0, .inl (cA, 10, .inl (fun j => nI (x3 j)))), (e1, .inl (cA, 30, .inl (fun j => nI (x4 j)))), (e2, .inl (cA, 30, .inl (fun j => nI (x5 j)))), (e3, .inl (cA, 30, .inl (fun j => nI (x6 j)))), (e4, .inl (cA, 62, .inl x7)), (e5, .inl (cA, 62, .inl kp))] H ∧ va_D A [(mo, .inr (4, [.int (nI th), .int (nI x0), .int (nI x1), .int (nI x2), .ref e0, .ref e1, .ref e2, .ref e3, .ref e4, .ref e5])), (e0, .inl (cA, 10, .inl (fun j => nI (x3 j)))), (e1, .inl (cA, 30, .inl (fun j => nI (x4 j)))), (e2, .inl (cA, 30, .inl (fun j => nI (x5 j)))), (e3, .inl (cA, 30, .inl (fun j => nI (x6 j)))), (e4, .inl (cA, 62, .inl x7)), (e5, .inl (cA, 62, .inl kp))] := by
                intro x0 x1 x2 x3 x4 x5 x6 x7 h0 h1 h2 h3 h4 h5 h6 h7; subst h0; subst h1; subst h2; subst h3; subst h4; subst h5; subst h6; subst h7; exact ⟨hP, hD⟩
              obtain ⟨hP, hD⟩ := hw6 (zn (zd1 z)) (zgu (zd1 z)) (ztn (zd1 z)) (zpr (zd1 z)) (ztr (zd1 z)) (ztd (zd1 z)) (ztp (zd1 z)) (znw (zdy (zd1 z)) (zpu (zd1 z)) (zwa (zd1 z)) (ziv (zd1 z)) (zgh (zd1 z)) (ztf (zd1 z))) (show zn (zd1 z) = zn z from by rfl) (show zgu (zd1 z) = zgu z from by rfl) (show ztn (zd1 z) = ztn z from by rfl) (show (zpr (zd1 z)) = zpr z from by rfl) (show (ztr (zd1 z)) = ztr z from by rfl) (show (ztd (zd1 z)) = ztd z from by rfl) (show (ztp (zd1 z)) = ztp z from by rfl) (show (znw (zdy (zd1 z)) (zpu (zd1 z)) (zwa (zd1 z)) (ziv (zd1 z)) (zgh (zd1 z)) (ztf (zd1 z))) = znw ((zdy z) + 1) ((zpu z + nI (ztk z)) - nI (zbak (zdy z) (zwa z) (ztr z) (ztd z) (ztp z) (ztf z) (ztn z))) (zAw (zdy z) (zn z) (zwa z) (ziv z)) (zAi (zdy z) (zn z) (zwa z) (ziv z)) (zAh (zb (zdy z)) i (zAw (zdy z) (zn z) (zwa z) (ziv z)) (zAi (zdy z) (zn z) (zwa z) (ziv z)) (zgh z)) (zfat (ztn z) (zdy z) (zwa z) (ztr z) (ztd z) (ztf z)) from by (refine znw_cg rfl rfl rfl ?_ rfl; rw [show i = zn z from by omega]; exact (zAh_g _ _ _ _ _).symm))
              exact W.vret hx hb hr (fun t ht hW => ⟨⟨(), rfl, trivial, by rw [ht]; exact hP, hD⟩, hS.F ht⟩) hS.2.2 dX5_dayOn_60
            · skip
              replace c_4 := mt (nI_leI (by omega) (by omega)).mpr c_4
              refine lv_aload_n hx hb dX5_dayOn_39 rfl (lv_at hl 0 rfl) ?_
              refine lv_iload_n hx hb dX5_dayOn_40 rfl (lv_at hl 1 rfl) ?_
              have hPc := hP.sub (ws' := [(mo, .inr (4, [.int (nI th), .int (nI (zn z)), .int (nI (zgu z)), .int (nI (ztn z)), .ref e0, .ref e1, .ref e2, .ref e3, .ref e4, .ref e5])), (e4, .inl (cA, 62, .inl (znw (zdy z) ((zpu z + nI (ztk z)) - nI (zbak (zdy z) (zwa z) (ztr z) (ztd z) (ztp z) (ztf z) (ztn z))) (zAw (zdy z) (zn z) (zwa z) (ziv z)) (zAi (zdy z) (zn z) (zwa z) (ziv z)) (zAh (zb (zdy z)) i (zAw (zdy z) (zn z) (zwa z) (ziv z)) (zAi (zdy z) (zn z) (zwa z) (ziv z)) (zgh z)) (zfat (ztn z) (zdy z) (zwa z) (ztr z) (ztd z) (ztf z)))))]) [0, 5] rfl
              have hDc := hD.sub (ws' := [(mo, .inr (4, [.int (nI th), .int (nI (zn z)), .int (nI (zgu z)), .int (nI (ztn z)), .ref e0, .ref e1, .ref e2, .ref e3, .ref e4, .ref e5])), (e4, .inl (cA, 62, .inl (znw (zdy z) ((zpu z + nI (ztk z)) - nI (zbak (zdy z) (zwa z) (ztr z) (ztd z) (ztp z) (ztf z) (ztn z))) (zAw (zdy z) (zn z) (zwa z) (ziv z)) (zAi (zdy z) (zn z) (zwa z) (ziv z)) (zAh (zb (zdy z)) i (zAw (zdy z) (zn z) (zwa z) (ziv z)) (zAi (zdy z) (zn z) (zwa z) (ziv z)) (zgh z)) (zfat (ztn z) (zdy z) (zwa z) (ztr z) (ztd z) (ztf z)))))]) [0, 5] (by decide) rfl
              have hFc := va_free (wc := [(mo, .inr (4, [.int (nI th), .int (nI (zn z)), .int (nI (zgu z)), .int (nI (ztn z)), .ref e0, .ref e1, .ref e2, .ref e3, .ref e4, .ref e5])), (e4, .inl (cA, 62, .inl (znw (zdy z) ((zpu z + nI (ztk z)) - nI (zbak (zdy z) (zwa z) (ztr z) (ztd z) (ztp z) (ztf z) (ztn z))) (zAw (zdy z) (zn z) (zwa z) (ziv z)) (zAi (zdy z) (zn z) (zwa z) (ziv z)) (zAh (zb (zdy z)) i (zAw (zdy z) (zn z) (zwa z) (ziv z)) (zAi (zdy z) (zn z) (zwa z) (ziv z)) (zgh z)) (zfat (ztn z) (zdy z) (zwa z) (ztr z) (ztd z) (ztf z)))))]) hD hS hA [0, 5] rfl
              refine va_callv (va_runV (As := [.int (nI i)]) (rest := []) ⟨hx, hb, hml, hown, hts⟩ (c_X5_haunt l dC dI cA mo e0 e1 e2 e3 e4 e5 th (zn z) (zgu z) (ztn z) (zdy z) ((zpu z + nI (ztk z)) - nI (zbak (zdy z) (zwa z) (ztr z) (ztd z) (ztp z) (ztf z) (ztn z))) (zAw (zdy z) (zn z) (zwa z) (ziv z)) (zAi (zdy z) (zn z) (zwa z) (ziv z)) (zAh (zb (zdy z)) i (zAw (zdy z) (zn z) (zwa z) (ziv z)) (zAi (zdy z) (zn z) (zwa z) (ziv z)) (zgh z)) (zfat (ztn z) (zdy z) (zwa z) (ztr z) (ztd z) (ztf z)) i H.size (by first | assumption | omega) (by first | assumption | omega) (by first | assumption | omega) (by rw [e93]; omega) (by first | assumption | omega)) (cwV 1 hts gX5_dayOn_X5_haunt rfl rfl rfl (by decide +kernel) ⟨Nat.le_of_ble_eq_true rfl, Nat.le_of_ble_eq_true rfl⟩) ⟨fun a U g mk q => by obtain ⟨q0, q1, qP, qK, qD⟩ := q; exact ⟨q0, q1, qP, va_K.moved (u := U) (U := U.calling g mk a) (Vm.Alike.refl U.vm) qK, qD⟩, va_recv hK hP (ci := 4) (q0 := 0) rfl rfl, fun U hU hW => ⟨rfl, by rw [hU], by rw [hU]; exact hPc, va_K.moved hW.alike hK, hDc.weaken (fun _ _ _ _ => trivial)⟩⟩ rfl rfl hl.1 rfl (lv_room (Nat.le_of_ble_eq_true rfl)) dX5_dayOn_41 ⟨Nat.le_of_ble_eq_true rfl, Nat.le_of_ble_eq_true rfl⟩) hS (fun q _ h => hFc q h) hFc (fun u t H1 locs ht hvm hw_7 hB hz1 hk1 hS => ?_)
              obtain ⟨hP1, hD1⟩ := hB
              rw [ht] at hP1
              obtain ⟨hP, hD⟩ := va_join (wr := [(e0, .inl (cA, 10, .inl (fun j => nI ((zpr z) j)))), (e1, .inl (cA, 30, .inl (fun j => nI ((ztr z) j)))), (e2, .inl (cA, 30, .inl (fun j => nI ((ztd z) j)))), (e3, .inl (cA, 30, .inl (fun j => nI ((ztp z) j)))), (e5, .inl (cA, 62, .inl kp))]) (w1 := [(mo, .inr (4, [.int (nI th), .int (nI (zn z)), .int (nI (zgu z)), .int (nI (ztn z)), .ref e0, .ref e1, .ref e2, .ref e3, .ref e4, .ref e5])), (e4, .inl (cA, 62, .inl (znw (zdy z) ((zpu z + nI (ztk z)) - nI (zbak (zdy z) (zwa z) (ztr z) (ztd z) (ztp z) (ztf z) (ztn z))) (zAw (zdy z) (zn z) (zwa z) (ziv z)) (zAi (zdy z) (zn z) (zwa z) (ziv z)) (zup (zAh (zb (zdy z)) i (zAw (zdy z) (zn z) (zwa z) (ziv z)) (zAi (zdy z) (zn z) (zwa z) (ziv z)) (zgh z)) i (z_gb (zb (zdy z)) ((zAw (zdy z) (zn z) (zwa z) (ziv z)) i) ((zAi (zdy z) (zn z) (zwa z) (ziv z)) i) ((zAh (zb (zdy z)) i (zAw (zdy z) (zn z) (zwa z) (ziv z)) (zAi (zdy z) (zn z) (zwa z) (ziv z)) (zgh z)) i))) (zfat (ztn z) (zdy z) (zwa z) (ztr z) (ztd z) (ztf z)))))]) hP hD [0, 5] [1, 2, 3, 4, 6] rfl rfl (by decide) (by decide) hk1 hFc hP1 hD1
              generalize H1 = H at hP hS ⊢
              have hP := hP.sub (ws' := [(mo, .inr (4, [.int (nI th), .int (nI (zn z)), .int (nI (zgu z)), .int (nI (ztn z)), .ref e0, .ref e1, .ref e2, .ref e3, .ref e4, .ref e5])), (e0, .inl (cA, 10, .inl (fun j => nI ((zpr z) j)))), (e1, .inl (cA, 30, .inl (fun j => nI ((ztr z) j)))), (e2, .inl (cA, 30, .inl (fun j => nI ((ztd z) j)))), (e3, .inl (cA, 30, .inl (fun j => nI ((ztp z) j)))), (e4, .inl (cA, 62, .inl (znw (zdy z) ((zpu z + nI (ztk z)) - nI (zbak (zdy z) (zwa z) (ztr z) (ztd z) (ztp z) (ztf z) (ztn z))) (zAw (zdy z) (zn z) (zwa z) (ziv z)) (zAi (zdy z) (zn z) (zwa z) (ziv z)) (zup (zAh (zb (zdy z)) i (zAw (zdy z) (zn z) (zwa z) (ziv z)) (zAi (zdy z) (zn z) (zwa z) (ziv z)) (zgh z)) i (z_gb (zb (zdy z)) ((zAw (zdy z) (zn z) (zwa z) (ziv z)) i) ((zAi (zdy z) (zn z) (zwa z) (ziv z)) i) ((zAh (zb (zdy z)) i (zAw (zdy z) (zn z) (zwa z) (ziv z)) (zAi (zdy z) (zn z) (zwa z) (ziv z)) (zgh z)) i))) (zfat (ztn z) (zdy z) (zwa z) (ztr z) (ztd z) (ztf z))))), (e5, .inl (cA, 62, .inl kp))]) [5, 0, 1, 2, 3, 6, 4] rfl
              have hD := hD.sub (ws' := [(mo, .inr (4, [.int (nI th), .int (nI (zn z)), .int (nI (zgu z)), .int (nI (ztn z)), .ref e0, .ref e1, .ref e2, .ref e3, .ref e4, .ref e5])), (e0, .inl (cA, 10, .inl (fun j => nI ((zpr z) j)))), (e1, .inl (cA, 30, .inl (fun j => nI ((ztr z) j)))), (e2, .inl (cA, 30, .inl (fun j => nI ((ztd z) j)))), (e3, .inl (cA, 30, .inl (fun j => nI ((ztp z) j)))), (e4, .inl (cA, 62, .inl (znw (zdy z) ((zpu z + nI (ztk z)) - nI (zbak (zdy z) (zwa z) (ztr z) (ztd z) (ztp z) (ztf z) (ztn z))) (zAw (zdy z) (zn z) (zwa z) (ziv z)) (zAi (zdy z) (zn z) (zwa z) (ziv z)) (zup (zAh (zb (zdy z)) i (zAw (zdy z) (zn z) (zwa z) (ziv z)) (zAi (zdy z) (zn z) (zwa z) (ziv z)) (zgh z)) i (z_gb (zb (zdy z)) ((zAw (zdy z) (zn z) (zwa z) (ziv z)) i) ((zAi (zdy z) (zn z) (zwa z) (ziv z)) i) ((zAh (zb (zdy z)) i (zAw (zdy z) (zn z) (zwa z) (ziv z)) (zAi (zdy z) (zn z) (zwa z) (ziv z)) (zgh z)) i))) (zfat (ztn z) (zdy z) (zwa z) (ztr z) (ztd z) (ztf z))))), (e5, .inl (cA, 62, .inl kp))]) [5, 0, 1, 2, 3, 6, 4] (by decide) rfl
              refine lv_iinc (v := nI (i + 1)) (lv' := [(1, .int (nI (i + 1))), (0, .ref mo)]) hx hb dX5_dayOn_44 hl (k := 1) rfl (nI_1 _) (by decide) rfl (fun ls hl => ?_)
              refine lv_goto (tgt := 31) hx hb dX5_dayOn_47 (by decide) ?_
              have hl := lv_sub (l' := [(0, .ref mo), (1, .int (nI (i + 1)))]) hl [1, 0] rfl
              have hw8 : ∀ (x0 : Nat → Int32), x0 = znw (zdy z) ((zpu z + nI (ztk z)) - nI (zbak (zdy z) (zwa z) (ztr z) (ztd z) (ztp z) (ztf z) (ztn z))) (zAw (zdy z) (zn z) (zwa z) (ziv z)) (zAi (zdy z) (zn z) (zwa z) (ziv z)) (zup (zAh (zb (zdy z)) i (zAw (zdy z) (zn z) (zwa z) (ziv z)) (zAi (zdy z) (zn z) (zwa z) (ziv z)) (zgh z)) i (z_gb (zb (zdy z)) ((zAw (zdy z) (zn z) (zwa z) (ziv z)) i) ((zAi (zdy z) (zn z) (zwa z) (ziv z)) i) ((zAh (zb (zdy z)) i (zAw (zdy z) (zn z) (zwa z) (ziv z)) (zAi (zdy z) (zn z) (zwa z) (ziv z)) (zgh z)) i))) (zfat (ztn z) (zdy z) (zwa z) (ztr z) (ztd z) (ztf z)) → va_P (dC, dI) vwCl [(mo, .inr (4, [.int (nI th), .int (nI (zn z)), .int (nI (zgu z)), .int (nI (ztn z)), .ref e0, .ref e1, .ref e2, .ref e3, .ref e4, .ref e5])), (e0, .inl (cA, 10, .inl (fun j => nI ((zpr z) j)))), (e1, .inl (cA, 30, .inl (fun j => nI ((ztr z) j)))), (e2, .inl (cA, 30, .inl (fun j => nI ((ztd z) j)))), (e3, .inl (cA, 30, .inl (fun j => nI ((ztp z) j)))), (e4, .inl (cA, 62, .inl x0)), (e5, .inl (cA, 62, .inl kp))] H ∧ va_D A [(mo, .inr (4, [.int (nI th), .int (nI (zn z)), .int (nI (zgu z)), .int (nI (ztn z)), .ref e0, .ref e1, .ref e2, .ref e3, .ref e4, .ref e5])), (e0, .inl (cA, 10, .inl (fun j => nI ((zpr z) j)))), (e1, .inl (cA, 30, .inl (fun j => nI ((ztr z) j)))), (e2, .inl (cA, 30, .inl (fun j => nI ((ztd z) j)))), (e3, .inl (cA, 30, .inl (fun j => nI ((ztp z) j)))), (e4, .inl (cA, 62, .inl x0)), (e5, .inl (cA, 62, .inl kp))] := by
                intro x0 h0; subst h0; exact ⟨hP, hD⟩
              obtain ⟨hP, hD⟩ := hw8 (znw (zdy z) ((zpu z + nI (ztk z)) - nI (zbak (zdy z) (zwa z) (ztr z) (ztd z) (ztp z) (ztf z) (ztn z))) (zAw (zdy z) (zn z) (zwa z) (ziv z)) (zAi (zdy z) (zn z) (zwa z) (ziv z)) (zAh (zb (zdy z)) (i + 1) (zAw (zdy z) (zn z) (zwa z) (ziv z)) (zAi (zdy z) (zn z) (zwa z) (ziv z)) (zgh z)) (zfat (ztn z) (zdy z) (zwa z) (ztr z) (ztd z) (ztf z))) (show (znw (zdy z) ((zpu z + nI (ztk z)) - nI (zbak (zdy z) (zwa z) (ztr z) (ztd z) (ztp z) (ztf z) (ztn z))) (zAw (zdy z) (zn z) (zwa z) (ziv z)) (zAi (zdy z) (zn z) (zwa z) (ziv z)) (zAh (zb (zdy z)) (i + 1) (zAw (zdy z) (zn z) (zwa z) (ziv z)) (zAi (zdy z) (zn z) (zwa z) (ziv z)) (zgh z)) (zfat (ztn z) (zdy z) (zwa z) (ztr z) (ztd z) (ztf z))) = znw (zdy z) ((zpu z + nI (ztk z)) - nI (zbak (zdy z) (zwa z) (ztr z) (ztd z) (ztp z) (ztf z) (ztn z))) (zAw (zdy z) (zn z) (zwa z) (ziv z)) (zAi (zdy z) (zn z) (zwa z) (ziv z)) (zup (zAh (zb (zdy z)) i (zAw (zdy z) (zn z) (zwa z) (ziv z)) (zAi (zdy z) (zn z) (zwa z) (ziv z)) (zgh z)) i (z_gb (zb (zdy z)) ((zAw (zdy z) (zn z) (zwa z) (ziv z)) i) ((zAi (zdy z) (zn z) (zwa z) (ziv z)) i) ((zAh (zb (zdy z)) i (zAw (zdy z) (zn z) (zwa z) (ziv z)) (zAi (zdy z) (zn z) (zwa z) (ziv z)) (zgh z)) i))) (zfat (ztn z) (zdy z) (zwa z) (ztr z) (ztd z) (ztf z)) from by (first | exact znw_cg rfl (by rw [show zn z = i from by omega]) (by rw [show zn z = i from by omega]) zA_0 rfl | exact znw_cg rfl rfl rfl (zA_s (by rw [e93])) rfl))
              exact ih_31 (i + 1) (by omega) (by first | assumption | omega) _ _ hP hD hS _ hl
        have hl := lv_sub (l' := [(0, .ref mo), (1, .int (nI 0))]) hl [1, 0] rfl
        have hw9 : ∀ (x0 : Nat → Int32), x0 = znw (zdy z) ((zpu z + nI (ztk z)) - nI (zbak (zdy z) (zwa z) (ztr z) (ztd z) (ztp z) (ztf z) (ztn z))) (zAw (zdy z) i (zwa z) (ziv z)) (zAi (zdy z) i (zwa z) (ziv z)) (zgh z) (zfat (ztn z) (zdy z) (zwa z) (ztr z) (ztd z) (ztf z)) → va_P (dC, dI) vwCl [(mo, .inr (4, [.int (nI th), .int (nI (zn z)), .int (nI (zgu z)), .int (nI (ztn z)), .ref e0, .ref e1, .ref e2, .ref e3, .ref e4, .ref e5])), (e0, .inl (cA, 10, .inl (fun j => nI ((zpr z) j)))), (e1, .inl (cA, 30, .inl (fun j => nI ((ztr z) j)))), (e2, .inl (cA, 30, .inl (fun j => nI ((ztd z) j)))), (e3, .inl (cA, 30, .inl (fun j => nI ((ztp z) j)))), (e4, .inl (cA, 62, .inl x0)), (e5, .inl (cA, 62, .inl kp))] H ∧ va_D A [(mo, .inr (4, [.int (nI th), .int (nI (zn z)), .int (nI (zgu z)), .int (nI (ztn z)), .ref e0, .ref e1, .ref e2, .ref e3, .ref e4, .ref e5])), (e0, .inl (cA, 10, .inl (fun j => nI ((zpr z) j)))), (e1, .inl (cA, 30, .inl (fun j => nI ((ztr z) j)))), (e2, .inl (cA, 30, .inl (fun j => nI ((ztd z) j)))), (e3, .inl (cA, 30, .inl (fun j => nI ((ztp z) j)))), (e4, .inl (cA, 62, .inl x0)), (e5, .inl (cA, 62, .inl kp))] := by
          intro x0 h0; subst h0; exact ⟨hP, hD⟩
        obtain ⟨hP, hD⟩ := hw9 (znw (zdy z) ((zpu z + nI (ztk z)) - nI (zbak (zdy z) (zwa z) (ztr z) (ztd z) (ztp z) (ztf z) (ztn z))) (zAw (zdy z) (zn z) (zwa z) (ziv z)) (zAi (zdy z) (zn z) (zwa z) (ziv z)) (zAh (zb (zdy z)) 0 (zAw (zdy z) (zn z) (zwa z) (ziv z)) (zAi (zdy z) (zn z) (zwa z) (ziv z)) (zgh z)) (zfat (ztn z) (zdy z) (zwa z) (ztr z) (ztd z) (ztf z))) (show (znw (zdy z) ((zpu z + nI (ztk z)) - nI (zbak (zdy z) (zwa z) (ztr z) (ztd z) (ztp z) (ztf z) (ztn z))) (zAw (zdy z) (zn z) (zwa z) (ziv z)) (zAi (zdy z) (zn z) (zwa z) (ziv z)) (zAh (zb (zdy z)) 0 (zAw (zdy z) (zn z) (zwa z) (ziv z)) (zAi (zdy z) (zn z) (zwa z) (ziv z)) (zgh z)) (zfat (ztn z) (zdy z) (zwa z) (ztr z) (ztd z) (ztf z))) = znw (zdy z) ((zpu z + nI (ztk z)) - nI (zbak (zdy z) (zwa z) (ztr z) (ztd z) (ztp z) (ztf z) (ztn z))) (zAw (zdy z) i (zwa z) (ziv z)) (zAi (zdy z) i (zwa z) (ziv z)) (zgh z) (zfat (ztn z) (zdy z) (zwa z) (ztr z) (ztd z) (ztf z)) from by (first | exact znw_cg rfl (by rw [show zn z = i from by omega]) (by rw [show zn z = i from by omega]) zA_0 rfl | exact znw_cg rfl rfl rfl (zA_s (by rw [e93])) rfl))
        exact lp_31 _ 0 (Nat.lt_succ_self _) (by first | assumption | omega) _ _ hP hD hS _ hl
      · skip
        replace c_3 := mt (nI_leI (by omega) (by omega)).mpr c_3
        refine lv_aload_n hx hb dX5_dayOn_18 rfl (lv_at hl 0 rfl) ?_
        refine lv_iload_n hx hb dX5_dayOn_19 rfl (lv_at hl 1 rfl) ?_
        have hPc := hP.sub (ws' := [(mo, .inr (4, [.int (nI th), .int (nI (zn z)), .int (nI (zgu z)), .int (nI (ztn z)), .ref e0, .ref e1, .ref e2, .ref e3, .ref e4, .ref e5])), (e4, .inl (cA, 62, .inl (znw (zdy z) ((zpu z + nI (ztk z)) - nI (zbak (zdy z) (zwa z) (ztr z) (ztd z) (ztp z) (ztf z) (ztn z))) (zAw (zdy z) i (zwa z) (ziv z)) (zAi (zdy z) i (zwa z) (ziv z)) (zgh z) (zfat (ztn z) (zdy z) (zwa z) (ztr z) (ztd z) (ztf z)))))]) [0, 5] rfl
        have hDc := hD.sub (ws' := [(mo, .inr (4, [.int (nI th), .int (nI (zn z)), .int (nI (zgu z)), .int (nI (ztn z)), .ref e0, .ref e1, .ref e2, .ref e3, .ref e4, .ref e5])), (e4, .inl (cA, 62, .inl (znw (zdy z) ((zpu z + nI (ztk z)) - nI (zbak (zdy z) (zwa z) (ztr z) (ztd z) (ztp z) (ztf z) (ztn z))) (zAw (zdy z) i (zwa z) (ziv z)) (zAi (zdy z) i (zwa z) (ziv z)) (zgh z) (zfat (ztn z) (zdy z) (zwa z) (ztr z) (ztd z) (ztf z)))))]) [0, 5] (by decide) rfl
        have hFc := va_free (wc := [(mo, .inr (4, [.int (nI th), .int (nI (zn z)), .int (nI (zgu z)), .int (nI (ztn z)), .ref e0, .ref e1, .ref e2, .ref e3, .ref e4, .ref e5])), (e4, .inl (cA, 62, .inl (znw (zdy z) ((zpu z + nI (ztk z)) - nI (zbak (zdy z) (zwa z) (ztr z) (ztd z) (ztp z) (ztf z) (ztn z))) (zAw (zdy z) i (zwa z) (ziv z)) (zAi (zdy z) i (zwa z) (ziv z)) (zgh z) (zfat (ztn z) (zdy z) (zwa z) (ztr z) (ztd z) (ztf z)))))]) hD hS hA [0, 5] rfl
        refine va_callv (va_runV (As := [.int (nI i)]) (rest := []) ⟨hx, hb, hml, hown, hts⟩ (c_X5_grow l dC dI cA mo e0 e1 e2 e3 e4 e5 th (zn z) (zgu z) (ztn z) (zdy z) ((zpu z + nI (ztk z)) - nI (zbak (zdy z) (zwa z) (ztr z) (ztd z) (ztp z) (ztf z) (ztn z))) (zAw (zdy z) i (zwa z) (ziv z)) (zAi (zdy z) i (zwa z) (ziv z)) (zgh z) (zfat (ztn z) (zdy z) (zwa z) (ztr z) (ztd z) (ztf z)) i H.size (by first | assumption | omega) (by rw [e91]; omega) (by rw [e92]; omega) (by first | assumption | omega)) (cwV 1 hts gX5_dayOn_X5_grow rfl rfl rfl (by decide +kernel) ⟨Nat.le_of_ble_eq_true rfl, Nat.le_of_ble_eq_true rfl⟩) ⟨fun a U g mk q => by obtain ⟨q0, q1, qP, qK, qD⟩ := q; exact ⟨q0, q1, qP, va_K.moved (u := U) (U := U.calling g mk a) (Vm.Alike.refl U.vm) qK, qD⟩, va_recv hK hP (ci := 4) (q0 := 0) rfl rfl, fun U hU hW => ⟨rfl, by rw [hU], by rw [hU]; exact hPc, va_K.moved hW.alike hK, hDc.weaken (fun _ _ _ _ => trivial)⟩⟩ rfl rfl hl.1 rfl (lv_room (Nat.le_of_ble_eq_true rfl)) dX5_dayOn_20 ⟨Nat.le_of_ble_eq_true rfl, Nat.le_of_ble_eq_true rfl⟩) hS (fun q _ h => hFc q h) hFc (fun u t H1 locs ht hvm hw_10 hB hz1 hk1 hS => ?_)
        obtain ⟨hP1, hD1⟩ := hB
        rw [ht] at hP1
        obtain ⟨hP, hD⟩ := va_join (wr := [(e0, .inl (cA, 10, .inl (fun j => nI ((zpr z) j)))), (e1, .inl (cA, 30, .inl (fun j => nI ((ztr z) j)))), (e2, .inl (cA, 30, .inl (fun j => nI ((ztd z) j)))), (e3, .inl (cA, 30, .inl (fun j => nI ((ztp z) j)))), (e5, .inl (cA, 62, .inl kp))]) (w1 := [(mo, .inr (4, [.int (nI th), .int (nI (zn z)), .int (nI (zgu z)), .int (nI (ztn z)), .ref e0, .ref e1, .ref e2, .ref e3, .ref e4, .ref e5])), (e4, .inl (cA, 62, .inl (znw (zdy z) ((zpu z + nI (ztk z)) - nI (zbak (zdy z) (zwa z) (ztr z) (ztd z) (ztp z) (ztf z) (ztn z))) (zup (zAw (zdy z) i (zwa z) (ziv z)) i (z_wa (zdy z) ((zAw (zdy z) i (zwa z) (ziv z)) i) ((zAi (zdy z) i (zwa z) (ziv z)) i))) (zup (zAi (zdy z) i (zwa z) (ziv z)) i (z_iv (zdy z) ((zAw (zdy z) i (zwa z) (ziv z)) i) ((zAi (zdy z) i (zwa z) (ziv z)) i))) (zgh z) (zfat (ztn z) (zdy z) (zwa z) (ztr z) (ztd z) (ztf z)))))]) hP hD [0, 5] [1, 2, 3, 4, 6] rfl rfl (by decide) (by decide) hk1 hFc hP1 hD1
        generalize H1 = H at hP hS ⊢
        have hP := hP.sub (ws' := [(mo, .inr (4, [.int (nI th), .int (nI (zn z)), .int (nI (zgu z)), .int (nI (ztn z)), .ref e0, .ref e1, .ref e2, .ref e3, .ref e4, .ref e5])), (e0, .inl (cA, 10, .inl (fun j => nI ((zpr z) j)))), (e1, .inl (cA, 30, .inl (fun j => nI ((ztr z) j)))), (e2, .inl (cA, 30, .inl (fun j => nI ((ztd z) j)))), (e3, .inl (cA, 30, .inl (fun j => nI ((ztp z) j)))), (e4, .inl (cA, 62, .inl (znw (zdy z) ((zpu z + nI (ztk z)) - nI (zbak (zdy z) (zwa z) (ztr z) (ztd z) (ztp z) (ztf z) (ztn z))) (zup (zAw (zdy z) i (zwa z) (ziv z)) i (z_wa (zdy z) ((zAw (zdy z) i (zwa z) (ziv z)) i) ((zAi (zdy z) i (zwa z) (ziv z)) i))) (zup (zAi (zdy z) i (zwa z) (ziv z)) i (z_iv (zdy z) ((zAw (zdy z) i (zwa z) (ziv z)) i) ((zAi (zdy z) i (zwa z) (ziv z)) i))) (zgh z) (zfat (ztn z) (zdy z) (zwa z) (ztr z) (ztd z) (ztf z))))), (e5, .inl (cA, 62, .inl kp))]) [5, 0, 1, 2, 3, 6, 4] rfl
        have hD := hD.sub (ws' := [(mo, .inr (4, [.int (nI th), .int (nI (zn z)), .int (nI (zgu z)), .int (nI (ztn z)), .ref e0, .ref e1, .ref e2, .ref e3, .ref e4, .ref e5])), (e0, .inl (cA, 10, .inl (fun j => nI ((zpr z) j)))), (e1, .inl (cA, 30, .inl (fun j => nI ((ztr z) j)))), (e2, .inl (cA, 30, .inl (fun j => nI ((ztd z) j)))), (e3, .inl (cA, 30, .inl (fun j => nI ((ztp z) j)))), (e4, .inl (cA, 62, .inl (znw (zdy z) ((zpu z + nI (ztk z)) - nI (zbak (zdy z) (zwa z) (ztr z) (ztd z) (ztp z) (ztf z) (ztn z))) (zup (zAw (zdy z) i (zwa z) (ziv z)) i (z_wa (zdy z) ((zAw (zdy z) i (zwa z) (ziv z)) i) ((zAi (zdy z) i (zwa z) (ziv z)) i))) (zup (zAi (zdy z) i (zwa z) (ziv z)) i (z_iv (zdy z) ((zAw (zdy z) i (zwa z) (ziv z)) i) ((zAi (zdy z) i (zwa z) (ziv z)) i))) (zgh z) (zfat (ztn z) (zdy z) (zwa z) (ztr z) (ztd z) (ztf z))))), (e5, .inl (cA, 62, .inl kp))]) [5, 0, 1, 2, 3, 6, 4] (by decide) rfl
        refine lv_iinc (v := nI (i + 1)) (lv' := [(1, .int (nI (i + 1))), (0, .ref mo)]) hx hb dX5_dayOn_23 hl (k := 1) rfl (nI_1 _) (by decide) rfl (fun ls hl => ?_)
        refine lv_goto (tgt := 10) hx hb dX5_dayOn_26 (by decide) ?_
        have hl := lv_sub (l' := [(0, .ref mo), (1, .int (nI (i + 1)))]) hl [1, 0] rfl
        have hw11 : ∀ (x0 : Nat → Int32), x0 = znw (zdy z) ((zpu z + nI (ztk z)) - nI (zbak (zdy z) (zwa z) (ztr z) (ztd z) (ztp z) (ztf z) (ztn z))) (zup (zAw (zdy z) i (zwa z) (ziv z)) i (z_wa (zdy z) ((zAw (zdy z) i (zwa z) (ziv z)) i) ((zAi (zdy z) i (zwa z) (ziv z)) i))) (zup (zAi (zdy z) i (zwa z) (ziv z)) i (z_iv (zdy z) ((zAw (zdy z) i (zwa z) (ziv z)) i) ((zAi (zdy z) i (zwa z) (ziv z)) i))) (zgh z) (zfat (ztn z) (zdy z) (zwa z) (ztr z) (ztd z) (ztf z)) → va_P (dC, dI) vwCl [(mo, .inr (4, [.int (nI th), .int (nI (zn z)), .int (nI (zgu z)), .int (nI (ztn z)), .ref e0, .ref e1, .ref e2, .ref e3, .ref e4, .ref e5])), (e0, .inl (cA, 10, .inl (fun j => nI ((zpr z) j)))), (e1, .inl (cA, 30, .inl (fun j => nI ((ztr z) j)))), (e2, .inl (cA, 30, .inl (fun j => nI ((ztd z) j)))), (e3, .inl (cA, 30, .inl (fun j => nI ((ztp z) j)))), (e4, .inl (cA, 62, .inl x0)), (e5, .inl (cA, 62, .inl kp))] H ∧ va_D A [(mo, .inr (4, [.int (nI th), .int (nI (zn z)), .int (nI (zgu z)), .int (nI (ztn z)), .ref e0, .ref e1, .ref e2, .ref e3, .ref e4, .ref e5])), (e0, .inl (cA, 10, .inl (fun j => nI ((zpr z) j)))), (e1, .inl (cA, 30, .inl (fun j => nI ((ztr z) j)))), (e2, .inl (cA, 30, .inl (fun j => nI ((ztd z) j)))), (e3, .inl (cA, 30, .inl (fun j => nI ((ztp z) j)))), (e4, .inl (cA, 62, .inl x0)), (e5, .inl (cA, 62, .inl kp))] := by
          intro x0 h0; subst h0; exact ⟨hP, hD⟩
        obtain ⟨hP, hD⟩ := hw11 (znw (zdy z) ((zpu z + nI (ztk z)) - nI (zbak (zdy z) (zwa z) (ztr z) (ztd z) (ztp z) (ztf z) (ztn z))) (zAw (zdy z) (i + 1) (zwa z) (ziv z)) (zAi (zdy z) (i + 1) (zwa z) (ziv z)) (zgh z) (zfat (ztn z) (zdy z) (zwa z) (ztr z) (ztd z) (ztf z))) (show (znw (zdy z) ((zpu z + nI (ztk z)) - nI (zbak (zdy z) (zwa z) (ztr z) (ztd z) (ztp z) (ztf z) (ztn z))) (zAw (zdy z) (i + 1) (zwa z) (ziv z)) (zAi (zdy z) (i + 1) (zwa z) (ziv z)) (zgh z) (zfat (ztn z) (zdy z) (zwa z) (ztr z) (ztd z) (ztf z))) = znw (zdy z) ((zpu z + nI (ztk z)) - nI (zbak (zdy z) (zwa z) (ztr z) (ztd z) (ztp z) (ztf z) (ztn z))) (zup (zAw (zdy z) i (zwa z) (ziv z)) i (z_wa (zdy z) ((zAw (zdy z) i (zwa z) (ziv z)) i) ((zAi (zdy z) i (zwa z) (ziv z)) i))) (zup (zAi (zdy z) i (zwa z) (ziv z)) i (z_iv (zdy z) ((zAw (zdy z) i (zwa z) (ziv z)) i) ((zAi (zdy z) i (zwa z) (ziv z)) i))) (zgh z) (zfat (ztn z) (zdy z) (zwa z) (ztr z) (ztd z) (ztf z)) from by (first | exact znw_cg rfl zA_0.symm zA_0.symm rfl rfl | exact znw_cg rfl zA_0 zA_0 rfl rfl | exact znw_cg rfl (zA_s (by rw [e91, e92])) (zA_s (by rw [e91, e92])) rfl rfl))
        exact ih_10 (i + 1) (by omega) (by first | assumption | omega) _ _ hP hD hS _ hl
  have hl := lv_sub (l' := [(0, .ref mo), (1, .int (nI 0))]) hl [1, 0] rfl
  have hw12 : ∀ (x0 : Nat → Nat) (x1 : Nat → Nat) (x2 : Nat → Nat) (x3 : Nat → Nat) (x4 : Nat → Int32), x0 = (zpr z) → x1 = (ztr z) → x2 = (ztd z) → x3 = (ztp z) → x4 = znw (zdy z) (((zpu z) + nI (zts (zgu z) (zn z) (zmf (zwa z) (ziv z) (zgh z) (zpr z) (zb (zdy z))) (zwa z) (zpr z) (zn z))) - nI (zbak (zdy z) (zwa z) (ztr z) (ztd z) (ztp z) (ztf z) (ztn z))) (zwa z) (ziv z) (zgh z) (zfat (ztn z) (zdy z) (zwa z) (ztr z) (ztd z) (ztf z)) → va_P (dC, dI) vwCl [(mo, .inr (4, [.int (nI th), .int (nI (zn z)), .int (nI (zgu z)), .int (nI (ztn z)), .ref e0, .ref e1, .ref e2, .ref e3, .ref e4, .ref e5])), (e0, .inl (cA, 10, .inl (fun j => nI (x0 j)))), (e1, .inl (cA, 30, .inl (fun j => nI (x1 j)))), (e2, .inl (cA, 30, .inl (fun j => nI (x2 j)))), (e3, .inl (cA, 30, .inl (fun j => nI (x3 j)))), (e4, .inl (cA, 62, .inl x4)), (e5, .inl (cA, 62, .inl kp))] H ∧ va_D A [(mo, .inr (4, [.int (nI th), .int (nI (zn z)), .int (nI (zgu z)), .int (nI (ztn z)), .ref e0, .ref e1, .ref e2, .ref e3, .ref e4, .ref e5])), (e0, .inl (cA, 10, .inl (fun j => nI (x0 j)))), (e1, .inl (cA, 30, .inl (fun j => nI (x1 j)))), (e2, .inl (cA, 30, .inl (fun j => nI (x2 j)))), (e3, .inl (cA, 30, .inl (fun j => nI (x3 j)))), (e4, .inl (cA, 62, .inl x4)), (e5, .inl (cA, 62, .inl kp))] := by
    intro x0 x1 x2 x3 x4 h0 h1 h2 h3 h4; subst h0; subst h1; subst h2; subst h3; subst h4; exact ⟨hP, hD⟩
  obtain ⟨hP, hD⟩ := hw12 (zpr z) (ztr z) (ztd z) (ztp z) (znw (zdy z) ((zpu z + nI (ztk z)) - nI (zbak (zdy z) (zwa z) (ztr z) (ztd z) (ztp z) (ztf z) (ztn z))) (zAw (zdy z) 0 (zwa z) (ziv z)) (zAi (zdy z) 0 (zwa z) (ziv z)) (zgh z) (zfat (ztn z) (zdy z) (zwa z) (ztr z) (ztd z) (ztf z))) (show (zpr z) = (zpr z) from by rfl) (show (ztr z) = (ztr z) from by rfl) (show (ztd z) = (ztd z) from by rfl) (show (ztp z) = (ztp z) from by rfl) (show (znw (zdy z) ((zpu z + nI (ztk z)) - nI (zbak (zdy z) (zwa z) (ztr z) (ztd z) (ztp z) (ztf z) (ztn z))) (zAw (zdy z) 0 (zwa z) (ziv z)) (zAi (zdy z) 0 (zwa z) (ziv z)) (zgh z) (zfat (ztn z) (zdy z) (zwa z) (ztr z) (ztd z) (ztf z))) = znw (zdy z) (((zpu z) + nI (zts (zgu z) (zn z) (zmf (zwa z) (ziv z) (zgh z) (zpr z) (zb (zdy z))) (zwa z) (zpr z) (zn z))) - nI (zbak (zdy z) (zwa z) (ztr z) (ztd z) (ztp z) (ztf z) (ztn z))) (zwa z) (ziv z) (zgh z) (zfat (ztn z) (zdy z) (zwa z) (ztr z) (ztd z) (ztf z)) from by (first | exact znw_cg rfl zA_0.symm zA_0.symm rfl rfl | exact znw_cg rfl zA_0 zA_0 rfl rfl | exact znw_cg rfl (zA_s (by rw [e91, e92])) (zA_s (by rw [e91, e92])) rfl rfl))
  exact lp_10 _ 0 (Nat.lt_succ_self _) (by first | assumption | omega) _ _ hP hD hS _ hl
set_option maxHeartbeats 4000000 in
set_option maxRecDepth 100000 in
theorem c_X5_daysOn (l : Launch) (dC : Nat → ClassId) (dI : Nat → Nat → Nat) (cA : ClassId) (mo : Nat) (e0 : Nat) (e1 : Nat) (e2 : Nat) (e3 : Nat) (e4 : Nat) (e5 : Nat) (th : Nat) (z : ZS) (kp : Nat → Int32) (k : Nat) (sz : Nat) (hz : zok z) (hdk : zdy z + k ≤ 50000) : Met l yX5_daysOn wsX5_daysOn ({ frames := 7, cells := 0, slots := 0, locals := 155 } : Room) (va_Pc [.ref mo, .int (nI k)] (fun U => U.heap.size = sz ∧ va_P (dC, dI) vwCl [(mo, .inr (4, [.int (nI th), .int (nI (zn z)), .int (nI (zgu z)), .int (nI (ztn z)), .ref e0, .ref e1, .ref e2, .ref e3, .ref e4, .ref e5])), (e0, .inl (cA, 10, .inl (fun j => nI ((zpr z) j)))), (e1, .inl (cA, 30, .inl (fun j => nI ((ztr z) j)))), (e2, .inl (cA, 30, .inl (fun j => nI ((ztd z) j)))), (e3, .inl (cA, 30, .inl (fun j => nI ((ztp z) j)))), (e4, .inl (cA, 62, .inl (znw (zdy z) (zpu z) (zwa z) (ziv z) (zgh z) (ztf z)))), (e5, .inl (cA, 62, .inl kp))] U.heap ∧ va_K (dC, dI) vwCl [(cA, .int)] U ∧ va_D (fun _ => True) [(mo, .inr (4, [.int (nI th), .int (nI (zn z)), .int (nI (zgu z)), .int (nI (ztn z)), .ref e0, .ref e1, .ref e2, .ref e3, .ref e4, .ref e5])), (e0, .inl (cA, 10, .inl (fun j => nI ((zpr z) j)))), (e1, .inl (cA, 30, .inl (fun j => nI ((ztr z) j)))), (e2, .inl (cA, 30, .inl (fun j => nI ((ztd z) j)))), (e3, .inl (cA, 30, .inl (fun j => nI ((ztp z) j)))), (e4, .inl (cA, 62, .inl (znw (zdy z) (zpu z) (zwa z) (ziv z) (zgh z) (ztf z)))), (e5, .inl (cA, 62, .inl kp))])) (va_Qv (fun _ : Unit => True) (fun (_ : Unit) t => va_P (dC, dI) vwCl [(mo, .inr (4, [.int (nI th), .int (nI (zn (zds z k))), .int (nI (zgu (zds z k))), .int (nI (ztn (zds z k))), .ref e0, .ref e1, .ref e2, .ref e3, .ref e4, .ref e5])), (e0, .inl (cA, 10, .inl (fun j => nI ((zpr (zds z k)) j)))), (e1, .inl (cA, 30, .inl (fun j => nI ((ztr (zds z k)) j)))), (e2, .inl (cA, 30, .inl (fun j => nI ((ztd (zds z k)) j)))), (e3, .inl (cA, 30, .inl (fun j => nI ((ztp (zds z k)) j)))), (e4, .inl (cA, 62, .inl (znw (zdy (zds z k)) (zpu (zds z k)) (zwa (zds z k)) (ziv (zds z k)) (zgh (zds z k)) (ztf (zds z k))))), (e5, .inl (cA, 62, .inl kp))] t.heap ∧ va_D (va_A [(mo, .inr (4, [.int (nI th), .int (nI (zn z)), .int (nI (zgu z)), .int (nI (ztn z)), .ref e0, .ref e1, .ref e2, .ref e3, .ref e4, .ref e5])), (e0, .inl (cA, 10, .inl (fun j => nI ((zpr z) j)))), (e1, .inl (cA, 30, .inl (fun j => nI ((ztr z) j)))), (e2, .inl (cA, 30, .inl (fun j => nI ((ztd z) j)))), (e3, .inl (cA, 30, .inl (fun j => nI ((ztp z) j)))), (e4, .inl (cA, 62, .inl (znw (zdy z) (zpu z) (zwa z) (ziv z) (zgh z) (ztf z)))), (e5, .inl (cA, 62, .inl kp))] sz) [(mo, .inr (4, [.int (nI th), .int (nI (zn (zds z k))), .int (nI (zgu (zds z k))), .int (nI (ztn (zds z k))), .ref e0, .ref e1, .ref e2, .ref e3, .ref e4, .ref e5])), (e0, .inl (cA, 10, .inl (fun j => nI ((zpr (zds z k)) j)))), (e1, .inl (cA, 30, .inl (fun j => nI ((ztr (zds z k)) j)))), (e2, .inl (cA, 30, .inl (fun j => nI ((ztd (zds z k)) j)))), (e3, .inl (cA, 30, .inl (fun j => nI ((ztp (zds z k)) j)))), (e4, .inl (cA, 62, .inl (znw (zdy (zds z k)) (zpu (zds z k)) (zwa (zds z k)) (ziv (zds z k)) (zgh (zds z k)) (ztf (zds z k))))), (e5, .inl (cA, 62, .inl kp))]) (va_A [(mo, .inr (4, [.int (nI th), .int (nI (zn z)), .int (nI (zgu z)), .int (nI (ztn z)), .ref e0, .ref e1, .ref e2, .ref e3, .ref e4, .ref e5])), (e0, .inl (cA, 10, .inl (fun j => nI ((zpr z) j)))), (e1, .inl (cA, 30, .inl (fun j => nI ((ztr z) j)))), (e2, .inl (cA, 30, .inl (fun j => nI ((ztd z) j)))), (e3, .inl (cA, 30, .inl (fun j => nI ((ztp z) j)))), (e4, .inl (cA, 62, .inl (znw (zdy z) (zpu z) (zwa z) (ziv z) (zgh z) (ztf z)))), (e5, .inl (cA, 62, .inl kp))] sz)) 0 0 (va_A [(mo, .inr (4, [.int (nI th), .int (nI (zn z)), .int (nI (zgu z)), .int (nI (ztn z)), .ref e0, .ref e1, .ref e2, .ref e3, .ref e4, .ref e5])), (e0, .inl (cA, 10, .inl (fun j => nI ((zpr z) j)))), (e1, .inl (cA, 30, .inl (fun j => nI ((ztr z) j)))), (e2, .inl (cA, 30, .inl (fun j => nI ((ztd z) j)))), (e3, .inl (cA, 30, .inl (fun j => nI ((ztp z) j)))), (e4, .inl (cA, 62, .inl (znw (zdy z) (zpu z) (zwa z) (ziv z) (zgh z) (ztf z)))), (e5, .inl (cA, 62, .inl kp))] sz) := by
  refine Met.ofW (cc := cX5_daysOn) (maxL := 3) (ret := none) (by decide) rfl ?_
  intro p e s m args below meth c s₁ B hml hv
  obtain ⟨hargs, hsz, hP, hK, hD0⟩ := hv
  have hx := B.exec
  have hb := B.bytes
  have hr := B.returns
  have hts := atoms_spec (ws := wsX5_daysOn) B.pre
  have hown : s.vm.findClass RX5 = some m.cls := findClass_of_methodNamed B.named
  have hlocks := B.notSynchronized
  subst hsz
  have hD := hD0.self (sz := s.heap.size)
  generalize hAe : va_A [(mo, .inr (4, [.int (nI th), .int (nI (zn z)), .int (nI (zgu z)), .int (nI (ztn z)), .ref e0, .ref e1, .ref e2, .ref e3, .ref e4, .ref e5])), (e0, .inl (cA, 10, .inl (fun j => nI ((zpr z) j)))), (e1, .inl (cA, 30, .inl (fun j => nI ((ztr z) j)))), (e2, .inl (cA, 30, .inl (fun j => nI ((ztd z) j)))), (e3, .inl (cA, 30, .inl (fun j => nI ((ztp z) j)))), (e4, .inl (cA, 62, .inl (znw (zdy z) (zpu z) (zwa z) (ziv z) (zgh z) (ztf z)))), (e5, .inl (cA, 62, .inl kp))] s.heap.size = A at hD ⊢
  have hA : ∀ q : Nat, s.heap.size ≤ q → A q := fun q h => by rw [← hAe]; exact Or.inr h
  have hS : va_S A s.heap s.heap [] := va_S.rf
  have hP : va_P (dC, dI) vwCl [(mo, .inr (4, [.int (nI th), .int (nI (zn z)), .int (nI (zgu z)), .int (nI (ztn z)), .ref e0, .ref e1, .ref e2, .ref e3, .ref e4, .ref e5])), (e0, .inl (cA, 10, .inl (fun j => nI ((zpr z) j)))), (e1, .inl (cA, 30, .inl (fun j => nI ((ztr z) j)))), (e2, .inl (cA, 30, .inl (fun j => nI ((ztd z) j)))), (e3, .inl (cA, 30, .inl (fun j => nI ((ztp z) j)))), (e4, .inl (cA, 62, .inl (znw (zdy z) (zpu z) (zwa z) (ziv z) (zgh z) (ztf z)))), (e5, .inl (cA, 62, .inl kp))] s.heap := hP
  have hl := lv_entry ([.ref mo, .int (nI k)]) (n := 3) (Nat.le_of_ble_eq_true rfl)
  rw [hargs, lg_entry_eq, ← hargs]
  generalize (lg_sl ([.ref mo, .int (nI k)]) ++ List.replicate (3 - (lg_sl ([.ref mo, .int (nI k)])).length) Slot.unset).toArray = ls at hl ⊢
  have hl : lv_has ls 3 [(0, .ref mo), (1, .int (nI k))] := hl
  refine lv_iconst (v := nI 0) hx hb dX5_daysOn_0 (by decide) ?_
  refine lv_istore_n (lv' := [(2, .int (nI 0)), (0, .ref mo), (1, .int (nI k))]) hx hb dX5_daysOn_1 rfl hl (by decide) rfl (fun ls hl => ?_)
  have lp_2 : ∀ (f9 : Nat) (i : Nat) , (k - i) < f9 → (i ≤ k) → ∀ (H : Heap) (locs : List Loc), va_P (dC, dI) vwCl [(mo, .inr (4, [.int (nI th), .int (nI (zn (zds z i))), .int (nI (zgu (zds z i))), .int (nI (ztn (zds z i))), .ref e0, .ref e1, .ref e2, .ref e3, .ref e4, .ref e5])), (e0, .inl (cA, 10, .inl (fun j => nI ((zpr (zds z i)) j)))), (e1, .inl (cA, 30, .inl (fun j => nI ((ztr (zds z i)) j)))), (e2, .inl (cA, 30, .inl (fun j => nI ((ztd (zds z i)) j)))), (e3, .inl (cA, 30, .inl (fun j => nI ((ztp (zds z i)) j)))), (e4, .inl (cA, 62, .inl (znw (zdy (zds z i)) (zpu (zds z i)) (zwa (zds z i)) (ziv (zds z i)) (zgh (zds z i)) (ztf (zds z i))))), (e5, .inl (cA, 62, .inl kp))] H → va_D A [(mo, .inr (4, [.int (nI th), .int (nI (zn (zds z i))), .int (nI (zgu (zds z i))), .int (nI (ztn (zds z i))), .ref e0, .ref e1, .ref e2, .ref e3, .ref e4, .ref e5])), (e0, .inl (cA, 10, .inl (fun j => nI ((zpr (zds z i)) j)))), (e1, .inl (cA, 30, .inl (fun j => nI ((ztr (zds z i)) j)))), (e2, .inl (cA, 30, .inl (fun j => nI ((ztd (zds z i)) j)))), (e3, .inl (cA, 30, .inl (fun j => nI ((ztp (zds z i)) j)))), (e4, .inl (cA, 62, .inl (znw (zdy (zds z i)) (zpu (zds z i)) (zwa (zds z i)) (ziv (zds z i)) (zgh (zds z i)) (ztf (zds z i))))), (e5, .inl (cA, 62, .inl kp))] → va_S A s.heap H locs → ∀ (ls : Array Slot), lv_has ls 3 [(0, .ref mo), (1, .int (nI k)), (2, .int (nI i))] → W p l e ({ frames := 7, cells := 0, slots := 0, locals := 155 } : Room) s m args below meth c H locs 0 0 (MQ below (va_Qv (fun _ : Unit => True) (fun (_ : Unit) t => va_P (dC, dI) vwCl [(mo, .inr (4, [.int (nI th), .int (nI (zn (zds z k))), .int (nI (zgu (zds z k))), .int (nI (ztn (zds z k))), .ref e0, .ref e1, .ref e2, .ref e3, .ref e4, .ref e5])), (e0, .inl (cA, 10, .inl (fun j => nI ((zpr (zds z k)) j)))), (e1, .inl (cA, 30, .inl (fun j => nI ((ztr (zds z k)) j)))), (e2, .inl (cA, 30, .inl (fun j => nI ((ztd (zds z k)) j)))), (e3, .inl (cA, 30, .inl (fun j => nI ((ztp (zds z k)) j)))), (e4, .inl (cA, 62, .inl (znw (zdy (zds z k)) (zpu (zds z k)) (zwa (zds z k)) (ziv (zds z k)) (zgh (zds z k)) (ztf (zds z k))))), (e5, .inl (cA, 62, .inl kp))] t.heap ∧ va_D A [(mo, .inr (4, [.int (nI th), .int (nI (zn (zds z k))), .int (nI (zgu (zds z k))), .int (nI (ztn (zds z k))), .ref e0, .ref e1, .ref e2, .ref e3, .ref e4, .ref e5])), (e0, .inl (cA, 10, .inl (fun j => nI ((zpr (zds z k)) j)))), (e1, .inl (cA, 30, .inl (fun j => nI ((ztr (zds z k)) j)))), (e2, .inl (cA, 30, .inl (fun j => nI ((ztd (zds z k)) j)))), (e3, .inl (cA, 30, .inl (fun j => nI ((ztp (zds z k)) j)))), (e4, .inl (cA, 62, .inl (znw (zdy (zds z k)) (zpu (zds z k)) (zwa (zds z k)) (ziv (zds z k)) (zgh (zds z k)) (ztf (zds z k))))), (e5, .inl (cA, 62, .inl kp))]) A) args s 0 0 A) (F0 m 2 ls []) := by
    intro f9
    induction f9 with
    | zero => intro i hm9; exact absurd hm9 (Nat.not_lt_zero _)
    | succ f9 ih_2 =>
      intro i hm9 hi H locs hP hD hS ls hl
      have o0 := zds_ok hz i
      have o12 := zds_dy z i
      have hk9 : k < 60000 := by omega
      refine lv_iload_n hx hb dX5_daysOn_2 rfl (lv_at hl 2 rfl) ?_
      refine lv_iload_n hx hb dX5_daysOn_3 rfl (lv_at hl 1 rfl) ?_
      refine lv_icmp_ge (tgt := 17) hx hb dX5_daysOn_4 (by decide) (fun c_1 => ?_) (fun c_1 => ?_)
      · skip
        replace c_1 := (nI_leI (by omega) (by omega)).mp c_1
        have hw2 : ∀ (x0 : Nat) (x1 : Nat) (x2 : Nat) (x3 : Nat → Nat) (x4 : Nat → Nat) (x5 : Nat → Nat) (x6 : Nat → Nat) (x7 : Nat → Int32), x0 = zn (zds z i) → x1 = zgu (zds z i) → x2 = ztn (zds z i) → x3 = zpr (zds z i) → x4 = ztr (zds z i) → x5 = ztd (zds z i) → x6 = ztp (zds z i) → x7 = znw (zdy (zds z i)) (zpu (zds z i)) (zwa (zds z i)) (ziv (zds z i)) (zgh (zds z i)) (ztf (zds z i)) → va_P (dC, dI) vwCl [(mo, .inr (4, [.int (nI th), .int (nI x0), .int (nI x1), .int (nI x2), .ref e0, .ref e1, .ref e2, .ref e3, .ref e4, .ref e5])), (e0, .inl (cA, 10, .inl (fun j => nI (x3 j)))), (e1, .inl (cA, 30, .inl (fun j => nI (x4 j)))), (e2, .inl (cA, 30, .inl (fun j => nI (x5 j)))), (e3, .inl (cA, 30, .inl (fun j => nI (x6 j)))), (e4, .inl (cA, 62, .inl x7)), (e5, .inl (cA, 62, .inl kp))] H ∧ va_D A [(mo, .inr (4, [.int (nI th), .int (nI x0), .int (nI x1), .int (nI x2), .ref e0, .ref e1, .ref e2, .ref e3, .ref e4, .ref e5])), (e0, .inl (cA, 10, .inl (fun j => nI (x3 j)))), (e1, .inl (cA, 30, .inl (fun j => nI (x4 j)))), (e2, .inl (cA, 30, .inl (fun j => nI (x5 j)))), (e3, .inl (cA, 30, .inl (fun j => nI (x6 j)))), (e4, .inl (cA, 62, .inl x7)), (e5, .inl (cA, 62, .inl kp))] := by
          intro x0 x1 x2 x3 x4 x5 x6 x7 h0 h1 h2 h3 h4 h5 h6 h7; subst h0; subst h1; subst h2; subst h3; subst h4; subst h5; subst h6; subst h7; exact ⟨hP, hD⟩
        obtain ⟨hP, hD⟩ := hw2 (zn (zds z k)) (zgu (zds z k)) (ztn (zds z k)) (zpr (zds z k)) (ztr (zds z k)) (ztd (zds z k)) (ztp (zds z k)) (znw (zdy (zds z k)) (zpu (zds z k)) (zwa (zds z k)) (ziv (zds z k)) (zgh (zds z k)) (ztf (zds z k))) (show zn (zds z k) = zn (zds z i) from by (first | rfl | rw [show k = i from by omega])) (show zgu (zds z k) = zgu (zds z i) from by (first | rfl | rw [show k = i from by omega])) (show ztn (zds z k) = ztn (zds z i) from by (first | rfl | rw [show k = i from by omega])) (show (zpr (zds z k)) = zpr (zds z i) from by (first | rfl | rw [show k = i from by omega])) (show (ztr (zds z k)) = ztr (zds z i) from by (first | rfl | rw [show k = i from by omega])) (show (ztd (zds z k)) = ztd (zds z i) from by (first | rfl | rw [show k = i from by omega])) (show (ztp (zds z k)) = ztp (zds z i) from by (first | rfl | rw [show k = i from by omega])) (show (znw (zdy (zds z k)) (zpu (zds z k)) (zwa (zds z k)) (ziv (zds z k)) (zgh (zds z k)) (ztf (zds z k))) = znw (zdy (zds z i)) (zpu (zds z i)) (zwa (zds z i)) (ziv (zds z i)) (zgh (zds z i)) (ztf (zds z i)) from by (first | rfl | rw [show k = i from by omega]))
        exact W.vret hx hb hr (fun t ht hW => ⟨⟨(), rfl, trivial, by rw [ht]; exact hP, hD⟩, hS.F ht⟩) hS.2.2 dX5_daysOn_17
      · skip
        replace c_1 := mt (nI_leI (by omega) (by omega)).mpr c_1
        refine lv_aload_n hx hb dX5_daysOn_7 rfl (lv_at hl 0 rfl) ?_
        have hPc := hP.sub (ws' := [(mo, .inr (4, [.int (nI th), .int (nI (zn (zds z i))), .int (nI (zgu (zds z i))), .int (nI (ztn (zds z i))), .ref e0, .ref e1, .ref e2, .ref e3, .ref e4, .ref e5])), (e0, .inl (cA, 10, .inl (fun j => nI ((zpr (zds z i)) j)))), (e1, .inl (cA, 30, .inl (fun j => nI ((ztr (zds z i)) j)))), (e2, .inl (cA, 30, .inl (fun j => nI ((ztd (zds z i)) j)))), (e3, .inl (cA, 30, .inl (fun j => nI ((ztp (zds z i)) j)))), (e4, .inl (cA, 62, .inl (znw (zdy (zds z i)) (zpu (zds z i)) (zwa (zds z i)) (ziv (zds z i)) (zgh (zds z i)) (ztf (zds z i))))), (e5, .inl (cA, 62, .inl kp))]) [0, 1, 2, 3, 4, 5, 6] rfl
        have hDc := hD.sub (ws' := [(mo, .inr (4, [.int (nI th), .int (nI (zn (zds z i))), .int (nI (zgu (zds z i))), .int (nI (ztn (zds z i))), .ref e0, .ref e1, .ref e2, .ref e3, .ref e4, .ref e5])), (e0, .inl (cA, 10, .inl (fun j => nI ((zpr (zds z i)) j)))), (e1, .inl (cA, 30, .inl (fun j => nI ((ztr (zds z i)) j)))), (e2, .inl (cA, 30, .inl (fun j => nI ((ztd (zds z i)) j)))), (e3, .inl (cA, 30, .inl (fun j => nI ((ztp (zds z i)) j)))), (e4, .inl (cA, 62, .inl (znw (zdy (zds z i)) (zpu (zds z i)) (zwa (zds z i)) (ziv (zds z i)) (zgh (zds z i)) (ztf (zds z i))))), (e5, .inl (cA, 62, .inl kp))]) [0, 1, 2, 3, 4, 5, 6] (by decide) rfl
        have hFc := va_free (wc := [(mo, .inr (4, [.int (nI th), .int (nI (zn (zds z i))), .int (nI (zgu (zds z i))), .int (nI (ztn (zds z i))), .ref e0, .ref e1, .ref e2, .ref e3, .ref e4, .ref e5])), (e0, .inl (cA, 10, .inl (fun j => nI ((zpr (zds z i)) j)))), (e1, .inl (cA, 30, .inl (fun j => nI ((ztr (zds z i)) j)))), (e2, .inl (cA, 30, .inl (fun j => nI ((ztd (zds z i)) j)))), (e3, .inl (cA, 30, .inl (fun j => nI ((ztp (zds z i)) j)))), (e4, .inl (cA, 62, .inl (znw (zdy (zds z i)) (zpu (zds z i)) (zwa (zds z i)) (ziv (zds z i)) (zgh (zds z i)) (ztf (zds z i))))), (e5, .inl (cA, 62, .inl kp))]) hD hS hA [0, 1, 2, 3, 4, 5, 6] rfl
        refine va_callv (va_runV (As := []) (rest := []) ⟨hx, hb, hml, hown, hts⟩ (c_X5_dayOn l dC dI cA mo e0 e1 e2 e3 e4 e5 th (zds z i) kp H.size (by first | assumption | omega) (by first | assumption | omega)) (cwV 0 hts gX5_daysOn_X5_dayOn rfl rfl rfl (by decide +kernel) ⟨Nat.le_of_ble_eq_true rfl, Nat.le_of_ble_eq_true rfl⟩) ⟨fun a U g mk q => by obtain ⟨q0, q1, qP, qK, qD⟩ := q; exact ⟨q0, q1, qP, va_K.moved (u := U) (U := U.calling g mk a) (Vm.Alike.refl U.vm) qK, qD⟩, va_recv hK hP (ci := 4) (q0 := 0) rfl rfl, fun U hU hW => ⟨rfl, by rw [hU], by rw [hU]; exact hPc, va_K.moved hW.alike hK, hDc.weaken (fun _ _ _ _ => trivial)⟩⟩ rfl rfl hl.1 rfl (lv_room (Nat.le_of_ble_eq_true rfl)) dX5_daysOn_8 ⟨Nat.le_of_ble_eq_true rfl, Nat.le_of_ble_eq_true rfl⟩) hS (fun q _ h => hFc q h) hFc (fun u t H1 locs ht hvm hw_3 hB hz1 hk1 hS => ?_)
        obtain ⟨hP1, hD1⟩ := hB
        rw [ht] at hP1
        obtain ⟨hP, hD⟩ := va_join (wr := []) (w1 := [(mo, .inr (4, [.int (nI th), .int (nI (zn (zd1 (zds z i)))), .int (nI (zgu (zd1 (zds z i)))), .int (nI (ztn (zd1 (zds z i)))), .ref e0, .ref e1, .ref e2, .ref e3, .ref e4, .ref e5])), (e0, .inl (cA, 10, .inl (fun j => nI ((zpr (zd1 (zds z i))) j)))), (e1, .inl (cA, 30, .inl (fun j => nI ((ztr (zd1 (zds z i))) j)))), (e2, .inl (cA, 30, .inl (fun j => nI ((ztd (zd1 (zds z i))) j)))), (e3, .inl (cA, 30, .inl (fun j => nI ((ztp (zd1 (zds z i))) j)))), (e4, .inl (cA, 62, .inl (znw (zdy (zd1 (zds z i))) (zpu (zd1 (zds z i))) (zwa (zd1 (zds z i))) (ziv (zd1 (zds z i))) (zgh (zd1 (zds z i))) (ztf (zd1 (zds z i)))))), (e5, .inl (cA, 62, .inl kp))]) hP hD [0, 1, 2, 3, 4, 5, 6] [] rfl rfl (by decide) (by decide) hk1 hFc hP1 hD1
        generalize H1 = H at hP hS ⊢
        have hP : va_P (dC, dI) vwCl [(mo, .inr (4, [.int (nI th), .int (nI (zn (zd1 (zds z i)))), .int (nI (zgu (zd1 (zds z i)))), .int (nI (ztn (zd1 (zds z i)))), .ref e0, .ref e1, .ref e2, .ref e3, .ref e4, .ref e5])), (e0, .inl (cA, 10, .inl (fun j => nI ((zpr (zd1 (zds z i))) j)))), (e1, .inl (cA, 30, .inl (fun j => nI ((ztr (zd1 (zds z i))) j)))), (e2, .inl (cA, 30, .inl (fun j => nI ((ztd (zd1 (zds z i))) j)))), (e3, .inl (cA, 30, .inl (fun j => nI ((ztp (zd1 (zds z i))) j)))), (e4, .inl (cA, 62, .inl (znw (zdy (zd1 (zds z i))) (zpu (zd1 (zds z i))) (zwa (zd1 (zds z i))) (ziv (zd1 (zds z i))) (zgh (zd1 (zds z i))) (ztf (zd1 (zds z i)))))), (e5, .inl (cA, 62, .inl kp))] H := hP
        have hD : va_D A [(mo, .inr (4, [.int (nI th), .int (nI (zn (zd1 (zds z i)))), .int (nI (zgu (zd1 (zds z i)))), .int (nI (ztn (zd1 (zds z i)))), .ref e0, .ref e1, .ref e2, .ref e3, .ref e4, .ref e5])), (e0, .inl (cA, 10, .inl (fun j => nI ((zpr (zd1 (zds z i))) j)))), (e1, .inl (cA, 30, .inl (fun j => nI ((ztr (zd1 (zds z i))) j)))), (e2, .inl (cA, 30, .inl (fun j => nI ((ztd (zd1 (zds z i))) j)))), (e3, .inl (cA, 30, .inl (fun j => nI ((ztp (zd1 (zds z i))) j)))), (e4, .inl (cA, 62, .inl (znw (zdy (zd1 (zds z i))) (zpu (zd1 (zds z i))) (zwa (zd1 (zds z i))) (ziv (zd1 (zds z i))) (zgh (zd1 (zds z i))) (ztf (zd1 (zds z i)))))), (e5, .inl (cA, 62, .inl kp))] := hD
        refine lv_iinc (v := nI (i + 1)) (lv' := [(2, .int (nI (i + 1))), (0, .ref mo), (1, .int (nI k))]) hx hb dX5_daysOn_11 hl (k := 2) rfl (nI_1 _) (by decide) rfl (fun ls hl => ?_)
        refine lv_goto (tgt := 2) hx hb dX5_daysOn_14 (by decide) ?_
        have hl := lv_sub (l' := [(0, .ref mo), (1, .int (nI k)), (2, .int (nI (i + 1)))]) hl [1, 2, 0] rfl
        have hw4 : ∀ (x0 : Nat) (x1 : Nat) (x2 : Nat) (x3 : Nat → Nat) (x4 : Nat → Nat) (x5 : Nat → Nat) (x6 : Nat → Nat) (x7 : Nat → Int32), x0 = zn (zd1 (zds z i)) → x1 = zgu (zd1 (zds z i)) → x2 = ztn (zd1 (zds z i)) → x3 = zpr (zd1 (zds z i)) → x4 = ztr (zd1 (zds z i)) → x5 = ztd (zd1 (zds z i)) → x6 = ztp (zd1 (zds z i)) → x7 = znw (zdy (zd1 (zds z i))) (zpu (zd1 (zds z i))) (zwa (zd1 (zds z i))) (ziv (zd1 (zds z i))) (zgh (zd1 (zds z i))) (ztf (zd1 (zds z i))) → va_P (dC, dI) vwCl [(mo, .inr (4, [.int (nI th), .int (nI x0), .int (nI x1), .int (nI x2), .ref e0, .ref e1, .ref e2, .ref e3, .ref e4, .ref e5])), (e0, .inl (cA, 10, .inl (fun j => nI (x3 j)))), (e1, .inl (cA, 30, .inl (fun j => nI (x4 j)))), (e2, .inl (cA, 30, .inl (fun j => nI (x5 j)))), (e3, .inl (cA, 30, .inl (fun j => nI (x6 j)))), (e4, .inl (cA, 62, .inl x7)), (e5, .inl (cA, 62, .inl kp))] H ∧ va_D A [(mo, .inr (4, [.int (nI th), .int (nI x0), .int (nI x1), .int (nI x2), .ref e0, .ref e1, .ref e2, .ref e3, .ref e4, .ref e5])), (e0, .inl (cA, 10, .inl (fun j => nI (x3 j)))), (e1, .inl (cA, 30, .inl (fun j => nI (x4 j)))), (e2, .inl (cA, 30, .inl (fun j => nI (x5 j)))), (e3, .inl (cA, 30, .inl (fun j => nI (x6 j)))), (e4, .inl (cA, 62, .inl x7)), (e5, .inl (cA, 62, .inl kp))] := by
          intro x0 x1 x2 x3 x4 x5 x6 x7 h0 h1 h2 h3 h4 h5 h6 h7; subst h0; subst h1; subst h2; subst h3; subst h4; subst h5; subst h6; subst h7; exact ⟨hP, hD⟩
        obtain ⟨hP, hD⟩ := hw4 (zn (zds z (i + 1))) (zgu (zds z (i + 1))) (ztn (zds z (i + 1))) (zpr (zds z (i + 1))) (ztr (zds z (i + 1))) (ztd (zds z (i + 1))) (ztp (zds z (i + 1))) (znw (zdy (zds z (i + 1))) (zpu (zds z (i + 1))) (zwa (zds z (i + 1))) (ziv (zds z (i + 1))) (zgh (zds z (i + 1))) (ztf (zds z (i + 1)))) (show zn (zds z (i + 1)) = zn (zd1 (zds z i)) from by (first | rfl | rw [show k = i from by omega])) (show zgu (zds z (i + 1)) = zgu (zd1 (zds z i)) from by (first | rfl | rw [show k = i from by omega])) (show ztn (zds z (i + 1)) = ztn (zd1 (zds z i)) from by (first | rfl | rw [show k = i from by omega])) (show (zpr (zds z (i + 1))) = zpr (zd1 (zds z i)) from by (first | rfl | rw [show k = i from by omega])) (show (ztr (zds z (i + 1))) = ztr (zd1 (zds z i)) from by (first | rfl | rw [show k = i from by omega])) (show (ztd (zds z (i + 1))) = ztd (zd1 (zds z i)) from by (first | rfl | rw [show k = i from by omega])) (show (ztp (zds z (i + 1))) = ztp (zd1 (zds z i)) from by (first | rfl | rw [show k = i from by omega])) (show (znw (zdy (zds z (i + 1))) (zpu (zds z (i + 1))) (zwa (zds z (i + 1))) (ziv (zds z (i + 1))) (zgh (zds z (i + 1))) (ztf (zds z (i + 1)))) = znw (zdy (zd1 (zds z i))) (zpu (zd1 (zds z i))) (zwa (zd1 (zds z i))) (ziv (zd1 (zds z i))) (zgh (zd1 (zds z i))) (ztf (zd1 (zds z i))) from by (first | rfl | rw [show k = i from by omega]))
        exact ih_2 (i + 1) (by omega) (by first | assumption | omega) _ _ hP hD hS _ hl
  have hl := lv_sub (l' := [(0, .ref mo), (1, .int (nI k)), (2, .int (nI 0))]) hl [1, 2, 0] rfl
  have hw5 : ∀ (x0 : Nat) (x1 : Nat) (x2 : Nat) (x3 : Nat → Nat) (x4 : Nat → Nat) (x5 : Nat → Nat) (x6 : Nat → Nat) (x7 : Nat → Int32), x0 = zn z → x1 = zgu z → x2 = ztn z → x3 = zpr z → x4 = ztr z → x5 = ztd z → x6 = ztp z → x7 = znw (zdy z) (zpu z) (zwa z) (ziv z) (zgh z) (ztf z) → va_P (dC, dI) vwCl [(mo, .inr (4, [.int (nI th), .int (nI x0), .int (nI x1), .int (nI x2), .ref e0, .ref e1, .ref e2, .ref e3, .ref e4, .ref e5])), (e0, .inl (cA, 10, .inl (fun j => nI (x3 j)))), (e1, .inl (cA, 30, .inl (fun j => nI (x4 j)))), (e2, .inl (cA, 30, .inl (fun j => nI (x5 j)))), (e3, .inl (cA, 30, .inl (fun j => nI (x6 j)))), (e4, .inl (cA, 62, .inl x7)), (e5, .inl (cA, 62, .inl kp))] s.heap ∧ va_D A [(mo, .inr (4, [.int (nI th), .int (nI x0), .int (nI x1), .int (nI x2), .ref e0, .ref e1, .ref e2, .ref e3, .ref e4, .ref e5])), (e0, .inl (cA, 10, .inl (fun j => nI (x3 j)))), (e1, .inl (cA, 30, .inl (fun j => nI (x4 j)))), (e2, .inl (cA, 30, .inl (fun j => nI (x5 j)))), (e3, .inl (cA, 30, .inl (fun j => nI (x6 j)))), (e4, .inl (cA, 62, .inl x7)), (e5, .inl (cA, 62, .inl kp))] := by
    intro x0 x1 x2 x3 x4 x5 x6 x7 h0 h1 h2 h3 h4 h5 h6 h7; subst h0; subst h1; subst h2; subst h3; subst h4; subst h5; subst h6; subst h7; exact ⟨hP, hD⟩
  obtain ⟨hP, hD⟩ := hw5 (zn (zds z 0)) (zgu (zds z 0)) (ztn (zds z 0)) (zpr (zds z 0)) (ztr (zds z 0)) (ztd (zds z 0)) (ztp (zds z 0)) (znw (zdy (zds z 0)) (zpu (zds z 0)) (zwa (zds z 0)) (ziv (zds z 0)) (zgh (zds z 0)) (ztf (zds z 0))) (show zn (zds z 0) = zn z from by (first | rfl | rw [show k = i from by omega])) (show zgu (zds z 0) = zgu z from by (first | rfl | rw [show k = i from by omega])) (show ztn (zds z 0) = ztn z from by (first | rfl | rw [show k = i from by omega])) (show (zpr (zds z 0)) = zpr z from by (first | rfl | rw [show k = i from by omega])) (show (ztr (zds z 0)) = ztr z from by (first | rfl | rw [show k = i from by omega])) (show (ztd (zds z 0)) = ztd z from by (first | rfl | rw [show k = i from by omega])) (show (ztp (zds z 0)) = ztp z from by (first | rfl | rw [show k = i from by omega])) (show (znw (zdy (zds z 0)) (zpu (zds z 0)) (zwa (zds z 0)) (ziv (zds z 0)) (zgh (zds z 0)) (ztf (zds z 0))) = znw (zdy z) (zpu z) (zwa z) (ziv z) (zgh z) (ztf z) from by (first | rfl | rw [show k = i from by omega]))
  exact lp_2 _ 0 (Nat.lt_succ_self _) (by first | assumption | omega) _ _ hP hD hS _ hl
theorem i_X5_keep_X5 : ∀ w ∈ u_ws RX5 TX5 10, w ∈ wsX5_keep := by decide +kernel
set_option maxHeartbeats 4000000 in
set_option maxRecDepth 100000 in
theorem c_X5_keep (l : Launch) (dC : Nat → ClassId) (dI : Nat → Nat → Nat) (cA : ClassId) (mo : Nat) (e0 : Nat) (e1 : Nat) (e2 : Nat) (e3 : Nat) (e4 : Nat) (e5 : Nat) (th : Nat) (n : Nat) (gu : Nat) (tn : Nat) (nw : Nat → Int32) (kp : Nat → Int32) (sz : Nat) : Met l yX5_keep wsX5_keep ({ frames := 1, cells := 0, slots := 0, locals := 40 } : Room) (va_Pc [.ref mo] (fun U => U.heap.size = sz ∧ va_P (dC, dI) vwCl [(mo, .inr (4, [.int (nI th), .int (nI n), .int (nI gu), .int (nI tn), .ref e0, .ref e1, .ref e2, .ref e3, .ref e4, .ref e5])), (e4, .inl (cA, 62, .inl nw)), (e5, .inl (cA, 62, .inl kp))] U.heap ∧ va_K (dC, dI) vwCl [(cA, .int)] U ∧ va_D (fun _ => True) [(mo, .inr (4, [.int (nI th), .int (nI n), .int (nI gu), .int (nI tn), .ref e0, .ref e1, .ref e2, .ref e3, .ref e4, .ref e5])), (e4, .inl (cA, 62, .inl nw)), (e5, .inl (cA, 62, .inl kp))])) (va_Qv (fun _ : Unit => True) (fun (_ : Unit) t => va_P (dC, dI) vwCl [(mo, .inr (4, [.int (nI th), .int (nI n), .int (nI gu), .int (nI tn), .ref e0, .ref e1, .ref e2, .ref e3, .ref e4, .ref e5])), (e4, .inl (cA, 62, .inl nw)), (e5, .inl (cA, 62, .inl nw))] t.heap ∧ va_D (va_A [(mo, .inr (4, [.int (nI th), .int (nI n), .int (nI gu), .int (nI tn), .ref e0, .ref e1, .ref e2, .ref e3, .ref e4, .ref e5])), (e4, .inl (cA, 62, .inl nw)), (e5, .inl (cA, 62, .inl kp))] sz) [(mo, .inr (4, [.int (nI th), .int (nI n), .int (nI gu), .int (nI tn), .ref e0, .ref e1, .ref e2, .ref e3, .ref e4, .ref e5])), (e4, .inl (cA, 62, .inl nw)), (e5, .inl (cA, 62, .inl nw))]) (va_A [(mo, .inr (4, [.int (nI th), .int (nI n), .int (nI gu), .int (nI tn), .ref e0, .ref e1, .ref e2, .ref e3, .ref e4, .ref e5])), (e4, .inl (cA, 62, .inl nw)), (e5, .inl (cA, 62, .inl kp))] sz)) 0 0 (va_A [(mo, .inr (4, [.int (nI th), .int (nI n), .int (nI gu), .int (nI tn), .ref e0, .ref e1, .ref e2, .ref e3, .ref e4, .ref e5])), (e4, .inl (cA, 62, .inl nw)), (e5, .inl (cA, 62, .inl kp))] sz) := by
  refine Met.ofW (cc := cX5_keep) (maxL := 1) (ret := none) (by decide) rfl ?_
  intro p e s m args below meth c s₁ B hml hv
  obtain ⟨hargs, hsz, hP, hK, hD0⟩ := hv
  have hx := B.exec
  have hb := B.bytes
  have hr := B.returns
  have hts := atoms_spec (ws := wsX5_keep) B.pre
  have hown : s.vm.findClass RX5 = some m.cls := findClass_of_methodNamed B.named
  have hlocks := B.notSynchronized
  subst hsz
  have hD := hD0.self (sz := s.heap.size)
  generalize hAe : va_A [(mo, .inr (4, [.int (nI th), .int (nI n), .int (nI gu), .int (nI tn), .ref e0, .ref e1, .ref e2, .ref e3, .ref e4, .ref e5])), (e4, .inl (cA, 62, .inl nw)), (e5, .inl (cA, 62, .inl kp))] s.heap.size = A at hD ⊢
  have hA : ∀ q : Nat, s.heap.size ≤ q → A q := fun q h => by rw [← hAe]; exact Or.inr h
  have hS : va_S A s.heap s.heap [] := va_S.rf
  have hP : va_P (dC, dI) vwCl [(mo, .inr (4, [.int (nI th), .int (nI n), .int (nI gu), .int (nI tn), .ref e0, .ref e1, .ref e2, .ref e3, .ref e4, .ref e5])), (e4, .inl (cA, 62, .inl nw)), (e5, .inl (cA, 62, .inl kp))] s.heap := hP
  have hl := lv_entry ([.ref mo]) (n := 1) (Nat.le_of_ble_eq_true rfl)
  rw [hargs, lg_entry_eq, ← hargs]
  generalize (lg_sl ([.ref mo]) ++ List.replicate (1 - (lg_sl ([.ref mo])).length) Slot.unset).toArray = ls at hl ⊢
  have hl : lv_has ls 1 [(0, .ref mo)] := hl
  refine lv_aload_n hx hb dX5_keep_0 rfl (lv_at hl 0 rfl) ?_
  refine va_get (D := (dC, dI)) (ci := 4) (v := .ref e4) (C := RX5) (T := TX5) (N := 10) hx hb hts i_X5_keep_X5 hown hK hP 0 rfl rfl 8 (by decide) (hts (.fieldLink RX5 26 "RuinViewsModel" "now" "[I") (List.mem_of_getElem? (i := 1) rfl)) (fun _ h9 => h9) rfl dX5_keep_1 ?_
  refine lv_iconst (v := nI 0) hx hb dX5_keep_4 (by decide) ?_
  refine lv_aload_n hx hb dX5_keep_5 rfl (lv_at hl 0 rfl) ?_
  refine va_get (D := (dC, dI)) (ci := 4) (v := .ref e5) (C := RX5) (T := TX5) (N := 10) hx hb hts i_X5_keep_X5 hown hK hP 0 rfl rfl 9 (by decide) (hts (.fieldLink RX5 29 "RuinViewsModel" "kept" "[I") (List.mem_of_getElem? (i := 2) rfl)) (fun _ h9 => h9) rfl dX5_keep_6 ?_
  refine lv_iconst (v := nI 0) hx hb dX5_keep_9 (by decide) ?_
  refine lv_bipush (v := nI 62) hx hb dX5_keep_10 (by decide) ?_
  refine zz_copy hx hb (by rw [hml]; exact hl.1.symm) hown (hts (.methodLink RX5 45 arraycopyName) (List.mem_of_getElem? (i := 3) rfl)) (hts (.native arraycopyName) (List.mem_of_getElem? (i := 4) rfl)) (hts (.static arraycopyName) (List.mem_of_getElem? (i := 5) rfl)) (hts (.initialized "java/lang/System") (List.mem_of_getElem? (i := 6) rfl)) hK hP hD hS 1 2 rfl rfl rfl (by decide) (Nat.le_of_ble_eq_true rfl) (Nat.le_of_ble_eq_true rfl) dX5_keep_12 (fun H locs hP hD hS => ?_)
  have hP : va_P (dC, dI) vwCl [(mo, .inr (4, [.int (nI th), .int (nI n), .int (nI gu), .int (nI tn), .ref e0, .ref e1, .ref e2, .ref e3, .ref e4, .ref e5])), (e4, .inl (cA, 62, .inl nw)), (e5, .inl (cA, 62, .inl nw))] H := hP
  have hD : va_D A [(mo, .inr (4, [.int (nI th), .int (nI n), .int (nI gu), .int (nI tn), .ref e0, .ref e1, .ref e2, .ref e3, .ref e4, .ref e5])), (e4, .inl (cA, 62, .inl nw)), (e5, .inl (cA, 62, .inl nw))] := hD
  exact W.vret hx hb hr (fun t ht hW => ⟨⟨(), rfl, trivial, by rw [ht]; exact hP, hD⟩, hS.F ht⟩) hS.2.2 dX5_keep_15
theorem i_X5_bringBack_X5 : ∀ w ∈ u_ws RX5 TX5 10, w ∈ wsX5_bringBack := by decide +kernel
set_option maxHeartbeats 4000000 in
set_option maxRecDepth 100000 in
theorem c_X5_bringBack (l : Launch) (dC : Nat → ClassId) (dI : Nat → Nat → Nat) (cA : ClassId) (mo : Nat) (e0 : Nat) (e1 : Nat) (e2 : Nat) (e3 : Nat) (e4 : Nat) (e5 : Nat) (th : Nat) (n : Nat) (gu : Nat) (tn : Nat) (nw : Nat → Int32) (kp : Nat → Int32) (sz : Nat) : Met l yX5_bringBack wsX5_bringBack ({ frames := 1, cells := 0, slots := 0, locals := 40 } : Room) (va_Pc [.ref mo] (fun U => U.heap.size = sz ∧ va_P (dC, dI) vwCl [(mo, .inr (4, [.int (nI th), .int (nI n), .int (nI gu), .int (nI tn), .ref e0, .ref e1, .ref e2, .ref e3, .ref e4, .ref e5])), (e4, .inl (cA, 62, .inl nw)), (e5, .inl (cA, 62, .inl kp))] U.heap ∧ va_K (dC, dI) vwCl [(cA, .int)] U ∧ va_D (fun _ => True) [(mo, .inr (4, [.int (nI th), .int (nI n), .int (nI gu), .int (nI tn), .ref e0, .ref e1, .ref e2, .ref e3, .ref e4, .ref e5])), (e4, .inl (cA, 62, .inl nw)), (e5, .inl (cA, 62, .inl kp))])) (va_Qv (fun _ : Unit => True) (fun (_ : Unit) t => va_P (dC, dI) vwCl [(mo, .inr (4, [.int (nI th), .int (nI n), .int (nI gu), .int (nI tn), .ref e0, .ref e1, .ref e2, .ref e3, .ref e4, .ref e5])), (e4, .inl (cA, 62, .inl kp)), (e5, .inl (cA, 62, .inl kp))] t.heap ∧ va_D (va_A [(mo, .inr (4, [.int (nI th), .int (nI n), .int (nI gu), .int (nI tn), .ref e0, .ref e1, .ref e2, .ref e3, .ref e4, .ref e5])), (e4, .inl (cA, 62, .inl nw)), (e5, .inl (cA, 62, .inl kp))] sz) [(mo, .inr (4, [.int (nI th), .int (nI n), .int (nI gu), .int (nI tn), .ref e0, .ref e1, .ref e2, .ref e3, .ref e4, .ref e5])), (e4, .inl (cA, 62, .inl kp)), (e5, .inl (cA, 62, .inl kp))]) (va_A [(mo, .inr (4, [.int (nI th), .int (nI n), .int (nI gu), .int (nI tn), .ref e0, .ref e1, .ref e2, .ref e3, .ref e4, .ref e5])), (e4, .inl (cA, 62, .inl nw)), (e5, .inl (cA, 62, .inl kp))] sz)) 0 0 (va_A [(mo, .inr (4, [.int (nI th), .int (nI n), .int (nI gu), .int (nI tn), .ref e0, .ref e1, .ref e2, .ref e3, .ref e4, .ref e5])), (e4, .inl (cA, 62, .inl nw)), (e5, .inl (cA, 62, .inl kp))] sz) := by
  refine Met.ofW (cc := cX5_bringBack) (maxL := 1) (ret := none) (by decide) rfl ?_
  intro p e s m args below meth c s₁ B hml hv
  obtain ⟨hargs, hsz, hP, hK, hD0⟩ := hv
  have hx := B.exec
  have hb := B.bytes
  have hr := B.returns
  have hts := atoms_spec (ws := wsX5_bringBack) B.pre
  have hown : s.vm.findClass RX5 = some m.cls := findClass_of_methodNamed B.named
  have hlocks := B.notSynchronized
  subst hsz
  have hD := hD0.self (sz := s.heap.size)
  generalize hAe : va_A [(mo, .inr (4, [.int (nI th), .int (nI n), .int (nI gu), .int (nI tn), .ref e0, .ref e1, .ref e2, .ref e3, .ref e4, .ref e5])), (e4, .inl (cA, 62, .inl nw)), (e5, .inl (cA, 62, .inl kp))] s.heap.size = A at hD ⊢
  have hA : ∀ q : Nat, s.heap.size ≤ q → A q := fun q h => by rw [← hAe]; exact Or.inr h
  have hS : va_S A s.heap s.heap [] := va_S.rf
  have hP : va_P (dC, dI) vwCl [(mo, .inr (4, [.int (nI th), .int (nI n), .int (nI gu), .int (nI tn), .ref e0, .ref e1, .ref e2, .ref e3, .ref e4, .ref e5])), (e4, .inl (cA, 62, .inl nw)), (e5, .inl (cA, 62, .inl kp))] s.heap := hP
  have hl := lv_entry ([.ref mo]) (n := 1) (Nat.le_of_ble_eq_true rfl)
  rw [hargs, lg_entry_eq, ← hargs]
  generalize (lg_sl ([.ref mo]) ++ List.replicate (1 - (lg_sl ([.ref mo])).length) Slot.unset).toArray = ls at hl ⊢
  have hl : lv_has ls 1 [(0, .ref mo)] := hl
  refine lv_aload_n hx hb dX5_bringBack_0 rfl (lv_at hl 0 rfl) ?_
  refine va_get (D := (dC, dI)) (ci := 4) (v := .ref e5) (C := RX5) (T := TX5) (N := 10) hx hb hts i_X5_bringBack_X5 hown hK hP 0 rfl rfl 9 (by decide) (hts (.fieldLink RX5 29 "RuinViewsModel" "kept" "[I") (List.mem_of_getElem? (i := 1) rfl)) (fun _ h9 => h9) rfl dX5_bringBack_1 ?_
  refine lv_iconst (v := nI 0) hx hb dX5_bringBack_4 (by decide) ?_
  refine lv_aload_n hx hb dX5_bringBack_5 rfl (lv_at hl 0 rfl) ?_
  refine va_get (D := (dC, dI)) (ci := 4) (v := .ref e4) (C := RX5) (T := TX5) (N := 10) hx hb hts i_X5_bringBack_X5 hown hK hP 0 rfl rfl 8 (by decide) (hts (.fieldLink RX5 26 "RuinViewsModel" "now" "[I") (List.mem_of_getElem? (i := 2) rfl)) (fun _ h9 => h9) rfl dX5_bringBack_6 ?_
  refine lv_iconst (v := nI 0) hx hb dX5_bringBack_9 (by decide) ?_
  refine lv_bipush (v := nI 62) hx hb dX5_bringBack_10 (by decide) ?_
  refine zz_copy hx hb (by rw [hml]; exact hl.1.symm) hown (hts (.methodLink RX5 45 arraycopyName) (List.mem_of_getElem? (i := 3) rfl)) (hts (.native arraycopyName) (List.mem_of_getElem? (i := 4) rfl)) (hts (.static arraycopyName) (List.mem_of_getElem? (i := 5) rfl)) (hts (.initialized "java/lang/System") (List.mem_of_getElem? (i := 6) rfl)) hK hP hD hS 2 1 rfl rfl rfl (by decide) (Nat.le_of_ble_eq_true rfl) (Nat.le_of_ble_eq_true rfl) dX5_bringBack_12 (fun H locs hP hD hS => ?_)
  have hP : va_P (dC, dI) vwCl [(mo, .inr (4, [.int (nI th), .int (nI n), .int (nI gu), .int (nI tn), .ref e0, .ref e1, .ref e2, .ref e3, .ref e4, .ref e5])), (e4, .inl (cA, 62, .inl kp)), (e5, .inl (cA, 62, .inl kp))] H := hP
  have hD : va_D A [(mo, .inr (4, [.int (nI th), .int (nI n), .int (nI gu), .int (nI tn), .ref e0, .ref e1, .ref e2, .ref e3, .ref e4, .ref e5])), (e4, .inl (cA, 62, .inl kp)), (e5, .inl (cA, 62, .inl kp))] := hD
  exact W.vret hx hb hr (fun t ht hW => ⟨⟨(), rfl, trivial, by rw [ht]; exact hP, hD⟩, hS.F ht⟩) hS.2.2 dX5_bringBack_15
theorem i_X5_many_X5 : ∀ w ∈ u_ws RX5 TX5 10, w ∈ wsX5_many := by decide +kernel
set_option maxHeartbeats 4000000 in
set_option maxRecDepth 100000 in
theorem c_X5_many (l : Launch) (dC : Nat → ClassId) (dI : Nat → Nat → Nat) (cA : ClassId) (mo : Nat) (e0 : Nat) (e1 : Nat) (e2 : Nat) (e3 : Nat) (e4 : Nat) (e5 : Nat) (th : Nat) (n : Nat) (gu : Nat) (tn : Nat) (dy : Nat) (pu : Int32) (wa : Nat → Nat) (iv : Nat → Nat) (gh : Nat → Nat) (tf : Nat → Nat) (hn : n ≤ 10) (hwa : ∀ j, wa j ≤ 20) : Met l yX5_many wsX5_many ({ frames := 2, cells := 0, slots := 0, locals := 43 } : Room) (va_Pc [.ref mo] (fun U => va_P (dC, dI) vwCl [(mo, .inr (4, [.int (nI th), .int (nI n), .int (nI gu), .int (nI tn), .ref e0, .ref e1, .ref e2, .ref e3, .ref e4, .ref e5])), (e4, .inl (cA, 62, .inl (znw dy pu wa iv gh tf)))] U.heap ∧ va_K (dC, dI) vwCl [(cA, .int)] U)) (vp_Si (fun y9 : Int32 => y9 = nI (zcnt wa n))) 0 0 (fun _ => False) := by
  refine Met.ofW (cc := cX5_many) (maxL := 3) (ret := (some .int)) (by decide) rfl ?_
  intro p e s m args below meth c s₁ B hml hv
  obtain ⟨hargs, hP, hK⟩ := hv
  have hx := B.exec
  have hb := B.bytes
  have hr := B.returns
  have hts := atoms_spec (ws := wsX5_many) B.pre
  have hown : s.vm.findClass RX5 = some m.cls := findClass_of_methodNamed B.named
  have hlocks := B.notSynchronized
  have hl := lv_entry ([.ref mo]) (n := 3) (Nat.le_of_ble_eq_true rfl)
  rw [hargs, lg_entry_eq, ← hargs]
  generalize (lg_sl ([.ref mo]) ++ List.replicate (3 - (lg_sl ([.ref mo])).length) Slot.unset).toArray = ls at hl ⊢
  have hl : lv_has ls 3 [(0, .ref mo)] := hl
  refine lv_iconst (v := nI 0) hx hb dX5_many_0 (by decide) ?_
  refine lv_istore_n (lv' := [(1, .int (nI 0)), (0, .ref mo)]) hx hb dX5_many_1 rfl hl (by decide) rfl (fun ls hl => ?_)
  refine lv_iconst (v := nI 0) hx hb dX5_many_2 (by decide) ?_
  refine lv_istore_n (lv' := [(2, .int (nI 0)), (1, .int (nI 0)), (0, .ref mo)]) hx hb dX5_many_3 rfl hl (by decide) rfl (fun ls hl => ?_)
  have lp_4 : ∀ (f9 : Nat) (i : Nat) , (n - i) < f9 → (i ≤ n) → ∀ (ls : Array Slot), lv_has ls 3 [(0, .ref mo), (1, .int (nI (zcnt wa i))), (2, .int (nI i))] → W p l e ({ frames := 2, cells := 0, slots := 0, locals := 43 } : Room) s m args below meth c s.heap [] 0 0 (MQ below (vp_Si (fun y9 : Int32 => y9 = nI (zcnt wa n))) args s 0 0 (fun _ => False)) (F0 m 4 ls []) := by
    intro f9
    induction f9 with
    | zero => intro i hm9; exact absurd hm9 (Nat.not_lt_zero _)
    | succ f9 ih_4 =>
      intro i hm9 hi ls hl
      have hc9 := zcnt_le wa i
      have hw9 := hwa i
      refine lv_iload_n hx hb dX5_many_4 rfl (lv_at hl 2 rfl) ?_
      refine lv_aload_n hx hb dX5_many_5 rfl (lv_at hl 0 rfl) ?_
      refine va_get (D := (dC, dI)) (ci := 4) (v := .int (nI n)) (C := RX5) (T := TX5) (N := 10) hx hb hts i_X5_many_X5 hown hK hP 0 rfl rfl 1 (by decide) (hts (.fieldLink RX5 35 "RuinViewsModel" "ruins" "I") (List.mem_of_getElem? (i := 1) rfl)) (fun _ h9 => h9) rfl dX5_many_6 ?_
      refine lv_icmp_ge (tgt := 34) hx hb dX5_many_9 (by decide) (fun c_1 => ?_) (fun c_1 => ?_)
      · skip
        replace c_1 := (nI_leI (by first | omega | (split <;> omega)) (by first | omega | (split <;> omega))).mp c_1
        refine lv_iload_n hx hb dX5_many_34 rfl (lv_at hl 1 rfl) ?_
        exact W.iret hx hb hr (fun t ht hW => ⟨_, rfl, congrArg nI (show zcnt wa i = zcnt wa n from by (rw [show n = i from by omega])), ht⟩) (fun _ h => nomatch h) dX5_many_35
      · skip
        replace c_1 := mt (nI_leI (by first | omega | (split <;> omega)) (by first | omega | (split <;> omega))).mpr c_1
        refine lv_iload_n hx hb dX5_many_12 rfl (lv_at hl 1 rfl) ?_
        refine lv_aload_n hx hb dX5_many_13 rfl (lv_at hl 0 rfl) ?_
        refine lv_iload_n hx hb dX5_many_14 rfl (lv_at hl 2 rfl) ?_
        have hPc := hP.sub (ws' := [(mo, .inr (4, [.int (nI th), .int (nI n), .int (nI gu), .int (nI tn), .ref e0, .ref e1, .ref e2, .ref e3, .ref e4, .ref e5])), (e4, .inl (cA, 62, .inl (znw dy pu wa iv gh tf)))]) [0, 1] rfl
        refine vp_callSi (W.runV (As := [.int (nI i)]) (rest := [.int (nI (zcnt wa i))]) ⟨hx, hb, hml, hown, hts⟩ (c_X5_stands l dC dI cA mo e0 e1 e2 e3 e4 e5 th n gu tn dy pu wa iv gh tf i (by first | assumption | omega) (by first | assumption | omega)) (cwV 1 hts gX5_many_X5_stands rfl rfl rfl (by decide +kernel) ⟨Nat.le_of_ble_eq_true rfl, Nat.le_of_ble_eq_true rfl⟩) ⟨fun a U g mk q => by obtain ⟨q0, qP, qK⟩ := q; exact ⟨q0, qP, va_K.moved (u := U) (U := U.calling g mk a) (Vm.Alike.refl U.vm) qK⟩, va_recv hK hP (ci := 4) (q0 := 0) rfl rfl, fun U hU hW => ⟨rfl, by rw [hU]; exact hPc, va_K.moved hW.alike hK⟩⟩ rfl rfl hl.1 rfl (lv_room (Nat.le_of_ble_eq_true rfl)) dX5_many_15 ⟨Nat.le_of_ble_eq_true rfl, Nat.le_of_ble_eq_true rfl⟩) (fun r_2 hw_2 => ?_)
        subst hw_2
        refine lv_if_eq (tgt := 25) hx hb dX5_many_18 (by decide) (fun c_3 => ?_) (fun c_3 => ?_)
        · skip
          replace c_3 := (zz_eq0 (by first | omega | (split <;> omega))).mp c_3
          replace c_3 : ¬ 0 < wa i := fun q => by rw [if_pos q] at c_3; first | exact absurd c_3 (by decide) | exact c_3 (by decide)
          refine lv_iconst (v := nI 0) hx hb dX5_many_25 (by decide) ?_
          refine lv_iadd hx hb dX5_many_26 ?_
          refine zz_top (nI_add _ _) ?_
          refine lv_istore_n (lv' := [(1, .int (nI ((zcnt wa i) + 0))), (0, .ref mo), (2, .int (nI i))]) hx hb dX5_many_27 rfl hl (by decide) rfl (fun ls hl => ?_)
          refine lv_iinc (v := nI (i + 1)) (lv' := [(2, .int (nI (i + 1))), (1, .int (nI ((zcnt wa i) + 0))), (0, .ref mo)]) hx hb dX5_many_28 hl (k := 2) rfl (nI_1 _) (by decide) rfl (fun ls hl => ?_)
          refine lv_goto (tgt := 4) hx hb dX5_many_31 (by decide) ?_
          have hl := lv_sub (l' := [(0, .ref mo), (1, .int (nI ((zcnt wa i) + 0))), (2, .int (nI (i + 1)))]) hl [2, 1, 0] rfl
          have hl4 : ∀ (x1 : Int32), x1 = nI ((zcnt wa i) + 0) → lv_has ls 3 [(0, .ref mo), (1, .int x1), (2, .int (nI (i + 1)))] := by
            intro x1 h1; subst h1; exact hl
          have hl := hl4 (nI (zcnt wa (i + 1))) (congrArg nI (show zcnt wa (i + 1) = (zcnt wa i) + 0 from by first | rfl | exact zcnt_s0 (by omega) | exact zcnt_s1 (by omega)))
          exact ih_4 (i + 1) (by omega) (by first | assumption | omega) _ hl
        · skip
          replace c_3 := mt (zz_eq0 (by first | omega | (split <;> omega))).mpr c_3
          replace c_3 : 0 < wa i := Decidable.byContradiction fun q => by rw [if_neg q] at c_3; first | exact absurd c_3 (by decide) | exact c_3 rfl
          refine lv_iconst (v := nI 1) hx hb dX5_many_21 (by decide) ?_
          refine lv_goto (tgt := 26) hx hb dX5_many_22 (by decide) ?_
          refine lv_iadd hx hb dX5_many_26 ?_
          refine zz_top (nI_add _ _) ?_
          refine lv_istore_n (lv' := [(1, .int (nI ((zcnt wa i) + 1))), (0, .ref mo), (2, .int (nI i))]) hx hb dX5_many_27 rfl hl (by decide) rfl (fun ls hl => ?_)
          refine lv_iinc (v := nI (i + 1)) (lv' := [(2, .int (nI (i + 1))), (1, .int (nI ((zcnt wa i) + 1))), (0, .ref mo)]) hx hb dX5_many_28 hl (k := 2) rfl (nI_1 _) (by decide) rfl (fun ls hl => ?_)
          refine lv_goto (tgt := 4) hx hb dX5_many_31 (by decide) ?_
          have hl := lv_sub (l' := [(0, .ref mo), (1, .int (nI ((zcnt wa i) + 1))), (2, .int (nI (i + 1)))]) hl [2, 1, 0] rfl
          have hl5 : ∀ (x1 : Int32), x1 = nI ((zcnt wa i) + 1) → lv_has ls 3 [(0, .ref mo), (1, .int x1), (2, .int (nI (i + 1)))] := by
            intro x1 h1; subst h1; exact hl
          have hl := hl5 (nI (zcnt wa (i + 1))) (congrArg nI (show zcnt wa (i + 1) = (zcnt wa i) + 1 from by first | rfl | exact zcnt_s0 (by omega) | exact zcnt_s1 (by omega)))
          exact ih_4 (i + 1) (by omega) (by first | assumption | omega) _ hl
  have hl := lv_sub (l' := [(0, .ref mo), (1, .int (nI 0)), (2, .int (nI 0))]) hl [2, 1, 0] rfl
  have hl6 : ∀ (x1 : Int32), x1 = nI 0 → lv_has ls 3 [(0, .ref mo), (1, .int x1), (2, .int (nI 0))] := by
    intro x1 h1; subst h1; exact hl
  have hl := hl6 (nI (zcnt wa 0)) (congrArg nI (show zcnt wa 0 = 0 from by first | rfl | exact zcnt_s0 (by omega) | exact zcnt_s1 (by omega)))
  exact lp_4 _ 0 (Nat.lt_succ_self _) (by first | assumption | omega) _ hl
