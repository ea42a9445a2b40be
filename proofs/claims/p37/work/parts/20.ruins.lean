set_option maxHeartbeats 4000000 in
set_option maxRecDepth 100000 in
theorem c_X0_phaseOn (l : Launch) (dC : Nat → ClassId) (dI : Nat → Nat → Nat) (cA : ClassId) (d : Nat) (hd : d < 2 ^ 31) : Met l yX0_phaseOn wsX0_phaseOn ({ frames := 0, cells := 0, slots := 0, locals := 0 } : Room) (va_Pc [.int (nI d)] (fun _ => True)) (vp_Si (fun y9 : Int32 => y9 = nI (d % 8))) 0 0 (fun _ => False) := by
  refine Met.ofW (cc := cX0_phaseOn) (maxL := 1) (ret := (some .int)) (by decide) rfl ?_
  intro p e s m args below meth c s₁ B hml hv
  obtain ⟨hargs, -⟩ := hv
  have hx := B.exec
  have hb := B.bytes
  have hr := B.returns
  have hts := atoms_spec (ws := wsX0_phaseOn) B.pre
  have hown : s.vm.findClass RX0 = some m.cls := findClass_of_methodNamed B.named
  have hlocks := B.notSynchronized
  have hl := lv_entry ([.int (nI d)]) (n := 1) (Nat.le_of_ble_eq_true rfl)
  rw [hargs, lg_entry_eq, ← hargs]
  generalize (lg_sl ([.int (nI d)]) ++ List.replicate (1 - (lg_sl ([.int (nI d)])).length) Slot.unset).toArray = ls at hl ⊢
  have hl : lv_has ls 1 [(0, .int (nI d))] := hl
  refine lv_iload_n hx hb dX0_phaseOn_0 rfl (lv_at hl 0 rfl) ?_
  refine lv_bipush (v := nI 8) hx hb dX0_phaseOn_1 (by decide) ?_
  refine lv_irem hx hb dX0_phaseOn_3 (by decide) ?_
  refine zz_top (pk_rem (by omega) (by decide) (by decide)) ?_
  exact W.iret hx hb hr (fun t ht hW => ⟨_, rfl, rfl, ht⟩) (fun _ h => nomatch h) dX0_phaseOn_4
set_option maxHeartbeats 4000000 in
set_option maxRecDepth 100000 in
theorem c_X0_brightnessOn (l : Launch) (dC : Nat → ClassId) (dI : Nat → Nat → Nat) (cA : ClassId) (d : Nat) (hd : d < 2 ^ 31) : Met l yX0_brightnessOn wsX0_brightnessOn ({ frames := 1, cells := 0, slots := 0, locals := 20 } : Room) (va_Pc [.int (nI d)] (fun _ => True)) (vp_Si (fun y9 : Int32 => y9 = nI (zb d))) 0 0 (fun _ => False) := by
  refine Met.ofW (cc := cX0_brightnessOn) (maxL := 2) (ret := (some .int)) (by decide) rfl ?_
  intro p e s m args below meth c s₁ B hml hv
  obtain ⟨hargs, -⟩ := hv
  have hx := B.exec
  have hb := B.bytes
  have hr := B.returns
  have hts := atoms_spec (ws := wsX0_brightnessOn) B.pre
  have hown : s.vm.findClass RX0 = some m.cls := findClass_of_methodNamed B.named
  have hlocks := B.notSynchronized
  have hl := lv_entry ([.int (nI d)]) (n := 2) (Nat.le_of_ble_eq_true rfl)
  rw [hargs, lg_entry_eq, ← hargs]
  generalize (lg_sl ([.int (nI d)]) ++ List.replicate (2 - (lg_sl ([.int (nI d)])).length) Slot.unset).toArray = ls at hl ⊢
  have hl : lv_has ls 2 [(0, .int (nI d))] := hl
  refine lv_iload_n hx hb dX0_brightnessOn_0 rfl (lv_at hl 0 rfl) ?_
  refine vp_callSi (W.runS (As := [.int (nI d)]) (rest := []) ⟨hx, hb, hml, hown, hts⟩ (c_X0_phaseOn l dC dI cA d (by first | assumption | omega)) (va_cwS 1 hts gX0_brightnessOn_X0_phaseOn rfl rfl rfl (by decide +kernel) ⟨Nat.le_of_ble_eq_true rfl, Nat.le_of_ble_eq_true rfl⟩) ⟨fun _ _ _ _ q => q, fun U hU hW => ⟨rfl, trivial⟩⟩ rfl rfl hl.1 rfl (lv_room (Nat.le_of_ble_eq_true rfl)) dX0_brightnessOn_1 ⟨Nat.le_of_ble_eq_true rfl, Nat.le_of_ble_eq_true rfl⟩) (fun r_1 hw_1 => ?_)
  subst hw_1
  refine lv_istore_n (lv' := [(1, .int (nI (d % 8))), (0, .int (nI d))]) hx hb dX0_brightnessOn_4 rfl hl (by decide) rfl (fun ls hl => ?_)
  refine lv_iload_n hx hb dX0_brightnessOn_5 rfl (lv_at hl 0 rfl) ?_
  refine lv_iconst (v := nI 4) hx hb dX0_brightnessOn_6 (by decide) ?_
  refine lv_icmp_gt (tgt := 14) hx hb dX0_brightnessOn_7 (by decide) (fun c_2 => ?_) (fun c_2 => ?_)
  · skip
    replace c_2 := (nI_ltI (by omega) (by omega)).mp c_2
    refine lv_bipush (v := nI 8) hx hb dX0_brightnessOn_14 (by decide) ?_
    refine lv_iload_n hx hb dX0_brightnessOn_16 rfl (lv_at hl 0 rfl) ?_
    refine lv_isub hx hb dX0_brightnessOn_17 ?_
    refine zz_top (pk_sub (by omega)) ?_
    exact W.iret hx hb hr (fun t ht hW => ⟨_, rfl, congrArg nI (show 8 - (d % 8) = zb d from by (unfold zb; split <;> omega)), ht⟩) (fun _ h => nomatch h) dX0_brightnessOn_18
  · skip
    replace c_2 := mt (nI_ltI (by omega) (by omega)).mpr c_2
    refine lv_iload_n hx hb dX0_brightnessOn_10 rfl (lv_at hl 0 rfl) ?_
    refine lv_goto (tgt := 18) hx hb dX0_brightnessOn_11 (by decide) ?_
    exact W.iret hx hb hr (fun t ht hW => ⟨_, rfl, congrArg nI (show d % 8 = zb d from by (unfold zb; split <;> omega)), ht⟩) (fun _ h => nomatch h) dX0_brightnessOn_18
set_option maxHeartbeats 4000000 in
set_option maxRecDepth 100000 in
theorem c_X0_daysUntilFullFrom (l : Launch) (dC : Nat → ClassId) (dI : Nat → Nat → Nat) (cA : ClassId) (d : Nat) (hd : d < 2 ^ 31) : Met l yX0_daysUntilFullFrom wsX0_daysUntilFullFrom ({ frames := 1, cells := 0, slots := 0, locals := 20 } : Room) (va_Pc [.int (nI d)] (fun _ => True)) (vp_Si (fun y9 : Int32 => y9 = nI ((12 - d % 8) % 8))) 0 0 (fun _ => False) := by
  refine Met.ofW (cc := cX0_daysUntilFullFrom) (maxL := 1) (ret := (some .int)) (by decide) rfl ?_
  intro p e s m args below meth c s₁ B hml hv
  obtain ⟨hargs, -⟩ := hv
  have hx := B.exec
  have hb := B.bytes
  have hr := B.returns
  have hts := atoms_spec (ws := wsX0_daysUntilFullFrom) B.pre
  have hown : s.vm.findClass RX0 = some m.cls := findClass_of_methodNamed B.named
  have hlocks := B.notSynchronized
  have hl := lv_entry ([.int (nI d)]) (n := 1) (Nat.le_of_ble_eq_true rfl)
  rw [hargs, lg_entry_eq, ← hargs]
  generalize (lg_sl ([.int (nI d)]) ++ List.replicate (1 - (lg_sl ([.int (nI d)])).length) Slot.unset).toArray = ls at hl ⊢
  have hl : lv_has ls 1 [(0, .int (nI d))] := hl
  refine lv_bipush (v := nI 12) hx hb dX0_daysUntilFullFrom_0 (by decide) ?_
  refine lv_iload_n hx hb dX0_daysUntilFullFrom_2 rfl (lv_at hl 0 rfl) ?_
  refine vp_callSi (W.runS (As := [.int (nI d)]) (rest := [.int (nI 12)]) ⟨hx, hb, hml, hown, hts⟩ (c_X0_phaseOn l dC dI cA d (by first | assumption | omega)) (va_cwS 1 hts gX0_daysUntilFullFrom_X0_phaseOn rfl rfl rfl (by decide +kernel) ⟨Nat.le_of_ble_eq_true rfl, Nat.le_of_ble_eq_true rfl⟩) ⟨fun _ _ _ _ q => q, fun U hU hW => ⟨rfl, trivial⟩⟩ rfl rfl hl.1 rfl (lv_room (Nat.le_of_ble_eq_true rfl)) dX0_daysUntilFullFrom_3 ⟨Nat.le_of_ble_eq_true rfl, Nat.le_of_ble_eq_true rfl⟩) (fun r_1 hw_1 => ?_)
  subst hw_1
  refine lv_isub hx hb dX0_daysUntilFullFrom_6 ?_
  refine zz_top (pk_sub (by omega)) ?_
  refine lv_bipush (v := nI 8) hx hb dX0_daysUntilFullFrom_7 (by decide) ?_
  refine lv_irem hx hb dX0_daysUntilFullFrom_9 (by decide) ?_
  refine zz_top (pk_rem (by omega) (by decide) (by decide)) ?_
  exact W.iret hx hb hr (fun t ht hW => ⟨_, rfl, congrArg nI (show (12 - (d % 8)) % 8 = (12 - d % 8) % 8 from by first | rfl | omega), ht⟩) (fun _ h => nomatch h) dX0_daysUntilFullFrom_10
theorem i_X2_has_X2 : ∀ w ∈ u_ws RX2 TX2 7, w ∈ wsX2_has := by decide +kernel
set_option maxHeartbeats 4000000 in
set_option maxRecDepth 100000 in
theorem c_X2_has (l : Launch) (dC : Nat → ClassId) (dI : Nat → Nat → Nat) (cA : ClassId) (h : Nat) (a0 : Nat) (a1 : Nat) (a2 : Nat) (a3 : Nat) (a4 : Nat) (a5 : Nat) (n : Nat) (wa : Nat → Nat) (iv : Nat → Nat) (gh : Nat → Nat) (pr : Nat → Nat) (me : Nat → Int32) (rk : Nat → Int32) (x : Int32) (hn : n ≤ 10) : Met l yX2_has wsX2_has ({ frames := 0, cells := 0, slots := 0, locals := 0 } : Room) (va_Pc [.ref h, .int x] (fun U => va_P (dC, dI) vwCl [(h, .inr (1, [.ref a0, .ref a1, .ref a2, .ref a3, .ref a4, .ref a5, .int (nI n)])), (a0, .inl (cA, 10, .inl (fun j9 => nI (wa j9)))), (a1, .inl (cA, 10, .inl (fun j9 => nI (iv j9)))), (a2, .inl (cA, 10, .inl (fun j9 => nI (gh j9)))), (a3, .inl (cA, 10, .inl (fun j9 => nI (pr j9)))), (a4, .inl (cA, 10, .inl me)), (a5, .inl (cA, 10, .inl rk))] U.heap ∧ va_K (dC, dI) vwCl [(cA, .int)] U)) (vp_Si (fun y9 : Int32 => y9 = nI (zhas x n))) 0 0 (fun _ => False) := by
  refine Met.ofW (cc := cX2_has) (maxL := 2) (ret := (some .boolean)) (by decide) rfl ?_
  intro p e s m args below meth c s₁ B hml hv
  obtain ⟨hargs, hP, hK⟩ := hv
  have hx := B.exec
  have hb := B.bytes
  have hr := B.returns
  have hts := atoms_spec (ws := wsX2_has) B.pre
  have hown : s.vm.findClass RX2 = some m.cls := findClass_of_methodNamed B.named
  have hlocks := B.notSynchronized
  have hl := lv_entry ([.ref h, .int x]) (n := 2) (Nat.le_of_ble_eq_true rfl)
  rw [hargs, lg_entry_eq, ← hargs]
  generalize (lg_sl ([.ref h, .int x]) ++ List.replicate (2 - (lg_sl ([.ref h, .int x])).length) Slot.unset).toArray = ls at hl ⊢
  have hl : lv_has ls 2 [(0, .ref h), (1, .int x)] := hl
  refine lv_iload_n hx hb dX2_has_0 rfl (lv_at hl 1 rfl) ?_
  refine lv_if_lt (tgt := 16) hx hb dX2_has_1 (by decide) (fun c_1 => ?_) (fun c_1 => ?_)
  · skip
    refine lv_iconst (v := nI 0) hx hb dX2_has_16 (by decide) ?_
    exact W.zret (ty := .boolean) hx hb hr (by first | rfl | decide) (fun t ht hW => ⟨_, rfl, congrArg nI (show 0 = zhas x n from by simp [zhas, *]), ht⟩) (fun _ h => nomatch h) dX2_has_17
  · skip
    refine lv_iload_n hx hb dX2_has_4 rfl (lv_at hl 1 rfl) ?_
    refine lv_aload_n hx hb dX2_has_5 rfl (lv_at hl 0 rfl) ?_
    refine va_get (D := (dC, dI)) (ci := 1) (v := .int (nI n)) (C := RX2) (T := TX2) (N := 7) hx hb hts i_X2_has_X2 hown hK hP 0 rfl rfl 6 (by decide) (hts (.fieldLink RX2 30 "RuinViews$Ruins" "count" "I") (List.mem_of_getElem? (i := 1) rfl)) (fun _ h9 => h9) rfl dX2_has_6 ?_
    refine lv_icmp_ge (tgt := 16) hx hb dX2_has_9 (by decide) (fun c_2 => ?_) (fun c_2 => ?_)
    · skip
      refine lv_iconst (v := nI 0) hx hb dX2_has_16 (by decide) ?_
      exact W.zret (ty := .boolean) hx hb hr (by first | rfl | decide) (fun t ht hW => ⟨_, rfl, congrArg nI (show 0 = zhas x n from by simp [zhas, *]), ht⟩) (fun _ h => nomatch h) dX2_has_17
    · skip
      refine lv_iconst (v := nI 1) hx hb dX2_has_12 (by decide) ?_
      refine lv_goto (tgt := 17) hx hb dX2_has_13 (by decide) ?_
      exact W.zret (ty := .boolean) hx hb hr (by first | rfl | decide) (fun t ht hW => ⟨_, rfl, congrArg nI (show 1 = zhas x n from by simp [zhas, *]), ht⟩) (fun _ h => nomatch h) dX2_has_17
theorem i_X2_stands_X2 : ∀ w ∈ u_ws RX2 TX2 7, w ∈ wsX2_stands := by decide +kernel
set_option maxHeartbeats 4000000 in
set_option maxRecDepth 100000 in
theorem c_X2_stands (l : Launch) (dC : Nat → ClassId) (dI : Nat → Nat → Nat) (cA : ClassId) (h : Nat) (a0 : Nat) (a1 : Nat) (a2 : Nat) (a3 : Nat) (a4 : Nat) (a5 : Nat) (n : Nat) (wa : Nat → Nat) (iv : Nat → Nat) (gh : Nat → Nat) (pr : Nat → Nat) (me : Nat → Int32) (rk : Nat → Int32) (r : Nat) (hn : n ≤ 10) (hrn : r < n) (hw : wa r ≤ 20) : Met l yX2_stands wsX2_stands ({ frames := 1, cells := 0, slots := 0, locals := 21 } : Room) (va_Pc [.ref h, .int (nI r)] (fun U => va_P (dC, dI) vwCl [(h, .inr (1, [.ref a0, .ref a1, .ref a2, .ref a3, .ref a4, .ref a5, .int (nI n)])), (a0, .inl (cA, 10, .inl (fun j9 => nI (wa j9)))), (a1, .inl (cA, 10, .inl (fun j9 => nI (iv j9)))), (a2, .inl (cA, 10, .inl (fun j9 => nI (gh j9)))), (a3, .inl (cA, 10, .inl (fun j9 => nI (pr j9)))), (a4, .inl (cA, 10, .inl me)), (a5, .inl (cA, 10, .inl rk))] U.heap ∧ va_K (dC, dI) vwCl [(cA, .int)] U)) (vp_Si (fun y9 : Int32 => y9 = nI (if 0 < wa r then 1 else 0))) 0 0 (fun _ => False) := by
  refine Met.ofW (cc := cX2_stands) (maxL := 2) (ret := (some .boolean)) (by decide) rfl ?_
  intro p e s m args below meth c s₁ B hml hv
  obtain ⟨hargs, hP, hK⟩ := hv
  have hx := B.exec
  have hb := B.bytes
  have hr := B.returns
  have hts := atoms_spec (ws := wsX2_stands) B.pre
  have hown : s.vm.findClass RX2 = some m.cls := findClass_of_methodNamed B.named
  have hlocks := B.notSynchronized
  have hl := lv_entry ([.ref h, .int (nI r)]) (n := 2) (Nat.le_of_ble_eq_true rfl)
  rw [hargs, lg_entry_eq, ← hargs]
  generalize (lg_sl ([.ref h, .int (nI r)]) ++ List.replicate (2 - (lg_sl ([.ref h, .int (nI r)])).length) Slot.unset).toArray = ls at hl ⊢
  have hl : lv_has ls 2 [(0, .ref h), (1, .int (nI r))] := hl
  refine lv_aload_n hx hb dX2_stands_0 rfl (lv_at hl 0 rfl) ?_
  refine lv_iload_n hx hb dX2_stands_1 rfl (lv_at hl 1 rfl) ?_
  have hPc := hP.sub (ws' := [(h, .inr (1, [.ref a0, .ref a1, .ref a2, .ref a3, .ref a4, .ref a5, .int (nI n)])), (a0, .inl (cA, 10, .inl (fun j9 => nI (wa j9)))), (a1, .inl (cA, 10, .inl (fun j9 => nI (iv j9)))), (a2, .inl (cA, 10, .inl (fun j9 => nI (gh j9)))), (a3, .inl (cA, 10, .inl (fun j9 => nI (pr j9)))), (a4, .inl (cA, 10, .inl me)), (a5, .inl (cA, 10, .inl rk))]) [0, 1, 2, 3, 4, 5, 6] rfl
  refine vp_callSi (W.runV (As := [.int (nI r)]) (rest := []) ⟨hx, hb, hml, hown, hts⟩ (c_X2_has l dC dI cA h a0 a1 a2 a3 a4 a5 n wa iv gh pr me rk (nI r) (by first | assumption | omega)) (cwV 1 hts gX2_stands_X2_has rfl rfl rfl (by decide +kernel) ⟨Nat.le_of_ble_eq_true rfl, Nat.le_of_ble_eq_true rfl⟩) ⟨fun a U g mk q => by obtain ⟨q0, qP, qK⟩ := q; exact ⟨q0, qP, va_K.moved (u := U) (U := U.calling g mk a) (Vm.Alike.refl U.vm) qK⟩, va_recv hK hP (ci := 1) (q0 := 0) rfl rfl, fun U hU hW => ⟨rfl, by rw [hU]; exact hPc, va_K.moved hW.alike hK⟩⟩ rfl rfl hl.1 rfl (lv_room (Nat.le_of_ble_eq_true rfl)) dX2_stands_2 ⟨Nat.le_of_ble_eq_true rfl, Nat.le_of_ble_eq_true rfl⟩) (fun r_1 hw_1 => ?_)
  subst hw_1
  refine zz_top (congrArg nI (zhas_in hrn (by omega))) ?_
  refine lv_if_eq (tgt := 21) hx hb dX2_stands_5 (by decide) (fun c_2 => ?_) (fun c_2 => ?_)
  · skip
    replace c_2 := (zz_eq0 (by omega)).mp c_2
    exfalso; omega
  · skip
    replace c_2 := mt (zz_eq0 (by omega)).mpr c_2
    refine lv_aload_n hx hb dX2_stands_8 rfl (lv_at hl 0 rfl) ?_
    refine va_get (D := (dC, dI)) (ci := 1) (v := .ref a0) (C := RX2) (T := TX2) (N := 7) hx hb hts i_X2_stands_X2 hown hK hP 0 rfl rfl 0 (by decide) (hts (.fieldLink RX2 9 "RuinViews$Ruins" "walls" "[I") (List.mem_of_getElem? (i := 1) rfl)) (fun _ h9 => h9) rfl dX2_stands_9 ?_
    refine lv_iload_n hx hb dX2_stands_12 rfl (lv_at hl 1 rfl) ?_
    refine zz_ald hx hb hK hP 1 (f := wa) rfl rfl (by omega) (by decide) dX2_stands_13 ?_
    refine lv_if_le (tgt := 21) hx hb dX2_stands_14 (by decide) (fun c_3 => ?_) (fun c_3 => ?_)
    · skip
      replace c_3 := (zz_lez (by omega)).mp c_3
      refine lv_iconst (v := nI 0) hx hb dX2_stands_21 (by decide) ?_
      exact W.zret (ty := .boolean) hx hb hr (by first | rfl | decide) (fun t ht hW => ⟨_, rfl, congrArg nI (show 0 = if 0 < wa r then 1 else 0 from by (split <;> omega)), ht⟩) (fun _ h => nomatch h) dX2_stands_22
    · skip
      replace c_3 := mt (zz_lez (by omega)).mpr c_3
      refine lv_iconst (v := nI 1) hx hb dX2_stands_17 (by decide) ?_
      refine lv_goto (tgt := 22) hx hb dX2_stands_18 (by decide) ?_
      exact W.zret (ty := .boolean) hx hb hr (by first | rfl | decide) (fun t ht hW => ⟨_, rfl, congrArg nI (show 1 = if 0 < wa r then 1 else 0 from by (split <;> omega)), ht⟩) (fun _ h => nomatch h) dX2_stands_22
theorem i_X2_countStanding_X2 : ∀ w ∈ u_ws RX2 TX2 7, w ∈ wsX2_countStanding := by decide +kernel
set_option maxHeartbeats 4000000 in
set_option maxRecDepth 100000 in
theorem c_X2_countStanding (l : Launch) (dC : Nat → ClassId) (dI : Nat → Nat → Nat) (cA : ClassId) (h : Nat) (a0 : Nat) (a1 : Nat) (a2 : Nat) (a3 : Nat) (a4 : Nat) (a5 : Nat) (n : Nat) (wa : Nat → Nat) (iv : Nat → Nat) (gh : Nat → Nat) (pr : Nat → Nat) (me : Nat → Int32) (rk : Nat → Int32) (hn : n ≤ 10) (hwa : ∀ j, wa j ≤ 20) : Met l yX2_countStanding wsX2_countStanding ({ frames := 0, cells := 0, slots := 0, locals := 0 } : Room) (va_Pc [.ref h] (fun U => va_P (dC, dI) vwCl [(h, .inr (1, [.ref a0, .ref a1, .ref a2, .ref a3, .ref a4, .ref a5, .int (nI n)])), (a0, .inl (cA, 10, .inl (fun j9 => nI (wa j9)))), (a1, .inl (cA, 10, .inl (fun j9 => nI (iv j9)))), (a2, .inl (cA, 10, .inl (fun j9 => nI (gh j9)))), (a3, .inl (cA, 10, .inl (fun j9 => nI (pr j9)))), (a4, .inl (cA, 10, .inl me)), (a5, .inl (cA, 10, .inl rk))] U.heap ∧ va_K (dC, dI) vwCl [(cA, .int)] U)) (vp_Si (fun y9 : Int32 => y9 = nI (zcnt wa n))) 0 0 (fun _ => False) := by
  refine Met.ofW (cc := cX2_countStanding) (maxL := 3) (ret := (some .int)) (by decide) rfl ?_
  intro p e s m args below meth c s₁ B hml hv
  obtain ⟨hargs, hP, hK⟩ := hv
  have hx := B.exec
  have hb := B.bytes
  have hr := B.returns
  have hts := atoms_spec (ws := wsX2_countStanding) B.pre
  have hown : s.vm.findClass RX2 = some m.cls := findClass_of_methodNamed B.named
  have hlocks := B.notSynchronized
  have hl := lv_entry ([.ref h]) (n := 3) (Nat.le_of_ble_eq_true rfl)
  rw [hargs, lg_entry_eq, ← hargs]
  generalize (lg_sl ([.ref h]) ++ List.replicate (3 - (lg_sl ([.ref h])).length) Slot.unset).toArray = ls at hl ⊢
  have hl : lv_has ls 3 [(0, .ref h)] := hl
  refine lv_iconst (v := nI 0) hx hb dX2_countStanding_0 (by decide) ?_
  refine lv_istore_n (lv' := [(1, .int (nI 0)), (0, .ref h)]) hx hb dX2_countStanding_1 rfl hl (by decide) rfl (fun ls hl => ?_)
  refine lv_iconst (v := nI 0) hx hb dX2_countStanding_2 (by decide) ?_
  refine lv_istore_n (lv' := [(2, .int (nI 0)), (1, .int (nI 0)), (0, .ref h)]) hx hb dX2_countStanding_3 rfl hl (by decide) rfl (fun ls hl => ?_)
  have lp_4 : ∀ (f9 : Nat) (i : Nat) , (n - i) < f9 → (i ≤ n) → ∀ (ls : Array Slot), lv_has ls 3 [(0, .ref h), (1, .int (nI (zcnt wa i))), (2, .int (nI i))] → W p l e ({ frames := 0, cells := 0, slots := 0, locals := 0 } : Room) s m args below meth c s.heap [] 0 0 (MQ below (vp_Si (fun y9 : Int32 => y9 = nI (zcnt wa n))) args s 0 0 (fun _ => False)) (F0 m 4 ls []) := by
    intro f9
    induction f9 with
    | zero => intro i hm9; exact absurd hm9 (Nat.not_lt_zero _)
    | succ f9 ih_4 =>
      intro i hm9 hi ls hl
      have hc9 := zcnt_le wa i
      have hw9 := hwa i
      refine lv_iload_n hx hb dX2_countStanding_4 rfl (lv_at hl 2 rfl) ?_
      refine lv_aload_n hx hb dX2_countStanding_5 rfl (lv_at hl 0 rfl) ?_
      refine va_get (D := (dC, dI)) (ci := 1) (v := .int (nI n)) (C := RX2) (T := TX2) (N := 7) hx hb hts i_X2_countStanding_X2 hown hK hP 0 rfl rfl 6 (by decide) (hts (.fieldLink RX2 30 "RuinViews$Ruins" "count" "I") (List.mem_of_getElem? (i := 1) rfl)) (fun _ h9 => h9) rfl dX2_countStanding_6 ?_
      refine lv_icmp_ge (tgt := 30) hx hb dX2_countStanding_9 (by decide) (fun c_1 => ?_) (fun c_1 => ?_)
      · skip
        replace c_1 := (nI_leI (by omega) (by omega)).mp c_1
        refine lv_iload_n hx hb dX2_countStanding_30 rfl (lv_at hl 1 rfl) ?_
        exact W.iret hx hb hr (fun t ht hW => ⟨_, rfl, congrArg nI (show zcnt wa i = zcnt wa n from by (rw [show n = i from by omega])), ht⟩) (fun _ h => nomatch h) dX2_countStanding_31
      · skip
        replace c_1 := mt (nI_leI (by omega) (by omega)).mpr c_1
        refine lv_aload_n hx hb dX2_countStanding_12 rfl (lv_at hl 0 rfl) ?_
        refine va_get (D := (dC, dI)) (ci := 1) (v := .ref a0) (C := RX2) (T := TX2) (N := 7) hx hb hts i_X2_countStanding_X2 hown hK hP 0 rfl rfl 0 (by decide) (hts (.fieldLink RX2 9 "RuinViews$Ruins" "walls" "[I") (List.mem_of_getElem? (i := 2) rfl)) (fun _ h9 => h9) rfl dX2_countStanding_13 ?_
        refine lv_iload_n hx hb dX2_countStanding_16 rfl (lv_at hl 2 rfl) ?_
        refine zz_ald hx hb hK hP 1 (f := wa) rfl rfl (by omega) (by decide) dX2_countStanding_17 ?_
        refine lv_if_le (tgt := 24) hx hb dX2_countStanding_18 (by decide) (fun c_2 => ?_) (fun c_2 => ?_)
        · skip
          replace c_2 := (zz_lez (by omega)).mp c_2
          refine lv_iinc (v := nI (i + 1)) (lv' := [(2, .int (nI (i + 1))), (0, .ref h), (1, .int (nI (zcnt wa i)))]) hx hb dX2_countStanding_24 hl (k := 2) rfl (nI_1 _) (by decide) rfl (fun ls hl => ?_)
          refine lv_goto (tgt := 4) hx hb dX2_countStanding_27 (by decide) ?_
          have hl := lv_sub (l' := [(0, .ref h), (1, .int (nI (zcnt wa i))), (2, .int (nI (i + 1)))]) hl [1, 2, 0] rfl
          have hl3 : ∀ (x1 : Int32), x1 = nI (zcnt wa i) → lv_has ls 3 [(0, .ref h), (1, .int x1), (2, .int (nI (i + 1)))] := by
            intro x1 h1; subst h1; exact hl
          have hl := hl3 (nI (zcnt wa (i + 1))) (congrArg nI (show zcnt wa (i + 1) = zcnt wa i from by first | exact zcnt_s0 (by assumption) | exact zcnt_s1 (by assumption) | rfl))
          exact ih_4 (i + 1) (by omega) (by first | assumption | omega) _ hl
        · skip
          replace c_2 := mt (zz_lez (by omega)).mpr c_2
          refine lv_iinc (v := nI ((zcnt wa i) + 1)) (lv' := [(1, .int (nI ((zcnt wa i) + 1))), (0, .ref h), (2, .int (nI i))]) hx hb dX2_countStanding_21 hl (k := 1) rfl (nI_1 _) (by decide) rfl (fun ls hl => ?_)
          refine lv_iinc (v := nI (i + 1)) (lv' := [(2, .int (nI (i + 1))), (1, .int (nI ((zcnt wa i) + 1))), (0, .ref h)]) hx hb dX2_countStanding_24 hl (k := 2) rfl (nI_1 _) (by decide) rfl (fun ls hl => ?_)
          refine lv_goto (tgt := 4) hx hb dX2_countStanding_27 (by decide) ?_
          have hl := lv_sub (l' := [(0, .ref h), (1, .int (nI ((zcnt wa i) + 1))), (2, .int (nI (i + 1)))]) hl [2, 1, 0] rfl
          have hl4 : ∀ (x1 : Int32), x1 = nI ((zcnt wa i) + 1) → lv_has ls 3 [(0, .ref h), (1, .int x1), (2, .int (nI (i + 1)))] := by
            intro x1 h1; subst h1; exact hl
          have hl := hl4 (nI (zcnt wa (i + 1))) (congrArg nI (show zcnt wa (i + 1) = (zcnt wa i) + 1 from by first | exact zcnt_s0 (by assumption) | exact zcnt_s1 (by assumption) | rfl))
          exact ih_4 (i + 1) (by omega) (by first | assumption | omega) _ hl
  have hl := lv_sub (l' := [(0, .ref h), (1, .int (nI 0)), (2, .int (nI 0))]) hl [2, 1, 0] rfl
  have hl5 : ∀ (x1 : Int32), x1 = nI 0 → lv_has ls 3 [(0, .ref h), (1, .int x1), (2, .int (nI 0))] := by
    intro x1 h1; subst h1; exact hl
  have hl := hl5 (nI (zcnt wa 0)) (congrArg nI (show zcnt wa 0 = 0 from by first | exact zcnt_s0 (by assumption) | exact zcnt_s1 (by assumption) | rfl))
  exact lp_4 _ 0 (Nat.lt_succ_self _) (by first | assumption | omega) _ hl
theorem i_X2_cut_X2 : ∀ w ∈ u_ws RX2 TX2 7, w ∈ wsX2_cut := by decide +kernel
set_option maxHeartbeats 4000000 in
set_option maxRecDepth 100000 in
theorem c_X2_cut (l : Launch) (dC : Nat → ClassId) (dI : Nat → Nat → Nat) (cA : ClassId) (h : Nat) (a0 : Nat) (a1 : Nat) (a2 : Nat) (a3 : Nat) (a4 : Nat) (a5 : Nat) (n : Nat) (wa : Nat → Nat) (iv : Nat → Nat) (gh : Nat → Nat) (pr : Nat → Nat) (me : Nat → Int32) (rk : Nat → Int32) (r : Nat) (k : Nat) (sz : Nat) (hrn : r < 10) (hi : iv r ≤ 12) (hk : k ≤ 12) : Met l yX2_cut wsX2_cut ({ frames := 1, cells := 0, slots := 0, locals := 24 } : Room) (va_Pc [.ref h, .int (nI r), .int (nI k)] (fun U => U.heap.size = sz ∧ va_P (dC, dI) vwCl [(h, .inr (1, [.ref a0, .ref a1, .ref a2, .ref a3, .ref a4, .ref a5, .int (nI n)])), (a0, .inl (cA, 10, .inl (fun j9 => nI (wa j9)))), (a1, .inl (cA, 10, .inl (fun j9 => nI (iv j9)))), (a2, .inl (cA, 10, .inl (fun j9 => nI (gh j9)))), (a3, .inl (cA, 10, .inl (fun j9 => nI (pr j9)))), (a4, .inl (cA, 10, .inl me)), (a5, .inl (cA, 10, .inl rk))] U.heap ∧ va_K (dC, dI) vwCl [(cA, .int)] U ∧ va_D (fun _ => True) [(h, .inr (1, [.ref a0, .ref a1, .ref a2, .ref a3, .ref a4, .ref a5, .int (nI n)])), (a0, .inl (cA, 10, .inl (fun j9 => nI (wa j9)))), (a1, .inl (cA, 10, .inl (fun j9 => nI (iv j9)))), (a2, .inl (cA, 10, .inl (fun j9 => nI (gh j9)))), (a3, .inl (cA, 10, .inl (fun j9 => nI (pr j9)))), (a4, .inl (cA, 10, .inl me)), (a5, .inl (cA, 10, .inl rk))])) (va_Qv (fun _ : Unit => True) (fun (_ : Unit) t => va_P (dC, dI) vwCl [(h, .inr (1, [.ref a0, .ref a1, .ref a2, .ref a3, .ref a4, .ref a5, .int (nI n)])), (a0, .inl (cA, 10, .inl (fun j9 => nI (wa j9)))), (a1, .inl (cA, 10, .inl (fun j9 => nI ((zup iv r (iv r - k)) j9)))), (a2, .inl (cA, 10, .inl (fun j9 => nI (gh j9)))), (a3, .inl (cA, 10, .inl (fun j9 => nI (pr j9)))), (a4, .inl (cA, 10, .inl me)), (a5, .inl (cA, 10, .inl rk))] t.heap ∧ va_D (va_A [(h, .inr (1, [.ref a0, .ref a1, .ref a2, .ref a3, .ref a4, .ref a5, .int (nI n)])), (a0, .inl (cA, 10, .inl (fun j9 => nI (wa j9)))), (a1, .inl (cA, 10, .inl (fun j9 => nI (iv j9)))), (a2, .inl (cA, 10, .inl (fun j9 => nI (gh j9)))), (a3, .inl (cA, 10, .inl (fun j9 => nI (pr j9)))), (a4, .inl (cA, 10, .inl me)), (a5, .inl (cA, 10, .inl rk))] sz) [(h, .inr (1, [.ref a0, .ref a1, .ref a2, .ref a3, .ref a4, .ref a5, .int (nI n)])), (a0, .inl (cA, 10, .inl (fun j9 => nI (wa j9)))), (a1, .inl (cA, 10, .inl (fun j9 => nI ((zup iv r (iv r - k)) j9)))), (a2, .inl (cA, 10, .inl (fun j9 => nI (gh j9)))), (a3, .inl (cA, 10, .inl (fun j9 => nI (pr j9)))), (a4, .inl (cA, 10, .inl me)), (a5, .inl (cA, 10, .inl rk))]) (va_A [(h, .inr (1, [.ref a0, .ref a1, .ref a2, .ref a3, .ref a4, .ref a5, .int (nI n)])), (a0, .inl (cA, 10, .inl (fun j9 => nI (wa j9)))), (a1, .inl (cA, 10, .inl (fun j9 => nI (iv j9)))), (a2, .inl (cA, 10, .inl (fun j9 => nI (gh j9)))), (a3, .inl (cA, 10, .inl (fun j9 => nI (pr j9)))), (a4, .inl (cA, 10, .inl me)), (a5, .inl (cA, 10, .inl rk))] sz)) 0 0 (va_A [(h, .inr (1, [.ref a0, .ref a1, .ref a2, .ref a3, .ref a4, .ref a5, .int (nI n)])), (a0, .inl (cA, 10, .inl (fun j9 => nI (wa j9)))), (a1, .inl (cA, 10, .inl (fun j9 => nI (iv j9)))), (a2, .inl (cA, 10, .inl (fun j9 => nI (gh j9)))), (a3, .inl (cA, 10, .inl (fun j9 => nI (pr j9)))), (a4, .inl (cA, 10, .inl me)), (a5, .inl (cA, 10, .inl rk))] sz) := by
  refine Met.ofW (cc := cX2_cut) (maxL := 3) (ret := none) (by decide) rfl ?_
  intro p e s m args below meth c s₁ B hml hv
  obtain ⟨hargs, hsz, hP, hK, hD0⟩ := hv
  have hx := B.exec
  have hb := B.bytes
  have hr := B.returns
  have hts := atoms_spec (ws := wsX2_cut) B.pre
  have hown : s.vm.findClass RX2 = some m.cls := findClass_of_methodNamed B.named
  have hlocks := B.notSynchronized
  subst hsz
  have hD := hD0.self (sz := s.heap.size)
  generalize hAe : va_A [(h, .inr (1, [.ref a0, .ref a1, .ref a2, .ref a3, .ref a4, .ref a5, .int (nI n)])), (a0, .inl (cA, 10, .inl (fun j9 => nI (wa j9)))), (a1, .inl (cA, 10, .inl (fun j9 => nI (iv j9)))), (a2, .inl (cA, 10, .inl (fun j9 => nI (gh j9)))), (a3, .inl (cA, 10, .inl (fun j9 => nI (pr j9)))), (a4, .inl (cA, 10, .inl me)), (a5, .inl (cA, 10, .inl rk))] s.heap.size = A at hD ⊢
  have hA : ∀ q : Nat, s.heap.size ≤ q → A q := fun q h => by rw [← hAe]; exact Or.inr h
  have hS : va_S A s.heap s.heap [] := va_S.rf
  have hP : va_P (dC, dI) vwCl [(h, .inr (1, [.ref a0, .ref a1, .ref a2, .ref a3, .ref a4, .ref a5, .int (nI n)])), (a0, .inl (cA, 10, .inl (fun j9 => nI (wa j9)))), (a1, .inl (cA, 10, .inl (fun j9 => nI (iv j9)))), (a2, .inl (cA, 10, .inl (fun j9 => nI (gh j9)))), (a3, .inl (cA, 10, .inl (fun j9 => nI (pr j9)))), (a4, .inl (cA, 10, .inl me)), (a5, .inl (cA, 10, .inl rk))] s.heap := hP
  have hl := lv_entry ([.ref h, .int (nI r), .int (nI k)]) (n := 3) (Nat.le_of_ble_eq_true rfl)
  rw [hargs, lg_entry_eq, ← hargs]
  generalize (lg_sl ([.ref h, .int (nI r), .int (nI k)]) ++ List.replicate (3 - (lg_sl ([.ref h, .int (nI r), .int (nI k)])).length) Slot.unset).toArray = ls at hl ⊢
  have hl : lv_has ls 3 [(0, .ref h), (1, .int (nI r)), (2, .int (nI k))] := hl
  refine lv_aload_n hx hb dX2_cut_0 rfl (lv_at hl 0 rfl) ?_
  refine va_get (D := (dC, dI)) (ci := 1) (v := .ref a1) (C := RX2) (T := TX2) (N := 7) hx hb hts i_X2_cut_X2 hown hK hP 0 rfl rfl 1 (by decide) (hts (.fieldLink RX2 15 "RuinViews$Ruins" "ivy" "[I") (List.mem_of_getElem? (i := 1) rfl)) (fun _ h9 => h9) rfl dX2_cut_1 ?_
  refine lv_iload_n hx hb dX2_cut_4 rfl (lv_at hl 1 rfl) ?_
  refine lv_iconst (v := nI 0) hx hb dX2_cut_5 (by decide) ?_
  refine lv_aload_n hx hb dX2_cut_6 rfl (lv_at hl 0 rfl) ?_
  refine va_get (D := (dC, dI)) (ci := 1) (v := .ref a1) (C := RX2) (T := TX2) (N := 7) hx hb hts i_X2_cut_X2 hown hK hP 0 rfl rfl 1 (by decide) (hts (.fieldLink RX2 15 "RuinViews$Ruins" "ivy" "[I") (List.mem_of_getElem? (i := 1) rfl)) (fun _ h9 => h9) rfl dX2_cut_7 ?_
  refine lv_iload_n hx hb dX2_cut_10 rfl (lv_at hl 1 rfl) ?_
  refine zz_ald hx hb hK hP 2 (f := iv) rfl rfl (by omega) (by decide) dX2_cut_11 ?_
  refine lv_iload_n hx hb dX2_cut_12 rfl (lv_at hl 2 rfl) ?_
  refine lv_isub hx hb dX2_cut_13 ?_
  refine va_mmax hx hb (by rw [hml]; exact hl.1.symm) hown (hts (.methodLink RX2 44 Lib.Math.max.name) (List.mem_of_getElem? (i := 2) rfl)) (hts (.static Lib.Math.max.name) (List.mem_of_getElem? (i := 3) rfl)) (hts (.initialized "java/lang/Math") (List.mem_of_getElem? (i := 4) rfl)) (hts (.code Lib.Math.max.name Lib.Math.max.code 2 (some .int)) (List.mem_of_getElem? (i := 5) rfl)) (Nat.le_of_ble_eq_true rfl) (Nat.le_of_ble_eq_true rfl) (Nat.le_of_ble_eq_true rfl) (Nat.le_of_ble_eq_true rfl) dX2_cut_14 ?_
  refine zz_top (zz_cut (by omega) (by omega)) ?_
  refine zz_ast hx hb hK hP hD hS 2 (f := iv) rfl rfl (by omega) (by decide) dX2_cut_17 (fun H locs hP hD hS => ?_)
  have hP : va_P (dC, dI) vwCl [(h, .inr (1, [.ref a0, .ref a1, .ref a2, .ref a3, .ref a4, .ref a5, .int (nI n)])), (a0, .inl (cA, 10, .inl (fun j9 => nI (wa j9)))), (a1, .inl (cA, 10, .inl (fun j9 => nI ((zup iv r (iv r - k)) j9)))), (a2, .inl (cA, 10, .inl (fun j9 => nI (gh j9)))), (a3, .inl (cA, 10, .inl (fun j9 => nI (pr j9)))), (a4, .inl (cA, 10, .inl me)), (a5, .inl (cA, 10, .inl rk))] H := hP
  have hD : va_D A [(h, .inr (1, [.ref a0, .ref a1, .ref a2, .ref a3, .ref a4, .ref a5, .int (nI n)])), (a0, .inl (cA, 10, .inl (fun j9 => nI (wa j9)))), (a1, .inl (cA, 10, .inl (fun j9 => nI ((zup iv r (iv r - k)) j9)))), (a2, .inl (cA, 10, .inl (fun j9 => nI (gh j9)))), (a3, .inl (cA, 10, .inl (fun j9 => nI (pr j9)))), (a4, .inl (cA, 10, .inl me)), (a5, .inl (cA, 10, .inl rk))] := hD
  exact W.vret hx hb hr (fun t ht hW => ⟨⟨(), rfl, trivial, by rw [ht]; exact hP, hD⟩, hS.F ht⟩) hS.2.2 dX2_cut_18
theorem i_X2_grade_X2 : ∀ w ∈ u_ws RX2 TX2 7, w ∈ wsX2_grade := by decide +kernel
set_option maxHeartbeats 4000000 in
set_option maxRecDepth 100000 in
theorem c_X2_grade (l : Launch) (dC : Nat → ClassId) (dI : Nat → Nat → Nat) (cA : ClassId) (h : Nat) (a0 : Nat) (a1 : Nat) (a2 : Nat) (a3 : Nat) (a4 : Nat) (a5 : Nat) (n : Nat) (wa : Nat → Nat) (iv : Nat → Nat) (gh : Nat → Nat) (pr : Nat → Nat) (me : Nat → Int32) (rk : Nat → Int32) (r : Nat) (hrn : r < 10) (hi : iv r ≤ 12) : Met l yX2_grade wsX2_grade ({ frames := 0, cells := 0, slots := 0, locals := 0 } : Room) (va_Pc [.ref h, .int (nI r)] (fun U => va_P (dC, dI) vwCl [(h, .inr (1, [.ref a0, .ref a1, .ref a2, .ref a3, .ref a4, .ref a5, .int (nI n)])), (a0, .inl (cA, 10, .inl (fun j9 => nI (wa j9)))), (a1, .inl (cA, 10, .inl (fun j9 => nI (iv j9)))), (a2, .inl (cA, 10, .inl (fun j9 => nI (gh j9)))), (a3, .inl (cA, 10, .inl (fun j9 => nI (pr j9)))), (a4, .inl (cA, 10, .inl me)), (a5, .inl (cA, 10, .inl rk))] U.heap ∧ va_K (dC, dI) vwCl [(cA, .int)] U)) (vp_Si (fun y9 : Int32 => y9 = nI (zg (iv r)))) 0 0 (fun _ => False) := by
  refine Met.ofW (cc := cX2_grade) (maxL := 3) (ret := (some .int)) (by decide) rfl ?_
  intro p e s m args below meth c s₁ B hml hv
  obtain ⟨hargs, hP, hK⟩ := hv
  have hx := B.exec
  have hb := B.bytes
  have hr := B.returns
  have hts := atoms_spec (ws := wsX2_grade) B.pre
  have hown : s.vm.findClass RX2 = some m.cls := findClass_of_methodNamed B.named
  have hlocks := B.notSynchronized
  have hl := lv_entry ([.ref h, .int (nI r)]) (n := 3) (Nat.le_of_ble_eq_true rfl)
  rw [hargs, lg_entry_eq, ← hargs]
  generalize (lg_sl ([.ref h, .int (nI r)]) ++ List.replicate (3 - (lg_sl ([.ref h, .int (nI r)])).length) Slot.unset).toArray = ls at hl ⊢
  have hl : lv_has ls 3 [(0, .ref h), (1, .int (nI r))] := hl
  refine lv_aload_n hx hb dX2_grade_0 rfl (lv_at hl 0 rfl) ?_
  refine va_get (D := (dC, dI)) (ci := 1) (v := .ref a1) (C := RX2) (T := TX2) (N := 7) hx hb hts i_X2_grade_X2 hown hK hP 0 rfl rfl 1 (by decide) (hts (.fieldLink RX2 15 "RuinViews$Ruins" "ivy" "[I") (List.mem_of_getElem? (i := 1) rfl)) (fun _ h9 => h9) rfl dX2_grade_1 ?_
  refine lv_iload_n hx hb dX2_grade_4 rfl (lv_at hl 1 rfl) ?_
  refine zz_ald hx hb hK hP 2 (f := iv) rfl rfl (by omega) (by decide) dX2_grade_5 ?_
  refine lv_istore_n (lv' := [(2, .int (nI (iv r))), (0, .ref h), (1, .int (nI r))]) hx hb dX2_grade_6 rfl hl (by decide) rfl (fun ls hl => ?_)
  refine lv_iload_n hx hb dX2_grade_7 rfl (lv_at hl 0 rfl) ?_
  refine lv_bipush (v := nI 10) hx hb dX2_grade_8 (by decide) ?_
  refine lv_icmp_lt (tgt := 15) hx hb dX2_grade_10 (by decide) (fun c_1 => ?_) (fun c_1 => ?_)
  · skip
    replace c_1 := (nI_ltI (by omega) (by omega)).mp c_1
    refine lv_iload_n hx hb dX2_grade_15 rfl (lv_at hl 0 rfl) ?_
    refine lv_bipush (v := nI 7) hx hb dX2_grade_16 (by decide) ?_
    refine lv_icmp_lt (tgt := 23) hx hb dX2_grade_18 (by decide) (fun c_2 => ?_) (fun c_2 => ?_)
    · skip
      replace c_2 := (nI_ltI (by omega) (by omega)).mp c_2
      refine lv_iload_n hx hb dX2_grade_23 rfl (lv_at hl 0 rfl) ?_
      refine lv_iconst (v := nI 4) hx hb dX2_grade_24 (by decide) ?_
      refine lv_icmp_lt (tgt := 30) hx hb dX2_grade_25 (by decide) (fun c_3 => ?_) (fun c_3 => ?_)
      · skip
        replace c_3 := (nI_ltI (by omega) (by omega)).mp c_3
        refine lv_iload_n hx hb dX2_grade_30 rfl (lv_at hl 0 rfl) ?_
        refine lv_iconst (v := nI 1) hx hb dX2_grade_31 (by decide) ?_
        refine lv_icmp_lt (tgt := 39) hx hb dX2_grade_32 (by decide) (fun c_4 => ?_) (fun c_4 => ?_)
        · skip
          replace c_4 := (nI_ltI (by omega) (by omega)).mp c_4
          refine lv_iconst (v := nI 0) hx hb dX2_grade_39 (by decide) ?_
          exact W.iret hx hb hr (fun t ht hW => ⟨_, rfl, congrArg nI (show 0 = zg (iv r) from by (unfold zg; (repeat' split) <;> omega)), ht⟩) (fun _ h => nomatch h) dX2_grade_40
        · skip
          replace c_4 := mt (nI_ltI (by omega) (by omega)).mpr c_4
          refine lv_iconst (v := nI 1) hx hb dX2_grade_35 (by decide) ?_
          refine lv_goto (tgt := 40) hx hb dX2_grade_36 (by decide) ?_
          exact W.iret hx hb hr (fun t ht hW => ⟨_, rfl, congrArg nI (show 1 = zg (iv r) from by (unfold zg; (repeat' split) <;> omega)), ht⟩) (fun _ h => nomatch h) dX2_grade_40
      · skip
        replace c_3 := mt (nI_ltI (by omega) (by omega)).mpr c_3
        refine lv_iconst (v := nI 2) hx hb dX2_grade_28 (by decide) ?_
        exact W.iret hx hb hr (fun t ht hW => ⟨_, rfl, congrArg nI (show 2 = zg (iv r) from by (unfold zg; (repeat' split) <;> omega)), ht⟩) (fun _ h => nomatch h) dX2_grade_29
    · skip
      replace c_2 := mt (nI_ltI (by omega) (by omega)).mpr c_2
      refine lv_iconst (v := nI 3) hx hb dX2_grade_21 (by decide) ?_
      exact W.iret hx hb hr (fun t ht hW => ⟨_, rfl, congrArg nI (show 3 = zg (iv r) from by (unfold zg; (repeat' split) <;> omega)), ht⟩) (fun _ h => nomatch h) dX2_grade_22
  · skip
    replace c_1 := mt (nI_ltI (by omega) (by omega)).mpr c_1
    refine lv_iconst (v := nI 1) hx hb dX2_grade_13 (by decide) ?_
    exact W.iret hx hb hr (fun t ht hW => ⟨_, rfl, congrArg nI (show 1 = zg (iv r) from by (unfold zg; (repeat' split) <;> omega)), ht⟩) (fun _ h => nomatch h) dX2_grade_14
theorem i_X2_view_X2 : ∀ w ∈ u_ws RX2 TX2 7, w ∈ wsX2_view := by decide +kernel
set_option maxHeartbeats 4000000 in
set_option maxRecDepth 100000 in
theorem c_X2_view (l : Launch) (dC : Nat → ClassId) (dI : Nat → Nat → Nat) (cA : ClassId) (h : Nat) (a0 : Nat) (a1 : Nat) (a2 : Nat) (a3 : Nat) (a4 : Nat) (a5 : Nat) (n : Nat) (wa : Nat → Nat) (iv : Nat → Nat) (gh : Nat → Nat) (pr : Nat → Nat) (me : Nat → Int32) (rk : Nat → Int32) (r : Nat) (b : Nat) (hrn : r < 10) (hw : wa r ≤ 20) (hi : iv r ≤ 12) : Met l yX2_view wsX2_view ({ frames := 1, cells := 0, slots := 0, locals := 22 } : Room) (va_Pc [.ref h, .int (nI r), .int (nI b)] (fun U => va_P (dC, dI) vwCl [(h, .inr (1, [.ref a0, .ref a1, .ref a2, .ref a3, .ref a4, .ref a5, .int (nI n)])), (a0, .inl (cA, 10, .inl (fun j9 => nI (wa j9)))), (a1, .inl (cA, 10, .inl (fun j9 => nI (iv j9)))), (a2, .inl (cA, 10, .inl (fun j9 => nI (gh j9)))), (a3, .inl (cA, 10, .inl (fun j9 => nI (pr j9)))), (a4, .inl (cA, 10, .inl me)), (a5, .inl (cA, 10, .inl rk))] U.heap ∧ va_K (dC, dI) vwCl [(cA, .int)] U)) (vp_Si (fun y9 : Int32 => y9 = nI (zv (wa r) (iv r) (gh r) b))) 0 0 (fun _ => False) := by
  refine Met.ofW (cc := cX2_view) (maxL := 3) (ret := (some .int)) (by decide) rfl ?_
  intro p e s m args below meth c s₁ B hml hv
  obtain ⟨hargs, hP, hK⟩ := hv
  have hx := B.exec
  have hb := B.bytes
  have hr := B.returns
  have hts := atoms_spec (ws := wsX2_view) B.pre
  have hown : s.vm.findClass RX2 = some m.cls := findClass_of_methodNamed B.named
  have hlocks := B.notSynchronized
  have hl := lv_entry ([.ref h, .int (nI r), .int (nI b)]) (n := 3) (Nat.le_of_ble_eq_true rfl)
  rw [hargs, lg_entry_eq, ← hargs]
  generalize (lg_sl ([.ref h, .int (nI r), .int (nI b)]) ++ List.replicate (3 - (lg_sl ([.ref h, .int (nI r), .int (nI b)])).length) Slot.unset).toArray = ls at hl ⊢
  have hl : lv_has ls 3 [(0, .ref h), (1, .int (nI r)), (2, .int (nI b))] := hl
  refine lv_aload_n hx hb dX2_view_0 rfl (lv_at hl 0 rfl) ?_
  refine va_get (D := (dC, dI)) (ci := 1) (v := .ref a0) (C := RX2) (T := TX2) (N := 7) hx hb hts i_X2_view_X2 hown hK hP 0 rfl rfl 0 (by decide) (hts (.fieldLink RX2 9 "RuinViews$Ruins" "walls" "[I") (List.mem_of_getElem? (i := 1) rfl)) (fun _ h9 => h9) rfl dX2_view_1 ?_
  refine lv_iload_n hx hb dX2_view_4 rfl (lv_at hl 1 rfl) ?_
  refine zz_ald hx hb hK hP 1 (f := wa) rfl rfl (by omega) (by decide) dX2_view_5 ?_
  refine lv_if_ne (tgt := 11) hx hb dX2_view_6 (by decide) (fun c_1 => ?_) (fun c_1 => ?_)
  · skip
    replace c_1 := mt (zz_eq0 (by omega)).mpr c_1
    refine lv_iconst (v := nI 2) hx hb dX2_view_11 (by decide) ?_
    refine lv_aload_n hx hb dX2_view_12 rfl (lv_at hl 0 rfl) ?_
    refine va_get (D := (dC, dI)) (ci := 1) (v := .ref a0) (C := RX2) (T := TX2) (N := 7) hx hb hts i_X2_view_X2 hown hK hP 0 rfl rfl 0 (by decide) (hts (.fieldLink RX2 9 "RuinViews$Ruins" "walls" "[I") (List.mem_of_getElem? (i := 1) rfl)) (fun _ h9 => h9) rfl dX2_view_13 ?_
    refine lv_iload_n hx hb dX2_view_16 rfl (lv_at hl 1 rfl) ?_
    refine zz_ald hx hb hK hP 1 (f := wa) rfl rfl (by omega) (by decide) dX2_view_17 ?_
    refine lv_imul hx hb dX2_view_18 ?_
    refine zz_top (pk_mul _ _) ?_
    refine lv_iconst (v := nI 3) hx hb dX2_view_19 (by decide) ?_
    refine lv_aload_n hx hb dX2_view_20 rfl (lv_at hl 0 rfl) ?_
    refine lv_iload_n hx hb dX2_view_21 rfl (lv_at hl 1 rfl) ?_
    have hPc := hP.sub (ws' := [(h, .inr (1, [.ref a0, .ref a1, .ref a2, .ref a3, .ref a4, .ref a5, .int (nI n)])), (a0, .inl (cA, 10, .inl (fun j9 => nI (wa j9)))), (a1, .inl (cA, 10, .inl (fun j9 => nI (iv j9)))), (a2, .inl (cA, 10, .inl (fun j9 => nI (gh j9)))), (a3, .inl (cA, 10, .inl (fun j9 => nI (pr j9)))), (a4, .inl (cA, 10, .inl me)), (a5, .inl (cA, 10, .inl rk))]) [0, 1, 2, 3, 4, 5, 6] rfl
    refine vp_callSi (W.runV (As := [.int (nI r)]) (rest := [.int (nI 3), .int (nI (2 * (wa r)))]) ⟨hx, hb, hml, hown, hts⟩ (c_X2_grade l dC dI cA h a0 a1 a2 a3 a4 a5 n wa iv gh pr me rk r (by first | assumption | omega) (by first | assumption | omega)) (cwV 1 hts gX2_view_X2_grade rfl rfl rfl (by decide +kernel) ⟨Nat.le_of_ble_eq_true rfl, Nat.le_of_ble_eq_true rfl⟩) ⟨fun a U g mk q => by obtain ⟨q0, qP, qK⟩ := q; exact ⟨q0, qP, va_K.moved (u := U) (U := U.calling g mk a) (Vm.Alike.refl U.vm) qK⟩, va_recv hK hP (ci := 1) (q0 := 0) rfl rfl, fun U hU hW => ⟨rfl, by rw [hU]; exact hPc, va_K.moved hW.alike hK⟩⟩ rfl rfl hl.1 rfl (lv_room (Nat.le_of_ble_eq_true rfl)) dX2_view_22 ⟨Nat.le_of_ble_eq_true rfl, Nat.le_of_ble_eq_true rfl⟩) (fun r_2 hw_2 => ?_)
    subst hw_2
    refine lv_imul hx hb dX2_view_25 ?_
    refine zz_top (pk_mul _ _) ?_
    refine lv_iadd hx hb dX2_view_26 ?_
    refine zz_top (nI_add _ _) ?_
    refine lv_aload_n hx hb dX2_view_27 rfl (lv_at hl 0 rfl) ?_
    refine va_get (D := (dC, dI)) (ci := 1) (v := .ref a2) (C := RX2) (T := TX2) (N := 7) hx hb hts i_X2_view_X2 hown hK hP 0 rfl rfl 2 (by decide) (hts (.fieldLink RX2 18 "RuinViews$Ruins" "ghosts" "[I") (List.mem_of_getElem? (i := 2) rfl)) (fun _ h9 => h9) rfl dX2_view_28 ?_
    refine lv_iload_n hx hb dX2_view_31 rfl (lv_at hl 1 rfl) ?_
    refine zz_ald hx hb hK hP 3 (f := gh) rfl rfl (by omega) (by decide) dX2_view_32 ?_
    refine lv_iload_n hx hb dX2_view_33 rfl (lv_at hl 2 rfl) ?_
    refine lv_imul hx hb dX2_view_34 ?_
    refine zz_top (pk_mul _ _) ?_
    refine lv_iadd hx hb dX2_view_35 ?_
    refine zz_top (nI_add _ _) ?_
    exact W.iret hx hb hr (fun t ht hW => ⟨_, rfl, congrArg nI (show ((2 * (wa r)) + (3 * (zg (iv r)))) + ((gh r) * b) = zv (wa r) (iv r) (gh r) b from by (unfold zv; (repeat' split) <;> omega)), ht⟩) (fun _ h => nomatch h) dX2_view_36
  · skip
    replace c_1 := (zz_eq0 (by omega)).mp c_1
    refine lv_iconst (v := nI 0) hx hb dX2_view_9 (by decide) ?_
    exact W.iret hx hb hr (fun t ht hW => ⟨_, rfl, congrArg nI (show 0 = zv (wa r) (iv r) (gh r) b from by (unfold zv; (repeat' split) <;> omega)), ht⟩) (fun _ h => nomatch h) dX2_view_10
theorem i_X2_sumViews_X2 : ∀ w ∈ u_ws RX2 TX2 7, w ∈ wsX2_sumViews := by decide +kernel
set_option maxHeartbeats 4000000 in
set_option maxRecDepth 100000 in
theorem c_X2_sumViews (l : Launch) (dC : Nat → ClassId) (dI : Nat → Nat → Nat) (cA : ClassId) (h : Nat) (a0 : Nat) (a1 : Nat) (a2 : Nat) (a3 : Nat) (a4 : Nat) (a5 : Nat) (n : Nat) (wa : Nat → Nat) (iv : Nat → Nat) (gh : Nat → Nat) (pr : Nat → Nat) (me : Nat → Int32) (rk : Nat → Int32) (b : Nat) (hn : n ≤ 10) (hwa : ∀ j, wa j ≤ 20) (hiv : ∀ j, iv j ≤ 12) : Met l yX2_sumViews wsX2_sumViews ({ frames := 2, cells := 0, slots := 0, locals := 44 } : Room) (va_Pc [.ref h, .int (nI b)] (fun U => va_P (dC, dI) vwCl [(h, .inr (1, [.ref a0, .ref a1, .ref a2, .ref a3, .ref a4, .ref a5, .int (nI n)])), (a0, .inl (cA, 10, .inl (fun j9 => nI (wa j9)))), (a1, .inl (cA, 10, .inl (fun j9 => nI (iv j9)))), (a2, .inl (cA, 10, .inl (fun j9 => nI (gh j9)))), (a3, .inl (cA, 10, .inl (fun j9 => nI (pr j9)))), (a4, .inl (cA, 10, .inl me)), (a5, .inl (cA, 10, .inl rk))] U.heap ∧ va_K (dC, dI) vwCl [(cA, .int)] U)) (vp_Si (fun y9 : Int32 => y9 = nI (zsv wa iv gh b n))) 0 0 (fun _ => False) := by
  refine Met.ofW (cc := cX2_sumViews) (maxL := 4) (ret := (some .int)) (by decide) rfl ?_
  intro p e s m args below meth c s₁ B hml hv
  obtain ⟨hargs, hP, hK⟩ := hv
  have hx := B.exec
  have hb := B.bytes
  have hr := B.returns
  have hts := atoms_spec (ws := wsX2_sumViews) B.pre
  have hown : s.vm.findClass RX2 = some m.cls := findClass_of_methodNamed B.named
  have hlocks := B.notSynchronized
  have hl := lv_entry ([.ref h, .int (nI b)]) (n := 4) (Nat.le_of_ble_eq_true rfl)
  rw [hargs, lg_entry_eq, ← hargs]
  generalize (lg_sl ([.ref h, .int (nI b)]) ++ List.replicate (4 - (lg_sl ([.ref h, .int (nI b)])).length) Slot.unset).toArray = ls at hl ⊢
  have hl : lv_has ls 4 [(0, .ref h), (1, .int (nI b))] := hl
  refine lv_iconst (v := nI 0) hx hb dX2_sumViews_0 (by decide) ?_
  refine lv_istore_n (lv' := [(2, .int (nI 0)), (0, .ref h), (1, .int (nI b))]) hx hb dX2_sumViews_1 rfl hl (by decide) rfl (fun ls hl => ?_)
  refine lv_iconst (v := nI 0) hx hb dX2_sumViews_2 (by decide) ?_
  refine lv_istore_n (lv' := [(3, .int (nI 0)), (2, .int (nI 0)), (0, .ref h), (1, .int (nI b))]) hx hb dX2_sumViews_3 rfl hl (by decide) rfl (fun ls hl => ?_)
  have lp_4 : ∀ (f9 : Nat) (i : Nat) , (n - i) < f9 → (i ≤ n) → ∀ (ls : Array Slot), lv_has ls 4 [(0, .ref h), (1, .int (nI b)), (2, .int (nI (zsv wa iv gh b i))), (3, .int (nI i))] → W p l e ({ frames := 2, cells := 0, slots := 0, locals := 44 } : Room) s m args below meth c s.heap [] 0 0 (MQ below (vp_Si (fun y9 : Int32 => y9 = nI (zsv wa iv gh b n))) args s 0 0 (fun _ => False)) (F0 m 4 ls []) := by
    intro f9
    induction f9 with
    | zero => intro i hm9; exact absurd hm9 (Nat.not_lt_zero _)
    | succ f9 ih_4 =>
      intro i hm9 hi ls hl
      have hw9 := hwa i
      have hi9 := hiv i
      refine lv_iload_n hx hb dX2_sumViews_4 rfl (lv_at hl 3 rfl) ?_
      refine lv_aload_n hx hb dX2_sumViews_5 rfl (lv_at hl 0 rfl) ?_
      refine va_get (D := (dC, dI)) (ci := 1) (v := .int (nI n)) (C := RX2) (T := TX2) (N := 7) hx hb hts i_X2_sumViews_X2 hown hK hP 0 rfl rfl 6 (by decide) (hts (.fieldLink RX2 30 "RuinViews$Ruins" "count" "I") (List.mem_of_getElem? (i := 1) rfl)) (fun _ h9 => h9) rfl dX2_sumViews_6 ?_
      refine lv_icmp_ge (tgt := 27) hx hb dX2_sumViews_9 (by decide) (fun c_1 => ?_) (fun c_1 => ?_)
      · skip
        replace c_1 := (nI_leI (by omega) (by omega)).mp c_1
        refine lv_iload_n hx hb dX2_sumViews_27 rfl (lv_at hl 2 rfl) ?_
        exact W.iret hx hb hr (fun t ht hW => ⟨_, rfl, congrArg nI (show zsv wa iv gh b i = zsv wa iv gh b n from by (rw [show n = i from by omega])), ht⟩) (fun _ h => nomatch h) dX2_sumViews_28
      · skip
        replace c_1 := mt (nI_leI (by omega) (by omega)).mpr c_1
        refine lv_iload_n hx hb dX2_sumViews_12 rfl (lv_at hl 2 rfl) ?_
        refine lv_aload_n hx hb dX2_sumViews_13 rfl (lv_at hl 0 rfl) ?_
        refine lv_iload_n hx hb dX2_sumViews_14 rfl (lv_at hl 3 rfl) ?_
        refine lv_iload_n hx hb dX2_sumViews_15 rfl (lv_at hl 1 rfl) ?_
        have hPc := hP.sub (ws' := [(h, .inr (1, [.ref a0, .ref a1, .ref a2, .ref a3, .ref a4, .ref a5, .int (nI n)])), (a0, .inl (cA, 10, .inl (fun j9 => nI (wa j9)))), (a1, .inl (cA, 10, .inl (fun j9 => nI (iv j9)))), (a2, .inl (cA, 10, .inl (fun j9 => nI (gh j9)))), (a3, .inl (cA, 10, .inl (fun j9 => nI (pr j9)))), (a4, .inl (cA, 10, .inl me)), (a5, .inl (cA, 10, .inl rk))]) [0, 1, 2, 3, 4, 5, 6] rfl
        refine vp_callSi (W.runV (As := [.int (nI i),.int (nI b)]) (rest := [.int (nI (zsv wa iv gh b i))]) ⟨hx, hb, hml, hown, hts⟩ (c_X2_view l dC dI cA h a0 a1 a2 a3 a4 a5 n wa iv gh pr me rk i b (by first | assumption | omega) (by first | assumption | omega) (by first | assumption | omega)) (cwV 2 hts gX2_sumViews_X2_view rfl rfl rfl (by decide +kernel) ⟨Nat.le_of_ble_eq_true rfl, Nat.le_of_ble_eq_true rfl⟩) ⟨fun a U g mk q => by obtain ⟨q0, qP, qK⟩ := q; exact ⟨q0, qP, va_K.moved (u := U) (U := U.calling g mk a) (Vm.Alike.refl U.vm) qK⟩, va_recv hK hP (ci := 1) (q0 := 0) rfl rfl, fun U hU hW => ⟨rfl, by rw [hU]; exact hPc, va_K.moved hW.alike hK⟩⟩ rfl rfl hl.1 rfl (lv_room (Nat.le_of_ble_eq_true rfl)) dX2_sumViews_16 ⟨Nat.le_of_ble_eq_true rfl, Nat.le_of_ble_eq_true rfl⟩) (fun r_2 hw_2 => ?_)
        subst hw_2
        refine lv_iadd hx hb dX2_sumViews_19 ?_
        refine zz_top (nI_add _ _) ?_
        refine lv_istore_n (lv' := [(2, .int (nI ((zsv wa iv gh b i) + (zv (wa i) (iv i) (gh i) b)))), (0, .ref h), (1, .int (nI b)), (3, .int (nI i))]) hx hb dX2_sumViews_20 rfl hl (by decide) rfl (fun ls hl => ?_)
        refine lv_iinc (v := nI (i + 1)) (lv' := [(3, .int (nI (i + 1))), (2, .int (nI ((zsv wa iv gh b i) + (zv (wa i) (iv i) (gh i) b)))), (0, .ref h), (1, .int (nI b))]) hx hb dX2_sumViews_21 hl (k := 3) rfl (nI_1 _) (by decide) rfl (fun ls hl => ?_)
        refine lv_goto (tgt := 4) hx hb dX2_sumViews_24 (by decide) ?_
        have hl := lv_sub (l' := [(0, .ref h), (1, .int (nI b)), (2, .int (nI ((zsv wa iv gh b i) + (zv (wa i) (iv i) (gh i) b)))), (3, .int (nI (i + 1)))]) hl [2, 3, 1, 0] rfl
        have hl3 : ∀ (x2 : Int32), x2 = nI ((zsv wa iv gh b i) + (zv (wa i) (iv i) (gh i) b)) → lv_has ls 4 [(0, .ref h), (1, .int (nI b)), (2, .int x2), (3, .int (nI (i + 1)))] := by
          intro x2 h2; subst h2; exact hl
        have hl := hl3 (nI (zsv wa iv gh b (i + 1))) (congrArg nI (show zsv wa iv gh b (i + 1) = (zsv wa iv gh b i) + (zv (wa i) (iv i) (gh i) b) from by rfl))
        exact ih_4 (i + 1) (by omega) (by first | assumption | omega) _ hl
  have hl := lv_sub (l' := [(0, .ref h), (1, .int (nI b)), (2, .int (nI 0)), (3, .int (nI 0))]) hl [2, 3, 1, 0] rfl
  have hl4 : ∀ (x2 : Int32), x2 = nI 0 → lv_has ls 4 [(0, .ref h), (1, .int (nI b)), (2, .int x2), (3, .int (nI 0))] := by
    intro x2 h2; subst h2; exact hl
  have hl := hl4 (nI (zsv wa iv gh b 0)) (congrArg nI (show zsv wa iv gh b 0 = 0 from by rfl))
  exact lp_4 _ 0 (Nat.lt_succ_self _) (by first | assumption | omega) _ hl
theorem i_X2_merit_X2 : ∀ w ∈ u_ws RX2 TX2 7, w ∈ wsX2_merit := by decide +kernel
set_option maxHeartbeats 4000000 in
set_option maxRecDepth 100000 in
theorem c_X2_merit (l : Launch) (dC : Nat → ClassId) (dI : Nat → Nat → Nat) (cA : ClassId) (h : Nat) (a0 : Nat) (a1 : Nat) (a2 : Nat) (a3 : Nat) (a4 : Nat) (a5 : Nat) (n : Nat) (wa : Nat → Nat) (iv : Nat → Nat) (gh : Nat → Nat) (pr : Nat → Nat) (me : Nat → Int32) (rk : Nat → Int32) (r : Nat) (b : Nat) (hrn : r < 10) (hw : wa r ≤ 20) (hi : iv r ≤ 12) (hp : pr r ≤ 9) : Met l yX2_merit wsX2_merit ({ frames := 2, cells := 0, slots := 0, locals := 44 } : Room) (va_Pc [.ref h, .int (nI r), .int (nI b)] (fun U => va_P (dC, dI) vwCl [(h, .inr (1, [.ref a0, .ref a1, .ref a2, .ref a3, .ref a4, .ref a5, .int (nI n)])), (a0, .inl (cA, 10, .inl (fun j9 => nI (wa j9)))), (a1, .inl (cA, 10, .inl (fun j9 => nI (iv j9)))), (a2, .inl (cA, 10, .inl (fun j9 => nI (gh j9)))), (a3, .inl (cA, 10, .inl (fun j9 => nI (pr j9)))), (a4, .inl (cA, 10, .inl me)), (a5, .inl (cA, 10, .inl rk))] U.heap ∧ va_K (dC, dI) vwCl [(cA, .int)] U)) (vp_Si (fun y9 : Int32 => y9 = zme (wa r) (iv r) (gh r) (pr r) r b)) 0 0 (fun _ => False) := by
  refine Met.ofW (cc := cX2_merit) (maxL := 4) (ret := (some .int)) (by decide) rfl ?_
  intro p e s m args below meth c s₁ B hml hv
  obtain ⟨hargs, hP, hK⟩ := hv
  have hx := B.exec
  have hb := B.bytes
  have hr := B.returns
  have hts := atoms_spec (ws := wsX2_merit) B.pre
  have hown : s.vm.findClass RX2 = some m.cls := findClass_of_methodNamed B.named
  have hlocks := B.notSynchronized
  have hl := lv_entry ([.ref h, .int (nI r), .int (nI b)]) (n := 4) (Nat.le_of_ble_eq_true rfl)
  rw [hargs, lg_entry_eq, ← hargs]
  generalize (lg_sl ([.ref h, .int (nI r), .int (nI b)]) ++ List.replicate (4 - (lg_sl ([.ref h, .int (nI r), .int (nI b)])).length) Slot.unset).toArray = ls at hl ⊢
  have hl : lv_has ls 4 [(0, .ref h), (1, .int (nI r)), (2, .int (nI b))] := hl
  refine lv_aload_n hx hb dX2_merit_0 rfl (lv_at hl 0 rfl) ?_
  refine va_get (D := (dC, dI)) (ci := 1) (v := .ref a0) (C := RX2) (T := TX2) (N := 7) hx hb hts i_X2_merit_X2 hown hK hP 0 rfl rfl 0 (by decide) (hts (.fieldLink RX2 9 "RuinViews$Ruins" "walls" "[I") (List.mem_of_getElem? (i := 1) rfl)) (fun _ h9 => h9) rfl dX2_merit_1 ?_
  refine lv_iload_n hx hb dX2_merit_4 rfl (lv_at hl 1 rfl) ?_
  refine zz_ald hx hb hK hP 1 (f := wa) rfl rfl (by omega) (by decide) dX2_merit_5 ?_
  refine lv_if_ne (tgt := 11) hx hb dX2_merit_6 (by decide) (fun c_1 => ?_) (fun c_1 => ?_)
  · skip
    replace c_1 := mt (zz_eq0 (by omega)).mpr c_1
    refine lv_aload_n hx hb dX2_merit_11 rfl (lv_at hl 0 rfl) ?_
    refine lv_iload_n hx hb dX2_merit_12 rfl (lv_at hl 1 rfl) ?_
    refine lv_iload_n hx hb dX2_merit_13 rfl (lv_at hl 2 rfl) ?_
    have hPc := hP.sub (ws' := [(h, .inr (1, [.ref a0, .ref a1, .ref a2, .ref a3, .ref a4, .ref a5, .int (nI n)])), (a0, .inl (cA, 10, .inl (fun j9 => nI (wa j9)))), (a1, .inl (cA, 10, .inl (fun j9 => nI (iv j9)))), (a2, .inl (cA, 10, .inl (fun j9 => nI (gh j9)))), (a3, .inl (cA, 10, .inl (fun j9 => nI (pr j9)))), (a4, .inl (cA, 10, .inl me)), (a5, .inl (cA, 10, .inl rk))]) [0, 1, 2, 3, 4, 5, 6] rfl
    refine vp_callSi (W.runV (As := [.int (nI r),.int (nI b)]) (rest := []) ⟨hx, hb, hml, hown, hts⟩ (c_X2_view l dC dI cA h a0 a1 a2 a3 a4 a5 n wa iv gh pr me rk r b (by first | assumption | omega) (by first | assumption | omega) (by first | assumption | omega)) (cwV 2 hts gX2_merit_X2_view rfl rfl rfl (by decide +kernel) ⟨Nat.le_of_ble_eq_true rfl, Nat.le_of_ble_eq_true rfl⟩) ⟨fun a U g mk q => by obtain ⟨q0, qP, qK⟩ := q; exact ⟨q0, qP, va_K.moved (u := U) (U := U.calling g mk a) (Vm.Alike.refl U.vm) qK⟩, va_recv hK hP (ci := 1) (q0 := 0) rfl rfl, fun U hU hW => ⟨rfl, by rw [hU]; exact hPc, va_K.moved hW.alike hK⟩⟩ rfl rfl hl.1 rfl (lv_room (Nat.le_of_ble_eq_true rfl)) dX2_merit_14 ⟨Nat.le_of_ble_eq_true rfl, Nat.le_of_ble_eq_true rfl⟩) (fun r_2 hw_2 => ?_)
    subst hw_2
    refine lv_bipush (v := nI 10) hx hb dX2_merit_17 (by decide) ?_
    refine lv_imul hx hb dX2_merit_19 ?_
    refine zz_top (pk_mul _ _) ?_
    refine lv_bipush (v := nI 9) hx hb dX2_merit_20 (by decide) ?_
    refine lv_aload_n hx hb dX2_merit_22 rfl (lv_at hl 0 rfl) ?_
    refine va_get (D := (dC, dI)) (ci := 1) (v := .ref a3) (C := RX2) (T := TX2) (N := 7) hx hb hts i_X2_merit_X2 hown hK hP 0 rfl rfl 3 (by decide) (hts (.fieldLink RX2 21 "RuinViews$Ruins" "price" "[I") (List.mem_of_getElem? (i := 2) rfl)) (fun _ h9 => h9) rfl dX2_merit_23 ?_
    refine lv_iload_n hx hb dX2_merit_26 rfl (lv_at hl 1 rfl) ?_
    refine zz_ald hx hb hK hP 4 (f := pr) rfl rfl (by omega) (by decide) dX2_merit_27 ?_
    refine lv_isub hx hb dX2_merit_28 ?_
    refine zz_top (pk_sub (by omega)) ?_
    refine lv_iadd hx hb dX2_merit_29 ?_
    refine zz_top (nI_add _ _) ?_
    refine lv_istore_n (lv' := [(3, .int (nI (((zv (wa r) (iv r) (gh r) b) * 10) + (9 - (pr r))))), (0, .ref h), (1, .int (nI r)), (2, .int (nI b))]) hx hb dX2_merit_30 rfl hl (by decide) rfl (fun ls hl => ?_)
    refine lv_iload_n hx hb dX2_merit_31 rfl (lv_at hl 0 rfl) ?_
    refine lv_bipush (v := nI 10) hx hb dX2_merit_32 (by decide) ?_
    refine lv_imul hx hb dX2_merit_34 ?_
    refine zz_top (pk_mul _ _) ?_
    refine lv_bipush (v := nI 9) hx hb dX2_merit_35 (by decide) ?_
    refine lv_iload_n hx hb dX2_merit_37 rfl (lv_at hl 2 rfl) ?_
    refine lv_isub hx hb dX2_merit_38 ?_
    refine zz_top (pk_sub (by omega)) ?_
    refine lv_iadd hx hb dX2_merit_39 ?_
    refine zz_top (nI_add _ _) ?_
    exact W.iret hx hb hr (fun t ht hW => ⟨_, rfl, show nI (((((zv (wa r) (iv r) (gh r) b) * 10) + (9 - (pr r))) * 10) + (9 - r)) = zme (wa r) (iv r) (gh r) (pr r) r b from by (unfold zme; first | rw [if_pos (by assumption)] | rw [if_neg (by assumption)]), ht⟩) (fun _ h => nomatch h) dX2_merit_40
  · skip
    replace c_1 := (zz_eq0 (by omega)).mp c_1
    refine lv_iconst (v := (-1)) hx hb dX2_merit_9 (by decide) ?_
    exact W.iret hx hb hr (fun t ht hW => ⟨_, rfl, show (-1) = zme (wa r) (iv r) (gh r) (pr r) r b from by (unfold zme; first | rw [if_pos (by assumption)] | rw [if_neg (by assumption)]), ht⟩) (fun _ h => nomatch h) dX2_merit_10
theorem i_X2_countAbove_X2 : ∀ w ∈ u_ws RX2 TX2 7, w ∈ wsX2_countAbove := by decide +kernel
set_option maxHeartbeats 4000000 in
set_option maxRecDepth 100000 in
theorem c_X2_countAbove (l : Launch) (dC : Nat → ClassId) (dI : Nat → Nat → Nat) (cA : ClassId) (h : Nat) (a0 : Nat) (a1 : Nat) (a2 : Nat) (a3 : Nat) (a4 : Nat) (a5 : Nat) (n : Nat) (wa : Nat → Nat) (iv : Nat → Nat) (gh : Nat → Nat) (pr : Nat → Nat) (me : Nat → Int32) (rk : Nat → Int32) (v : Int32) (hn : n ≤ 10) : Met l yX2_countAbove wsX2_countAbove ({ frames := 0, cells := 0, slots := 0, locals := 0 } : Room) (va_Pc [.ref h, .int v] (fun U => va_P (dC, dI) vwCl [(h, .inr (1, [.ref a0, .ref a1, .ref a2, .ref a3, .ref a4, .ref a5, .int (nI n)])), (a0, .inl (cA, 10, .inl (fun j9 => nI (wa j9)))), (a1, .inl (cA, 10, .inl (fun j9 => nI (iv j9)))), (a2, .inl (cA, 10, .inl (fun j9 => nI (gh j9)))), (a3, .inl (cA, 10, .inl (fun j9 => nI (pr j9)))), (a4, .inl (cA, 10, .inl me)), (a5, .inl (cA, 10, .inl rk))] U.heap ∧ va_K (dC, dI) vwCl [(cA, .int)] U)) (vp_Si (fun y9 : Int32 => y9 = nI (zab me v n))) 0 0 (fun _ => False) := by
  refine Met.ofW (cc := cX2_countAbove) (maxL := 4) (ret := (some .int)) (by decide) rfl ?_
  intro p e s m args below meth c s₁ B hml hv
  obtain ⟨hargs, hP, hK⟩ := hv
  have hx := B.exec
  have hb := B.bytes
  have hr := B.returns
  have hts := atoms_spec (ws := wsX2_countAbove) B.pre
  have hown : s.vm.findClass RX2 = some m.cls := findClass_of_methodNamed B.named
  have hlocks := B.notSynchronized
  have hl := lv_entry ([.ref h, .int v]) (n := 4) (Nat.le_of_ble_eq_true rfl)
  rw [hargs, lg_entry_eq, ← hargs]
  generalize (lg_sl ([.ref h, .int v]) ++ List.replicate (4 - (lg_sl ([.ref h, .int v])).length) Slot.unset).toArray = ls at hl ⊢
  have hl : lv_has ls 4 [(0, .ref h), (1, .int v)] := hl
  refine lv_iconst (v := nI 0) hx hb dX2_countAbove_0 (by decide) ?_
  refine lv_istore_n (lv' := [(2, .int (nI 0)), (0, .ref h), (1, .int v)]) hx hb dX2_countAbove_1 rfl hl (by decide) rfl (fun ls hl => ?_)
  refine lv_iconst (v := nI 0) hx hb dX2_countAbove_2 (by decide) ?_
  refine lv_istore_n (lv' := [(3, .int (nI 0)), (2, .int (nI 0)), (0, .ref h), (1, .int v)]) hx hb dX2_countAbove_3 rfl hl (by decide) rfl (fun ls hl => ?_)
  have lp_4 : ∀ (f9 : Nat) (i : Nat) , (n - i) < f9 → (i ≤ n) → ∀ (ls : Array Slot), lv_has ls 4 [(0, .ref h), (1, .int v), (2, .int (nI (zab me v i))), (3, .int (nI i))] → W p l e ({ frames := 0, cells := 0, slots := 0, locals := 0 } : Room) s m args below meth c s.heap [] 0 0 (MQ below (vp_Si (fun y9 : Int32 => y9 = nI (zab me v n))) args s 0 0 (fun _ => False)) (F0 m 4 ls []) := by
    intro f9
    induction f9 with
    | zero => intro i hm9; exact absurd hm9 (Nat.not_lt_zero _)
    | succ f9 ih_4 =>
      intro i hm9 hi ls hl
      have hc9 := zab_le me v i
      refine lv_iload_n hx hb dX2_countAbove_4 rfl (lv_at hl 3 rfl) ?_
      refine lv_aload_n hx hb dX2_countAbove_5 rfl (lv_at hl 0 rfl) ?_
      refine va_get (D := (dC, dI)) (ci := 1) (v := .int (nI n)) (C := RX2) (T := TX2) (N := 7) hx hb hts i_X2_countAbove_X2 hown hK hP 0 rfl rfl 6 (by decide) (hts (.fieldLink RX2 30 "RuinViews$Ruins" "count" "I") (List.mem_of_getElem? (i := 1) rfl)) (fun _ h9 => h9) rfl dX2_countAbove_6 ?_
      refine lv_icmp_ge (tgt := 31) hx hb dX2_countAbove_9 (by decide) (fun c_1 => ?_) (fun c_1 => ?_)
      · skip
        replace c_1 := (nI_leI (by omega) (by omega)).mp c_1
        refine lv_iload_n hx hb dX2_countAbove_31 rfl (lv_at hl 2 rfl) ?_
        exact W.iret hx hb hr (fun t ht hW => ⟨_, rfl, congrArg nI (show zab me v i = zab me v n from by (rw [show n = i from by omega])), ht⟩) (fun _ h => nomatch h) dX2_countAbove_32
      · skip
        replace c_1 := mt (nI_leI (by omega) (by omega)).mpr c_1
        refine lv_aload_n hx hb dX2_countAbove_12 rfl (lv_at hl 0 rfl) ?_
        refine va_get (D := (dC, dI)) (ci := 1) (v := .ref a4) (C := RX2) (T := TX2) (N := 7) hx hb hts i_X2_countAbove_X2 hown hK hP 0 rfl rfl 4 (by decide) (hts (.fieldLink RX2 24 "RuinViews$Ruins" "merits" "[I") (List.mem_of_getElem? (i := 2) rfl)) (fun _ h9 => h9) rfl dX2_countAbove_13 ?_
        refine lv_iload_n hx hb dX2_countAbove_16 rfl (lv_at hl 3 rfl) ?_
        refine zz_aldI hx hb hK hP 5 (f := me) rfl rfl (by omega) (by decide) dX2_countAbove_17 ?_
        refine lv_iload_n hx hb dX2_countAbove_18 rfl (lv_at hl 1 rfl) ?_
        refine lv_icmp_le (tgt := 25) hx hb dX2_countAbove_19 (by decide) (fun c_2 => ?_) (fun c_2 => ?_)
        · skip
          refine lv_iinc (v := nI (i + 1)) (lv' := [(3, .int (nI (i + 1))), (0, .ref h), (1, .int v), (2, .int (nI (zab me v i)))]) hx hb dX2_countAbove_25 hl (k := 3) rfl (nI_1 _) (by decide) rfl (fun ls hl => ?_)
          refine lv_goto (tgt := 4) hx hb dX2_countAbove_28 (by decide) ?_
          have hl := lv_sub (l' := [(0, .ref h), (1, .int v), (2, .int (nI (zab me v i))), (3, .int (nI (i + 1)))]) hl [1, 2, 3, 0] rfl
          have hl3 : ∀ (x2 : Int32), x2 = nI (zab me v i) → lv_has ls 4 [(0, .ref h), (1, .int v), (2, .int x2), (3, .int (nI (i + 1)))] := by
            intro x2 h2; subst h2; exact hl
          have hl := hl3 (nI (zab me v (i + 1))) (congrArg nI (show zab me v (i + 1) = zab me v i from by first | exact zab_s0 (by assumption) | exact zab_s1 (by assumption) | rfl))
          exact ih_4 (i + 1) (by omega) (by first | assumption | omega) _ hl
        · skip
          refine lv_iinc (v := nI ((zab me v i) + 1)) (lv' := [(2, .int (nI ((zab me v i) + 1))), (0, .ref h), (1, .int v), (3, .int (nI i))]) hx hb dX2_countAbove_22 hl (k := 2) rfl (nI_1 _) (by decide) rfl (fun ls hl => ?_)
          refine lv_iinc (v := nI (i + 1)) (lv' := [(3, .int (nI (i + 1))), (2, .int (nI ((zab me v i) + 1))), (0, .ref h), (1, .int v)]) hx hb dX2_countAbove_25 hl (k := 3) rfl (nI_1 _) (by decide) rfl (fun ls hl => ?_)
          refine lv_goto (tgt := 4) hx hb dX2_countAbove_28 (by decide) ?_
          have hl := lv_sub (l' := [(0, .ref h), (1, .int v), (2, .int (nI ((zab me v i) + 1))), (3, .int (nI (i + 1)))]) hl [2, 3, 1, 0] rfl
          have hl4 : ∀ (x2 : Int32), x2 = nI ((zab me v i) + 1) → lv_has ls 4 [(0, .ref h), (1, .int v), (2, .int x2), (3, .int (nI (i + 1)))] := by
            intro x2 h2; subst h2; exact hl
          have hl := hl4 (nI (zab me v (i + 1))) (congrArg nI (show zab me v (i + 1) = (zab me v i) + 1 from by first | exact zab_s0 (by assumption) | exact zab_s1 (by assumption) | rfl))
          exact ih_4 (i + 1) (by omega) (by first | assumption | omega) _ hl
  have hl := lv_sub (l' := [(0, .ref h), (1, .int v), (2, .int (nI 0)), (3, .int (nI 0))]) hl [2, 3, 1, 0] rfl
  have hl5 : ∀ (x2 : Int32), x2 = nI 0 → lv_has ls 4 [(0, .ref h), (1, .int v), (2, .int x2), (3, .int (nI 0))] := by
    intro x2 h2; subst h2; exact hl
  have hl := hl5 (nI (zab me v 0)) (congrArg nI (show zab me v 0 = 0 from by first | exact zab_s0 (by assumption) | exact zab_s1 (by assumption) | rfl))
  exact lp_4 _ 0 (Nat.lt_succ_self _) (by first | assumption | omega) _ hl
theorem i_X2_rankAll_X2 : ∀ w ∈ u_ws RX2 TX2 7, w ∈ wsX2_rankAll := by decide +kernel
set_option maxHeartbeats 4000000 in
set_option maxRecDepth 100000 in
theorem c_X2_rankAll (l : Launch) (dC : Nat → ClassId) (dI : Nat → Nat → Nat) (cA : ClassId) (h : Nat) (a0 : Nat) (a1 : Nat) (a2 : Nat) (a3 : Nat) (a4 : Nat) (a5 : Nat) (n : Nat) (wa : Nat → Nat) (iv : Nat → Nat) (gh : Nat → Nat) (pr : Nat → Nat) (me : Nat → Int32) (rk : Nat → Int32) (b : Nat) (sz : Nat) (hn : n ≤ 10) (hwa : ∀ j, wa j ≤ 20) (hiv : ∀ j, iv j ≤ 12) (hpr : ∀ j, pr j ≤ 9) : Met l yX2_rankAll wsX2_rankAll ({ frames := 3, cells := 0, slots := 0, locals := 67 } : Room) (va_Pc [.ref h, .int (nI b)] (fun U => U.heap.size = sz ∧ va_P (dC, dI) vwCl [(h, .inr (1, [.ref a0, .ref a1, .ref a2, .ref a3, .ref a4, .ref a5, .int (nI n)])), (a0, .inl (cA, 10, .inl (fun j9 => nI (wa j9)))), (a1, .inl (cA, 10, .inl (fun j9 => nI (iv j9)))), (a2, .inl (cA, 10, .inl (fun j9 => nI (gh j9)))), (a3, .inl (cA, 10, .inl (fun j9 => nI (pr j9)))), (a4, .inl (cA, 10, .inl me)), (a5, .inl (cA, 10, .inl rk))] U.heap ∧ va_K (dC, dI) vwCl [(cA, .int)] U ∧ va_D (fun _ => True) [(h, .inr (1, [.ref a0, .ref a1, .ref a2, .ref a3, .ref a4, .ref a5, .int (nI n)])), (a0, .inl (cA, 10, .inl (fun j9 => nI (wa j9)))), (a1, .inl (cA, 10, .inl (fun j9 => nI (iv j9)))), (a2, .inl (cA, 10, .inl (fun j9 => nI (gh j9)))), (a3, .inl (cA, 10, .inl (fun j9 => nI (pr j9)))), (a4, .inl (cA, 10, .inl me)), (a5, .inl (cA, 10, .inl rk))])) (va_Qv (fun _ : Unit => True) (fun (_ : Unit) t => va_P (dC, dI) vwCl [(h, .inr (1, [.ref a0, .ref a1, .ref a2, .ref a3, .ref a4, .ref a5, .int (nI n)])), (a0, .inl (cA, 10, .inl (fun j9 => nI (wa j9)))), (a1, .inl (cA, 10, .inl (fun j9 => nI (iv j9)))), (a2, .inl (cA, 10, .inl (fun j9 => nI (gh j9)))), (a3, .inl (cA, 10, .inl (fun j9 => nI (pr j9)))), (a4, .inl (cA, 10, .inl (zmes n wa iv gh pr b me))), (a5, .inl (cA, 10, .inl (zrks n n (zmes n wa iv gh pr b me) wa rk)))] t.heap ∧ va_D (va_A [(h, .inr (1, [.ref a0, .ref a1, .ref a2, .ref a3, .ref a4, .ref a5, .int (nI n)])), (a0, .inl (cA, 10, .inl (fun j9 => nI (wa j9)))), (a1, .inl (cA, 10, .inl (fun j9 => nI (iv j9)))), (a2, .inl (cA, 10, .inl (fun j9 => nI (gh j9)))), (a3, .inl (cA, 10, .inl (fun j9 => nI (pr j9)))), (a4, .inl (cA, 10, .inl me)), (a5, .inl (cA, 10, .inl rk))] sz) [(h, .inr (1, [.ref a0, .ref a1, .ref a2, .ref a3, .ref a4, .ref a5, .int (nI n)])), (a0, .inl (cA, 10, .inl (fun j9 => nI (wa j9)))), (a1, .inl (cA, 10, .inl (fun j9 => nI (iv j9)))), (a2, .inl (cA, 10, .inl (fun j9 => nI (gh j9)))), (a3, .inl (cA, 10, .inl (fun j9 => nI (pr j9)))), (a4, .inl (cA, 10, .inl (zmes n wa iv gh pr b me))), (a5, .inl (cA, 10, .inl (zrks n n (zmes n wa iv gh pr b me) wa rk)))]) (va_A [(h, .inr (1, [.ref a0, .ref a1, .ref a2, .ref a3, .ref a4, .ref a5, .int (nI n)])), (a0, .inl (cA, 10, .inl (fun j9 => nI (wa j9)))), (a1, .inl (cA, 10, .inl (fun j9 => nI (iv j9)))), (a2, .inl (cA, 10, .inl (fun j9 => nI (gh j9)))), (a3, .inl (cA, 10, .inl (fun j9 => nI (pr j9)))), (a4, .inl (cA, 10, .inl me)), (a5, .inl (cA, 10, .inl rk))] sz)) 0 0 (va_A [(h, .inr (1, [.ref a0, .ref a1, .ref a2, .ref a3, .ref a4, .ref a5, .int (nI n)])), (a0, .inl (cA, 10, .inl (fun j9 => nI (wa j9)))), (a1, .inl (cA, 10, .inl (fun j9 => nI (iv j9)))), (a2, .inl (cA, 10, .inl (fun j9 => nI (gh j9)))), (a3, .inl (cA, 10, .inl (fun j9 => nI (pr j9)))), (a4, .inl (cA, 10, .inl me)), (a5, .inl (cA, 10, .inl rk))] sz) := by
  refine Met.ofW (cc := cX2_rankAll) (maxL := 3) (ret := none) (by decide) rfl ?_
  intro p e s m args below meth c s₁ B hml hv
  obtain ⟨hargs, hsz, hP, hK, hD0⟩ := hv
  have hx := B.exec
  have hb := B.bytes
  have hr := B.returns
  have hts := atoms_spec (ws := wsX2_rankAll) B.pre
  have hown : s.vm.findClass RX2 = some m.cls := findClass_of_methodNamed B.named
  have hlocks := B.notSynchronized
  subst hsz
  have hD := hD0.self (sz := s.heap.size)
  generalize hAe : va_A [(h, .inr (1, [.ref a0, .ref a1, .ref a2, .ref a3, .ref a4, .ref a5, .int (nI n)])), (a0, .inl (cA, 10, .inl (fun j9 => nI (wa j9)))), (a1, .inl (cA, 10, .inl (fun j9 => nI (iv j9)))), (a2, .inl (cA, 10, .inl (fun j9 => nI (gh j9)))), (a3, .inl (cA, 10, .inl (fun j9 => nI (pr j9)))), (a4, .inl (cA, 10, .inl me)), (a5, .inl (cA, 10, .inl rk))] s.heap.size = A at hD ⊢
  have hA : ∀ q : Nat, s.heap.size ≤ q → A q := fun q h => by rw [← hAe]; exact Or.inr h
  have hS : va_S A s.heap s.heap [] := va_S.rf
  have hP : va_P (dC, dI) vwCl [(h, .inr (1, [.ref a0, .ref a1, .ref a2, .ref a3, .ref a4, .ref a5, .int (nI n)])), (a0, .inl (cA, 10, .inl (fun j9 => nI (wa j9)))), (a1, .inl (cA, 10, .inl (fun j9 => nI (iv j9)))), (a2, .inl (cA, 10, .inl (fun j9 => nI (gh j9)))), (a3, .inl (cA, 10, .inl (fun j9 => nI (pr j9)))), (a4, .inl (cA, 10, .inl me)), (a5, .inl (cA, 10, .inl rk))] s.heap := hP
  have hl := lv_entry ([.ref h, .int (nI b)]) (n := 3) (Nat.le_of_ble_eq_true rfl)
  rw [hargs, lg_entry_eq, ← hargs]
  generalize (lg_sl ([.ref h, .int (nI b)]) ++ List.replicate (3 - (lg_sl ([.ref h, .int (nI b)])).length) Slot.unset).toArray = ls at hl ⊢
  have hl : lv_has ls 3 [(0, .ref h), (1, .int (nI b))] := hl
  refine lv_iconst (v := nI 0) hx hb dX2_rankAll_0 (by decide) ?_
  refine lv_istore_n (lv' := [(2, .int (nI 0)), (0, .ref h), (1, .int (nI b))]) hx hb dX2_rankAll_1 rfl hl (by decide) rfl (fun ls hl => ?_)
  have lp_2 : ∀ (f9 : Nat) (i : Nat) , (n - i) < f9 → (i ≤ n) → ∀ (H : Heap) (locs : List Loc), va_P (dC, dI) vwCl [(h, .inr (1, [.ref a0, .ref a1, .ref a2, .ref a3, .ref a4, .ref a5, .int (nI n)])), (a0, .inl (cA, 10, .inl (fun j9 => nI (wa j9)))), (a1, .inl (cA, 10, .inl (fun j9 => nI (iv j9)))), (a2, .inl (cA, 10, .inl (fun j9 => nI (gh j9)))), (a3, .inl (cA, 10, .inl (fun j9 => nI (pr j9)))), (a4, .inl (cA, 10, .inl (zmes i wa iv gh pr b me))), (a5, .inl (cA, 10, .inl rk))] H → va_D A [(h, .inr (1, [.ref a0, .ref a1, .ref a2, .ref a3, .ref a4, .ref a5, .int (nI n)])), (a0, .inl (cA, 10, .inl (fun j9 => nI (wa j9)))), (a1, .inl (cA, 10, .inl (fun j9 => nI (iv j9)))), (a2, .inl (cA, 10, .inl (fun j9 => nI (gh j9)))), (a3, .inl (cA, 10, .inl (fun j9 => nI (pr j9)))), (a4, .inl (cA, 10, .inl (zmes i wa iv gh pr b me))), (a5, .inl (cA, 10, .inl rk))] → va_S A s.heap H locs → ∀ (ls : Array Slot), lv_has ls 3 [(0, .ref h), (1, .int (nI b)), (2, .int (nI i))] → W p l e ({ frames := 3, cells := 0, slots := 0, locals := 67 } : Room) s m args below meth c H locs 0 0 (MQ below (va_Qv (fun _ : Unit => True) (fun (_ : Unit) t => va_P (dC, dI) vwCl [(h, .inr (1, [.ref a0, .ref a1, .ref a2, .ref a3, .ref a4, .ref a5, .int (nI n)])), (a0, .inl (cA, 10, .inl (fun j9 => nI (wa j9)))), (a1, .inl (cA, 10, .inl (fun j9 => nI (iv j9)))), (a2, .inl (cA, 10, .inl (fun j9 => nI (gh j9)))), (a3, .inl (cA, 10, .inl (fun j9 => nI (pr j9)))), (a4, .inl (cA, 10, .inl (zmes n wa iv gh pr b me))), (a5, .inl (cA, 10, .inl (zrks n n (zmes n wa iv gh pr b me) wa rk)))] t.heap ∧ va_D A [(h, .inr (1, [.ref a0, .ref a1, .ref a2, .ref a3, .ref a4, .ref a5, .int (nI n)])), (a0, .inl (cA, 10, .inl (fun j9 => nI (wa j9)))), (a1, .inl (cA, 10, .inl (fun j9 => nI (iv j9)))), (a2, .inl (cA, 10, .inl (fun j9 => nI (gh j9)))), (a3, .inl (cA, 10, .inl (fun j9 => nI (pr j9)))), (a4, .inl (cA, 10, .inl (zmes n wa iv gh pr b me))), (a5, .inl (cA, 10, .inl (zrks n n (zmes n wa iv gh pr b me) wa rk)))]) A) args s 0 0 A) (F0 m 2 ls []) := by
    intro f9
    induction f9 with
    | zero => intro i hm9; exact absurd hm9 (Nat.not_lt_zero _)
    | succ f9 ih_2 =>
      intro i hm9 hi H locs hP hD hS ls hl
      have hw9 := hwa i
      have hi9 := hiv i
      have hp9 := hpr i
      refine lv_iload_n hx hb dX2_rankAll_2 rfl (lv_at hl 2 rfl) ?_
      refine lv_aload_n hx hb dX2_rankAll_3 rfl (lv_at hl 0 rfl) ?_
      refine va_get (D := (dC, dI)) (ci := 1) (v := .int (nI n)) (C := RX2) (T := TX2) (N := 7) hx hb hts i_X2_rankAll_X2 hown hK hP 0 rfl rfl 6 (by decide) (hts (.fieldLink RX2 30 "RuinViews$Ruins" "count" "I") (List.mem_of_getElem? (i := 1) rfl)) (fun _ h9 => h9) rfl dX2_rankAll_4 ?_
      refine lv_icmp_ge (tgt := 28) hx hb dX2_rankAll_7 (by decide) (fun c_1 => ?_) (fun c_1 => ?_)
      · skip
        replace c_1 := (nI_leI (by omega) (by omega)).mp c_1
        refine lv_iconst (v := nI 0) hx hb dX2_rankAll_28 (by decide) ?_
        refine lv_istore_n (lv' := [(2, .int (nI 0)), (0, .ref h), (1, .int (nI b))]) hx hb dX2_rankAll_29 rfl hl (by decide) rfl (fun ls hl => ?_)
        have lp_30 : ∀ (f9 : Nat) (i : Nat) , (n - i) < f9 → (i ≤ n) → ∀ (H : Heap) (locs : List Loc), va_P (dC, dI) vwCl [(h, .inr (1, [.ref a0, .ref a1, .ref a2, .ref a3, .ref a4, .ref a5, .int (nI n)])), (a0, .inl (cA, 10, .inl (fun j9 => nI (wa j9)))), (a1, .inl (cA, 10, .inl (fun j9 => nI (iv j9)))), (a2, .inl (cA, 10, .inl (fun j9 => nI (gh j9)))), (a3, .inl (cA, 10, .inl (fun j9 => nI (pr j9)))), (a4, .inl (cA, 10, .inl (zmes n wa iv gh pr b me))), (a5, .inl (cA, 10, .inl (zrks i n (zmes n wa iv gh pr b me) wa rk)))] H → va_D A [(h, .inr (1, [.ref a0, .ref a1, .ref a2, .ref a3, .ref a4, .ref a5, .int (nI n)])), (a0, .inl (cA, 10, .inl (fun j9 => nI (wa j9)))), (a1, .inl (cA, 10, .inl (fun j9 => nI (iv j9)))), (a2, .inl (cA, 10, .inl (fun j9 => nI (gh j9)))), (a3, .inl (cA, 10, .inl (fun j9 => nI (pr j9)))), (a4, .inl (cA, 10, .inl (zmes n wa iv gh pr b me))), (a5, .inl (cA, 10, .inl (zrks i n (zmes n wa iv gh pr b me) wa rk)))] → va_S A s.heap H locs → ∀ (ls : Array Slot), lv_has ls 3 [(0, .ref h), (1, .int (nI b)), (2, .int (nI i))] → W p l e ({ frames := 3, cells := 0, slots := 0, locals := 67 } : Room) s m args below meth c H locs 0 0 (MQ below (va_Qv (fun _ : Unit => True) (fun (_ : Unit) t => va_P (dC, dI) vwCl [(h, .inr (1, [.ref a0, .ref a1, .ref a2, .ref a3, .ref a4, .ref a5, .int (nI n)])), (a0, .inl (cA, 10, .inl (fun j9 => nI (wa j9)))), (a1, .inl (cA, 10, .inl (fun j9 => nI (iv j9)))), (a2, .inl (cA, 10, .inl (fun j9 => nI (gh j9)))), (a3, .inl (cA, 10, .inl (fun j9 => nI (pr j9)))), (a4, .inl (cA, 10, .inl (zmes n wa iv gh pr b me))), (a5, .inl (cA, 10, .inl (zrks n n (zmes n wa iv gh pr b me) wa rk)))] t.heap ∧ va_D A [(h, .inr (1, [.ref a0, .ref a1, .ref a2, .ref a3, .ref a4, .ref a5, .int (nI n)])), (a0, .inl (cA, 10, .inl (fun j9 => nI (wa j9)))), (a1, .inl (cA, 10, .inl (fun j9 => nI (iv j9)))), (a2, .inl (cA, 10, .inl (fun j9 => nI (gh j9)))), (a3, .inl (cA, 10, .inl (fun j9 => nI (pr j9)))), (a4, .inl (cA, 10, .inl (zmes n wa iv gh pr b me))), (a5, .inl (cA, 10, .inl (zrks n n (zmes n wa iv gh pr b me) wa rk)))]) A) args s 0 0 A) (F0 m 30 ls []) := by
          intro f9
          induction f9 with
          | zero => intro i hm9; exact absurd hm9 (Nat.not_lt_zero _)
          | succ f9 ih_30 =>
            intro i hm9 hi H locs hP hD hS ls hl
            have hw9 := hwa i
            refine lv_iload_n hx hb dX2_rankAll_30 rfl (lv_at hl 2 rfl) ?_
            refine lv_aload_n hx hb dX2_rankAll_31 rfl (lv_at hl 0 rfl) ?_
            refine va_get (D := (dC, dI)) (ci := 1) (v := .int (nI n)) (C := RX2) (T := TX2) (N := 7) hx hb hts i_X2_rankAll_X2 hown hK hP 0 rfl rfl 6 (by decide) (hts (.fieldLink RX2 30 "RuinViews$Ruins" "count" "I") (List.mem_of_getElem? (i := 1) rfl)) (fun _ h9 => h9) rfl dX2_rankAll_32 ?_
            refine lv_icmp_ge (tgt := 73) hx hb dX2_rankAll_35 (by decide) (fun c_2 => ?_) (fun c_2 => ?_)
            · skip
              replace c_2 := (nI_leI (by omega) (by omega)).mp c_2
              have hw3 : ∀ (x0 : Nat → Int32), x0 = zrks i n (zmes n wa iv gh pr b me) wa rk → va_P (dC, dI) vwCl [(h, .inr (1, [.ref a0, .ref a1, .ref a2, .ref a3, .ref a4, .ref a5, .int (nI n)])), (a0, .inl (cA, 10, .inl (fun j9 => nI (wa j9)))), (a1, .inl (cA, 10, .inl (fun j9 => nI (iv j9)))), (a2, .inl (cA, 10, .inl (fun j9 => nI (gh j9)))), (a3, .inl (cA, 10, .inl (fun j9 => nI (pr j9)))), (a4, .inl (cA, 10, .inl (zmes n wa iv gh pr b me))), (a5, .inl (cA, 10, .inl x0))] H ∧ va_D A [(h, .inr (1, [.ref a0, .ref a1, .ref a2, .ref a3, .ref a4, .ref a5, .int (nI n)])), (a0, .inl (cA, 10, .inl (fun j9 => nI (wa j9)))), (a1, .inl (cA, 10, .inl (fun j9 => nI (iv j9)))), (a2, .inl (cA, 10, .inl (fun j9 => nI (gh j9)))), (a3, .inl (cA, 10, .inl (fun j9 => nI (pr j9)))), (a4, .inl (cA, 10, .inl (zmes n wa iv gh pr b me))), (a5, .inl (cA, 10, .inl x0))] := by
                intro x0 h0; subst h0; exact ⟨hP, hD⟩
              obtain ⟨hP, hD⟩ := hw3 (zrks n n (zmes n wa iv gh pr b me) wa rk) (show (zrks n n (zmes n wa iv gh pr b me) wa rk) = zrks i n (zmes n wa iv gh pr b me) wa rk from by (rw [show n = i from by omega]))
              exact W.vret hx hb hr (fun t ht hW => ⟨⟨(), rfl, trivial, by rw [ht]; exact hP, hD⟩, hS.F ht⟩) hS.2.2 dX2_rankAll_73
            · skip
              replace c_2 := mt (nI_leI (by omega) (by omega)).mpr c_2
              refine lv_aload_n hx hb dX2_rankAll_38 rfl (lv_at hl 0 rfl) ?_
              refine va_get (D := (dC, dI)) (ci := 1) (v := .ref a5) (C := RX2) (T := TX2) (N := 7) hx hb hts i_X2_rankAll_X2 hown hK hP 0 rfl rfl 5 (by decide) (hts (.fieldLink RX2 27 "RuinViews$Ruins" "ranks" "[I") (List.mem_of_getElem? (i := 3) rfl)) (fun _ h9 => h9) rfl dX2_rankAll_39 ?_
              refine lv_iload_n hx hb dX2_rankAll_42 rfl (lv_at hl 2 rfl) ?_
              refine lv_aload_n hx hb dX2_rankAll_43 rfl (lv_at hl 0 rfl) ?_
              refine va_get (D := (dC, dI)) (ci := 1) (v := .ref a0) (C := RX2) (T := TX2) (N := 7) hx hb hts i_X2_rankAll_X2 hown hK hP 0 rfl rfl 0 (by decide) (hts (.fieldLink RX2 9 "RuinViews$Ruins" "walls" "[I") (List.mem_of_getElem? (i := 4) rfl)) (fun _ h9 => h9) rfl dX2_rankAll_44 ?_
              refine lv_iload_n hx hb dX2_rankAll_47 rfl (lv_at hl 2 rfl) ?_
              refine zz_ald hx hb hK hP 1 (f := wa) rfl rfl (by omega) (by decide) dX2_rankAll_48 ?_
              refine lv_if_ne (tgt := 56) hx hb dX2_rankAll_49 (by decide) (fun c_4 => ?_) (fun c_4 => ?_)
              · skip
                replace c_4 := mt (zz_eq0 (by omega)).mpr c_4
                refine lv_aload_n hx hb dX2_rankAll_56 rfl (lv_at hl 0 rfl) ?_
                refine lv_aload_n hx hb dX2_rankAll_57 rfl (lv_at hl 0 rfl) ?_
                refine va_get (D := (dC, dI)) (ci := 1) (v := .ref a4) (C := RX2) (T := TX2) (N := 7) hx hb hts i_X2_rankAll_X2 hown hK hP 0 rfl rfl 4 (by decide) (hts (.fieldLink RX2 24 "RuinViews$Ruins" "merits" "[I") (List.mem_of_getElem? (i := 2) rfl)) (fun _ h9 => h9) rfl dX2_rankAll_58 ?_
                refine lv_iload_n hx hb dX2_rankAll_61 rfl (lv_at hl 2 rfl) ?_
                refine zz_aldI hx hb hK hP 5 (f := zmes n wa iv gh pr b me) rfl rfl (by omega) (by decide) dX2_rankAll_62 ?_
                have hPc := hP.sub (ws' := [(h, .inr (1, [.ref a0, .ref a1, .ref a2, .ref a3, .ref a4, .ref a5, .int (nI n)])), (a0, .inl (cA, 10, .inl (fun j9 => nI (wa j9)))), (a1, .inl (cA, 10, .inl (fun j9 => nI (iv j9)))), (a2, .inl (cA, 10, .inl (fun j9 => nI (gh j9)))), (a3, .inl (cA, 10, .inl (fun j9 => nI (pr j9)))), (a4, .inl (cA, 10, .inl (zmes n wa iv gh pr b me))), (a5, .inl (cA, 10, .inl (zrks i n (zmes n wa iv gh pr b me) wa rk)))]) [0, 1, 2, 3, 4, 5, 6] rfl
                refine vp_callSi (W.runV (As := [.int ((zmes n wa iv gh pr b me) i)]) (rest := [.int (nI i), .ref a5]) ⟨hx, hb, hml, hown, hts⟩ (c_X2_countAbove l dC dI cA h a0 a1 a2 a3 a4 a5 n wa iv gh pr (zmes n wa iv gh pr b me) (zrks i n (zmes n wa iv gh pr b me) wa rk) ((zmes n wa iv gh pr b me) i) (by first | assumption | omega)) (cwV 1 hts gX2_rankAll_X2_countAbove rfl rfl rfl (by decide +kernel) ⟨Nat.le_of_ble_eq_true rfl, Nat.le_of_ble_eq_true rfl⟩) ⟨fun a U g mk q => by obtain ⟨q0, qP, qK⟩ := q; exact ⟨q0, qP, va_K.moved (u := U) (U := U.calling g mk a) (Vm.Alike.refl U.vm) qK⟩, va_recv hK hP (ci := 1) (q0 := 0) rfl rfl, fun U hU hW => ⟨rfl, by rw [hU]; exact hPc, va_K.moved hW.alike hK⟩⟩ rfl rfl hl.1 rfl (lv_room (Nat.le_of_ble_eq_true rfl)) dX2_rankAll_63 ⟨Nat.le_of_ble_eq_true rfl, Nat.le_of_ble_eq_true rfl⟩) (fun r_5 hw_5 => ?_)
                subst hw_5
                refine zz_astI hx hb hK hP hD hS 6 (f := zrks i n (zmes n wa iv gh pr b me) wa rk) rfl rfl (by omega) (by decide) dX2_rankAll_66 (fun H locs hP hD hS => ?_)
                have hP : va_P (dC, dI) vwCl [(h, .inr (1, [.ref a0, .ref a1, .ref a2, .ref a3, .ref a4, .ref a5, .int (nI n)])), (a0, .inl (cA, 10, .inl (fun j9 => nI (wa j9)))), (a1, .inl (cA, 10, .inl (fun j9 => nI (iv j9)))), (a2, .inl (cA, 10, .inl (fun j9 => nI (gh j9)))), (a3, .inl (cA, 10, .inl (fun j9 => nI (pr j9)))), (a4, .inl (cA, 10, .inl (zmes n wa iv gh pr b me))), (a5, .inl (cA, 10, .inl (upd (zrks i n (zmes n wa iv gh pr b me) wa rk) i (nI (zab (zmes n wa iv gh pr b me) ((zmes n wa iv gh pr b me) i) n)))))] H := hP
                have hD : va_D A [(h, .inr (1, [.ref a0, .ref a1, .ref a2, .ref a3, .ref a4, .ref a5, .int (nI n)])), (a0, .inl (cA, 10, .inl (fun j9 => nI (wa j9)))), (a1, .inl (cA, 10, .inl (fun j9 => nI (iv j9)))), (a2, .inl (cA, 10, .inl (fun j9 => nI (gh j9)))), (a3, .inl (cA, 10, .inl (fun j9 => nI (pr j9)))), (a4, .inl (cA, 10, .inl (zmes n wa iv gh pr b me))), (a5, .inl (cA, 10, .inl (upd (zrks i n (zmes n wa iv gh pr b me) wa rk) i (nI (zab (zmes n wa iv gh pr b me) ((zmes n wa iv gh pr b me) i) n)))))] := hD
                refine lv_iinc (v := nI (i + 1)) (lv' := [(2, .int (nI (i + 1))), (0, .ref h), (1, .int (nI b))]) hx hb dX2_rankAll_67 hl (k := 2) rfl (nI_1 _) (by decide) rfl (fun ls hl => ?_)
                refine lv_goto (tgt := 30) hx hb dX2_rankAll_70 (by decide) ?_
                have hl := lv_sub (l' := [(0, .ref h), (1, .int (nI b)), (2, .int (nI (i + 1)))]) hl [1, 2, 0] rfl
                have hw6 : ∀ (x0 : Nat → Int32), x0 = upd (zrks i n (zmes n wa iv gh pr b me) wa rk) i (nI (zab (zmes n wa iv gh pr b me) ((zmes n wa iv gh pr b me) i) n)) → va_P (dC, dI) vwCl [(h, .inr (1, [.ref a0, .ref a1, .ref a2, .ref a3, .ref a4, .ref a5, .int (nI n)])), (a0, .inl (cA, 10, .inl (fun j9 => nI (wa j9)))), (a1, .inl (cA, 10, .inl (fun j9 => nI (iv j9)))), (a2, .inl (cA, 10, .inl (fun j9 => nI (gh j9)))), (a3, .inl (cA, 10, .inl (fun j9 => nI (pr j9)))), (a4, .inl (cA, 10, .inl (zmes n wa iv gh pr b me))), (a5, .inl (cA, 10, .inl x0))] H ∧ va_D A [(h, .inr (1, [.ref a0, .ref a1, .ref a2, .ref a3, .ref a4, .ref a5, .int (nI n)])), (a0, .inl (cA, 10, .inl (fun j9 => nI (wa j9)))), (a1, .inl (cA, 10, .inl (fun j9 => nI (iv j9)))), (a2, .inl (cA, 10, .inl (fun j9 => nI (gh j9)))), (a3, .inl (cA, 10, .inl (fun j9 => nI (pr j9)))), (a4, .inl (cA, 10, .inl (zmes n wa iv gh pr b me))), (a5, .inl (cA, 10, .inl x0))] := by
                  intro x0 h0; subst h0; exact ⟨hP, hD⟩
                obtain ⟨hP, hD⟩ := hw6 (zrks (i + 1) n (zmes n wa iv gh pr b me) wa rk) (show (zrks (i + 1) n (zmes n wa iv gh pr b me) wa rk) = upd (zrks i n (zmes n wa iv gh pr b me) wa rk) i (nI (zab (zmes n wa iv gh pr b me) ((zmes n wa iv gh pr b me) i) n)) from by first | exact zrks_0 _ _ _ _ | exact zrks_s (by simp [*]) )
                exact ih_30 (i + 1) (by omega) (by first | assumption | omega) _ _ hP hD hS _ hl
              · skip
                replace c_4 := (zz_eq0 (by omega)).mp c_4
                refine lv_iconst (v := (-1)) hx hb dX2_rankAll_52 (by decide) ?_
                refine lv_goto (tgt := 66) hx hb dX2_rankAll_53 (by decide) ?_
                refine zz_astI hx hb hK hP hD hS 6 (f := zrks i n (zmes n wa iv gh pr b me) wa rk) rfl rfl (by omega) (by decide) dX2_rankAll_66 (fun H locs hP hD hS => ?_)
                have hP : va_P (dC, dI) vwCl [(h, .inr (1, [.ref a0, .ref a1, .ref a2, .ref a3, .ref a4, .ref a5, .int (nI n)])), (a0, .inl (cA, 10, .inl (fun j9 => nI (wa j9)))), (a1, .inl (cA, 10, .inl (fun j9 => nI (iv j9)))), (a2, .inl (cA, 10, .inl (fun j9 => nI (gh j9)))), (a3, .inl (cA, 10, .inl (fun j9 => nI (pr j9)))), (a4, .inl (cA, 10, .inl (zmes n wa iv gh pr b me))), (a5, .inl (cA, 10, .inl (upd (zrks i n (zmes n wa iv gh pr b me) wa rk) i (-1))))] H := hP
                have hD : va_D A [(h, .inr (1, [.ref a0, .ref a1, .ref a2, .ref a3, .ref a4, .ref a5, .int (nI n)])), (a0, .inl (cA, 10, .inl (fun j9 => nI (wa j9)))), (a1, .inl (cA, 10, .inl (fun j9 => nI (iv j9)))), (a2, .inl (cA, 10, .inl (fun j9 => nI (gh j9)))), (a3, .inl (cA, 10, .inl (fun j9 => nI (pr j9)))), (a4, .inl (cA, 10, .inl (zmes n wa iv gh pr b me))), (a5, .inl (cA, 10, .inl (upd (zrks i n (zmes n wa iv gh pr b me) wa rk) i (-1))))] := hD
                refine lv_iinc (v := nI (i + 1)) (lv' := [(2, .int (nI (i + 1))), (0, .ref h), (1, .int (nI b))]) hx hb dX2_rankAll_67 hl (k := 2) rfl (nI_1 _) (by decide) rfl (fun ls hl => ?_)
                refine lv_goto (tgt := 30) hx hb dX2_rankAll_70 (by decide) ?_
                have hl := lv_sub (l' := [(0, .ref h), (1, .int (nI b)), (2, .int (nI (i + 1)))]) hl [1, 2, 0] rfl
                have hw7 : ∀ (x0 : Nat → Int32), x0 = upd (zrks i n (zmes n wa iv gh pr b me) wa rk) i (-1) → va_P (dC, dI) vwCl [(h, .inr (1, [.ref a0, .ref a1, .ref a2, .ref a3, .ref a4, .ref a5, .int (nI n)])), (a0, .inl (cA, 10, .inl (fun j9 => nI (wa j9)))), (a1, .inl (cA, 10, .inl (fun j9 => nI (iv j9)))), (a2, .inl (cA, 10, .inl (fun j9 => nI (gh j9)))), (a3, .inl (cA, 10, .inl (fun j9 => nI (pr j9)))), (a4, .inl (cA, 10, .inl (zmes n wa iv gh pr b me))), (a5, .inl (cA, 10, .inl x0))] H ∧ va_D A [(h, .inr (1, [.ref a0, .ref a1, .ref a2, .ref a3, .ref a4, .ref a5, .int (nI n)])), (a0, .inl (cA, 10, .inl (fun j9 => nI (wa j9)))), (a1, .inl (cA, 10, .inl (fun j9 => nI (iv j9)))), (a2, .inl (cA, 10, .inl (fun j9 => nI (gh j9)))), (a3, .inl (cA, 10, .inl (fun j9 => nI (pr j9)))), (a4, .inl (cA, 10, .inl (zmes n wa iv gh pr b me))), (a5, .inl (cA, 10, .inl x0))] := by
                  intro x0 h0; subst h0; exact ⟨hP, hD⟩
                obtain ⟨hP, hD⟩ := hw7 (zrks (i + 1) n (zmes n wa iv gh pr b me) wa rk) (show (zrks (i + 1) n (zmes n wa iv gh pr b me) wa rk) = upd (zrks i n (zmes n wa iv gh pr b me) wa rk) i (-1) from by first | exact zrks_0 _ _ _ _ | exact zrks_s (by simp [*]) )
                exact ih_30 (i + 1) (by omega) (by first | assumption | omega) _ _ hP hD hS _ hl
        have hl := lv_sub (l' := [(0, .ref h), (1, .int (nI b)), (2, .int (nI 0))]) hl [1, 2, 0] rfl
        have hw8 : ∀ (x0 : Nat → Int32) (x1 : Nat → Int32), x0 = zmes i wa iv gh pr b me → x1 = rk → va_P (dC, dI) vwCl [(h, .inr (1, [.ref a0, .ref a1, .ref a2, .ref a3, .ref a4, .ref a5, .int (nI n)])), (a0, .inl (cA, 10, .inl (fun j9 => nI (wa j9)))), (a1, .inl (cA, 10, .inl (fun j9 => nI (iv j9)))), (a2, .inl (cA, 10, .inl (fun j9 => nI (gh j9)))), (a3, .inl (cA, 10, .inl (fun j9 => nI (pr j9)))), (a4, .inl (cA, 10, .inl x0)), (a5, .inl (cA, 10, .inl x1))] H ∧ va_D A [(h, .inr (1, [.ref a0, .ref a1, .ref a2, .ref a3, .ref a4, .ref a5, .int (nI n)])), (a0, .inl (cA, 10, .inl (fun j9 => nI (wa j9)))), (a1, .inl (cA, 10, .inl (fun j9 => nI (iv j9)))), (a2, .inl (cA, 10, .inl (fun j9 => nI (gh j9)))), (a3, .inl (cA, 10, .inl (fun j9 => nI (pr j9)))), (a4, .inl (cA, 10, .inl x0)), (a5, .inl (cA, 10, .inl x1))] := by
          intro x0 x1 h0 h1; subst h0; subst h1; exact ⟨hP, hD⟩
        obtain ⟨hP, hD⟩ := hw8 (zmes n wa iv gh pr b me) (zrks 0 n (zmes n wa iv gh pr b me) wa rk) (show (zmes n wa iv gh pr b me) = zmes i wa iv gh pr b me from by (rw [show n = i from by omega])) (show (zrks 0 n (zmes n wa iv gh pr b me) wa rk) = rk from by first | exact zrks_0 _ _ _ _ | exact zrks_s (by simp [*]) )
        exact lp_30 _ 0 (Nat.lt_succ_self _) (by first | assumption | omega) _ _ hP hD hS _ hl
      · skip
        replace c_1 := mt (nI_leI (by omega) (by omega)).mpr c_1
        refine lv_aload_n hx hb dX2_rankAll_10 rfl (lv_at hl 0 rfl) ?_
        refine va_get (D := (dC, dI)) (ci := 1) (v := .ref a4) (C := RX2) (T := TX2) (N := 7) hx hb hts i_X2_rankAll_X2 hown hK hP 0 rfl rfl 4 (by decide) (hts (.fieldLink RX2 24 "RuinViews$Ruins" "merits" "[I") (List.mem_of_getElem? (i := 2) rfl)) (fun _ h9 => h9) rfl dX2_rankAll_11 ?_
        refine lv_iload_n hx hb dX2_rankAll_14 rfl (lv_at hl 2 rfl) ?_
        refine lv_aload_n hx hb dX2_rankAll_15 rfl (lv_at hl 0 rfl) ?_
        refine lv_iload_n hx hb dX2_rankAll_16 rfl (lv_at hl 2 rfl) ?_
        refine lv_iload_n hx hb dX2_rankAll_17 rfl (lv_at hl 1 rfl) ?_
        have hPc := hP.sub (ws' := [(h, .inr (1, [.ref a0, .ref a1, .ref a2, .ref a3, .ref a4, .ref a5, .int (nI n)])), (a0, .inl (cA, 10, .inl (fun j9 => nI (wa j9)))), (a1, .inl (cA, 10, .inl (fun j9 => nI (iv j9)))), (a2, .inl (cA, 10, .inl (fun j9 => nI (gh j9)))), (a3, .inl (cA, 10, .inl (fun j9 => nI (pr j9)))), (a4, .inl (cA, 10, .inl (zmes i wa iv gh pr b me))), (a5, .inl (cA, 10, .inl rk))]) [0, 1, 2, 3, 4, 5, 6] rfl
        refine vp_callSi (W.runV (As := [.int (nI i),.int (nI b)]) (rest := [.int (nI i), .ref a4]) ⟨hx, hb, hml, hown, hts⟩ (c_X2_merit l dC dI cA h a0 a1 a2 a3 a4 a5 n wa iv gh pr (zmes i wa iv gh pr b me) rk i b (by first | assumption | omega) (by first | assumption | omega) (by first | assumption | omega) (by first | assumption | omega)) (cwV 2 hts gX2_rankAll_X2_merit rfl rfl rfl (by decide +kernel) ⟨Nat.le_of_ble_eq_true rfl, Nat.le_of_ble_eq_true rfl⟩) ⟨fun a U g mk q => by obtain ⟨q0, qP, qK⟩ := q; exact ⟨q0, qP, va_K.moved (u := U) (U := U.calling g mk a) (Vm.Alike.refl U.vm) qK⟩, va_recv hK hP (ci := 1) (q0 := 0) rfl rfl, fun U hU hW => ⟨rfl, by rw [hU]; exact hPc, va_K.moved hW.alike hK⟩⟩ rfl rfl hl.1 rfl (lv_room (Nat.le_of_ble_eq_true rfl)) dX2_rankAll_18 ⟨Nat.le_of_ble_eq_true rfl, Nat.le_of_ble_eq_true rfl⟩) (fun r_9 hw_9 => ?_)
        subst hw_9
        refine zz_astI hx hb hK hP hD hS 5 (f := zmes i wa iv gh pr b me) rfl rfl (by omega) (by decide) dX2_rankAll_21 (fun H locs hP hD hS => ?_)
        have hP : va_P (dC, dI) vwCl [(h, .inr (1, [.ref a0, .ref a1, .ref a2, .ref a3, .ref a4, .ref a5, .int (nI n)])), (a0, .inl (cA, 10, .inl (fun j9 => nI (wa j9)))), (a1, .inl (cA, 10, .inl (fun j9 => nI (iv j9)))), (a2, .inl (cA, 10, .inl (fun j9 => nI (gh j9)))), (a3, .inl (cA, 10, .inl (fun j9 => nI (pr j9)))), (a4, .inl (cA, 10, .inl (upd (zmes i wa iv gh pr b me) i (zme (wa i) (iv i) (gh i) (pr i) i b)))), (a5, .inl (cA, 10, .inl rk))] H := hP
        have hD : va_D A [(h, .inr (1, [.ref a0, .ref a1, .ref a2, .ref a3, .ref a4, .ref a5, .int (nI n)])), (a0, .inl (cA, 10, .inl (fun j9 => nI (wa j9)))), (a1, .inl (cA, 10, .inl (fun j9 => nI (iv j9)))), (a2, .inl (cA, 10, .inl (fun j9 => nI (gh j9)))), (a3, .inl (cA, 10, .inl (fun j9 => nI (pr j9)))), (a4, .inl (cA, 10, .inl (upd (zmes i wa iv gh pr b me) i (zme (wa i) (iv i) (gh i) (pr i) i b)))), (a5, .inl (cA, 10, .inl rk))] := hD
        refine lv_iinc (v := nI (i + 1)) (lv' := [(2, .int (nI (i + 1))), (0, .ref h), (1, .int (nI b))]) hx hb dX2_rankAll_22 hl (k := 2) rfl (nI_1 _) (by decide) rfl (fun ls hl => ?_)
        refine lv_goto (tgt := 2) hx hb dX2_rankAll_25 (by decide) ?_
        have hl := lv_sub (l' := [(0, .ref h), (1, .int (nI b)), (2, .int (nI (i + 1)))]) hl [1, 2, 0] rfl
        have hw10 : ∀ (x0 : Nat → Int32), x0 = upd (zmes i wa iv gh pr b me) i (zme (wa i) (iv i) (gh i) (pr i) i b) → va_P (dC, dI) vwCl [(h, .inr (1, [.ref a0, .ref a1, .ref a2, .ref a3, .ref a4, .ref a5, .int (nI n)])), (a0, .inl (cA, 10, .inl (fun j9 => nI (wa j9)))), (a1, .inl (cA, 10, .inl (fun j9 => nI (iv j9)))), (a2, .inl (cA, 10, .inl (fun j9 => nI (gh j9)))), (a3, .inl (cA, 10, .inl (fun j9 => nI (pr j9)))), (a4, .inl (cA, 10, .inl x0)), (a5, .inl (cA, 10, .inl rk))] H ∧ va_D A [(h, .inr (1, [.ref a0, .ref a1, .ref a2, .ref a3, .ref a4, .ref a5, .int (nI n)])), (a0, .inl (cA, 10, .inl (fun j9 => nI (wa j9)))), (a1, .inl (cA, 10, .inl (fun j9 => nI (iv j9)))), (a2, .inl (cA, 10, .inl (fun j9 => nI (gh j9)))), (a3, .inl (cA, 10, .inl (fun j9 => nI (pr j9)))), (a4, .inl (cA, 10, .inl x0)), (a5, .inl (cA, 10, .inl rk))] := by
          intro x0 h0; subst h0; exact ⟨hP, hD⟩
        obtain ⟨hP, hD⟩ := hw10 (zmes (i + 1) wa iv gh pr b me) (show (zmes (i + 1) wa iv gh pr b me) = upd (zmes i wa iv gh pr b me) i (zme (wa i) (iv i) (gh i) (pr i) i b) from by first | exact zmes_s _ _ _ _ _ _ _ | exact zmes_0 _ _ _ _ _ _)
        exact ih_2 (i + 1) (by omega) (by first | assumption | omega) _ _ hP hD hS _ hl
  have hl := lv_sub (l' := [(0, .ref h), (1, .int (nI b)), (2, .int (nI 0))]) hl [1, 2, 0] rfl
  have hw11 : ∀ (x0 : Nat → Int32), x0 = me → va_P (dC, dI) vwCl [(h, .inr (1, [.ref a0, .ref a1, .ref a2, .ref a3, .ref a4, .ref a5, .int (nI n)])), (a0, .inl (cA, 10, .inl (fun j9 => nI (wa j9)))), (a1, .inl (cA, 10, .inl (fun j9 => nI (iv j9)))), (a2, .inl (cA, 10, .inl (fun j9 => nI (gh j9)))), (a3, .inl (cA, 10, .inl (fun j9 => nI (pr j9)))), (a4, .inl (cA, 10, .inl x0)), (a5, .inl (cA, 10, .inl rk))] s.heap ∧ va_D A [(h, .inr (1, [.ref a0, .ref a1, .ref a2, .ref a3, .ref a4, .ref a5, .int (nI n)])), (a0, .inl (cA, 10, .inl (fun j9 => nI (wa j9)))), (a1, .inl (cA, 10, .inl (fun j9 => nI (iv j9)))), (a2, .inl (cA, 10, .inl (fun j9 => nI (gh j9)))), (a3, .inl (cA, 10, .inl (fun j9 => nI (pr j9)))), (a4, .inl (cA, 10, .inl x0)), (a5, .inl (cA, 10, .inl rk))] := by
    intro x0 h0; subst h0; exact ⟨hP, hD⟩
  obtain ⟨hP, hD⟩ := hw11 (zmes 0 wa iv gh pr b me) (show (zmes 0 wa iv gh pr b me) = me from by first | exact zmes_s _ _ _ _ _ _ _ | exact zmes_0 _ _ _ _ _ _)
  exact lp_2 _ 0 (Nat.lt_succ_self _) (by first | assumption | omega) _ _ hP hD hS _ hl
theorem i_X2_findRank_X2 : ∀ w ∈ u_ws RX2 TX2 7, w ∈ wsX2_findRank := by decide +kernel
set_option maxHeartbeats 4000000 in
set_option maxRecDepth 100000 in
theorem c_X2_findRank (l : Launch) (dC : Nat → ClassId) (dI : Nat → Nat → Nat) (cA : ClassId) (h : Nat) (a0 : Nat) (a1 : Nat) (a2 : Nat) (a3 : Nat) (a4 : Nat) (a5 : Nat) (n : Nat) (wa : Nat → Nat) (iv : Nat → Nat) (gh : Nat → Nat) (pr : Nat → Nat) (me : Nat → Int32) (rk : Nat → Int32) (x : Int32) (hn : n ≤ 10) : Met l yX2_findRank wsX2_findRank ({ frames := 0, cells := 0, slots := 0, locals := 0 } : Room) (va_Pc [.ref h, .int x] (fun U => va_P (dC, dI) vwCl [(h, .inr (1, [.ref a0, .ref a1, .ref a2, .ref a3, .ref a4, .ref a5, .int (nI n)])), (a0, .inl (cA, 10, .inl (fun j9 => nI (wa j9)))), (a1, .inl (cA, 10, .inl (fun j9 => nI (iv j9)))), (a2, .inl (cA, 10, .inl (fun j9 => nI (gh j9)))), (a3, .inl (cA, 10, .inl (fun j9 => nI (pr j9)))), (a4, .inl (cA, 10, .inl me)), (a5, .inl (cA, 10, .inl rk))] U.heap ∧ va_K (dC, dI) vwCl [(cA, .int)] U)) (vp_Si (fun y9 : Int32 => y9 = zfr rk x n 0)) 0 0 (fun _ => False) := by
  refine Met.ofW (cc := cX2_findRank) (maxL := 3) (ret := (some .int)) (by decide) rfl ?_
  intro p e s m args below meth c s₁ B hml hv
  obtain ⟨hargs, hP, hK⟩ := hv
  have hx := B.exec
  have hb := B.bytes
  have hr := B.returns
  have hts := atoms_spec (ws := wsX2_findRank) B.pre
  have hown : s.vm.findClass RX2 = some m.cls := findClass_of_methodNamed B.named
  have hlocks := B.notSynchronized
  have hl := lv_entry ([.ref h, .int x]) (n := 3) (Nat.le_of_ble_eq_true rfl)
  rw [hargs, lg_entry_eq, ← hargs]
  generalize (lg_sl ([.ref h, .int x]) ++ List.replicate (3 - (lg_sl ([.ref h, .int x])).length) Slot.unset).toArray = ls at hl ⊢
  have hl : lv_has ls 3 [(0, .ref h), (1, .int x)] := hl
  refine lv_iconst (v := nI 0) hx hb dX2_findRank_0 (by decide) ?_
  refine lv_istore_n (lv' := [(2, .int (nI 0)), (0, .ref h), (1, .int x)]) hx hb dX2_findRank_1 rfl hl (by decide) rfl (fun ls hl => ?_)
  have lp_2 : ∀ (f9 : Nat) (i : Nat) , (n - i) < f9 → (i ≤ n) → (zfr rk x n 0 = zfr rk x (n - i) i) → ∀ (ls : Array Slot), lv_has ls 3 [(0, .ref h), (1, .int x), (2, .int (nI i))] → W p l e ({ frames := 0, cells := 0, slots := 0, locals := 0 } : Room) s m args below meth c s.heap [] 0 0 (MQ below (vp_Si (fun y9 : Int32 => y9 = zfr rk x n 0)) args s 0 0 (fun _ => False)) (F0 m 2 ls []) := by
    intro f9
    induction f9 with
    | zero => intro i hm9; exact absurd hm9 (Nat.not_lt_zero _)
    | succ f9 ih_2 =>
      intro i hm9 hi hz ls hl
      refine lv_iload_n hx hb dX2_findRank_2 rfl (lv_at hl 2 rfl) ?_
      refine lv_aload_n hx hb dX2_findRank_3 rfl (lv_at hl 0 rfl) ?_
      refine va_get (D := (dC, dI)) (ci := 1) (v := .int (nI n)) (C := RX2) (T := TX2) (N := 7) hx hb hts i_X2_findRank_X2 hown hK hP 0 rfl rfl 6 (by decide) (hts (.fieldLink RX2 30 "RuinViews$Ruins" "count" "I") (List.mem_of_getElem? (i := 1) rfl)) (fun _ h9 => h9) rfl dX2_findRank_4 ?_
      refine lv_icmp_ge (tgt := 28) hx hb dX2_findRank_7 (by decide) (fun c_1 => ?_) (fun c_1 => ?_)
      · skip
        replace c_1 := (nI_leI (by omega) (by omega)).mp c_1
        refine lv_iconst (v := (-1)) hx hb dX2_findRank_28 (by decide) ?_
        exact W.iret hx hb hr (fun t ht hW => ⟨_, rfl, show (-1) = zfr rk x n 0 from by (first | rw [hz, zfr_s (by omega), if_pos (by assumption)] | rw [hz, zfr_e (by omega)]), ht⟩) (fun _ h => nomatch h) dX2_findRank_29
      · skip
        replace c_1 := mt (nI_leI (by omega) (by omega)).mpr c_1
        refine lv_aload_n hx hb dX2_findRank_10 rfl (lv_at hl 0 rfl) ?_
        refine va_get (D := (dC, dI)) (ci := 1) (v := .ref a5) (C := RX2) (T := TX2) (N := 7) hx hb hts i_X2_findRank_X2 hown hK hP 0 rfl rfl 5 (by decide) (hts (.fieldLink RX2 27 "RuinViews$Ruins" "ranks" "[I") (List.mem_of_getElem? (i := 2) rfl)) (fun _ h9 => h9) rfl dX2_findRank_11 ?_
        refine lv_iload_n hx hb dX2_findRank_14 rfl (lv_at hl 2 rfl) ?_
        refine zz_aldI hx hb hK hP 6 (f := rk) rfl rfl (by omega) (by decide) dX2_findRank_15 ?_
        refine lv_iload_n hx hb dX2_findRank_16 rfl (lv_at hl 1 rfl) ?_
        refine lv_icmp_ne (tgt := 22) hx hb dX2_findRank_17 (by decide) (fun c_2 => ?_) (fun c_2 => ?_)
        · skip
          refine lv_iinc (v := nI (i + 1)) (lv' := [(2, .int (nI (i + 1))), (0, .ref h), (1, .int x)]) hx hb dX2_findRank_22 hl (k := 2) rfl (nI_1 _) (by decide) rfl (fun ls hl => ?_)
          refine lv_goto (tgt := 2) hx hb dX2_findRank_25 (by decide) ?_
          have hl := lv_sub (l' := [(0, .ref h), (1, .int x), (2, .int (nI (i + 1)))]) hl [1, 2, 0] rfl
          exact ih_2 (i + 1) (by omega) (by first | assumption | omega) (by rw [hz, zfr_s (by omega), if_neg (by assumption)]) _ hl
        · skip
          refine lv_iload_n hx hb dX2_findRank_20 rfl (lv_at hl 2 rfl) ?_
          exact W.iret hx hb hr (fun t ht hW => ⟨_, rfl, show nI i = zfr rk x n 0 from by (first | rw [hz, zfr_s (by omega), if_pos (by assumption)] | rw [hz, zfr_e (by omega)]), ht⟩) (fun _ h => nomatch h) dX2_findRank_21
  have hl := lv_sub (l' := [(0, .ref h), (1, .int x), (2, .int (nI 0))]) hl [1, 2, 0] rfl
  exact lp_2 _ 0 (Nat.lt_succ_self _) (by first | assumption | omega) (by rfl) _ hl
theorem i_X2_growIvy_X2 : ∀ w ∈ u_ws RX2 TX2 7, w ∈ wsX2_growIvy := by decide +kernel
set_option maxHeartbeats 4000000 in
set_option maxRecDepth 100000 in
theorem c_X2_growIvy (l : Launch) (dC : Nat → ClassId) (dI : Nat → Nat → Nat) (cA : ClassId) (h : Nat) (a0 : Nat) (a1 : Nat) (a2 : Nat) (a3 : Nat) (a4 : Nat) (a5 : Nat) (n : Nat) (wa : Nat → Nat) (iv : Nat → Nat) (gh : Nat → Nat) (pr : Nat → Nat) (me : Nat → Int32) (rk : Nat → Int32) (r : Nat) (d : Nat) (sz : Nat) (hrn : r < 10) (hw0 : 0 < wa r) (hw : wa r ≤ 20) (hi : iv r ≤ 12) (hd : d < 2 ^ 31) : Met l yX2_growIvy wsX2_growIvy ({ frames := 0, cells := 0, slots := 0, locals := 0 } : Room) (va_Pc [.ref h, .int (nI r), .int (nI d)] (fun U => U.heap.size = sz ∧ va_P (dC, dI) vwCl [(h, .inr (1, [.ref a0, .ref a1, .ref a2, .ref a3, .ref a4, .ref a5, .int (nI n)])), (a0, .inl (cA, 10, .inl (fun j9 => nI (wa j9)))), (a1, .inl (cA, 10, .inl (fun j9 => nI (iv j9)))), (a2, .inl (cA, 10, .inl (fun j9 => nI (gh j9)))), (a3, .inl (cA, 10, .inl (fun j9 => nI (pr j9)))), (a4, .inl (cA, 10, .inl me)), (a5, .inl (cA, 10, .inl rk))] U.heap ∧ va_K (dC, dI) vwCl [(cA, .int)] U ∧ va_D (fun _ => True) [(h, .inr (1, [.ref a0, .ref a1, .ref a2, .ref a3, .ref a4, .ref a5, .int (nI n)])), (a0, .inl (cA, 10, .inl (fun j9 => nI (wa j9)))), (a1, .inl (cA, 10, .inl (fun j9 => nI (iv j9)))), (a2, .inl (cA, 10, .inl (fun j9 => nI (gh j9)))), (a3, .inl (cA, 10, .inl (fun j9 => nI (pr j9)))), (a4, .inl (cA, 10, .inl me)), (a5, .inl (cA, 10, .inl rk))])) (va_Qv (fun _ : Unit => True) (fun (_ : Unit) t => va_P (dC, dI) vwCl [(h, .inr (1, [.ref a0, .ref a1, .ref a2, .ref a3, .ref a4, .ref a5, .int (nI n)])), (a0, .inl (cA, 10, .inl (fun j9 => nI ((zup wa r (z_wa d (wa r) (iv r))) j9)))), (a1, .inl (cA, 10, .inl (fun j9 => nI ((zup iv r (z_iv d (wa r) (iv r))) j9)))), (a2, .inl (cA, 10, .inl (fun j9 => nI (gh j9)))), (a3, .inl (cA, 10, .inl (fun j9 => nI (pr j9)))), (a4, .inl (cA, 10, .inl me)), (a5, .inl (cA, 10, .inl rk))] t.heap ∧ va_D (va_A [(h, .inr (1, [.ref a0, .ref a1, .ref a2, .ref a3, .ref a4, .ref a5, .int (nI n)])), (a0, .inl (cA, 10, .inl (fun j9 => nI (wa j9)))), (a1, .inl (cA, 10, .inl (fun j9 => nI (iv j9)))), (a2, .inl (cA, 10, .inl (fun j9 => nI (gh j9)))), (a3, .inl (cA, 10, .inl (fun j9 => nI (pr j9)))), (a4, .inl (cA, 10, .inl me)), (a5, .inl (cA, 10, .inl rk))] sz) [(h, .inr (1, [.ref a0, .ref a1, .ref a2, .ref a3, .ref a4, .ref a5, .int (nI n)])), (a0, .inl (cA, 10, .inl (fun j9 => nI ((zup wa r (z_wa d (wa r) (iv r))) j9)))), (a1, .inl (cA, 10, .inl (fun j9 => nI ((zup iv r (z_iv d (wa r) (iv r))) j9)))), (a2, .inl (cA, 10, .inl (fun j9 => nI (gh j9)))), (a3, .inl (cA, 10, .inl (fun j9 => nI (pr j9)))), (a4, .inl (cA, 10, .inl me)), (a5, .inl (cA, 10, .inl rk))]) (va_A [(h, .inr (1, [.ref a0, .ref a1, .ref a2, .ref a3, .ref a4, .ref a5, .int (nI n)])), (a0, .inl (cA, 10, .inl (fun j9 => nI (wa j9)))), (a1, .inl (cA, 10, .inl (fun j9 => nI (iv j9)))), (a2, .inl (cA, 10, .inl (fun j9 => nI (gh j9)))), (a3, .inl (cA, 10, .inl (fun j9 => nI (pr j9)))), (a4, .inl (cA, 10, .inl me)), (a5, .inl (cA, 10, .inl rk))] sz)) 0 0 (va_A [(h, .inr (1, [.ref a0, .ref a1, .ref a2, .ref a3, .ref a4, .ref a5, .int (nI n)])), (a0, .inl (cA, 10, .inl (fun j9 => nI (wa j9)))), (a1, .inl (cA, 10, .inl (fun j9 => nI (iv j9)))), (a2, .inl (cA, 10, .inl (fun j9 => nI (gh j9)))), (a3, .inl (cA, 10, .inl (fun j9 => nI (pr j9)))), (a4, .inl (cA, 10, .inl me)), (a5, .inl (cA, 10, .inl rk))] sz) := by
  refine Met.ofW (cc := cX2_growIvy) (maxL := 3) (ret := none) (by decide) rfl ?_
  intro p e s m args below meth c s₁ B hml hv
  obtain ⟨hargs, hsz, hP, hK, hD0⟩ := hv
  have hx := B.exec
  have hb := B.bytes
  have hr := B.returns
  have hts := atoms_spec (ws := wsX2_growIvy) B.pre
  have hown : s.vm.findClass RX2 = some m.cls := findClass_of_methodNamed B.named
  have hlocks := B.notSynchronized
  subst hsz
  have hD := hD0.self (sz := s.heap.size)
  generalize hAe : va_A [(h, .inr (1, [.ref a0, .ref a1, .ref a2, .ref a3, .ref a4, .ref a5, .int (nI n)])), (a0, .inl (cA, 10, .inl (fun j9 => nI (wa j9)))), (a1, .inl (cA, 10, .inl (fun j9 => nI (iv j9)))), (a2, .inl (cA, 10, .inl (fun j9 => nI (gh j9)))), (a3, .inl (cA, 10, .inl (fun j9 => nI (pr j9)))), (a4, .inl (cA, 10, .inl me)), (a5, .inl (cA, 10, .inl rk))] s.heap.size = A at hD ⊢
  have hA : ∀ q : Nat, s.heap.size ≤ q → A q := fun q h => by rw [← hAe]; exact Or.inr h
  have hS : va_S A s.heap s.heap [] := va_S.rf
  have hP : va_P (dC, dI) vwCl [(h, .inr (1, [.ref a0, .ref a1, .ref a2, .ref a3, .ref a4, .ref a5, .int (nI n)])), (a0, .inl (cA, 10, .inl (fun j9 => nI (wa j9)))), (a1, .inl (cA, 10, .inl (fun j9 => nI (iv j9)))), (a2, .inl (cA, 10, .inl (fun j9 => nI (gh j9)))), (a3, .inl (cA, 10, .inl (fun j9 => nI (pr j9)))), (a4, .inl (cA, 10, .inl me)), (a5, .inl (cA, 10, .inl rk))] s.heap := hP
  have hl := lv_entry ([.ref h, .int (nI r), .int (nI d)]) (n := 3) (Nat.le_of_ble_eq_true rfl)
  rw [hargs, lg_entry_eq, ← hargs]
  generalize (lg_sl ([.ref h, .int (nI r), .int (nI d)]) ++ List.replicate (3 - (lg_sl ([.ref h, .int (nI r), .int (nI d)])).length) Slot.unset).toArray = ls at hl ⊢
  have hl : lv_has ls 3 [(0, .ref h), (1, .int (nI r)), (2, .int (nI d))] := hl
  refine lv_iload_n hx hb dX2_growIvy_0 rfl (lv_at hl 2 rfl) ?_
  refine lv_iconst (v := nI 3) hx hb dX2_growIvy_1 (by decide) ?_
  refine lv_irem hx hb dX2_growIvy_2 (by decide) ?_
  refine zz_top (pk_rem (by omega) (by decide) (by decide)) ?_
  refine lv_iconst (v := nI 2) hx hb dX2_growIvy_3 (by decide) ?_
  refine lv_icmp_ne (tgt := 28) hx hb dX2_growIvy_4 (by decide) (fun c_1 => ?_) (fun c_1 => ?_)
  · skip
    replace c_1 := mt (nI_eq (by omega) (by omega)).mpr c_1
    refine lv_aload_n hx hb dX2_growIvy_28 rfl (lv_at hl 0 rfl) ?_
    refine va_get (D := (dC, dI)) (ci := 1) (v := .ref a1) (C := RX2) (T := TX2) (N := 7) hx hb hts i_X2_growIvy_X2 hown hK hP 0 rfl rfl 1 (by decide) (hts (.fieldLink RX2 15 "RuinViews$Ruins" "ivy" "[I") (List.mem_of_getElem? (i := 1) rfl)) (fun _ h9 => h9) rfl dX2_growIvy_29 ?_
    refine lv_iload_n hx hb dX2_growIvy_32 rfl (lv_at hl 1 rfl) ?_
    refine zz_ald hx hb hK hP 2 (f := iv) rfl rfl (by omega) (by decide) dX2_growIvy_33 ?_
    refine lv_bipush (v := nI 10) hx hb dX2_growIvy_34 (by decide) ?_
    refine lv_icmp_lt (tgt := 49) hx hb dX2_growIvy_36 (by decide) (fun c_2 => ?_) (fun c_2 => ?_)
    · skip
      replace c_2 := (nI_ltI (by omega) (by omega)).mp c_2
      have hw3 : ∀ (x0 : Nat → Nat) (x1 : Nat → Nat), x0 = wa → x1 = iv → va_P (dC, dI) vwCl [(h, .inr (1, [.ref a0, .ref a1, .ref a2, .ref a3, .ref a4, .ref a5, .int (nI n)])), (a0, .inl (cA, 10, .inl (fun j9 => nI (x0 j9)))), (a1, .inl (cA, 10, .inl (fun j9 => nI (x1 j9)))), (a2, .inl (cA, 10, .inl (fun j9 => nI (gh j9)))), (a3, .inl (cA, 10, .inl (fun j9 => nI (pr j9)))), (a4, .inl (cA, 10, .inl me)), (a5, .inl (cA, 10, .inl rk))] s.heap ∧ va_D A [(h, .inr (1, [.ref a0, .ref a1, .ref a2, .ref a3, .ref a4, .ref a5, .int (nI n)])), (a0, .inl (cA, 10, .inl (fun j9 => nI (x0 j9)))), (a1, .inl (cA, 10, .inl (fun j9 => nI (x1 j9)))), (a2, .inl (cA, 10, .inl (fun j9 => nI (gh j9)))), (a3, .inl (cA, 10, .inl (fun j9 => nI (pr j9)))), (a4, .inl (cA, 10, .inl me)), (a5, .inl (cA, 10, .inl rk))] := by
        intro x0 x1 h0 h1; subst h0; subst h1; exact ⟨hP, hD⟩
      obtain ⟨hP, hD⟩ := hw3 (zup wa r (z_wa d (wa r) (iv r))) (zup iv r (z_iv d (wa r) (iv r))) (show (zup wa r (z_wa d (wa r) (iv r))) = wa from by (first | exact zup_eq _ (by unfold z_wa z_iv; (repeat' split) <;> omega) | exact congrArg (zup _ _) (by unfold z_wa z_iv; (repeat' split) <;> omega))) (show (zup iv r (z_iv d (wa r) (iv r))) = iv from by (first | exact zup_eq _ (by unfold z_iv; (repeat' split) <;> omega) | exact congrArg (zup _ _) (by unfold z_iv; (repeat' split) <;> omega)))
      exact W.vret hx hb hr (fun t ht hW => ⟨⟨(), rfl, trivial, by rw [ht]; exact hP, hD⟩, hS.F ht⟩) hS.2.2 dX2_growIvy_49
    · skip
      replace c_2 := mt (nI_ltI (by omega) (by omega)).mpr c_2
      refine lv_aload_n hx hb dX2_growIvy_39 rfl (lv_at hl 0 rfl) ?_
      refine va_get (D := (dC, dI)) (ci := 1) (v := .ref a0) (C := RX2) (T := TX2) (N := 7) hx hb hts i_X2_growIvy_X2 hown hK hP 0 rfl rfl 0 (by decide) (hts (.fieldLink RX2 9 "RuinViews$Ruins" "walls" "[I") (List.mem_of_getElem? (i := 2) rfl)) (fun _ h9 => h9) rfl dX2_growIvy_40 ?_
      refine lv_iload_n hx hb dX2_growIvy_43 rfl (lv_at hl 1 rfl) ?_
      refine lv_dup2_11 hx hb dX2_growIvy_44 rfl rfl ?_
      refine zz_ald hx hb hK hP 1 (f := wa) rfl rfl (by omega) (by decide) dX2_growIvy_45 ?_
      refine lv_iconst (v := nI 1) hx hb dX2_growIvy_46 (by decide) ?_
      refine lv_isub hx hb dX2_growIvy_47 ?_
      refine zz_top (pk_sub (by omega)) ?_
      refine zz_ast hx hb hK hP hD hS 1 (f := wa) rfl rfl (by omega) (by decide) dX2_growIvy_48 (fun H locs hP hD hS => ?_)
      have hP : va_P (dC, dI) vwCl [(h, .inr (1, [.ref a0, .ref a1, .ref a2, .ref a3, .ref a4, .ref a5, .int (nI n)])), (a0, .inl (cA, 10, .inl (fun j9 => nI ((zup wa r ((wa r) - 1)) j9)))), (a1, .inl (cA, 10, .inl (fun j9 => nI (iv j9)))), (a2, .inl (cA, 10, .inl (fun j9 => nI (gh j9)))), (a3, .inl (cA, 10, .inl (fun j9 => nI (pr j9)))), (a4, .inl (cA, 10, .inl me)), (a5, .inl (cA, 10, .inl rk))] H := hP
      have hD : va_D A [(h, .inr (1, [.ref a0, .ref a1, .ref a2, .ref a3, .ref a4, .ref a5, .int (nI n)])), (a0, .inl (cA, 10, .inl (fun j9 => nI ((zup wa r ((wa r) - 1)) j9)))), (a1, .inl (cA, 10, .inl (fun j9 => nI (iv j9)))), (a2, .inl (cA, 10, .inl (fun j9 => nI (gh j9)))), (a3, .inl (cA, 10, .inl (fun j9 => nI (pr j9)))), (a4, .inl (cA, 10, .inl me)), (a5, .inl (cA, 10, .inl rk))] := hD
      have hw4 : ∀ (x0 : Nat → Nat) (x1 : Nat → Nat), x0 = zup wa r ((wa r) - 1) → x1 = iv → va_P (dC, dI) vwCl [(h, .inr (1, [.ref a0, .ref a1, .ref a2, .ref a3, .ref a4, .ref a5, .int (nI n)])), (a0, .inl (cA, 10, .inl (fun j9 => nI (x0 j9)))), (a1, .inl (cA, 10, .inl (fun j9 => nI (x1 j9)))), (a2, .inl (cA, 10, .inl (fun j9 => nI (gh j9)))), (a3, .inl (cA, 10, .inl (fun j9 => nI (pr j9)))), (a4, .inl (cA, 10, .inl me)), (a5, .inl (cA, 10, .inl rk))] H ∧ va_D A [(h, .inr (1, [.ref a0, .ref a1, .ref a2, .ref a3, .ref a4, .ref a5, .int (nI n)])), (a0, .inl (cA, 10, .inl (fun j9 => nI (x0 j9)))), (a1, .inl (cA, 10, .inl (fun j9 => nI (x1 j9)))), (a2, .inl (cA, 10, .inl (fun j9 => nI (gh j9)))), (a3, .inl (cA, 10, .inl (fun j9 => nI (pr j9)))), (a4, .inl (cA, 10, .inl me)), (a5, .inl (cA, 10, .inl rk))] := by
        intro x0 x1 h0 h1; subst h0; subst h1; exact ⟨hP, hD⟩
      obtain ⟨hP, hD⟩ := hw4 (zup wa r (z_wa d (wa r) (iv r))) (zup iv r (z_iv d (wa r) (iv r))) (show (zup wa r (z_wa d (wa r) (iv r))) = zup wa r ((wa r) - 1) from by (first | exact zup_eq _ (by unfold z_wa z_iv; (repeat' split) <;> omega) | exact congrArg (zup _ _) (by unfold z_wa z_iv; (repeat' split) <;> omega))) (show (zup iv r (z_iv d (wa r) (iv r))) = iv from by (first | exact zup_eq _ (by unfold z_iv; (repeat' split) <;> omega) | exact congrArg (zup _ _) (by unfold z_iv; (repeat' split) <;> omega)))
      exact W.vret hx hb hr (fun t ht hW => ⟨⟨(), rfl, trivial, by rw [ht]; exact hP, hD⟩, hS.F ht⟩) hS.2.2 dX2_growIvy_49
  · skip
    replace c_1 := (nI_eq (by omega) (by omega)).mp c_1
    refine lv_aload_n hx hb dX2_growIvy_7 rfl (lv_at hl 0 rfl) ?_
    refine va_get (D := (dC, dI)) (ci := 1) (v := .ref a1) (C := RX2) (T := TX2) (N := 7) hx hb hts i_X2_growIvy_X2 hown hK hP 0 rfl rfl 1 (by decide) (hts (.fieldLink RX2 15 "RuinViews$Ruins" "ivy" "[I") (List.mem_of_getElem? (i := 1) rfl)) (fun _ h9 => h9) rfl dX2_growIvy_8 ?_
    refine lv_iload_n hx hb dX2_growIvy_11 rfl (lv_at hl 1 rfl) ?_
    refine zz_ald hx hb hK hP 2 (f := iv) rfl rfl (by omega) (by decide) dX2_growIvy_12 ?_
    refine lv_bipush (v := nI 12) hx hb dX2_growIvy_13 (by decide) ?_
    refine lv_icmp_ge (tgt := 28) hx hb dX2_growIvy_15 (by decide) (fun c_5 => ?_) (fun c_5 => ?_)
    · skip
      replace c_5 := (nI_leI (by omega) (by omega)).mp c_5
      refine lv_aload_n hx hb dX2_growIvy_28 rfl (lv_at hl 0 rfl) ?_
      refine va_get (D := (dC, dI)) (ci := 1) (v := .ref a1) (C := RX2) (T := TX2) (N := 7) hx hb hts i_X2_growIvy_X2 hown hK hP 0 rfl rfl 1 (by decide) (hts (.fieldLink RX2 15 "RuinViews$Ruins" "ivy" "[I") (List.mem_of_getElem? (i := 1) rfl)) (fun _ h9 => h9) rfl dX2_growIvy_29 ?_
      refine lv_iload_n hx hb dX2_growIvy_32 rfl (lv_at hl 1 rfl) ?_
      refine zz_ald hx hb hK hP 2 (f := iv) rfl rfl (by omega) (by decide) dX2_growIvy_33 ?_
      refine lv_bipush (v := nI 10) hx hb dX2_growIvy_34 (by decide) ?_
      refine lv_icmp_lt (tgt := 49) hx hb dX2_growIvy_36 (by decide) (fun c_6 => ?_) (fun c_6 => ?_)
      · skip
        replace c_6 := (nI_ltI (by omega) (by omega)).mp c_6
        have hw7 : ∀ (x0 : Nat → Nat) (x1 : Nat → Nat), x0 = wa → x1 = iv → va_P (dC, dI) vwCl [(h, .inr (1, [.ref a0, .ref a1, .ref a2, .ref a3, .ref a4, .ref a5, .int (nI n)])), (a0, .inl (cA, 10, .inl (fun j9 => nI (x0 j9)))), (a1, .inl (cA, 10, .inl (fun j9 => nI (x1 j9)))), (a2, .inl (cA, 10, .inl (fun j9 => nI (gh j9)))), (a3, .inl (cA, 10, .inl (fun j9 => nI (pr j9)))), (a4, .inl (cA, 10, .inl me)), (a5, .inl (cA, 10, .inl rk))] s.heap ∧ va_D A [(h, .inr (1, [.ref a0, .ref a1, .ref a2, .ref a3, .ref a4, .ref a5, .int (nI n)])), (a0, .inl (cA, 10, .inl (fun j9 => nI (x0 j9)))), (a1, .inl (cA, 10, .inl (fun j9 => nI (x1 j9)))), (a2, .inl (cA, 10, .inl (fun j9 => nI (gh j9)))), (a3, .inl (cA, 10, .inl (fun j9 => nI (pr j9)))), (a4, .inl (cA, 10, .inl me)), (a5, .inl (cA, 10, .inl rk))] := by
          intro x0 x1 h0 h1; subst h0; subst h1; exact ⟨hP, hD⟩
        obtain ⟨hP, hD⟩ := hw7 (zup wa r (z_wa d (wa r) (iv r))) (zup iv r (z_iv d (wa r) (iv r))) (show (zup wa r (z_wa d (wa r) (iv r))) = wa from by (first | exact zup_eq _ (by unfold z_wa z_iv; (repeat' split) <;> omega) | exact congrArg (zup _ _) (by unfold z_wa z_iv; (repeat' split) <;> omega))) (show (zup iv r (z_iv d (wa r) (iv r))) = iv from by (first | exact zup_eq _ (by unfold z_iv; (repeat' split) <;> omega) | exact congrArg (zup _ _) (by unfold z_iv; (repeat' split) <;> omega)))
        exact W.vret hx hb hr (fun t ht hW => ⟨⟨(), rfl, trivial, by rw [ht]; exact hP, hD⟩, hS.F ht⟩) hS.2.2 dX2_growIvy_49
      · skip
        replace c_6 := mt (nI_ltI (by omega) (by omega)).mpr c_6
        refine lv_aload_n hx hb dX2_growIvy_39 rfl (lv_at hl 0 rfl) ?_
        refine va_get (D := (dC, dI)) (ci := 1) (v := .ref a0) (C := RX2) (T := TX2) (N := 7) hx hb hts i_X2_growIvy_X2 hown hK hP 0 rfl rfl 0 (by decide) (hts (.fieldLink RX2 9 "RuinViews$Ruins" "walls" "[I") (List.mem_of_getElem? (i := 2) rfl)) (fun _ h9 => h9) rfl dX2_growIvy_40 ?_
        refine lv_iload_n hx hb dX2_growIvy_43 rfl (lv_at hl 1 rfl) ?_
        refine lv_dup2_11 hx hb dX2_growIvy_44 rfl rfl ?_
        refine zz_ald hx hb hK hP 1 (f := wa) rfl rfl (by omega) (by decide) dX2_growIvy_45 ?_
        refine lv_iconst (v := nI 1) hx hb dX2_growIvy_46 (by decide) ?_
        refine lv_isub hx hb dX2_growIvy_47 ?_
        refine zz_top (pk_sub (by omega)) ?_
        refine zz_ast hx hb hK hP hD hS 1 (f := wa) rfl rfl (by omega) (by decide) dX2_growIvy_48 (fun H locs hP hD hS => ?_)
        have hP : va_P (dC, dI) vwCl [(h, .inr (1, [.ref a0, .ref a1, .ref a2, .ref a3, .ref a4, .ref a5, .int (nI n)])), (a0, .inl (cA, 10, .inl (fun j9 => nI ((zup wa r ((wa r) - 1)) j9)))), (a1, .inl (cA, 10, .inl (fun j9 => nI (iv j9)))), (a2, .inl (cA, 10, .inl (fun j9 => nI (gh j9)))), (a3, .inl (cA, 10, .inl (fun j9 => nI (pr j9)))), (a4, .inl (cA, 10, .inl me)), (a5, .inl (cA, 10, .inl rk))] H := hP
        have hD : va_D A [(h, .inr (1, [.ref a0, .ref a1, .ref a2, .ref a3, .ref a4, .ref a5, .int (nI n)])), (a0, .inl (cA, 10, .inl (fun j9 => nI ((zup wa r ((wa r) - 1)) j9)))), (a1, .inl (cA, 10, .inl (fun j9 => nI (iv j9)))), (a2, .inl (cA, 10, .inl (fun j9 => nI (gh j9)))), (a3, .inl (cA, 10, .inl (fun j9 => nI (pr j9)))), (a4, .inl (cA, 10, .inl me)), (a5, .inl (cA, 10, .inl rk))] := hD
        have hw8 : ∀ (x0 : Nat → Nat) (x1 : Nat → Nat), x0 = zup wa r ((wa r) - 1) → x1 = iv → va_P (dC, dI) vwCl [(h, .inr (1, [.ref a0, .ref a1, .ref a2, .ref a3, .ref a4, .ref a5, .int (nI n)])), (a0, .inl (cA, 10, .inl (fun j9 => nI (x0 j9)))), (a1, .inl (cA, 10, .inl (fun j9 => nI (x1 j9)))), (a2, .inl (cA, 10, .inl (fun j9 => nI (gh j9)))), (a3, .inl (cA, 10, .inl (fun j9 => nI (pr j9)))), (a4, .inl (cA, 10, .inl me)), (a5, .inl (cA, 10, .inl rk))] H ∧ va_D A [(h, .inr (1, [.ref a0, .ref a1, .ref a2, .ref a3, .ref a4, .ref a5, .int (nI n)])), (a0, .inl (cA, 10, .inl (fun j9 => nI (x0 j9)))), (a1, .inl (cA, 10, .inl (fun j9 => nI (x1 j9)))), (a2, .inl (cA, 10, .inl (fun j9 => nI (gh j9)))), (a3, .inl (cA, 10, .inl (fun j9 => nI (pr j9)))), (a4, .inl (cA, 10, .inl me)), (a5, .inl (cA, 10, .inl rk))] := by
          intro x0 x1 h0 h1; subst h0; subst h1; exact ⟨hP, hD⟩
        obtain ⟨hP, hD⟩ := hw8 (zup wa r (z_wa d (wa r) (iv r))) (zup iv r (z_iv d (wa r) (iv r))) (show (zup wa r (z_wa d (wa r) (iv r))) = zup wa r ((wa r) - 1) from by (first | exact zup_eq _ (by unfold z_wa z_iv; (repeat' split) <;> omega) | exact congrArg (zup _ _) (by unfold z_wa z_iv; (repeat' split) <;> omega))) (show (zup iv r (z_iv d (wa r) (iv r))) = iv from by (first | exact zup_eq _ (by unfold z_iv; (repeat' split) <;> omega) | exact congrArg (zup _ _) (by unfold z_iv; (repeat' split) <;> omega)))
        exact W.vret hx hb hr (fun t ht hW => ⟨⟨(), rfl, trivial, by rw [ht]; exact hP, hD⟩, hS.F ht⟩) hS.2.2 dX2_growIvy_49
    · skip
      replace c_5 := mt (nI_leI (by omega) (by omega)).mpr c_5
      refine lv_aload_n hx hb dX2_growIvy_18 rfl (lv_at hl 0 rfl) ?_
      refine va_get (D := (dC, dI)) (ci := 1) (v := .ref a1) (C := RX2) (T := TX2) (N := 7) hx hb hts i_X2_growIvy_X2 hown hK hP 0 rfl rfl 1 (by decide) (hts (.fieldLink RX2 15 "RuinViews$Ruins" "ivy" "[I") (List.mem_of_getElem? (i := 1) rfl)) (fun _ h9 => h9) rfl dX2_growIvy_19 ?_
      refine lv_iload_n hx hb dX2_growIvy_22 rfl (lv_at hl 1 rfl) ?_
      refine lv_dup2_11 hx hb dX2_growIvy_23 rfl rfl ?_
      refine zz_ald hx hb hK hP 2 (f := iv) rfl rfl (by omega) (by decide) dX2_growIvy_24 ?_
      refine lv_iconst (v := nI 1) hx hb dX2_growIvy_25 (by decide) ?_
      refine lv_iadd hx hb dX2_growIvy_26 ?_
      refine zz_top (nI_add _ _) ?_
      refine zz_ast hx hb hK hP hD hS 2 (f := iv) rfl rfl (by omega) (by decide) dX2_growIvy_27 (fun H locs hP hD hS => ?_)
      have hP : va_P (dC, dI) vwCl [(h, .inr (1, [.ref a0, .ref a1, .ref a2, .ref a3, .ref a4, .ref a5, .int (nI n)])), (a0, .inl (cA, 10, .inl (fun j9 => nI (wa j9)))), (a1, .inl (cA, 10, .inl (fun j9 => nI ((zup iv r ((iv r) + 1)) j9)))), (a2, .inl (cA, 10, .inl (fun j9 => nI (gh j9)))), (a3, .inl (cA, 10, .inl (fun j9 => nI (pr j9)))), (a4, .inl (cA, 10, .inl me)), (a5, .inl (cA, 10, .inl rk))] H := hP
      have hD : va_D A [(h, .inr (1, [.ref a0, .ref a1, .ref a2, .ref a3, .ref a4, .ref a5, .int (nI n)])), (a0, .inl (cA, 10, .inl (fun j9 => nI (wa j9)))), (a1, .inl (cA, 10, .inl (fun j9 => nI ((zup iv r ((iv r) + 1)) j9)))), (a2, .inl (cA, 10, .inl (fun j9 => nI (gh j9)))), (a3, .inl (cA, 10, .inl (fun j9 => nI (pr j9)))), (a4, .inl (cA, 10, .inl me)), (a5, .inl (cA, 10, .inl rk))] := hD
      refine lv_aload_n hx hb dX2_growIvy_28 rfl (lv_at hl 0 rfl) ?_
      refine va_get (D := (dC, dI)) (ci := 1) (v := .ref a1) (C := RX2) (T := TX2) (N := 7) hx hb hts i_X2_growIvy_X2 hown hK hP 0 rfl rfl 1 (by decide) (hts (.fieldLink RX2 15 "RuinViews$Ruins" "ivy" "[I") (List.mem_of_getElem? (i := 1) rfl)) (fun _ h9 => h9) rfl dX2_growIvy_29 ?_
      refine lv_iload_n hx hb dX2_growIvy_32 rfl (lv_at hl 1 rfl) ?_
      refine zz_ald hx hb hK hP 2 (f := zup iv r ((iv r) + 1)) rfl rfl (by omega) (by decide) dX2_growIvy_33 ?_
      refine zz_top (congrArg nI (zup_s _ _ _)) ?_
      refine lv_bipush (v := nI 10) hx hb dX2_growIvy_34 (by decide) ?_
      refine lv_icmp_lt (tgt := 49) hx hb dX2_growIvy_36 (by decide) (fun c_9 => ?_) (fun c_9 => ?_)
      · skip
        replace c_9 := (nI_ltI (by omega) (by omega)).mp c_9
        have hw10 : ∀ (x0 : Nat → Nat) (x1 : Nat → Nat), x0 = wa → x1 = zup iv r ((iv r) + 1) → va_P (dC, dI) vwCl [(h, .inr (1, [.ref a0, .ref a1, .ref a2, .ref a3, .ref a4, .ref a5, .int (nI n)])), (a0, .inl (cA, 10, .inl (fun j9 => nI (x0 j9)))), (a1, .inl (cA, 10, .inl (fun j9 => nI (x1 j9)))), (a2, .inl (cA, 10, .inl (fun j9 => nI (gh j9)))), (a3, .inl (cA, 10, .inl (fun j9 => nI (pr j9)))), (a4, .inl (cA, 10, .inl me)), (a5, .inl (cA, 10, .inl rk))] H ∧ va_D A [(h, .inr (1, [.ref a0, .ref a1, .ref a2, .ref a3, .ref a4, .ref a5, .int (nI n)])), (a0, .inl (cA, 10, .inl (fun j9 => nI (x0 j9)))), (a1, .inl (cA, 10, .inl (fun j9 => nI (x1 j9)))), (a2, .inl (cA, 10, .inl (fun j9 => nI (gh j9)))), (a3, .inl (cA, 10, .inl (fun j9 => nI (pr j9)))), (a4, .inl (cA, 10, .inl me)), (a5, .inl (cA, 10, .inl rk))] := by
          intro x0 x1 h0 h1; subst h0; subst h1; exact ⟨hP, hD⟩
        obtain ⟨hP, hD⟩ := hw10 (zup wa r (z_wa d (wa r) (iv r))) (zup iv r (z_iv d (wa r) (iv r))) (show (zup wa r (z_wa d (wa r) (iv r))) = wa from by (first | exact zup_eq _ (by unfold z_wa z_iv; (repeat' split) <;> omega) | exact congrArg (zup _ _) (by unfold z_wa z_iv; (repeat' split) <;> omega))) (show (zup iv r (z_iv d (wa r) (iv r))) = zup iv r ((iv r) + 1) from by (first | exact zup_eq _ (by unfold z_iv; (repeat' split) <;> omega) | exact congrArg (zup _ _) (by unfold z_iv; (repeat' split) <;> omega)))
        exact W.vret hx hb hr (fun t ht hW => ⟨⟨(), rfl, trivial, by rw [ht]; exact hP, hD⟩, hS.F ht⟩) hS.2.2 dX2_growIvy_49
      · skip
        replace c_9 := mt (nI_ltI (by omega) (by omega)).mpr c_9
        refine lv_aload_n hx hb dX2_growIvy_39 rfl (lv_at hl 0 rfl) ?_
        refine va_get (D := (dC, dI)) (ci := 1) (v := .ref a0) (C := RX2) (T := TX2) (N := 7) hx hb hts i_X2_growIvy_X2 hown hK hP 0 rfl rfl 0 (by decide) (hts (.fieldLink RX2 9 "RuinViews$Ruins" "walls" "[I") (List.mem_of_getElem? (i := 2) rfl)) (fun _ h9 => h9) rfl dX2_growIvy_40 ?_
        refine lv_iload_n hx hb dX2_growIvy_43 rfl (lv_at hl 1 rfl) ?_
        refine lv_dup2_11 hx hb dX2_growIvy_44 rfl rfl ?_
        refine zz_ald hx hb hK hP 1 (f := wa) rfl rfl (by omega) (by decide) dX2_growIvy_45 ?_
        refine lv_iconst (v := nI 1) hx hb dX2_growIvy_46 (by decide) ?_
        refine lv_isub hx hb dX2_growIvy_47 ?_
        refine zz_top (pk_sub (by omega)) ?_
        refine zz_ast hx hb hK hP hD hS 1 (f := wa) rfl rfl (by omega) (by decide) dX2_growIvy_48 (fun H locs hP hD hS => ?_)
        have hP : va_P (dC, dI) vwCl [(h, .inr (1, [.ref a0, .ref a1, .ref a2, .ref a3, .ref a4, .ref a5, .int (nI n)])), (a0, .inl (cA, 10, .inl (fun j9 => nI ((zup wa r ((wa r) - 1)) j9)))), (a1, .inl (cA, 10, .inl (fun j9 => nI ((zup iv r ((iv r) + 1)) j9)))), (a2, .inl (cA, 10, .inl (fun j9 => nI (gh j9)))), (a3, .inl (cA, 10, .inl (fun j9 => nI (pr j9)))), (a4, .inl (cA, 10, .inl me)), (a5, .inl (cA, 10, .inl rk))] H := hP
        have hD : va_D A [(h, .inr (1, [.ref a0, .ref a1, .ref a2, .ref a3, .ref a4, .ref a5, .int (nI n)])), (a0, .inl (cA, 10, .inl (fun j9 => nI ((zup wa r ((wa r) - 1)) j9)))), (a1, .inl (cA, 10, .inl (fun j9 => nI ((zup iv r ((iv r) + 1)) j9)))), (a2, .inl (cA, 10, .inl (fun j9 => nI (gh j9)))), (a3, .inl (cA, 10, .inl (fun j9 => nI (pr j9)))), (a4, .inl (cA, 10, .inl me)), (a5, .inl (cA, 10, .inl rk))] := hD
        have hw11 : ∀ (x0 : Nat → Nat) (x1 : Nat → Nat), x0 = zup wa r ((wa r) - 1) → x1 = zup iv r ((iv r) + 1) → va_P (dC, dI) vwCl [(h, .inr (1, [.ref a0, .ref a1, .ref a2, .ref a3, .ref a4, .ref a5, .int (nI n)])), (a0, .inl (cA, 10, .inl (fun j9 => nI (x0 j9)))), (a1, .inl (cA, 10, .inl (fun j9 => nI (x1 j9)))), (a2, .inl (cA, 10, .inl (fun j9 => nI (gh j9)))), (a3, .inl (cA, 10, .inl (fun j9 => nI (pr j9)))), (a4, .inl (cA, 10, .inl me)), (a5, .inl (cA, 10, .inl rk))] H ∧ va_D A [(h, .inr (1, [.ref a0, .ref a1, .ref a2, .ref a3, .ref a4, .ref a5, .int (nI n)])), (a0, .inl (cA, 10, .inl (fun j9 => nI (x0 j9)))), (a1, .inl (cA, 10, .inl (fun j9 => nI (x1 j9)))), (a2, .inl (cA, 10, .inl (fun j9 => nI (gh j9)))), (a3, .inl (cA, 10, .inl (fun j9 => nI (pr j9)))), (a4, .inl (cA, 10, .inl me)), (a5, .inl (cA, 10, .inl rk))] := by
          intro x0 x1 h0 h1; subst h0; subst h1; exact ⟨hP, hD⟩
        obtain ⟨hP, hD⟩ := hw11 (zup wa r (z_wa d (wa r) (iv r))) (zup iv r (z_iv d (wa r) (iv r))) (show (zup wa r (z_wa d (wa r) (iv r))) = zup wa r ((wa r) - 1) from by (first | exact zup_eq _ (by unfold z_wa z_iv; (repeat' split) <;> omega) | exact congrArg (zup _ _) (by unfold z_wa z_iv; (repeat' split) <;> omega))) (show (zup iv r (z_iv d (wa r) (iv r))) = zup iv r ((iv r) + 1) from by (first | exact zup_eq _ (by unfold z_iv; (repeat' split) <;> omega) | exact congrArg (zup _ _) (by unfold z_iv; (repeat' split) <;> omega)))
        exact W.vret hx hb hr (fun t ht hW => ⟨⟨(), rfl, trivial, by rw [ht]; exact hP, hD⟩, hS.F ht⟩) hS.2.2 dX2_growIvy_49
theorem i_X2_moveGhosts_X2 : ∀ w ∈ u_ws RX2 TX2 7, w ∈ wsX2_moveGhosts := by decide +kernel
set_option maxHeartbeats 4000000 in
set_option maxRecDepth 100000 in
theorem c_X2_moveGhosts (l : Launch) (dC : Nat → ClassId) (dI : Nat → Nat → Nat) (cA : ClassId) (h : Nat) (a0 : Nat) (a1 : Nat) (a2 : Nat) (a3 : Nat) (a4 : Nat) (a5 : Nat) (n : Nat) (wa : Nat → Nat) (iv : Nat → Nat) (gh : Nat → Nat) (pr : Nat → Nat) (me : Nat → Int32) (rk : Nat → Int32) (r : Nat) (b : Nat) (sz : Nat) (hrn : r < 10) (hw : wa r ≤ 20) (hi : iv r ≤ 12) (hg : gh r ≤ 5) (hb4 : b ≤ 4) : Met l yX2_moveGhosts wsX2_moveGhosts ({ frames := 1, cells := 0, slots := 0, locals := 22 } : Room) (va_Pc [.ref h, .int (nI r), .int (nI b)] (fun U => U.heap.size = sz ∧ va_P (dC, dI) vwCl [(h, .inr (1, [.ref a0, .ref a1, .ref a2, .ref a3, .ref a4, .ref a5, .int (nI n)])), (a0, .inl (cA, 10, .inl (fun j9 => nI (wa j9)))), (a1, .inl (cA, 10, .inl (fun j9 => nI (iv j9)))), (a2, .inl (cA, 10, .inl (fun j9 => nI (gh j9)))), (a3, .inl (cA, 10, .inl (fun j9 => nI (pr j9)))), (a4, .inl (cA, 10, .inl me)), (a5, .inl (cA, 10, .inl rk))] U.heap ∧ va_K (dC, dI) vwCl [(cA, .int)] U ∧ va_D (fun _ => True) [(h, .inr (1, [.ref a0, .ref a1, .ref a2, .ref a3, .ref a4, .ref a5, .int (nI n)])), (a0, .inl (cA, 10, .inl (fun j9 => nI (wa j9)))), (a1, .inl (cA, 10, .inl (fun j9 => nI (iv j9)))), (a2, .inl (cA, 10, .inl (fun j9 => nI (gh j9)))), (a3, .inl (cA, 10, .inl (fun j9 => nI (pr j9)))), (a4, .inl (cA, 10, .inl me)), (a5, .inl (cA, 10, .inl rk))])) (va_Qv (fun _ : Unit => True) (fun (_ : Unit) t => va_P (dC, dI) vwCl [(h, .inr (1, [.ref a0, .ref a1, .ref a2, .ref a3, .ref a4, .ref a5, .int (nI n)])), (a0, .inl (cA, 10, .inl (fun j9 => nI (wa j9)))), (a1, .inl (cA, 10, .inl (fun j9 => nI (iv j9)))), (a2, .inl (cA, 10, .inl (fun j9 => nI ((zup gh r (z_gb b (wa r) (iv r) (gh r))) j9)))), (a3, .inl (cA, 10, .inl (fun j9 => nI (pr j9)))), (a4, .inl (cA, 10, .inl me)), (a5, .inl (cA, 10, .inl rk))] t.heap ∧ va_D (va_A [(h, .inr (1, [.ref a0, .ref a1, .ref a2, .ref a3, .ref a4, .ref a5, .int (nI n)])), (a0, .inl (cA, 10, .inl (fun j9 => nI (wa j9)))), (a1, .inl (cA, 10, .inl (fun j9 => nI (iv j9)))), (a2, .inl (cA, 10, .inl (fun j9 => nI (gh j9)))), (a3, .inl (cA, 10, .inl (fun j9 => nI (pr j9)))), (a4, .inl (cA, 10, .inl me)), (a5, .inl (cA, 10, .inl rk))] sz) [(h, .inr (1, [.ref a0, .ref a1, .ref a2, .ref a3, .ref a4, .ref a5, .int (nI n)])), (a0, .inl (cA, 10, .inl (fun j9 => nI (wa j9)))), (a1, .inl (cA, 10, .inl (fun j9 => nI (iv j9)))), (a2, .inl (cA, 10, .inl (fun j9 => nI ((zup gh r (z_gb b (wa r) (iv r) (gh r))) j9)))), (a3, .inl (cA, 10, .inl (fun j9 => nI (pr j9)))), (a4, .inl (cA, 10, .inl me)), (a5, .inl (cA, 10, .inl rk))]) (va_A [(h, .inr (1, [.ref a0, .ref a1, .ref a2, .ref a3, .ref a4, .ref a5, .int (nI n)])), (a0, .inl (cA, 10, .inl (fun j9 => nI (wa j9)))), (a1, .inl (cA, 10, .inl (fun j9 => nI (iv j9)))), (a2, .inl (cA, 10, .inl (fun j9 => nI (gh j9)))), (a3, .inl (cA, 10, .inl (fun j9 => nI (pr j9)))), (a4, .inl (cA, 10, .inl me)), (a5, .inl (cA, 10, .inl rk))] sz)) 0 0 (va_A [(h, .inr (1, [.ref a0, .ref a1, .ref a2, .ref a3, .ref a4, .ref a5, .int (nI n)])), (a0, .inl (cA, 10, .inl (fun j9 => nI (wa j9)))), (a1, .inl (cA, 10, .inl (fun j9 => nI (iv j9)))), (a2, .inl (cA, 10, .inl (fun j9 => nI (gh j9)))), (a3, .inl (cA, 10, .inl (fun j9 => nI (pr j9)))), (a4, .inl (cA, 10, .inl me)), (a5, .inl (cA, 10, .inl rk))] sz) := by
  refine Met.ofW (cc := cX2_moveGhosts) (maxL := 4) (ret := none) (by decide) rfl ?_
  intro p e s m args below meth c s₁ B hml hv
  obtain ⟨hargs, hsz, hP, hK, hD0⟩ := hv
  have hx := B.exec
  have hb := B.bytes
  have hr := B.returns
  have hts := atoms_spec (ws := wsX2_moveGhosts) B.pre
  have hown : s.vm.findClass RX2 = some m.cls := findClass_of_methodNamed B.named
  have hlocks := B.notSynchronized
  subst hsz
  have hD := hD0.self (sz := s.heap.size)
  generalize hAe : va_A [(h, .inr (1, [.ref a0, .ref a1, .ref a2, .ref a3, .ref a4, .ref a5, .int (nI n)])), (a0, .inl (cA, 10, .inl (fun j9 => nI (wa j9)))), (a1, .inl (cA, 10, .inl (fun j9 => nI (iv j9)))), (a2, .inl (cA, 10, .inl (fun j9 => nI (gh j9)))), (a3, .inl (cA, 10, .inl (fun j9 => nI (pr j9)))), (a4, .inl (cA, 10, .inl me)), (a5, .inl (cA, 10, .inl rk))] s.heap.size = A at hD ⊢
  have hA : ∀ q : Nat, s.heap.size ≤ q → A q := fun q h => by rw [← hAe]; exact Or.inr h
  have hS : va_S A s.heap s.heap [] := va_S.rf
  have hP : va_P (dC, dI) vwCl [(h, .inr (1, [.ref a0, .ref a1, .ref a2, .ref a3, .ref a4, .ref a5, .int (nI n)])), (a0, .inl (cA, 10, .inl (fun j9 => nI (wa j9)))), (a1, .inl (cA, 10, .inl (fun j9 => nI (iv j9)))), (a2, .inl (cA, 10, .inl (fun j9 => nI (gh j9)))), (a3, .inl (cA, 10, .inl (fun j9 => nI (pr j9)))), (a4, .inl (cA, 10, .inl me)), (a5, .inl (cA, 10, .inl rk))] s.heap := hP
  have hl := lv_entry ([.ref h, .int (nI r), .int (nI b)]) (n := 4) (Nat.le_of_ble_eq_true rfl)
  rw [hargs, lg_entry_eq, ← hargs]
  generalize (lg_sl ([.ref h, .int (nI r), .int (nI b)]) ++ List.replicate (4 - (lg_sl ([.ref h, .int (nI r), .int (nI b)])).length) Slot.unset).toArray = ls at hl ⊢
  have hl : lv_has ls 4 [(0, .ref h), (1, .int (nI r)), (2, .int (nI b))] := hl
  have hz9 := zg_le (iv r)
  refine lv_aload_n hx hb dX2_moveGhosts_0 rfl (lv_at hl 0 rfl) ?_
  refine va_get (D := (dC, dI)) (ci := 1) (v := .ref a0) (C := RX2) (T := TX2) (N := 7) hx hb hts i_X2_moveGhosts_X2 hown hK hP 0 rfl rfl 0 (by decide) (hts (.fieldLink RX2 9 "RuinViews$Ruins" "walls" "[I") (List.mem_of_getElem? (i := 1) rfl)) (fun _ h9 => h9) rfl dX2_moveGhosts_1 ?_
  refine lv_iload_n hx hb dX2_moveGhosts_4 rfl (lv_at hl 1 rfl) ?_
  refine zz_ald hx hb hK hP 1 (f := wa) rfl rfl (by omega) (by decide) dX2_moveGhosts_5 ?_
  refine lv_if_ne (tgt := 13) hx hb dX2_moveGhosts_6 (by decide) (fun c_1 => ?_) (fun c_1 => ?_)
  · skip
    replace c_1 := mt (zz_eq0 (by omega)).mpr c_1
    refine lv_iconst (v := nI 0) hx hb dX2_moveGhosts_13 (by decide) ?_
    refine lv_istore_n (lv' := [(3, .int (nI 0)), (0, .ref h), (1, .int (nI r)), (2, .int (nI b))]) hx hb dX2_moveGhosts_14 rfl hl (by decide) rfl (fun ls hl => ?_)
    refine lv_iload_n hx hb dX2_moveGhosts_15 rfl (lv_at hl 3 rfl) ?_
    refine lv_iconst (v := nI 4) hx hb dX2_moveGhosts_16 (by decide) ?_
    refine lv_icmp_ne (tgt := 56) hx hb dX2_moveGhosts_17 (by decide) (fun c_2 => ?_) (fun c_2 => ?_)
    · skip
      replace c_2 := mt (nI_eq (by omega) (by omega)).mpr c_2
      refine lv_iload_n hx hb dX2_moveGhosts_56 rfl (lv_at hl 3 rfl) ?_
      refine lv_if_ne (tgt := 91) hx hb dX2_moveGhosts_57 (by decide) (fun c_3 => ?_) (fun c_3 => ?_)
      · skip
        replace c_3 := mt (zz_eq0 (by omega)).mpr c_3
        have hw4 : ∀ (x0 : Nat → Nat), x0 = gh → va_P (dC, dI) vwCl [(h, .inr (1, [.ref a0, .ref a1, .ref a2, .ref a3, .ref a4, .ref a5, .int (nI n)])), (a0, .inl (cA, 10, .inl (fun j9 => nI (wa j9)))), (a1, .inl (cA, 10, .inl (fun j9 => nI (iv j9)))), (a2, .inl (cA, 10, .inl (fun j9 => nI (x0 j9)))), (a3, .inl (cA, 10, .inl (fun j9 => nI (pr j9)))), (a4, .inl (cA, 10, .inl me)), (a5, .inl (cA, 10, .inl rk))] s.heap ∧ va_D A [(h, .inr (1, [.ref a0, .ref a1, .ref a2, .ref a3, .ref a4, .ref a5, .int (nI n)])), (a0, .inl (cA, 10, .inl (fun j9 => nI (wa j9)))), (a1, .inl (cA, 10, .inl (fun j9 => nI (iv j9)))), (a2, .inl (cA, 10, .inl (fun j9 => nI (x0 j9)))), (a3, .inl (cA, 10, .inl (fun j9 => nI (pr j9)))), (a4, .inl (cA, 10, .inl me)), (a5, .inl (cA, 10, .inl rk))] := by
          intro x0 h0; subst h0; exact ⟨hP, hD⟩
        obtain ⟨hP, hD⟩ := hw4 (zup gh r (z_gb b (wa r) (iv r) (gh r))) (show (zup gh r (z_gb b (wa r) (iv r) (gh r))) = gh from by (first | exact zup_eq _ (by unfold z_gb; (repeat' split) <;> omega) | exact congrArg (zup _ _) (by unfold z_gb; (repeat' split) <;> omega)))
        exact W.vret hx hb hr (fun t ht hW => ⟨⟨(), rfl, trivial, by rw [ht]; exact hP, hD⟩, hS.F ht⟩) hS.2.2 dX2_moveGhosts_91
      · skip
        replace c_3 := (zz_eq0 (by omega)).mp c_3
        refine lv_aload_n hx hb dX2_moveGhosts_60 rfl (lv_at hl 1 rfl) ?_
        refine va_get (D := (dC, dI)) (ci := 1) (v := .ref a2) (C := RX2) (T := TX2) (N := 7) hx hb hts i_X2_moveGhosts_X2 hown hK hP 0 rfl rfl 2 (by decide) (hts (.fieldLink RX2 18 "RuinViews$Ruins" "ghosts" "[I") (List.mem_of_getElem? (i := 2) rfl)) (fun _ h9 => h9) rfl dX2_moveGhosts_61 ?_
        refine lv_iload_n hx hb dX2_moveGhosts_64 rfl (lv_at hl 2 rfl) ?_
        refine zz_ald hx hb hK hP 3 (f := gh) rfl rfl (by omega) (by decide) dX2_moveGhosts_65 ?_
        refine lv_if_le (tgt := 91) hx hb dX2_moveGhosts_66 (by decide) (fun c_5 => ?_) (fun c_5 => ?_)
        · skip
          replace c_5 := (zz_lez (by omega)).mp c_5
          have hw6 : ∀ (x0 : Nat → Nat), x0 = gh → va_P (dC, dI) vwCl [(h, .inr (1, [.ref a0, .ref a1, .ref a2, .ref a3, .ref a4, .ref a5, .int (nI n)])), (a0, .inl (cA, 10, .inl (fun j9 => nI (wa j9)))), (a1, .inl (cA, 10, .inl (fun j9 => nI (iv j9)))), (a2, .inl (cA, 10, .inl (fun j9 => nI (x0 j9)))), (a3, .inl (cA, 10, .inl (fun j9 => nI (pr j9)))), (a4, .inl (cA, 10, .inl me)), (a5, .inl (cA, 10, .inl rk))] s.heap ∧ va_D A [(h, .inr (1, [.ref a0, .ref a1, .ref a2, .ref a3, .ref a4, .ref a5, .int (nI n)])), (a0, .inl (cA, 10, .inl (fun j9 => nI (wa j9)))), (a1, .inl (cA, 10, .inl (fun j9 => nI (iv j9)))), (a2, .inl (cA, 10, .inl (fun j9 => nI (x0 j9)))), (a3, .inl (cA, 10, .inl (fun j9 => nI (pr j9)))), (a4, .inl (cA, 10, .inl me)), (a5, .inl (cA, 10, .inl rk))] := by
            intro x0 h0; subst h0; exact ⟨hP, hD⟩
          obtain ⟨hP, hD⟩ := hw6 (zup gh r (z_gb b (wa r) (iv r) (gh r))) (show (zup gh r (z_gb b (wa r) (iv r) (gh r))) = gh from by (first | exact zup_eq _ (by unfold z_gb; (repeat' split) <;> omega) | exact congrArg (zup _ _) (by unfold z_gb; (repeat' split) <;> omega)))
          exact W.vret hx hb hr (fun t ht hW => ⟨⟨(), rfl, trivial, by rw [ht]; exact hP, hD⟩, hS.F ht⟩) hS.2.2 dX2_moveGhosts_91
        · skip
          replace c_5 := mt (zz_lez (by omega)).mpr c_5
          refine lv_iload_n hx hb dX2_moveGhosts_69 rfl (lv_at hl 0 rfl) ?_
          refine lv_if_ne (tgt := 81) hx hb dX2_moveGhosts_70 (by decide) (fun c_7 => ?_) (fun c_7 => ?_)
          · skip
            replace c_7 := mt (zz_eq0 (by omega)).mpr c_7
            refine lv_aload_n hx hb dX2_moveGhosts_81 rfl (lv_at hl 1 rfl) ?_
            refine va_get (D := (dC, dI)) (ci := 1) (v := .ref a2) (C := RX2) (T := TX2) (N := 7) hx hb hts i_X2_moveGhosts_X2 hown hK hP 0 rfl rfl 2 (by decide) (hts (.fieldLink RX2 18 "RuinViews$Ruins" "ghosts" "[I") (List.mem_of_getElem? (i := 2) rfl)) (fun _ h9 => h9) rfl dX2_moveGhosts_82 ?_
            refine lv_iload_n hx hb dX2_moveGhosts_85 rfl (lv_at hl 2 rfl) ?_
            refine lv_dup2_11 hx hb dX2_moveGhosts_86 rfl rfl ?_
            refine zz_ald hx hb hK hP 3 (f := gh) rfl rfl (by omega) (by decide) dX2_moveGhosts_87 ?_
            refine lv_iconst (v := nI 1) hx hb dX2_moveGhosts_88 (by decide) ?_
            refine lv_isub hx hb dX2_moveGhosts_89 ?_
            refine zz_top (pk_sub (by omega)) ?_
            refine zz_ast hx hb hK hP hD hS 3 (f := gh) rfl rfl (by omega) (by decide) dX2_moveGhosts_90 (fun H locs hP hD hS => ?_)
            have hP : va_P (dC, dI) vwCl [(h, .inr (1, [.ref a0, .ref a1, .ref a2, .ref a3, .ref a4, .ref a5, .int (nI n)])), (a0, .inl (cA, 10, .inl (fun j9 => nI (wa j9)))), (a1, .inl (cA, 10, .inl (fun j9 => nI (iv j9)))), (a2, .inl (cA, 10, .inl (fun j9 => nI ((zup gh r ((gh r) - 1)) j9)))), (a3, .inl (cA, 10, .inl (fun j9 => nI (pr j9)))), (a4, .inl (cA, 10, .inl me)), (a5, .inl (cA, 10, .inl rk))] H := hP
            have hD : va_D A [(h, .inr (1, [.ref a0, .ref a1, .ref a2, .ref a3, .ref a4, .ref a5, .int (nI n)])), (a0, .inl (cA, 10, .inl (fun j9 => nI (wa j9)))), (a1, .inl (cA, 10, .inl (fun j9 => nI (iv j9)))), (a2, .inl (cA, 10, .inl (fun j9 => nI ((zup gh r ((gh r) - 1)) j9)))), (a3, .inl (cA, 10, .inl (fun j9 => nI (pr j9)))), (a4, .inl (cA, 10, .inl me)), (a5, .inl (cA, 10, .inl rk))] := hD
            have hw8 : ∀ (x0 : Nat → Nat), x0 = zup gh r ((gh r) - 1) → va_P (dC, dI) vwCl [(h, .inr (1, [.ref a0, .ref a1, .ref a2, .ref a3, .ref a4, .ref a5, .int (nI n)])), (a0, .inl (cA, 10, .inl (fun j9 => nI (wa j9)))), (a1, .inl (cA, 10, .inl (fun j9 => nI (iv j9)))), (a2, .inl (cA, 10, .inl (fun j9 => nI (x0 j9)))), (a3, .inl (cA, 10, .inl (fun j9 => nI (pr j9)))), (a4, .inl (cA, 10, .inl me)), (a5, .inl (cA, 10, .inl rk))] H ∧ va_D A [(h, .inr (1, [.ref a0, .ref a1, .ref a2, .ref a3, .ref a4, .ref a5, .int (nI n)])), (a0, .inl (cA, 10, .inl (fun j9 => nI (wa j9)))), (a1, .inl (cA, 10, .inl (fun j9 => nI (iv j9)))), (a2, .inl (cA, 10, .inl (fun j9 => nI (x0 j9)))), (a3, .inl (cA, 10, .inl (fun j9 => nI (pr j9)))), (a4, .inl (cA, 10, .inl me)), (a5, .inl (cA, 10, .inl rk))] := by
              intro x0 h0; subst h0; exact ⟨hP, hD⟩
            obtain ⟨hP, hD⟩ := hw8 (zup gh r (z_gb b (wa r) (iv r) (gh r))) (show (zup gh r (z_gb b (wa r) (iv r) (gh r))) = zup gh r ((gh r) - 1) from by (first | exact zup_eq _ (by unfold z_gb; (repeat' split) <;> omega) | exact congrArg (zup _ _) (by unfold z_gb; (repeat' split) <;> omega)))
            exact W.vret hx hb hr (fun t ht hW => ⟨⟨(), rfl, trivial, by rw [ht]; exact hP, hD⟩, hS.F ht⟩) hS.2.2 dX2_moveGhosts_91
          · skip
            replace c_7 := (zz_eq0 (by omega)).mp c_7
            refine lv_aload_n hx hb dX2_moveGhosts_73 rfl (lv_at hl 1 rfl) ?_
            refine lv_iload_n hx hb dX2_moveGhosts_74 rfl (lv_at hl 2 rfl) ?_
            have hPc := hP.sub (ws' := [(h, .inr (1, [.ref a0, .ref a1, .ref a2, .ref a3, .ref a4, .ref a5, .int (nI n)])), (a0, .inl (cA, 10, .inl (fun j9 => nI (wa j9)))), (a1, .inl (cA, 10, .inl (fun j9 => nI (iv j9)))), (a2, .inl (cA, 10, .inl (fun j9 => nI (gh j9)))), (a3, .inl (cA, 10, .inl (fun j9 => nI (pr j9)))), (a4, .inl (cA, 10, .inl me)), (a5, .inl (cA, 10, .inl rk))]) [0, 1, 2, 3, 4, 5, 6] rfl
            refine vp_callSi (W.runV (As := [.int (nI r)]) (rest := []) ⟨hx, hb, hml, hown, hts⟩ (c_X2_grade l dC dI cA h a0 a1 a2 a3 a4 a5 n wa iv gh pr me rk r (by first | assumption | omega) (by first | assumption | omega)) (cwV 1 hts gX2_moveGhosts_X2_grade rfl rfl rfl (by decide +kernel) ⟨Nat.le_of_ble_eq_true rfl, Nat.le_of_ble_eq_true rfl⟩) ⟨fun a U g mk q => by obtain ⟨q0, qP, qK⟩ := q; exact ⟨q0, qP, va_K.moved (u := U) (U := U.calling g mk a) (Vm.Alike.refl U.vm) qK⟩, va_recv hK hP (ci := 1) (q0 := 0) rfl rfl, fun U hU hW => ⟨rfl, by rw [hU]; exact hPc, va_K.moved hW.alike hK⟩⟩ rfl rfl hl.1 rfl (lv_room (Nat.le_of_ble_eq_true rfl)) dX2_moveGhosts_75 ⟨Nat.le_of_ble_eq_true rfl, Nat.le_of_ble_eq_true rfl⟩) (fun r_9 hw_9 => ?_)
            subst hw_9
            refine lv_if_ne (tgt := 91) hx hb dX2_moveGhosts_78 (by decide) (fun c_10 => ?_) (fun c_10 => ?_)
            · skip
              replace c_10 := mt (zz_eq0 (by omega)).mpr c_10
              have hw11 : ∀ (x0 : Nat → Nat), x0 = gh → va_P (dC, dI) vwCl [(h, .inr (1, [.ref a0, .ref a1, .ref a2, .ref a3, .ref a4, .ref a5, .int (nI n)])), (a0, .inl (cA, 10, .inl (fun j9 => nI (wa j9)))), (a1, .inl (cA, 10, .inl (fun j9 => nI (iv j9)))), (a2, .inl (cA, 10, .inl (fun j9 => nI (x0 j9)))), (a3, .inl (cA, 10, .inl (fun j9 => nI (pr j9)))), (a4, .inl (cA, 10, .inl me)), (a5, .inl (cA, 10, .inl rk))] s.heap ∧ va_D A [(h, .inr (1, [.ref a0, .ref a1, .ref a2, .ref a3, .ref a4, .ref a5, .int (nI n)])), (a0, .inl (cA, 10, .inl (fun j9 => nI (wa j9)))), (a1, .inl (cA, 10, .inl (fun j9 => nI (iv j9)))), (a2, .inl (cA, 10, .inl (fun j9 => nI (x0 j9)))), (a3, .inl (cA, 10, .inl (fun j9 => nI (pr j9)))), (a4, .inl (cA, 10, .inl me)), (a5, .inl (cA, 10, .inl rk))] := by
                intro x0 h0; subst h0; exact ⟨hP, hD⟩
              obtain ⟨hP, hD⟩ := hw11 (zup gh r (z_gb b (wa r) (iv r) (gh r))) (show (zup gh r (z_gb b (wa r) (iv r) (gh r))) = gh from by (first | exact zup_eq _ (by unfold z_gb; (repeat' split) <;> omega) | exact congrArg (zup _ _) (by unfold z_gb; (repeat' split) <;> omega)))
              exact W.vret hx hb hr (fun t ht hW => ⟨⟨(), rfl, trivial, by rw [ht]; exact hP, hD⟩, hS.F ht⟩) hS.2.2 dX2_moveGhosts_91
            · skip
              replace c_10 := (zz_eq0 (by omega)).mp c_10
              refine lv_aload_n hx hb dX2_moveGhosts_81 rfl (lv_at hl 1 rfl) ?_
              refine va_get (D := (dC, dI)) (ci := 1) (v := .ref a2) (C := RX2) (T := TX2) (N := 7) hx hb hts i_X2_moveGhosts_X2 hown hK hP 0 rfl rfl 2 (by decide) (hts (.fieldLink RX2 18 "RuinViews$Ruins" "ghosts" "[I") (List.mem_of_getElem? (i := 2) rfl)) (fun _ h9 => h9) rfl dX2_moveGhosts_82 ?_
              refine lv_iload_n hx hb dX2_moveGhosts_85 rfl (lv_at hl 2 rfl) ?_
              refine lv_dup2_11 hx hb dX2_moveGhosts_86 rfl rfl ?_
              refine zz_ald hx hb hK hP 3 (f := gh) rfl rfl (by omega) (by decide) dX2_moveGhosts_87 ?_
              refine lv_iconst (v := nI 1) hx hb dX2_moveGhosts_88 (by decide) ?_
              refine lv_isub hx hb dX2_moveGhosts_89 ?_
              refine zz_top (pk_sub (by omega)) ?_
              refine zz_ast hx hb hK hP hD hS 3 (f := gh) rfl rfl (by omega) (by decide) dX2_moveGhosts_90 (fun H locs hP hD hS => ?_)
              have hP : va_P (dC, dI) vwCl [(h, .inr (1, [.ref a0, .ref a1, .ref a2, .ref a3, .ref a4, .ref a5, .int (nI n)])), (a0, .inl (cA, 10, .inl (fun j9 => nI (wa j9)))), (a1, .inl (cA, 10, .inl (fun j9 => nI (iv j9)))), (a2, .inl (cA, 10, .inl (fun j9 => nI ((zup gh r ((gh r) - 1)) j9)))), (a3, .inl (cA, 10, .inl (fun j9 => nI (pr j9)))), (a4, .inl (cA, 10, .inl me)), (a5, .inl (cA, 10, .inl rk))] H := hP
              have hD : va_D A [(h, .inr (1, [.ref a0, .ref a1, .ref a2, .ref a3, .ref a4, .ref a5, .int (nI n)])), (a0, .inl (cA, 10, .inl (fun j9 => nI (wa j9)))), (a1, .inl (cA, 10, .inl (fun j9 => nI (iv j9)))), (a2, .inl (cA, 10, .inl (fun j9 => nI ((zup gh r ((gh r) - 1)) j9)))), (a3, .inl (cA, 10, .inl (fun j9 => nI (pr j9)))), (a4, .inl (cA, 10, .inl me)), (a5, .inl (cA, 10, .inl rk))] := hD
              have hw12 : ∀ (x0 : Nat → Nat), x0 = zup gh r ((gh r) - 1) → va_P (dC, dI) vwCl [(h, .inr (1, [.ref a0, .ref a1, .ref a2, .ref a3, .ref a4, .ref a5, .int (nI n)])), (a0, .inl (cA, 10, .inl (fun j9 => nI (wa j9)))), (a1, .inl (cA, 10, .inl (fun j9 => nI (iv j9)))), (a2, .inl (cA, 10, .inl (fun j9 => nI (x0 j9)))), (a3, .inl (cA, 10, .inl (fun j9 => nI (pr j9)))), (a4, .inl (cA, 10, .inl me)), (a5, .inl (cA, 10, .inl rk))] H ∧ va_D A [(h, .inr (1, [.ref a0, .ref a1, .ref a2, .ref a3, .ref a4, .ref a5, .int (nI n)])), (a0, .inl (cA, 10, .inl (fun j9 => nI (wa j9)))), (a1, .inl (cA, 10, .inl (fun j9 => nI (iv j9)))), (a2, .inl (cA, 10, .inl (fun j9 => nI (x0 j9)))), (a3, .inl (cA, 10, .inl (fun j9 => nI (pr j9)))), (a4, .inl (cA, 10, .inl me)), (a5, .inl (cA, 10, .inl rk))] := by
                intro x0 h0; subst h0; exact ⟨hP, hD⟩
              obtain ⟨hP, hD⟩ := hw12 (zup gh r (z_gb b (wa r) (iv r) (gh r))) (show (zup gh r (z_gb b (wa r) (iv r) (gh r))) = zup gh r ((gh r) - 1) from by (first | exact zup_eq _ (by unfold z_gb; (repeat' split) <;> omega) | exact congrArg (zup _ _) (by unfold z_gb; (repeat' split) <;> omega)))
              exact W.vret hx hb hr (fun t ht hW => ⟨⟨(), rfl, trivial, by rw [ht]; exact hP, hD⟩, hS.F ht⟩) hS.2.2 dX2_moveGhosts_91
    · skip
      replace c_2 := (nI_eq (by omega) (by omega)).mp c_2
      refine lv_iload_n hx hb dX2_moveGhosts_20 rfl (lv_at hl 0 rfl) ?_
      refine lv_if_ne (tgt := 91) hx hb dX2_moveGhosts_21 (by decide) (fun c_13 => ?_) (fun c_13 => ?_)
      · skip
        replace c_13 := mt (zz_eq0 (by omega)).mpr c_13
        have hw14 : ∀ (x0 : Nat → Nat), x0 = gh → va_P (dC, dI) vwCl [(h, .inr (1, [.ref a0, .ref a1, .ref a2, .ref a3, .ref a4, .ref a5, .int (nI n)])), (a0, .inl (cA, 10, .inl (fun j9 => nI (wa j9)))), (a1, .inl (cA, 10, .inl (fun j9 => nI (iv j9)))), (a2, .inl (cA, 10, .inl (fun j9 => nI (x0 j9)))), (a3, .inl (cA, 10, .inl (fun j9 => nI (pr j9)))), (a4, .inl (cA, 10, .inl me)), (a5, .inl (cA, 10, .inl rk))] s.heap ∧ va_D A [(h, .inr (1, [.ref a0, .ref a1, .ref a2, .ref a3, .ref a4, .ref a5, .int (nI n)])), (a0, .inl (cA, 10, .inl (fun j9 => nI (wa j9)))), (a1, .inl (cA, 10, .inl (fun j9 => nI (iv j9)))), (a2, .inl (cA, 10, .inl (fun j9 => nI (x0 j9)))), (a3, .inl (cA, 10, .inl (fun j9 => nI (pr j9)))), (a4, .inl (cA, 10, .inl me)), (a5, .inl (cA, 10, .inl rk))] := by
          intro x0 h0; subst h0; exact ⟨hP, hD⟩
        obtain ⟨hP, hD⟩ := hw14 (zup gh r (z_gb b (wa r) (iv r) (gh r))) (show (zup gh r (z_gb b (wa r) (iv r) (gh r))) = gh from by (first | exact zup_eq _ (by unfold z_gb; (repeat' split) <;> omega) | exact congrArg (zup _ _) (by unfold z_gb; (repeat' split) <;> omega)))
        exact W.vret hx hb hr (fun t ht hW => ⟨⟨(), rfl, trivial, by rw [ht]; exact hP, hD⟩, hS.F ht⟩) hS.2.2 dX2_moveGhosts_91
      · skip
        replace c_13 := (zz_eq0 (by omega)).mp c_13
        refine lv_aload_n hx hb dX2_moveGhosts_24 rfl (lv_at hl 1 rfl) ?_
        refine lv_iload_n hx hb dX2_moveGhosts_25 rfl (lv_at hl 2 rfl) ?_
        have hPc := hP.sub (ws' := [(h, .inr (1, [.ref a0, .ref a1, .ref a2, .ref a3, .ref a4, .ref a5, .int (nI n)])), (a0, .inl (cA, 10, .inl (fun j9 => nI (wa j9)))), (a1, .inl (cA, 10, .inl (fun j9 => nI (iv j9)))), (a2, .inl (cA, 10, .inl (fun j9 => nI (gh j9)))), (a3, .inl (cA, 10, .inl (fun j9 => nI (pr j9)))), (a4, .inl (cA, 10, .inl me)), (a5, .inl (cA, 10, .inl rk))]) [0, 1, 2, 3, 4, 5, 6] rfl
        refine vp_callSi (W.runV (As := [.int (nI r)]) (rest := []) ⟨hx, hb, hml, hown, hts⟩ (c_X2_grade l dC dI cA h a0 a1 a2 a3 a4 a5 n wa iv gh pr me rk r (by first | assumption | omega) (by first | assumption | omega)) (cwV 1 hts gX2_moveGhosts_X2_grade rfl rfl rfl (by decide +kernel) ⟨Nat.le_of_ble_eq_true rfl, Nat.le_of_ble_eq_true rfl⟩) ⟨fun a U g mk q => by obtain ⟨q0, qP, qK⟩ := q; exact ⟨q0, qP, va_K.moved (u := U) (U := U.calling g mk a) (Vm.Alike.refl U.vm) qK⟩, va_recv hK hP (ci := 1) (q0 := 0) rfl rfl, fun U hU hW => ⟨rfl, by rw [hU]; exact hPc, va_K.moved hW.alike hK⟩⟩ rfl rfl hl.1 rfl (lv_room (Nat.le_of_ble_eq_true rfl)) dX2_moveGhosts_26 ⟨Nat.le_of_ble_eq_true rfl, Nat.le_of_ble_eq_true rfl⟩) (fun r_15 hw_15 => ?_)
        subst hw_15
        refine lv_iconst (v := nI 3) hx hb dX2_moveGhosts_29 (by decide) ?_
        refine lv_icmp_ne (tgt := 91) hx hb dX2_moveGhosts_30 (by decide) (fun c_16 => ?_) (fun c_16 => ?_)
        · skip
          replace c_16 := mt (nI_eq (by omega) (by omega)).mpr c_16
          have hw17 : ∀ (x0 : Nat → Nat), x0 = gh → va_P (dC, dI) vwCl [(h, .inr (1, [.ref a0, .ref a1, .ref a2, .ref a3, .ref a4, .ref a5, .int (nI n)])), (a0, .inl (cA, 10, .inl (fun j9 => nI (wa j9)))), (a1, .inl (cA, 10, .inl (fun j9 => nI (iv j9)))), (a2, .inl (cA, 10, .inl (fun j9 => nI (x0 j9)))), (a3, .inl (cA, 10, .inl (fun j9 => nI (pr j9)))), (a4, .inl (cA, 10, .inl me)), (a5, .inl (cA, 10, .inl rk))] s.heap ∧ va_D A [(h, .inr (1, [.ref a0, .ref a1, .ref a2, .ref a3, .ref a4, .ref a5, .int (nI n)])), (a0, .inl (cA, 10, .inl (fun j9 => nI (wa j9)))), (a1, .inl (cA, 10, .inl (fun j9 => nI (iv j9)))), (a2, .inl (cA, 10, .inl (fun j9 => nI (x0 j9)))), (a3, .inl (cA, 10, .inl (fun j9 => nI (pr j9)))), (a4, .inl (cA, 10, .inl me)), (a5, .inl (cA, 10, .inl rk))] := by
            intro x0 h0; subst h0; exact ⟨hP, hD⟩
          obtain ⟨hP, hD⟩ := hw17 (zup gh r (z_gb b (wa r) (iv r) (gh r))) (show (zup gh r (z_gb b (wa r) (iv r) (gh r))) = gh from by (first | exact zup_eq _ (by unfold z_gb; (repeat' split) <;> omega) | exact congrArg (zup _ _) (by unfold z_gb; (repeat' split) <;> omega)))
          exact W.vret hx hb hr (fun t ht hW => ⟨⟨(), rfl, trivial, by rw [ht]; exact hP, hD⟩, hS.F ht⟩) hS.2.2 dX2_moveGhosts_91
        · skip
          replace c_16 := (nI_eq (by omega) (by omega)).mp c_16
          refine lv_aload_n hx hb dX2_moveGhosts_33 rfl (lv_at hl 1 rfl) ?_
          refine va_get (D := (dC, dI)) (ci := 1) (v := .ref a2) (C := RX2) (T := TX2) (N := 7) hx hb hts i_X2_moveGhosts_X2 hown hK hP 0 rfl rfl 2 (by decide) (hts (.fieldLink RX2 18 "RuinViews$Ruins" "ghosts" "[I") (List.mem_of_getElem? (i := 2) rfl)) (fun _ h9 => h9) rfl dX2_moveGhosts_34 ?_
          refine lv_iload_n hx hb dX2_moveGhosts_37 rfl (lv_at hl 2 rfl) ?_
          refine zz_ald hx hb hK hP 3 (f := gh) rfl rfl (by omega) (by decide) dX2_moveGhosts_38 ?_
          refine lv_iconst (v := nI 5) hx hb dX2_moveGhosts_39 (by decide) ?_
          refine lv_icmp_ge (tgt := 91) hx hb dX2_moveGhosts_40 (by decide) (fun c_18 => ?_) (fun c_18 => ?_)
          · skip
            replace c_18 := (nI_leI (by omega) (by omega)).mp c_18
            have hw19 : ∀ (x0 : Nat → Nat), x0 = gh → va_P (dC, dI) vwCl [(h, .inr (1, [.ref a0, .ref a1, .ref a2, .ref a3, .ref a4, .ref a5, .int (nI n)])), (a0, .inl (cA, 10, .inl (fun j9 => nI (wa j9)))), (a1, .inl (cA, 10, .inl (fun j9 => nI (iv j9)))), (a2, .inl (cA, 10, .inl (fun j9 => nI (x0 j9)))), (a3, .inl (cA, 10, .inl (fun j9 => nI (pr j9)))), (a4, .inl (cA, 10, .inl me)), (a5, .inl (cA, 10, .inl rk))] s.heap ∧ va_D A [(h, .inr (1, [.ref a0, .ref a1, .ref a2, .ref a3, .ref a4, .ref a5, .int (nI n)])), (a0, .inl (cA, 10, .inl (fun j9 => nI (wa j9)))), (a1, .inl (cA, 10, .inl (fun j9 => nI (iv j9)))), (a2, .inl (cA, 10, .inl (fun j9 => nI (x0 j9)))), (a3, .inl (cA, 10, .inl (fun j9 => nI (pr j9)))), (a4, .inl (cA, 10, .inl me)), (a5, .inl (cA, 10, .inl rk))] := by
              intro x0 h0; subst h0; exact ⟨hP, hD⟩
            obtain ⟨hP, hD⟩ := hw19 (zup gh r (z_gb b (wa r) (iv r) (gh r))) (show (zup gh r (z_gb b (wa r) (iv r) (gh r))) = gh from by (first | exact zup_eq _ (by unfold z_gb; (repeat' split) <;> omega) | exact congrArg (zup _ _) (by unfold z_gb; (repeat' split) <;> omega)))
            exact W.vret hx hb hr (fun t ht hW => ⟨⟨(), rfl, trivial, by rw [ht]; exact hP, hD⟩, hS.F ht⟩) hS.2.2 dX2_moveGhosts_91
          · skip
            replace c_18 := mt (nI_leI (by omega) (by omega)).mpr c_18
            refine lv_aload_n hx hb dX2_moveGhosts_43 rfl (lv_at hl 1 rfl) ?_
            refine va_get (D := (dC, dI)) (ci := 1) (v := .ref a2) (C := RX2) (T := TX2) (N := 7) hx hb hts i_X2_moveGhosts_X2 hown hK hP 0 rfl rfl 2 (by decide) (hts (.fieldLink RX2 18 "RuinViews$Ruins" "ghosts" "[I") (List.mem_of_getElem? (i := 2) rfl)) (fun _ h9 => h9) rfl dX2_moveGhosts_44 ?_
            refine lv_iload_n hx hb dX2_moveGhosts_47 rfl (lv_at hl 2 rfl) ?_
            refine lv_dup2_11 hx hb dX2_moveGhosts_48 rfl rfl ?_
            refine zz_ald hx hb hK hP 3 (f := gh) rfl rfl (by omega) (by decide) dX2_moveGhosts_49 ?_
            refine lv_iconst (v := nI 1) hx hb dX2_moveGhosts_50 (by decide) ?_
            refine lv_iadd hx hb dX2_moveGhosts_51 ?_
            refine zz_top (nI_add _ _) ?_
            refine zz_ast hx hb hK hP hD hS 3 (f := gh) rfl rfl (by omega) (by decide) dX2_moveGhosts_52 (fun H locs hP hD hS => ?_)
            have hP : va_P (dC, dI) vwCl [(h, .inr (1, [.ref a0, .ref a1, .ref a2, .ref a3, .ref a4, .ref a5, .int (nI n)])), (a0, .inl (cA, 10, .inl (fun j9 => nI (wa j9)))), (a1, .inl (cA, 10, .inl (fun j9 => nI (iv j9)))), (a2, .inl (cA, 10, .inl (fun j9 => nI ((zup gh r ((gh r) + 1)) j9)))), (a3, .inl (cA, 10, .inl (fun j9 => nI (pr j9)))), (a4, .inl (cA, 10, .inl me)), (a5, .inl (cA, 10, .inl rk))] H := hP
            have hD : va_D A [(h, .inr (1, [.ref a0, .ref a1, .ref a2, .ref a3, .ref a4, .ref a5, .int (nI n)])), (a0, .inl (cA, 10, .inl (fun j9 => nI (wa j9)))), (a1, .inl (cA, 10, .inl (fun j9 => nI (iv j9)))), (a2, .inl (cA, 10, .inl (fun j9 => nI ((zup gh r ((gh r) + 1)) j9)))), (a3, .inl (cA, 10, .inl (fun j9 => nI (pr j9)))), (a4, .inl (cA, 10, .inl me)), (a5, .inl (cA, 10, .inl rk))] := hD
            refine lv_goto (tgt := 91) hx hb dX2_moveGhosts_53 (by decide) ?_
            have hw20 : ∀ (x0 : Nat → Nat), x0 = zup gh r ((gh r) + 1) → va_P (dC, dI) vwCl [(h, .inr (1, [.ref a0, .ref a1, .ref a2, .ref a3, .ref a4, .ref a5, .int (nI n)])), (a0, .inl (cA, 10, .inl (fun j9 => nI (wa j9)))), (a1, .inl (cA, 10, .inl (fun j9 => nI (iv j9)))), (a2, .inl (cA, 10, .inl (fun j9 => nI (x0 j9)))), (a3, .inl (cA, 10, .inl (fun j9 => nI (pr j9)))), (a4, .inl (cA, 10, .inl me)), (a5, .inl (cA, 10, .inl rk))] H ∧ va_D A [(h, .inr (1, [.ref a0, .ref a1, .ref a2, .ref a3, .ref a4, .ref a5, .int (nI n)])), (a0, .inl (cA, 10, .inl (fun j9 => nI (wa j9)))), (a1, .inl (cA, 10, .inl (fun j9 => nI (iv j9)))), (a2, .inl (cA, 10, .inl (fun j9 => nI (x0 j9)))), (a3, .inl (cA, 10, .inl (fun j9 => nI (pr j9)))), (a4, .inl (cA, 10, .inl me)), (a5, .inl (cA, 10, .inl rk))] := by
              intro x0 h0; subst h0; exact ⟨hP, hD⟩
            obtain ⟨hP, hD⟩ := hw20 (zup gh r (z_gb b (wa r) (iv r) (gh r))) (show (zup gh r (z_gb b (wa r) (iv r) (gh r))) = zup gh r ((gh r) + 1) from by (first | exact zup_eq _ (by unfold z_gb; (repeat' split) <;> omega) | exact congrArg (zup _ _) (by unfold z_gb; (repeat' split) <;> omega)))
            exact W.vret hx hb hr (fun t ht hW => ⟨⟨(), rfl, trivial, by rw [ht]; exact hP, hD⟩, hS.F ht⟩) hS.2.2 dX2_moveGhosts_91
  · skip
    replace c_1 := (zz_eq0 (by omega)).mp c_1
    refine lv_iconst (v := nI 1) hx hb dX2_moveGhosts_9 (by decide) ?_
    refine lv_goto (tgt := 14) hx hb dX2_moveGhosts_10 (by decide) ?_
    refine lv_istore_n (lv' := [(3, .int (nI 1)), (0, .ref h), (1, .int (nI r)), (2, .int (nI b))]) hx hb dX2_moveGhosts_14 rfl hl (by decide) rfl (fun ls hl => ?_)
    refine lv_iload_n hx hb dX2_moveGhosts_15 rfl (lv_at hl 3 rfl) ?_
    refine lv_iconst (v := nI 4) hx hb dX2_moveGhosts_16 (by decide) ?_
    refine lv_icmp_ne (tgt := 56) hx hb dX2_moveGhosts_17 (by decide) (fun c_21 => ?_) (fun c_21 => ?_)
    · skip
      replace c_21 := mt (nI_eq (by omega) (by omega)).mpr c_21
      refine lv_iload_n hx hb dX2_moveGhosts_56 rfl (lv_at hl 3 rfl) ?_
      refine lv_if_ne (tgt := 91) hx hb dX2_moveGhosts_57 (by decide) (fun c_22 => ?_) (fun c_22 => ?_)
      · skip
        replace c_22 := mt (zz_eq0 (by omega)).mpr c_22
        have hw23 : ∀ (x0 : Nat → Nat), x0 = gh → va_P (dC, dI) vwCl [(h, .inr (1, [.ref a0, .ref a1, .ref a2, .ref a3, .ref a4, .ref a5, .int (nI n)])), (a0, .inl (cA, 10, .inl (fun j9 => nI (wa j9)))), (a1, .inl (cA, 10, .inl (fun j9 => nI (iv j9)))), (a2, .inl (cA, 10, .inl (fun j9 => nI (x0 j9)))), (a3, .inl (cA, 10, .inl (fun j9 => nI (pr j9)))), (a4, .inl (cA, 10, .inl me)), (a5, .inl (cA, 10, .inl rk))] s.heap ∧ va_D A [(h, .inr (1, [.ref a0, .ref a1, .ref a2, .ref a3, .ref a4, .ref a5, .int (nI n)])), (a0, .inl (cA, 10, .inl (fun j9 => nI (wa j9)))), (a1, .inl (cA, 10, .inl (fun j9 => nI (iv j9)))), (a2, .inl (cA, 10, .inl (fun j9 => nI (x0 j9)))), (a3, .inl (cA, 10, .inl (fun j9 => nI (pr j9)))), (a4, .inl (cA, 10, .inl me)), (a5, .inl (cA, 10, .inl rk))] := by
          intro x0 h0; subst h0; exact ⟨hP, hD⟩
        obtain ⟨hP, hD⟩ := hw23 (zup gh r (z_gb b (wa r) (iv r) (gh r))) (show (zup gh r (z_gb b (wa r) (iv r) (gh r))) = gh from by (first | exact zup_eq _ (by unfold z_gb; (repeat' split) <;> omega) | exact congrArg (zup _ _) (by unfold z_gb; (repeat' split) <;> omega)))
        exact W.vret hx hb hr (fun t ht hW => ⟨⟨(), rfl, trivial, by rw [ht]; exact hP, hD⟩, hS.F ht⟩) hS.2.2 dX2_moveGhosts_91
      · skip
        replace c_22 := (zz_eq0 (by omega)).mp c_22
        refine lv_aload_n hx hb dX2_moveGhosts_60 rfl (lv_at hl 1 rfl) ?_
        refine va_get (D := (dC, dI)) (ci := 1) (v := .ref a2) (C := RX2) (T := TX2) (N := 7) hx hb hts i_X2_moveGhosts_X2 hown hK hP 0 rfl rfl 2 (by decide) (hts (.fieldLink RX2 18 "RuinViews$Ruins" "ghosts" "[I") (List.mem_of_getElem? (i := 2) rfl)) (fun _ h9 => h9) rfl dX2_moveGhosts_61 ?_
        refine lv_iload_n hx hb dX2_moveGhosts_64 rfl (lv_at hl 2 rfl) ?_
        refine zz_ald hx hb hK hP 3 (f := gh) rfl rfl (by omega) (by decide) dX2_moveGhosts_65 ?_
        refine lv_if_le (tgt := 91) hx hb dX2_moveGhosts_66 (by decide) (fun c_24 => ?_) (fun c_24 => ?_)
        · skip
          replace c_24 := (zz_lez (by omega)).mp c_24
          have hw25 : ∀ (x0 : Nat → Nat), x0 = gh → va_P (dC, dI) vwCl [(h, .inr (1, [.ref a0, .ref a1, .ref a2, .ref a3, .ref a4, .ref a5, .int (nI n)])), (a0, .inl (cA, 10, .inl (fun j9 => nI (wa j9)))), (a1, .inl (cA, 10, .inl (fun j9 => nI (iv j9)))), (a2, .inl (cA, 10, .inl (fun j9 => nI (x0 j9)))), (a3, .inl (cA, 10, .inl (fun j9 => nI (pr j9)))), (a4, .inl (cA, 10, .inl me)), (a5, .inl (cA, 10, .inl rk))] s.heap ∧ va_D A [(h, .inr (1, [.ref a0, .ref a1, .ref a2, .ref a3, .ref a4, .ref a5, .int (nI n)])), (a0, .inl (cA, 10, .inl (fun j9 => nI (wa j9)))), (a1, .inl (cA, 10, .inl (fun j9 => nI (iv j9)))), (a2, .inl (cA, 10, .inl (fun j9 => nI (x0 j9)))), (a3, .inl (cA, 10, .inl (fun j9 => nI (pr j9)))), (a4, .inl (cA, 10, .inl me)), (a5, .inl (cA, 10, .inl rk))] := by
            intro x0 h0; subst h0; exact ⟨hP, hD⟩
          obtain ⟨hP, hD⟩ := hw25 (zup gh r (z_gb b (wa r) (iv r) (gh r))) (show (zup gh r (z_gb b (wa r) (iv r) (gh r))) = gh from by (first | exact zup_eq _ (by unfold z_gb; (repeat' split) <;> omega) | exact congrArg (zup _ _) (by unfold z_gb; (repeat' split) <;> omega)))
          exact W.vret hx hb hr (fun t ht hW => ⟨⟨(), rfl, trivial, by rw [ht]; exact hP, hD⟩, hS.F ht⟩) hS.2.2 dX2_moveGhosts_91
        · skip
          replace c_24 := mt (zz_lez (by omega)).mpr c_24
          refine lv_iload_n hx hb dX2_moveGhosts_69 rfl (lv_at hl 0 rfl) ?_
          refine lv_if_ne (tgt := 81) hx hb dX2_moveGhosts_70 (by decide) (fun c_26 => ?_) (fun c_26 => ?_)
          · skip
            replace c_26 := mt (zz_eq0 (by omega)).mpr c_26
            refine lv_aload_n hx hb dX2_moveGhosts_81 rfl (lv_at hl 1 rfl) ?_
            refine va_get (D := (dC, dI)) (ci := 1) (v := .ref a2) (C := RX2) (T := TX2) (N := 7) hx hb hts i_X2_moveGhosts_X2 hown hK hP 0 rfl rfl 2 (by decide) (hts (.fieldLink RX2 18 "RuinViews$Ruins" "ghosts" "[I") (List.mem_of_getElem? (i := 2) rfl)) (fun _ h9 => h9) rfl dX2_moveGhosts_82 ?_
            refine lv_iload_n hx hb dX2_moveGhosts_85 rfl (lv_at hl 2 rfl) ?_
            refine lv_dup2_11 hx hb dX2_moveGhosts_86 rfl rfl ?_
            refine zz_ald hx hb hK hP 3 (f := gh) rfl rfl (by omega) (by decide) dX2_moveGhosts_87 ?_
            refine lv_iconst (v := nI 1) hx hb dX2_moveGhosts_88 (by decide) ?_
            refine lv_isub hx hb dX2_moveGhosts_89 ?_
            refine zz_top (pk_sub (by omega)) ?_
            refine zz_ast hx hb hK hP hD hS 3 (f := gh) rfl rfl (by omega) (by decide) dX2_moveGhosts_90 (fun H locs hP hD hS => ?_)
            have hP : va_P (dC, dI) vwCl [(h, .inr (1, [.ref a0, .ref a1, .ref a2, .ref a3, .ref a4, .ref a5, .int (nI n)])), (a0, .inl (cA, 10, .inl (fun j9 => nI (wa j9)))), (a1, .inl (cA, 10, .inl (fun j9 => nI (iv j9)))), (a2, .inl (cA, 10, .inl (fun j9 => nI ((zup gh r ((gh r) - 1)) j9)))), (a3, .inl (cA, 10, .inl (fun j9 => nI (pr j9)))), (a4, .inl (cA, 10, .inl me)), (a5, .inl (cA, 10, .inl rk))] H := hP
            have hD : va_D A [(h, .inr (1, [.ref a0, .ref a1, .ref a2, .ref a3, .ref a4, .ref a5, .int (nI n)])), (a0, .inl (cA, 10, .inl (fun j9 => nI (wa j9)))), (a1, .inl (cA, 10, .inl (fun j9 => nI (iv j9)))), (a2, .inl (cA, 10, .inl (fun j9 => nI ((zup gh r ((gh r) - 1)) j9)))), (a3, .inl (cA, 10, .inl (fun j9 => nI (pr j9)))), (a4, .inl (cA, 10, .inl me)), (a5, .inl (cA, 10, .inl rk))] := hD
            have hw27 : ∀ (x0 : Nat → Nat), x0 = zup gh r ((gh r) - 1) → va_P (dC, dI) vwCl [(h, .inr (1, [.ref a0, .ref a1, .ref a2, .ref a3, .ref a4, .ref a5, .int (nI n)])), (a0, .inl (cA, 10, .inl (fun j9 => nI (wa j9)))), (a1, .inl (cA, 10, .inl (fun j9 => nI (iv j9)))), (a2, .inl (cA, 10, .inl (fun j9 => nI (x0 j9)))), (a3, .inl (cA, 10, .inl (fun j9 => nI (pr j9)))), (a4, .inl (cA, 10, .inl me)), (a5, .inl (cA, 10, .inl rk))] H ∧ va_D A [(h, .inr (1, [.ref a0, .ref a1, .ref a2, .ref a3, .ref a4, .ref a5, .int (nI n)])), (a0, .inl (cA, 10, .inl (fun j9 => nI (wa j9)))), (a1, .inl (cA, 10, .inl (fun j9 => nI (iv j9)))), (a2, .inl (cA, 10, .inl (fun j9 => nI (x0 j9)))), (a3, .inl (cA, 10, .inl (fun j9 => nI (pr j9)))), (a4, .inl (cA, 10, .inl me)), (a5, .inl (cA, 10, .inl rk))] := by
              intro x0 h0; subst h0; exact ⟨hP, hD⟩
            obtain ⟨hP, hD⟩ := hw27 (zup gh r (z_gb b (wa r) (iv r) (gh r))) (show (zup gh r (z_gb b (wa r) (iv r) (gh r))) = zup gh r ((gh r) - 1) from by (first | exact zup_eq _ (by unfold z_gb; (repeat' split) <;> omega) | exact congrArg (zup _ _) (by unfold z_gb; (repeat' split) <;> omega)))
            exact W.vret hx hb hr (fun t ht hW => ⟨⟨(), rfl, trivial, by rw [ht]; exact hP, hD⟩, hS.F ht⟩) hS.2.2 dX2_moveGhosts_91
          · skip
            replace c_26 := (zz_eq0 (by omega)).mp c_26
            refine lv_aload_n hx hb dX2_moveGhosts_73 rfl (lv_at hl 1 rfl) ?_
            refine lv_iload_n hx hb dX2_moveGhosts_74 rfl (lv_at hl 2 rfl) ?_
            have hPc := hP.sub (ws' := [(h, .inr (1, [.ref a0, .ref a1, .ref a2, .ref a3, .ref a4, .ref a5, .int (nI n)])), (a0, .inl (cA, 10, .inl (fun j9 => nI (wa j9)))), (a1, .inl (cA, 10, .inl (fun j9 => nI (iv j9)))), (a2, .inl (cA, 10, .inl (fun j9 => nI (gh j9)))), (a3, .inl (cA, 10, .inl (fun j9 => nI (pr j9)))), (a4, .inl (cA, 10, .inl me)), (a5, .inl (cA, 10, .inl rk))]) [0, 1, 2, 3, 4, 5, 6] rfl
            refine vp_callSi (W.runV (As := [.int (nI r)]) (rest := []) ⟨hx, hb, hml, hown, hts⟩ (c_X2_grade l dC dI cA h a0 a1 a2 a3 a4 a5 n wa iv gh pr me rk r (by first | assumption | omega) (by first | assumption | omega)) (cwV 1 hts gX2_moveGhosts_X2_grade rfl rfl rfl (by decide +kernel) ⟨Nat.le_of_ble_eq_true rfl, Nat.le_of_ble_eq_true rfl⟩) ⟨fun a U g mk q => by obtain ⟨q0, qP, qK⟩ := q; exact ⟨q0, qP, va_K.moved (u := U) (U := U.calling g mk a) (Vm.Alike.refl U.vm) qK⟩, va_recv hK hP (ci := 1) (q0 := 0) rfl rfl, fun U hU hW => ⟨rfl, by rw [hU]; exact hPc, va_K.moved hW.alike hK⟩⟩ rfl rfl hl.1 rfl (lv_room (Nat.le_of_ble_eq_true rfl)) dX2_moveGhosts_75 ⟨Nat.le_of_ble_eq_true rfl, Nat.le_of_ble_eq_true rfl⟩) (fun r_28 hw_28 => ?_)
            subst hw_28
            refine lv_if_ne (tgt := 91) hx hb dX2_moveGhosts_78 (by decide) (fun c_29 => ?_) (fun c_29 => ?_)
            · skip
              replace c_29 := mt (zz_eq0 (by omega)).mpr c_29
              have hw30 : ∀ (x0 : Nat → Nat), x0 = gh → va_P (dC, dI) vwCl [(h, .inr (1, [.ref a0, .ref a1, .ref a2, .ref a3, .ref a4, .ref a5, .int (nI n)])), (a0, .inl (cA, 10, .inl (fun j9 => nI (wa j9)))), (a1, .inl (cA, 10, .inl (fun j9 => nI (iv j9)))), (a2, .inl (cA, 10, .inl (fun j9 => nI (x0 j9)))), (a3, .inl (cA, 10, .inl (fun j9 => nI (pr j9)))), (a4, .inl (cA, 10, .inl me)), (a5, .inl (cA, 10, .inl rk))] s.heap ∧ va_D A [(h, .inr (1, [.ref a0, .ref a1, .ref a2, .ref a3, .ref a4, .ref a5, .int (nI n)])), (a0, .inl (cA, 10, .inl (fun j9 => nI (wa j9)))), (a1, .inl (cA, 10, .inl (fun j9 => nI (iv j9)))), (a2, .inl (cA, 10, .inl (fun j9 => nI (x0 j9)))), (a3, .inl (cA, 10, .inl (fun j9 => nI (pr j9)))), (a4, .inl (cA, 10, .inl me)), (a5, .inl (cA, 10, .inl rk))] := by
                intro x0 h0; subst h0; exact ⟨hP, hD⟩
              obtain ⟨hP, hD⟩ := hw30 (zup gh r (z_gb b (wa r) (iv r) (gh r))) (show (zup gh r (z_gb b (wa r) (iv r) (gh r))) = gh from by (first | exact zup_eq _ (by unfold z_gb; (repeat' split) <;> omega) | exact congrArg (zup _ _) (by unfold z_gb; (repeat' split) <;> omega)))
              exact W.vret hx hb hr (fun t ht hW => ⟨⟨(), rfl, trivial, by rw [ht]; exact hP, hD⟩, hS.F ht⟩) hS.2.2 dX2_moveGhosts_91
            · skip
              replace c_29 := (zz_eq0 (by omega)).mp c_29
              refine lv_aload_n hx hb dX2_moveGhosts_81 rfl (lv_at hl 1 rfl) ?_
              refine va_get (D := (dC, dI)) (ci := 1) (v := .ref a2) (C := RX2) (T := TX2) (N := 7) hx hb hts i_X2_moveGhosts_X2 hown hK hP 0 rfl rfl 2 (by decide) (hts (.fieldLink RX2 18 "RuinViews$Ruins" "ghosts" "[I") (List.mem_of_getElem? (i := 2) rfl)) (fun _ h9 => h9) rfl dX2_moveGhosts_82 ?_
              refine lv_iload_n hx hb dX2_moveGhosts_85 rfl (lv_at hl 2 rfl) ?_
              refine lv_dup2_11 hx hb dX2_moveGhosts_86 rfl rfl ?_
              refine zz_ald hx hb hK hP 3 (f := gh) rfl rfl (by omega) (by decide) dX2_moveGhosts_87 ?_
              refine lv_iconst (v := nI 1) hx hb dX2_moveGhosts_88 (by decide) ?_
              refine lv_isub hx hb dX2_moveGhosts_89 ?_
              refine zz_top (pk_sub (by omega)) ?_
              refine zz_ast hx hb hK hP hD hS 3 (f := gh) rfl rfl (by omega) (by decide) dX2_moveGhosts_90 (fun H locs hP hD hS => ?_)
              have hP : va_P (dC, dI) vwCl [(h, .inr (1, [.ref a0, .ref a1, .ref a2, .ref a3, .ref a4, .ref a5, .int (nI n)])), (a0, .inl (cA, 10, .inl (fun j9 => nI (wa j9)))), (a1, .inl (cA, 10, .inl (fun j9 => nI (iv j9)))), (a2, .inl (cA, 10, .inl (fun j9 => nI ((zup gh r ((gh r) - 1)) j9)))), (a3, .inl (cA, 10, .inl (fun j9 => nI (pr j9)))), (a4, .inl (cA, 10, .inl me)), (a5, .inl (cA, 10, .inl rk))] H := hP
              have hD : va_D A [(h, .inr (1, [.ref a0, .ref a1, .ref a2, .ref a3, .ref a4, .ref a5, .int (nI n)])), (a0, .inl (cA, 10, .inl (fun j9 => nI (wa j9)))), (a1, .inl (cA, 10, .inl (fun j9 => nI (iv j9)))), (a2, .inl (cA, 10, .inl (fun j9 => nI ((zup gh r ((gh r) - 1)) j9)))), (a3, .inl (cA, 10, .inl (fun j9 => nI (pr j9)))), (a4, .inl (cA, 10, .inl me)), (a5, .inl (cA, 10, .inl rk))] := hD
              have hw31 : ∀ (x0 : Nat → Nat), x0 = zup gh r ((gh r) - 1) → va_P (dC, dI) vwCl [(h, .inr (1, [.ref a0, .ref a1, .ref a2, .ref a3, .ref a4, .ref a5, .int (nI n)])), (a0, .inl (cA, 10, .inl (fun j9 => nI (wa j9)))), (a1, .inl (cA, 10, .inl (fun j9 => nI (iv j9)))), (a2, .inl (cA, 10, .inl (fun j9 => nI (x0 j9)))), (a3, .inl (cA, 10, .inl (fun j9 => nI (pr j9)))), (a4, .inl (cA, 10, .inl me)), (a5, .inl (cA, 10, .inl rk))] H ∧ va_D A [(h, .inr (1, [.ref a0, .ref a1, .ref a2, .ref a3, .ref a4, .ref a5, .int (nI n)])), (a0, .inl (cA, 10, .inl (fun j9 => nI (wa j9)))), (a1, .inl (cA, 10, .inl (fun j9 => nI (iv j9)))), (a2, .inl (cA, 10, .inl (fun j9 => nI (x0 j9)))), (a3, .inl (cA, 10, .inl (fun j9 => nI (pr j9)))), (a4, .inl (cA, 10, .inl me)), (a5, .inl (cA, 10, .inl rk))] := by
                intro x0 h0; subst h0; exact ⟨hP, hD⟩
              obtain ⟨hP, hD⟩ := hw31 (zup gh r (z_gb b (wa r) (iv r) (gh r))) (show (zup gh r (z_gb b (wa r) (iv r) (gh r))) = zup gh r ((gh r) - 1) from by (first | exact zup_eq _ (by unfold z_gb; (repeat' split) <;> omega) | exact congrArg (zup _ _) (by unfold z_gb; (repeat' split) <;> omega)))
              exact W.vret hx hb hr (fun t ht hW => ⟨⟨(), rfl, trivial, by rw [ht]; exact hP, hD⟩, hS.F ht⟩) hS.2.2 dX2_moveGhosts_91
    · skip
      replace c_21 := (nI_eq (by omega) (by omega)).mp c_21
      refine lv_iload_n hx hb dX2_moveGhosts_20 rfl (lv_at hl 0 rfl) ?_
      refine lv_if_ne (tgt := 91) hx hb dX2_moveGhosts_21 (by decide) (fun c_32 => ?_) (fun c_32 => ?_)
      · skip
        replace c_32 := mt (zz_eq0 (by omega)).mpr c_32
        have hw33 : ∀ (x0 : Nat → Nat), x0 = gh → va_P (dC, dI) vwCl [(h, .inr (1, [.ref a0, .ref a1, .ref a2, .ref a3, .ref a4, .ref a5, .int (nI n)])), (a0, .inl (cA, 10, .inl (fun j9 => nI (wa j9)))), (a1, .inl (cA, 10, .inl (fun j9 => nI (iv j9)))), (a2, .inl (cA, 10, .inl (fun j9 => nI (x0 j9)))), (a3, .inl (cA, 10, .inl (fun j9 => nI (pr j9)))), (a4, .inl (cA, 10, .inl me)), (a5, .inl (cA, 10, .inl rk))] s.heap ∧ va_D A [(h, .inr (1, [.ref a0, .ref a1, .ref a2, .ref a3, .ref a4, .ref a5, .int (nI n)])), (a0, .inl (cA, 10, .inl (fun j9 => nI (wa j9)))), (a1, .inl (cA, 10, .inl (fun j9 => nI (iv j9)))), (a2, .inl (cA, 10, .inl (fun j9 => nI (x0 j9)))), (a3, .inl (cA, 10, .inl (fun j9 => nI (pr j9)))), (a4, .inl (cA, 10, .inl me)), (a5, .inl (cA, 10, .inl rk))] := by
          intro x0 h0; subst h0; exact ⟨hP, hD⟩
        obtain ⟨hP, hD⟩ := hw33 (zup gh r (z_gb b (wa r) (iv r) (gh r))) (show (zup gh r (z_gb b (wa r) (iv r) (gh r))) = gh from by (first | exact zup_eq _ (by unfold z_gb; (repeat' split) <;> omega) | exact congrArg (zup _ _) (by unfold z_gb; (repeat' split) <;> omega)))
        exact W.vret hx hb hr (fun t ht hW => ⟨⟨(), rfl, trivial, by rw [ht]; exact hP, hD⟩, hS.F ht⟩) hS.2.2 dX2_moveGhosts_91
      · skip
        replace c_32 := (zz_eq0 (by omega)).mp c_32
        refine lv_aload_n hx hb dX2_moveGhosts_24 rfl (lv_at hl 1 rfl) ?_
        refine lv_iload_n hx hb dX2_moveGhosts_25 rfl (lv_at hl 2 rfl) ?_
        have hPc := hP.sub (ws' := [(h, .inr (1, [.ref a0, .ref a1, .ref a2, .ref a3, .ref a4, .ref a5, .int (nI n)])), (a0, .inl (cA, 10, .inl (fun j9 => nI (wa j9)))), (a1, .inl (cA, 10, .inl (fun j9 => nI (iv j9)))), (a2, .inl (cA, 10, .inl (fun j9 => nI (gh j9)))), (a3, .inl (cA, 10, .inl (fun j9 => nI (pr j9)))), (a4, .inl (cA, 10, .inl me)), (a5, .inl (cA, 10, .inl rk))]) [0, 1, 2, 3, 4, 5, 6] rfl
        refine vp_callSi (W.runV (As := [.int (nI r)]) (rest := []) ⟨hx, hb, hml, hown, hts⟩ (c_X2_grade l dC dI cA h a0 a1 a2 a3 a4 a5 n wa iv gh pr me rk r (by first | assumption | omega) (by first | assumption | omega)) (cwV 1 hts gX2_moveGhosts_X2_grade rfl rfl rfl (by decide +kernel) ⟨Nat.le_of_ble_eq_true rfl, Nat.le_of_ble_eq_true rfl⟩) ⟨fun a U g mk q => by obtain ⟨q0, qP, qK⟩ := q; exact ⟨q0, qP, va_K.moved (u := U) (U := U.calling g mk a) (Vm.Alike.refl U.vm) qK⟩, va_recv hK hP (ci := 1) (q0 := 0) rfl rfl, fun U hU hW => ⟨rfl, by rw [hU]; exact hPc, va_K.moved hW.alike hK⟩⟩ rfl rfl hl.1 rfl (lv_room (Nat.le_of_ble_eq_true rfl)) dX2_moveGhosts_26 ⟨Nat.le_of_ble_eq_true rfl, Nat.le_of_ble_eq_true rfl⟩) (fun r_34 hw_34 => ?_)
        subst hw_34
        refine lv_iconst (v := nI 3) hx hb dX2_moveGhosts_29 (by decide) ?_
        refine lv_icmp_ne (tgt := 91) hx hb dX2_moveGhosts_30 (by decide) (fun c_35 => ?_) (fun c_35 => ?_)
        · skip
          replace c_35 := mt (nI_eq (by omega) (by omega)).mpr c_35
          have hw36 : ∀ (x0 : Nat → Nat), x0 = gh → va_P (dC, dI) vwCl [(h, .inr (1, [.ref a0, .ref a1, .ref a2, .ref a3, .ref a4, .ref a5, .int (nI n)])), (a0, .inl (cA, 10, .inl (fun j9 => nI (wa j9)))), (a1, .inl (cA, 10, .inl (fun j9 => nI (iv j9)))), (a2, .inl (cA, 10, .inl (fun j9 => nI (x0 j9)))), (a3, .inl (cA, 10, .inl (fun j9 => nI (pr j9)))), (a4, .inl (cA, 10, .inl me)), (a5, .inl (cA, 10, .inl rk))] s.heap ∧ va_D A [(h, .inr (1, [.ref a0, .ref a1, .ref a2, .ref a3, .ref a4, .ref a5, .int (nI n)])), (a0, .inl (cA, 10, .inl (fun j9 => nI (wa j9)))), (a1, .inl (cA, 10, .inl (fun j9 => nI (iv j9)))), (a2, .inl (cA, 10, .inl (fun j9 => nI (x0 j9)))), (a3, .inl (cA, 10, .inl (fun j9 => nI (pr j9)))), (a4, .inl (cA, 10, .inl me)), (a5, .inl (cA, 10, .inl rk))] := by
            intro x0 h0; subst h0; exact ⟨hP, hD⟩
          obtain ⟨hP, hD⟩ := hw36 (zup gh r (z_gb b (wa r) (iv r) (gh r))) (show (zup gh r (z_gb b (wa r) (iv r) (gh r))) = gh from by (first | exact zup_eq _ (by unfold z_gb; (repeat' split) <;> omega) | exact congrArg (zup _ _) (by unfold z_gb; (repeat' split) <;> omega)))
          exact W.vret hx hb hr (fun t ht hW => ⟨⟨(), rfl, trivial, by rw [ht]; exact hP, hD⟩, hS.F ht⟩) hS.2.2 dX2_moveGhosts_91
        · skip
          replace c_35 := (nI_eq (by omega) (by omega)).mp c_35
          refine lv_aload_n hx hb dX2_moveGhosts_33 rfl (lv_at hl 1 rfl) ?_
          refine va_get (D := (dC, dI)) (ci := 1) (v := .ref a2) (C := RX2) (T := TX2) (N := 7) hx hb hts i_X2_moveGhosts_X2 hown hK hP 0 rfl rfl 2 (by decide) (hts (.fieldLink RX2 18 "RuinViews$Ruins" "ghosts" "[I") (List.mem_of_getElem? (i := 2) rfl)) (fun _ h9 => h9) rfl dX2_moveGhosts_34 ?_
          refine lv_iload_n hx hb dX2_moveGhosts_37 rfl (lv_at hl 2 rfl) ?_
          refine zz_ald hx hb hK hP 3 (f := gh) rfl rfl (by omega) (by decide) dX2_moveGhosts_38 ?_
          refine lv_iconst (v := nI 5) hx hb dX2_moveGhosts_39 (by decide) ?_
          refine lv_icmp_ge (tgt := 91) hx hb dX2_moveGhosts_40 (by decide) (fun c_37 => ?_) (fun c_37 => ?_)
          · skip
            replace c_37 := (nI_leI (by omega) (by omega)).mp c_37
            have hw38 : ∀ (x0 : Nat → Nat), x0 = gh → va_P (dC, dI) vwCl [(h, .inr (1, [.ref a0, .ref a1, .ref a2, .ref a3, .ref a4, .ref a5, .int (nI n)])), (a0, .inl (cA, 10, .inl (fun j9 => nI (wa j9)))), (a1, .inl (cA, 10, .inl (fun j9 => nI (iv j9)))), (a2, .inl (cA, 10, .inl (fun j9 => nI (x0 j9)))), (a3, .inl (cA, 10, .inl (fun j9 => nI (pr j9)))), (a4, .inl (cA, 10, .inl me)), (a5, .inl (cA, 10, .inl rk))] s.heap ∧ va_D A [(h, .inr (1, [.ref a0, .ref a1, .ref a2, .ref a3, .ref a4, .ref a5, .int (nI n)])), (a0, .inl (cA, 10, .inl (fun j9 => nI (wa j9)))), (a1, .inl (cA, 10, .inl (fun j9 => nI (iv j9)))), (a2, .inl (cA, 10, .inl (fun j9 => nI (x0 j9)))), (a3, .inl (cA, 10, .inl (fun j9 => nI (pr j9)))), (a4, .inl (cA, 10, .inl me)), (a5, .inl (cA, 10, .inl rk))] := by
              intro x0 h0; subst h0; exact ⟨hP, hD⟩
            obtain ⟨hP, hD⟩ := hw38 (zup gh r (z_gb b (wa r) (iv r) (gh r))) (show (zup gh r (z_gb b (wa r) (iv r) (gh r))) = gh from by (first | exact zup_eq _ (by unfold z_gb; (repeat' split) <;> omega) | exact congrArg (zup _ _) (by unfold z_gb; (repeat' split) <;> omega)))
            exact W.vret hx hb hr (fun t ht hW => ⟨⟨(), rfl, trivial, by rw [ht]; exact hP, hD⟩, hS.F ht⟩) hS.2.2 dX2_moveGhosts_91
          · skip
            replace c_37 := mt (nI_leI (by omega) (by omega)).mpr c_37
            refine lv_aload_n hx hb dX2_moveGhosts_43 rfl (lv_at hl 1 rfl) ?_
            refine va_get (D := (dC, dI)) (ci := 1) (v := .ref a2) (C := RX2) (T := TX2) (N := 7) hx hb hts i_X2_moveGhosts_X2 hown hK hP 0 rfl rfl 2 (by decide) (hts (.fieldLink RX2 18 "RuinViews$Ruins" "ghosts" "[I") (List.mem_of_getElem? (i := 2) rfl)) (fun _ h9 => h9) rfl dX2_moveGhosts_44 ?_
            refine lv_iload_n hx hb dX2_moveGhosts_47 rfl (lv_at hl 2 rfl) ?_
            refine lv_dup2_11 hx hb dX2_moveGhosts_48 rfl rfl ?_
            refine zz_ald hx hb hK hP 3 (f := gh) rfl rfl (by omega) (by decide) dX2_moveGhosts_49 ?_
            refine lv_iconst (v := nI 1) hx hb dX2_moveGhosts_50 (by decide) ?_
            refine lv_iadd hx hb dX2_moveGhosts_51 ?_
            refine zz_top (nI_add _ _) ?_
            refine zz_ast hx hb hK hP hD hS 3 (f := gh) rfl rfl (by omega) (by decide) dX2_moveGhosts_52 (fun H locs hP hD hS => ?_)
            have hP : va_P (dC, dI) vwCl [(h, .inr (1, [.ref a0, .ref a1, .ref a2, .ref a3, .ref a4, .ref a5, .int (nI n)])), (a0, .inl (cA, 10, .inl (fun j9 => nI (wa j9)))), (a1, .inl (cA, 10, .inl (fun j9 => nI (iv j9)))), (a2, .inl (cA, 10, .inl (fun j9 => nI ((zup gh r ((gh r) + 1)) j9)))), (a3, .inl (cA, 10, .inl (fun j9 => nI (pr j9)))), (a4, .inl (cA, 10, .inl me)), (a5, .inl (cA, 10, .inl rk))] H := hP
            have hD : va_D A [(h, .inr (1, [.ref a0, .ref a1, .ref a2, .ref a3, .ref a4, .ref a5, .int (nI n)])), (a0, .inl (cA, 10, .inl (fun j9 => nI (wa j9)))), (a1, .inl (cA, 10, .inl (fun j9 => nI (iv j9)))), (a2, .inl (cA, 10, .inl (fun j9 => nI ((zup gh r ((gh r) + 1)) j9)))), (a3, .inl (cA, 10, .inl (fun j9 => nI (pr j9)))), (a4, .inl (cA, 10, .inl me)), (a5, .inl (cA, 10, .inl rk))] := hD
            refine lv_goto (tgt := 91) hx hb dX2_moveGhosts_53 (by decide) ?_
            have hw39 : ∀ (x0 : Nat → Nat), x0 = zup gh r ((gh r) + 1) → va_P (dC, dI) vwCl [(h, .inr (1, [.ref a0, .ref a1, .ref a2, .ref a3, .ref a4, .ref a5, .int (nI n)])), (a0, .inl (cA, 10, .inl (fun j9 => nI (wa j9)))), (a1, .inl (cA, 10, .inl (fun j9 => nI (iv j9)))), (a2, .inl (cA, 10, .inl (fun j9 => nI (x0 j9)))), (a3, .inl (cA, 10, .inl (fun j9 => nI (pr j9)))), (a4, .inl (cA, 10, .inl me)), (a5, .inl (cA, 10, .inl rk))] H ∧ va_D A [(h, .inr (1, [.ref a0, .ref a1, .ref a2, .ref a3, .ref a4, .ref a5, .int (nI n)])), (a0, .inl (cA, 10, .inl (fun j9 => nI (wa j9)))), (a1, .inl (cA, 10, .inl (fun j9 => nI (iv j9)))), (a2, .inl (cA, 10, .inl (fun j9 => nI (x0 j9)))), (a3, .inl (cA, 10, .inl (fun j9 => nI (pr j9)))), (a4, .inl (cA, 10, .inl me)), (a5, .inl (cA, 10, .inl rk))] := by
              intro x0 h0; subst h0; exact ⟨hP, hD⟩
            obtain ⟨hP, hD⟩ := hw39 (zup gh r (z_gb b (wa r) (iv r) (gh r))) (show (zup gh r (z_gb b (wa r) (iv r) (gh r))) = zup gh r ((gh r) + 1) from by (first | exact zup_eq _ (by unfold z_gb; (repeat' split) <;> omega) | exact congrArg (zup _ _) (by unfold z_gb; (repeat' split) <;> omega)))
            exact W.vret hx hb hr (fun t ht hW => ⟨⟨(), rfl, trivial, by rw [ht]; exact hP, hD⟩, hS.F ht⟩) hS.2.2 dX2_moveGhosts_91
theorem i_X2_age_X2 : ∀ w ∈ u_ws RX2 TX2 7, w ∈ wsX2_age := by decide +kernel
set_option maxHeartbeats 4000000 in
set_option maxRecDepth 100000 in
theorem c_X2_age (l : Launch) (dC : Nat → ClassId) (dI : Nat → Nat → Nat) (cA : ClassId) (h : Nat) (a0 : Nat) (a1 : Nat) (a2 : Nat) (a3 : Nat) (a4 : Nat) (a5 : Nat) (n : Nat) (wa : Nat → Nat) (iv : Nat → Nat) (gh : Nat → Nat) (pr : Nat → Nat) (me : Nat → Int32) (rk : Nat → Int32) (r : Nat) (d : Nat) (sz : Nat) (hrn : r < 10) (hw : wa r ≤ 20) (hi : iv r ≤ 12) (hg : gh r ≤ 5) (hd : d < 2 ^ 31) : Met l yX2_age wsX2_age ({ frames := 2, cells := 0, slots := 0, locals := 45 } : Room) (va_Pc [.ref h, .int (nI r), .int (nI d)] (fun U => U.heap.size = sz ∧ va_P (dC, dI) vwCl [(h, .inr (1, [.ref a0, .ref a1, .ref a2, .ref a3, .ref a4, .ref a5, .int (nI n)])), (a0, .inl (cA, 10, .inl (fun j9 => nI (wa j9)))), (a1, .inl (cA, 10, .inl (fun j9 => nI (iv j9)))), (a2, .inl (cA, 10, .inl (fun j9 => nI (gh j9)))), (a3, .inl (cA, 10, .inl (fun j9 => nI (pr j9)))), (a4, .inl (cA, 10, .inl me)), (a5, .inl (cA, 10, .inl rk))] U.heap ∧ va_K (dC, dI) vwCl [(cA, .int)] U ∧ va_D (fun _ => True) [(h, .inr (1, [.ref a0, .ref a1, .ref a2, .ref a3, .ref a4, .ref a5, .int (nI n)])), (a0, .inl (cA, 10, .inl (fun j9 => nI (wa j9)))), (a1, .inl (cA, 10, .inl (fun j9 => nI (iv j9)))), (a2, .inl (cA, 10, .inl (fun j9 => nI (gh j9)))), (a3, .inl (cA, 10, .inl (fun j9 => nI (pr j9)))), (a4, .inl (cA, 10, .inl me)), (a5, .inl (cA, 10, .inl rk))])) (va_Qv (fun _ : Unit => True) (fun (_ : Unit) t => va_P (dC, dI) vwCl [(h, .inr (1, [.ref a0, .ref a1, .ref a2, .ref a3, .ref a4, .ref a5, .int (nI n)])), (a0, .inl (cA, 10, .inl (fun j9 => nI ((zup wa r (z_wa d (wa r) (iv r))) j9)))), (a1, .inl (cA, 10, .inl (fun j9 => nI ((zup iv r (z_iv d (wa r) (iv r))) j9)))), (a2, .inl (cA, 10, .inl (fun j9 => nI ((zup gh r (z_gh d (wa r) (iv r) (gh r))) j9)))), (a3, .inl (cA, 10, .inl (fun j9 => nI (pr j9)))), (a4, .inl (cA, 10, .inl me)), (a5, .inl (cA, 10, .inl rk))] t.heap ∧ va_D (va_A [(h, .inr (1, [.ref a0, .ref a1, .ref a2, .ref a3, .ref a4, .ref a5, .int (nI n)])), (a0, .inl (cA, 10, .inl (fun j9 => nI (wa j9)))), (a1, .inl (cA, 10, .inl (fun j9 => nI (iv j9)))), (a2, .inl (cA, 10, .inl (fun j9 => nI (gh j9)))), (a3, .inl (cA, 10, .inl (fun j9 => nI (pr j9)))), (a4, .inl (cA, 10, .inl me)), (a5, .inl (cA, 10, .inl rk))] sz) [(h, .inr (1, [.ref a0, .ref a1, .ref a2, .ref a3, .ref a4, .ref a5, .int (nI n)])), (a0, .inl (cA, 10, .inl (fun j9 => nI ((zup wa r (z_wa d (wa r) (iv r))) j9)))), (a1, .inl (cA, 10, .inl (fun j9 => nI ((zup iv r (z_iv d (wa r) (iv r))) j9)))), (a2, .inl (cA, 10, .inl (fun j9 => nI ((zup gh r (z_gh d (wa r) (iv r) (gh r))) j9)))), (a3, .inl (cA, 10, .inl (fun j9 => nI (pr j9)))), (a4, .inl (cA, 10, .inl me)), (a5, .inl (cA, 10, .inl rk))]) (va_A [(h, .inr (1, [.ref a0, .ref a1, .ref a2, .ref a3, .ref a4, .ref a5, .int (nI n)])), (a0, .inl (cA, 10, .inl (fun j9 => nI (wa j9)))), (a1, .inl (cA, 10, .inl (fun j9 => nI (iv j9)))), (a2, .inl (cA, 10, .inl (fun j9 => nI (gh j9)))), (a3, .inl (cA, 10, .inl (fun j9 => nI (pr j9)))), (a4, .inl (cA, 10, .inl me)), (a5, .inl (cA, 10, .inl rk))] sz)) 0 0 (va_A [(h, .inr (1, [.ref a0, .ref a1, .ref a2, .ref a3, .ref a4, .ref a5, .int (nI n)])), (a0, .inl (cA, 10, .inl (fun j9 => nI (wa j9)))), (a1, .inl (cA, 10, .inl (fun j9 => nI (iv j9)))), (a2, .inl (cA, 10, .inl (fun j9 => nI (gh j9)))), (a3, .inl (cA, 10, .inl (fun j9 => nI (pr j9)))), (a4, .inl (cA, 10, .inl me)), (a5, .inl (cA, 10, .inl rk))] sz) := by
  refine Met.ofW (cc := cX2_age) (maxL := 3) (ret := none) (by decide) rfl ?_
  intro p e s m args below meth c s₁ B hml hv
  obtain ⟨hargs, hsz, hP, hK, hD0⟩ := hv
  have hx := B.exec
  have hb := B.bytes
  have hr := B.returns
  have hts := atoms_spec (ws := wsX2_age) B.pre
  have hown : s.vm.findClass RX2 = some m.cls := findClass_of_methodNamed B.named
  have hlocks := B.notSynchronized
  subst hsz
  have hD := hD0.self (sz := s.heap.size)
  generalize hAe : va_A [(h, .inr (1, [.ref a0, .ref a1, .ref a2, .ref a3, .ref a4, .ref a5, .int (nI n)])), (a0, .inl (cA, 10, .inl (fun j9 => nI (wa j9)))), (a1, .inl (cA, 10, .inl (fun j9 => nI (iv j9)))), (a2, .inl (cA, 10, .inl (fun j9 => nI (gh j9)))), (a3, .inl (cA, 10, .inl (fun j9 => nI (pr j9)))), (a4, .inl (cA, 10, .inl me)), (a5, .inl (cA, 10, .inl rk))] s.heap.size = A at hD ⊢
  have hA : ∀ q : Nat, s.heap.size ≤ q → A q := fun q h => by rw [← hAe]; exact Or.inr h
  have hS : va_S A s.heap s.heap [] := va_S.rf
  have hP : va_P (dC, dI) vwCl [(h, .inr (1, [.ref a0, .ref a1, .ref a2, .ref a3, .ref a4, .ref a5, .int (nI n)])), (a0, .inl (cA, 10, .inl (fun j9 => nI (wa j9)))), (a1, .inl (cA, 10, .inl (fun j9 => nI (iv j9)))), (a2, .inl (cA, 10, .inl (fun j9 => nI (gh j9)))), (a3, .inl (cA, 10, .inl (fun j9 => nI (pr j9)))), (a4, .inl (cA, 10, .inl me)), (a5, .inl (cA, 10, .inl rk))] s.heap := hP
  have hl := lv_entry ([.ref h, .int (nI r), .int (nI d)]) (n := 3) (Nat.le_of_ble_eq_true rfl)
  rw [hargs, lg_entry_eq, ← hargs]
  generalize (lg_sl ([.ref h, .int (nI r), .int (nI d)]) ++ List.replicate (3 - (lg_sl ([.ref h, .int (nI r), .int (nI d)])).length) Slot.unset).toArray = ls at hl ⊢
  have hl : lv_has ls 3 [(0, .ref h), (1, .int (nI r)), (2, .int (nI d))] := hl
  have hz1 := z_wa_le d (wa r) (iv r)
  have hz2 := z_iv_le (d := d) (w := wa r) hi
  have hz3 := zb_le d
  refine lv_aload_n hx hb dX2_age_0 rfl (lv_at hl 0 rfl) ?_
  refine va_get (D := (dC, dI)) (ci := 1) (v := .ref a0) (C := RX2) (T := TX2) (N := 7) hx hb hts i_X2_age_X2 hown hK hP 0 rfl rfl 0 (by decide) (hts (.fieldLink RX2 9 "RuinViews$Ruins" "walls" "[I") (List.mem_of_getElem? (i := 1) rfl)) (fun _ h9 => h9) rfl dX2_age_1 ?_
  refine lv_iload_n hx hb dX2_age_4 rfl (lv_at hl 1 rfl) ?_
  refine zz_ald hx hb hK hP 1 (f := wa) rfl rfl (by omega) (by decide) dX2_age_5 ?_
  refine lv_if_le (tgt := 15) hx hb dX2_age_6 (by decide) (fun c_1 => ?_) (fun c_1 => ?_)
  · skip
    replace c_1 := (zz_lez (by omega)).mp c_1
    refine lv_aload_n hx hb dX2_age_15 rfl (lv_at hl 0 rfl) ?_
    refine lv_iload_n hx hb dX2_age_16 rfl (lv_at hl 1 rfl) ?_
    refine lv_iload_n hx hb dX2_age_17 rfl (lv_at hl 2 rfl) ?_
    refine vp_callSi (W.runS (As := [.int (nI d)]) (rest := [.int (nI r), .ref h]) ⟨hx, hb, hml, hown, hts⟩ (c_X0_brightnessOn l dC dI cA d (by first | assumption | omega)) (va_cwS 1 hts gX2_age_X0_brightnessOn rfl rfl rfl (by decide +kernel) ⟨Nat.le_of_ble_eq_true rfl, Nat.le_of_ble_eq_true rfl⟩) ⟨fun _ _ _ _ q => q, fun U hU hW => ⟨rfl, trivial⟩⟩ rfl rfl hl.1 rfl (lv_room (Nat.le_of_ble_eq_true rfl)) dX2_age_18 ⟨Nat.le_of_ble_eq_true rfl, Nat.le_of_ble_eq_true rfl⟩) (fun r_2 hw_2 => ?_)
    subst hw_2
    have hPc := hP.sub (ws' := [(h, .inr (1, [.ref a0, .ref a1, .ref a2, .ref a3, .ref a4, .ref a5, .int (nI n)])), (a0, .inl (cA, 10, .inl (fun j9 => nI (wa j9)))), (a1, .inl (cA, 10, .inl (fun j9 => nI (iv j9)))), (a2, .inl (cA, 10, .inl (fun j9 => nI (gh j9)))), (a3, .inl (cA, 10, .inl (fun j9 => nI (pr j9)))), (a4, .inl (cA, 10, .inl me)), (a5, .inl (cA, 10, .inl rk))]) [0, 1, 2, 3, 4, 5, 6] rfl
    have hDc := hD.sub (ws' := [(h, .inr (1, [.ref a0, .ref a1, .ref a2, .ref a3, .ref a4, .ref a5, .int (nI n)])), (a0, .inl (cA, 10, .inl (fun j9 => nI (wa j9)))), (a1, .inl (cA, 10, .inl (fun j9 => nI (iv j9)))), (a2, .inl (cA, 10, .inl (fun j9 => nI (gh j9)))), (a3, .inl (cA, 10, .inl (fun j9 => nI (pr j9)))), (a4, .inl (cA, 10, .inl me)), (a5, .inl (cA, 10, .inl rk))]) [0, 1, 2, 3, 4, 5, 6] (by decide) rfl
    have hFc := va_free (wc := [(h, .inr (1, [.ref a0, .ref a1, .ref a2, .ref a3, .ref a4, .ref a5, .int (nI n)])), (a0, .inl (cA, 10, .inl (fun j9 => nI (wa j9)))), (a1, .inl (cA, 10, .inl (fun j9 => nI (iv j9)))), (a2, .inl (cA, 10, .inl (fun j9 => nI (gh j9)))), (a3, .inl (cA, 10, .inl (fun j9 => nI (pr j9)))), (a4, .inl (cA, 10, .inl me)), (a5, .inl (cA, 10, .inl rk))]) hD hS hA [0, 1, 2, 3, 4, 5, 6] rfl
    refine va_callv (va_runV (As := [.int (nI r),.int (nI (zb d))]) (rest := []) ⟨hx, hb, hml, hown, hts⟩ (c_X2_moveGhosts l dC dI cA h a0 a1 a2 a3 a4 a5 n wa iv gh pr me rk r (zb d) s.heap.size (by first | assumption | omega) (by first | assumption | (rw [zup_s]; omega)) (by first | assumption | (rw [zup_s]; omega)) (by first | assumption | omega) (by first | assumption | omega)) (cwV 2 hts gX2_age_X2_moveGhosts rfl rfl rfl (by decide +kernel) ⟨Nat.le_of_ble_eq_true rfl, Nat.le_of_ble_eq_true rfl⟩) ⟨fun a U g mk q => by obtain ⟨q0, q1, qP, qK, qD⟩ := q; exact ⟨q0, q1, qP, va_K.moved (u := U) (U := U.calling g mk a) (Vm.Alike.refl U.vm) qK, qD⟩, va_recv hK hP (ci := 1) (q0 := 0) rfl rfl, fun U hU hW => ⟨rfl, by rw [hU], by rw [hU]; exact hPc, va_K.moved hW.alike hK, hDc.weaken (fun _ _ _ _ => trivial)⟩⟩ rfl rfl hl.1 rfl (lv_room (Nat.le_of_ble_eq_true rfl)) dX2_age_21 ⟨Nat.le_of_ble_eq_true rfl, Nat.le_of_ble_eq_true rfl⟩) hS (fun q _ h => hFc q h) hFc (fun u t H1 locs ht hvm hw_3 hB hz1 hk1 hS => ?_)
    obtain ⟨hP1, hD1⟩ := hB
    rw [ht] at hP1
    obtain ⟨hP, hD⟩ := va_join (wr := []) (w1 := [(h, .inr (1, [.ref a0, .ref a1, .ref a2, .ref a3, .ref a4, .ref a5, .int (nI n)])), (a0, .inl (cA, 10, .inl (fun j9 => nI (wa j9)))), (a1, .inl (cA, 10, .inl (fun j9 => nI (iv j9)))), (a2, .inl (cA, 10, .inl (fun j9 => nI ((zup gh r (z_gb (zb d) (wa r) (iv r) (gh r))) j9)))), (a3, .inl (cA, 10, .inl (fun j9 => nI (pr j9)))), (a4, .inl (cA, 10, .inl me)), (a5, .inl (cA, 10, .inl rk))]) hP hD [0, 1, 2, 3, 4, 5, 6] [] rfl rfl (by decide) (by decide) hk1 hFc hP1 hD1
    generalize H1 = H at hP hS ⊢
    have hP : va_P (dC, dI) vwCl [(h, .inr (1, [.ref a0, .ref a1, .ref a2, .ref a3, .ref a4, .ref a5, .int (nI n)])), (a0, .inl (cA, 10, .inl (fun j9 => nI (wa j9)))), (a1, .inl (cA, 10, .inl (fun j9 => nI (iv j9)))), (a2, .inl (cA, 10, .inl (fun j9 => nI ((zup gh r (z_gb (zb d) (wa r) (iv r) (gh r))) j9)))), (a3, .inl (cA, 10, .inl (fun j9 => nI (pr j9)))), (a4, .inl (cA, 10, .inl me)), (a5, .inl (cA, 10, .inl rk))] H := hP
    have hD : va_D A [(h, .inr (1, [.ref a0, .ref a1, .ref a2, .ref a3, .ref a4, .ref a5, .int (nI n)])), (a0, .inl (cA, 10, .inl (fun j9 => nI (wa j9)))), (a1, .inl (cA, 10, .inl (fun j9 => nI (iv j9)))), (a2, .inl (cA, 10, .inl (fun j9 => nI ((zup gh r (z_gb (zb d) (wa r) (iv r) (gh r))) j9)))), (a3, .inl (cA, 10, .inl (fun j9 => nI (pr j9)))), (a4, .inl (cA, 10, .inl me)), (a5, .inl (cA, 10, .inl rk))] := hD
    have hw4 : ∀ (x0 : Nat → Nat) (x1 : Nat → Nat) (x2 : Nat → Nat), x0 = wa → x1 = iv → x2 = zup gh r (z_gb (zb d) (wa r) (iv r) (gh r)) → va_P (dC, dI) vwCl [(h, .inr (1, [.ref a0, .ref a1, .ref a2, .ref a3, .ref a4, .ref a5, .int (nI n)])), (a0, .inl (cA, 10, .inl (fun j9 => nI (x0 j9)))), (a1, .inl (cA, 10, .inl (fun j9 => nI (x1 j9)))), (a2, .inl (cA, 10, .inl (fun j9 => nI (x2 j9)))), (a3, .inl (cA, 10, .inl (fun j9 => nI (pr j9)))), (a4, .inl (cA, 10, .inl me)), (a5, .inl (cA, 10, .inl rk))] H ∧ va_D A [(h, .inr (1, [.ref a0, .ref a1, .ref a2, .ref a3, .ref a4, .ref a5, .int (nI n)])), (a0, .inl (cA, 10, .inl (fun j9 => nI (x0 j9)))), (a1, .inl (cA, 10, .inl (fun j9 => nI (x1 j9)))), (a2, .inl (cA, 10, .inl (fun j9 => nI (x2 j9)))), (a3, .inl (cA, 10, .inl (fun j9 => nI (pr j9)))), (a4, .inl (cA, 10, .inl me)), (a5, .inl (cA, 10, .inl rk))] := by
      intro x0 x1 x2 h0 h1 h2; subst h0; subst h1; subst h2; exact ⟨hP, hD⟩
    obtain ⟨hP, hD⟩ := hw4 (zup wa r (z_wa d (wa r) (iv r))) (zup iv r (z_iv d (wa r) (iv r))) (zup gh r (z_gh d (wa r) (iv r) (gh r))) (show (zup wa r (z_wa d (wa r) (iv r))) = wa from by (first | rfl | exact zup_eq _ (by unfold z_wa z_iv; (repeat' split) <;> omega))) (show (zup iv r (z_iv d (wa r) (iv r))) = iv from by (first | rfl | exact zup_eq _ (by unfold z_iv; (repeat' split) <;> omega))) (show (zup gh r (z_gh d (wa r) (iv r) (gh r))) = zup gh r (z_gb (zb d) (wa r) (iv r) (gh r)) from by (first | (unfold z_gh; rw [zup_s, zup_s]; done) | (unfold z_gh; rw [show z_wa d (wa r) (iv r) = wa r from by unfold z_wa z_iv; (repeat' split) <;> omega, show z_iv d (wa r) (iv r) = iv r from by unfold z_iv; (repeat' split) <;> omega])))
    exact W.vret hx hb hr (fun t ht hW => ⟨⟨(), rfl, trivial, by rw [ht]; exact hP, hD⟩, hS.F ht⟩) hS.2.2 dX2_age_24
  · skip
    replace c_1 := mt (zz_lez (by omega)).mpr c_1
    refine lv_aload_n hx hb dX2_age_9 rfl (lv_at hl 0 rfl) ?_
    refine lv_iload_n hx hb dX2_age_10 rfl (lv_at hl 1 rfl) ?_
    refine lv_iload_n hx hb dX2_age_11 rfl (lv_at hl 2 rfl) ?_
    have hPc := hP.sub (ws' := [(h, .inr (1, [.ref a0, .ref a1, .ref a2, .ref a3, .ref a4, .ref a5, .int (nI n)])), (a0, .inl (cA, 10, .inl (fun j9 => nI (wa j9)))), (a1, .inl (cA, 10, .inl (fun j9 => nI (iv j9)))), (a2, .inl (cA, 10, .inl (fun j9 => nI (gh j9)))), (a3, .inl (cA, 10, .inl (fun j9 => nI (pr j9)))), (a4, .inl (cA, 10, .inl me)), (a5, .inl (cA, 10, .inl rk))]) [0, 1, 2, 3, 4, 5, 6] rfl
    have hDc := hD.sub (ws' := [(h, .inr (1, [.ref a0, .ref a1, .ref a2, .ref a3, .ref a4, .ref a5, .int (nI n)])), (a0, .inl (cA, 10, .inl (fun j9 => nI (wa j9)))), (a1, .inl (cA, 10, .inl (fun j9 => nI (iv j9)))), (a2, .inl (cA, 10, .inl (fun j9 => nI (gh j9)))), (a3, .inl (cA, 10, .inl (fun j9 => nI (pr j9)))), (a4, .inl (cA, 10, .inl me)), (a5, .inl (cA, 10, .inl rk))]) [0, 1, 2, 3, 4, 5, 6] (by decide) rfl
    have hFc := va_free (wc := [(h, .inr (1, [.ref a0, .ref a1, .ref a2, .ref a3, .ref a4, .ref a5, .int (nI n)])), (a0, .inl (cA, 10, .inl (fun j9 => nI (wa j9)))), (a1, .inl (cA, 10, .inl (fun j9 => nI (iv j9)))), (a2, .inl (cA, 10, .inl (fun j9 => nI (gh j9)))), (a3, .inl (cA, 10, .inl (fun j9 => nI (pr j9)))), (a4, .inl (cA, 10, .inl me)), (a5, .inl (cA, 10, .inl rk))]) hD hS hA [0, 1, 2, 3, 4, 5, 6] rfl
    refine va_callv (va_runV (As := [.int (nI r),.int (nI d)]) (rest := []) ⟨hx, hb, hml, hown, hts⟩ (c_X2_growIvy l dC dI cA h a0 a1 a2 a3 a4 a5 n wa iv gh pr me rk r d s.heap.size (by first | assumption | omega) (by first | assumption | omega) (by first | assumption | omega) (by first | assumption | omega) (by first | assumption | omega)) (cwV 2 hts gX2_age_X2_growIvy rfl rfl rfl (by decide +kernel) ⟨Nat.le_of_ble_eq_true rfl, Nat.le_of_ble_eq_true rfl⟩) ⟨fun a U g mk q => by obtain ⟨q0, q1, qP, qK, qD⟩ := q; exact ⟨q0, q1, qP, va_K.moved (u := U) (U := U.calling g mk a) (Vm.Alike.refl U.vm) qK, qD⟩, va_recv hK hP (ci := 1) (q0 := 0) rfl rfl, fun U hU hW => ⟨rfl, by rw [hU], by rw [hU]; exact hPc, va_K.moved hW.alike hK, hDc.weaken (fun _ _ _ _ => trivial)⟩⟩ rfl rfl hl.1 rfl (lv_room (Nat.le_of_ble_eq_true rfl)) dX2_age_12 ⟨Nat.le_of_ble_eq_true rfl, Nat.le_of_ble_eq_true rfl⟩) hS (fun q _ h => hFc q h) hFc (fun u t H1 locs ht hvm hw_5 hB hz1 hk1 hS => ?_)
    obtain ⟨hP1, hD1⟩ := hB
    rw [ht] at hP1
    obtain ⟨hP, hD⟩ := va_join (wr := []) (w1 := [(h, .inr (1, [.ref a0, .ref a1, .ref a2, .ref a3, .ref a4, .ref a5, .int (nI n)])), (a0, .inl (cA, 10, .inl (fun j9 => nI ((zup wa r (z_wa d (wa r) (iv r))) j9)))), (a1, .inl (cA, 10, .inl (fun j9 => nI ((zup iv r (z_iv d (wa r) (iv r))) j9)))), (a2, .inl (cA, 10, .inl (fun j9 => nI (gh j9)))), (a3, .inl (cA, 10, .inl (fun j9 => nI (pr j9)))), (a4, .inl (cA, 10, .inl me)), (a5, .inl (cA, 10, .inl rk))]) hP hD [0, 1, 2, 3, 4, 5, 6] [] rfl rfl (by decide) (by decide) hk1 hFc hP1 hD1
    generalize H1 = H at hP hS ⊢
    have hP : va_P (dC, dI) vwCl [(h, .inr (1, [.ref a0, .ref a1, .ref a2, .ref a3, .ref a4, .ref a5, .int (nI n)])), (a0, .inl (cA, 10, .inl (fun j9 => nI ((zup wa r (z_wa d (wa r) (iv r))) j9)))), (a1, .inl (cA, 10, .inl (fun j9 => nI ((zup iv r (z_iv d (wa r) (iv r))) j9)))), (a2, .inl (cA, 10, .inl (fun j9 => nI (gh j9)))), (a3, .inl (cA, 10, .inl (fun j9 => nI (pr j9)))), (a4, .inl (cA, 10, .inl me)), (a5, .inl (cA, 10, .inl rk))] H := hP
    have hD : va_D A [(h, .inr (1, [.ref a0, .ref a1, .ref a2, .ref a3, .ref a4, .ref a5, .int (nI n)])), (a0, .inl (cA, 10, .inl (fun j9 => nI ((zup wa r (z_wa d (wa r) (iv r))) j9)))), (a1, .inl (cA, 10, .inl (fun j9 => nI ((zup iv r (z_iv d (wa r) (iv r))) j9)))), (a2, .inl (cA, 10, .inl (fun j9 => nI (gh j9)))), (a3, .inl (cA, 10, .inl (fun j9 => nI (pr j9)))), (a4, .inl (cA, 10, .inl me)), (a5, .inl (cA, 10, .inl rk))] := hD
    refine lv_aload_n hx hb dX2_age_15 rfl (lv_at hl 0 rfl) ?_
    refine lv_iload_n hx hb dX2_age_16 rfl (lv_at hl 1 rfl) ?_
    refine lv_iload_n hx hb dX2_age_17 rfl (lv_at hl 2 rfl) ?_
    refine vp_callSi (W.runS (As := [.int (nI d)]) (rest := [.int (nI r), .ref h]) ⟨hx, hb, hml, hown, hts⟩ (c_X0_brightnessOn l dC dI cA d (by first | assumption | omega)) (va_cwS 1 hts gX2_age_X0_brightnessOn rfl rfl rfl (by decide +kernel) ⟨Nat.le_of_ble_eq_true rfl, Nat.le_of_ble_eq_true rfl⟩) ⟨fun _ _ _ _ q => q, fun U hU hW => ⟨rfl, trivial⟩⟩ rfl rfl hl.1 rfl (lv_room (Nat.le_of_ble_eq_true rfl)) dX2_age_18 ⟨Nat.le_of_ble_eq_true rfl, Nat.le_of_ble_eq_true rfl⟩) (fun r_6 hw_6 => ?_)
    subst hw_6
    have hPc := hP.sub (ws' := [(h, .inr (1, [.ref a0, .ref a1, .ref a2, .ref a3, .ref a4, .ref a5, .int (nI n)])), (a0, .inl (cA, 10, .inl (fun j9 => nI ((zup wa r (z_wa d (wa r) (iv r))) j9)))), (a1, .inl (cA, 10, .inl (fun j9 => nI ((zup iv r (z_iv d (wa r) (iv r))) j9)))), (a2, .inl (cA, 10, .inl (fun j9 => nI (gh j9)))), (a3, .inl (cA, 10, .inl (fun j9 => nI (pr j9)))), (a4, .inl (cA, 10, .inl me)), (a5, .inl (cA, 10, .inl rk))]) [0, 1, 2, 3, 4, 5, 6] rfl
    have hDc := hD.sub (ws' := [(h, .inr (1, [.ref a0, .ref a1, .ref a2, .ref a3, .ref a4, .ref a5, .int (nI n)])), (a0, .inl (cA, 10, .inl (fun j9 => nI ((zup wa r (z_wa d (wa r) (iv r))) j9)))), (a1, .inl (cA, 10, .inl (fun j9 => nI ((zup iv r (z_iv d (wa r) (iv r))) j9)))), (a2, .inl (cA, 10, .inl (fun j9 => nI (gh j9)))), (a3, .inl (cA, 10, .inl (fun j9 => nI (pr j9)))), (a4, .inl (cA, 10, .inl me)), (a5, .inl (cA, 10, .inl rk))]) [0, 1, 2, 3, 4, 5, 6] (by decide) rfl
    have hFc := va_free (wc := [(h, .inr (1, [.ref a0, .ref a1, .ref a2, .ref a3, .ref a4, .ref a5, .int (nI n)])), (a0, .inl (cA, 10, .inl (fun j9 => nI ((zup wa r (z_wa d (wa r) (iv r))) j9)))), (a1, .inl (cA, 10, .inl (fun j9 => nI ((zup iv r (z_iv d (wa r) (iv r))) j9)))), (a2, .inl (cA, 10, .inl (fun j9 => nI (gh j9)))), (a3, .inl (cA, 10, .inl (fun j9 => nI (pr j9)))), (a4, .inl (cA, 10, .inl me)), (a5, .inl (cA, 10, .inl rk))]) hD hS hA [0, 1, 2, 3, 4, 5, 6] rfl
    refine va_callv (va_runV (As := [.int (nI r),.int (nI (zb d))]) (rest := []) ⟨hx, hb, hml, hown, hts⟩ (c_X2_moveGhosts l dC dI cA h a0 a1 a2 a3 a4 a5 n (zup wa r (z_wa d (wa r) (iv r))) (zup iv r (z_iv d (wa r) (iv r))) gh pr me rk r (zb d) H.size (by first | assumption | omega) (by first | assumption | (rw [zup_s]; omega)) (by first | assumption | (rw [zup_s]; omega)) (by first | assumption | omega) (by first | assumption | omega)) (cwV 2 hts gX2_age_X2_moveGhosts rfl rfl rfl (by decide +kernel) ⟨Nat.le_of_ble_eq_true rfl, Nat.le_of_ble_eq_true rfl⟩) ⟨fun a U g mk q => by obtain ⟨q0, q1, qP, qK, qD⟩ := q; exact ⟨q0, q1, qP, va_K.moved (u := U) (U := U.calling g mk a) (Vm.Alike.refl U.vm) qK, qD⟩, va_recv hK hP (ci := 1) (q0 := 0) rfl rfl, fun U hU hW => ⟨rfl, by rw [hU], by rw [hU]; exact hPc, va_K.moved hW.alike hK, hDc.weaken (fun _ _ _ _ => trivial)⟩⟩ rfl rfl hl.1 rfl (lv_room (Nat.le_of_ble_eq_true rfl)) dX2_age_21 ⟨Nat.le_of_ble_eq_true rfl, Nat.le_of_ble_eq_true rfl⟩) hS (fun q _ h => hFc q h) hFc (fun u t H1 locs ht hvm hw_7 hB hz1 hk1 hS => ?_)
    obtain ⟨hP1, hD1⟩ := hB
    rw [ht] at hP1
    obtain ⟨hP, hD⟩ := va_join (wr := []) (w1 := [(h, .inr (1, [.ref a0, .ref a1, .ref a2, .ref a3, .ref a4, .ref a5, .int (nI n)])), (a0, .inl (cA, 10, .inl (fun j9 => nI ((zup wa r (z_wa d (wa r) (iv r))) j9)))), (a1, .inl (cA, 10, .inl (fun j9 => nI ((zup iv r (z_iv d (wa r) (iv r))) j9)))), (a2, .inl (cA, 10, .inl (fun j9 => nI ((zup gh r (z_gb (zb d) ((zup wa r (z_wa d (wa r) (iv r))) r) ((zup iv r (z_iv d (wa r) (iv r))) r) (gh r))) j9)))), (a3, .inl (cA, 10, .inl (fun j9 => nI (pr j9)))), (a4, .inl (cA, 10, .inl me)), (a5, .inl (cA, 10, .inl rk))]) hP hD [0, 1, 2, 3, 4, 5, 6] [] rfl rfl (by decide) (by decide) hk1 hFc hP1 hD1
    generalize H1 = H at hP hS ⊢
    have hP : va_P (dC, dI) vwCl [(h, .inr (1, [.ref a0, .ref a1, .ref a2, .ref a3, .ref a4, .ref a5, .int (nI n)])), (a0, .inl (cA, 10, .inl (fun j9 => nI ((zup wa r (z_wa d (wa r) (iv r))) j9)))), (a1, .inl (cA, 10, .inl (fun j9 => nI ((zup iv r (z_iv d (wa r) (iv r))) j9)))), (a2, .inl (cA, 10, .inl (fun j9 => nI ((zup gh r (z_gb (zb d) ((zup wa r (z_wa d (wa r) (iv r))) r) ((zup iv r (z_iv d (wa r) (iv r))) r) (gh r))) j9)))), (a3, .inl (cA, 10, .inl (fun j9 => nI (pr j9)))), (a4, .inl (cA, 10, .inl me)), (a5, .inl (cA, 10, .inl rk))] H := hP
    have hD : va_D A [(h, .inr (1, [.ref a0, .ref a1, .ref a2, .ref a3, .ref a4, .ref a5, .int (nI n)])), (a0, .inl (cA, 10, .inl (fun j9 => nI ((zup wa r (z_wa d (wa r) (iv r))) j9)))), (a1, .inl (cA, 10, .inl (fun j9 => nI ((zup iv r (z_iv d (wa r) (iv r))) j9)))), (a2, .inl (cA, 10, .inl (fun j9 => nI ((zup gh r (z_gb (zb d) ((zup wa r (z_wa d (wa r) (iv r))) r) ((zup iv r (z_iv d (wa r) (iv r))) r) (gh r))) j9)))), (a3, .inl (cA, 10, .inl (fun j9 => nI (pr j9)))), (a4, .inl (cA, 10, .inl me)), (a5, .inl (cA, 10, .inl rk))] := hD
    have hw8 : ∀ (x0 : Nat → Nat), x0 = zup gh r (z_gb (zb d) ((zup wa r (z_wa d (wa r) (iv r))) r) ((zup iv r (z_iv d (wa r) (iv r))) r) (gh r)) → va_P (dC, dI) vwCl [(h, .inr (1, [.ref a0, .ref a1, .ref a2, .ref a3, .ref a4, .ref a5, .int (nI n)])), (a0, .inl (cA, 10, .inl (fun j9 => nI ((zup wa r (z_wa d (wa r) (iv r))) j9)))), (a1, .inl (cA, 10, .inl (fun j9 => nI ((zup iv r (z_iv d (wa r) (iv r))) j9)))), (a2, .inl (cA, 10, .inl (fun j9 => nI (x0 j9)))), (a3, .inl (cA, 10, .inl (fun j9 => nI (pr j9)))), (a4, .inl (cA, 10, .inl me)), (a5, .inl (cA, 10, .inl rk))] H ∧ va_D A [(h, .inr (1, [.ref a0, .ref a1, .ref a2, .ref a3, .ref a4, .ref a5, .int (nI n)])), (a0, .inl (cA, 10, .inl (fun j9 => nI ((zup wa r (z_wa d (wa r) (iv r))) j9)))), (a1, .inl (cA, 10, .inl (fun j9 => nI ((zup iv r (z_iv d (wa r) (iv r))) j9)))), (a2, .inl (cA, 10, .inl (fun j9 => nI (x0 j9)))), (a3, .inl (cA, 10, .inl (fun j9 => nI (pr j9)))), (a4, .inl (cA, 10, .inl me)), (a5, .inl (cA, 10, .inl rk))] := by
      intro x0 h0; subst h0; exact ⟨hP, hD⟩
    obtain ⟨hP, hD⟩ := hw8 (zup gh r (z_gh d (wa r) (iv r) (gh r))) (show (zup gh r (z_gh d (wa r) (iv r) (gh r))) = zup gh r (z_gb (zb d) ((zup wa r (z_wa d (wa r) (iv r))) r) ((zup iv r (z_iv d (wa r) (iv r))) r) (gh r)) from by (first | (unfold z_gh; rw [zup_s, zup_s]; done) | (unfold z_gh; rw [show z_wa d (wa r) (iv r) = wa r from by unfold z_wa z_iv; (repeat' split) <;> omega, show z_iv d (wa r) (iv r) = iv r from by unfold z_iv; (repeat' split) <;> omega])))
    exact W.vret hx hb hr (fun t ht hW => ⟨⟨(), rfl, trivial, by rw [ht]; exact hP, hD⟩, hS.F ht⟩) hS.2.2 dX2_age_24
theorem i_X2_ageAll_X2 : ∀ w ∈ u_ws RX2 TX2 7, w ∈ wsX2_ageAll := by decide +kernel
set_option maxHeartbeats 4000000 in
set_option maxRecDepth 100000 in
theorem c_X2_ageAll (l : Launch) (dC : Nat → ClassId) (dI : Nat → Nat → Nat) (cA : ClassId) (h : Nat) (a0 : Nat) (a1 : Nat) (a2 : Nat) (a3 : Nat) (a4 : Nat) (a5 : Nat) (n : Nat) (wa : Nat → Nat) (iv : Nat → Nat) (gh : Nat → Nat) (pr : Nat → Nat) (me : Nat → Int32) (rk : Nat → Int32) (d : Nat) (sz : Nat) (hn : n ≤ 10) (hwa : ∀ j, wa j ≤ 20) (hiv : ∀ j, iv j ≤ 12) (hgh : ∀ j, gh j ≤ 5) (hd : d < 2 ^ 31) : Met l yX2_ageAll wsX2_ageAll ({ frames := 3, cells := 0, slots := 0, locals := 67 } : Room) (va_Pc [.ref h, .int (nI d)] (fun U => U.heap.size = sz ∧ va_P (dC, dI) vwCl [(h, .inr (1, [.ref a0, .ref a1, .ref a2, .ref a3, .ref a4, .ref a5, .int (nI n)])), (a0, .inl (cA, 10, .inl (fun j9 => nI (wa j9)))), (a1, .inl (cA, 10, .inl (fun j9 => nI (iv j9)))), (a2, .inl (cA, 10, .inl (fun j9 => nI (gh j9)))), (a3, .inl (cA, 10, .inl (fun j9 => nI (pr j9)))), (a4, .inl (cA, 10, .inl me)), (a5, .inl (cA, 10, .inl rk))] U.heap ∧ va_K (dC, dI) vwCl [(cA, .int)] U ∧ va_D (fun _ => True) [(h, .inr (1, [.ref a0, .ref a1, .ref a2, .ref a3, .ref a4, .ref a5, .int (nI n)])), (a0, .inl (cA, 10, .inl (fun j9 => nI (wa j9)))), (a1, .inl (cA, 10, .inl (fun j9 => nI (iv j9)))), (a2, .inl (cA, 10, .inl (fun j9 => nI (gh j9)))), (a3, .inl (cA, 10, .inl (fun j9 => nI (pr j9)))), (a4, .inl (cA, 10, .inl me)), (a5, .inl (cA, 10, .inl rk))])) (va_Qv (fun _ : Unit => True) (fun (_ : Unit) t => va_P (dC, dI) vwCl [(h, .inr (1, [.ref a0, .ref a1, .ref a2, .ref a3, .ref a4, .ref a5, .int (nI n)])), (a0, .inl (cA, 10, .inl (fun j9 => nI ((zAw d n wa iv) j9)))), (a1, .inl (cA, 10, .inl (fun j9 => nI ((zAi d n wa iv) j9)))), (a2, .inl (cA, 10, .inl (fun j9 => nI ((zAg d n wa iv gh) j9)))), (a3, .inl (cA, 10, .inl (fun j9 => nI (pr j9)))), (a4, .inl (cA, 10, .inl me)), (a5, .inl (cA, 10, .inl rk))] t.heap ∧ va_D (va_A [(h, .inr (1, [.ref a0, .ref a1, .ref a2, .ref a3, .ref a4, .ref a5, .int (nI n)])), (a0, .inl (cA, 10, .inl (fun j9 => nI (wa j9)))), (a1, .inl (cA, 10, .inl (fun j9 => nI (iv j9)))), (a2, .inl (cA, 10, .inl (fun j9 => nI (gh j9)))), (a3, .inl (cA, 10, .inl (fun j9 => nI (pr j9)))), (a4, .inl (cA, 10, .inl me)), (a5, .inl (cA, 10, .inl rk))] sz) [(h, .inr (1, [.ref a0, .ref a1, .ref a2, .ref a3, .ref a4, .ref a5, .int (nI n)])), (a0, .inl (cA, 10, .inl (fun j9 => nI ((zAw d n wa iv) j9)))), (a1, .inl (cA, 10, .inl (fun j9 => nI ((zAi d n wa iv) j9)))), (a2, .inl (cA, 10, .inl (fun j9 => nI ((zAg d n wa iv gh) j9)))), (a3, .inl (cA, 10, .inl (fun j9 => nI (pr j9)))), (a4, .inl (cA, 10, .inl me)), (a5, .inl (cA, 10, .inl rk))]) (va_A [(h, .inr (1, [.ref a0, .ref a1, .ref a2, .ref a3, .ref a4, .ref a5, .int (nI n)])), (a0, .inl (cA, 10, .inl (fun j9 => nI (wa j9)))), (a1, .inl (cA, 10, .inl (fun j9 => nI (iv j9)))), (a2, .inl (cA, 10, .inl (fun j9 => nI (gh j9)))), (a3, .inl (cA, 10, .inl (fun j9 => nI (pr j9)))), (a4, .inl (cA, 10, .inl me)), (a5, .inl (cA, 10, .inl rk))] sz)) 0 0 (va_A [(h, .inr (1, [.ref a0, .ref a1, .ref a2, .ref a3, .ref a4, .ref a5, .int (nI n)])), (a0, .inl (cA, 10, .inl (fun j9 => nI (wa j9)))), (a1, .inl (cA, 10, .inl (fun j9 => nI (iv j9)))), (a2, .inl (cA, 10, .inl (fun j9 => nI (gh j9)))), (a3, .inl (cA, 10, .inl (fun j9 => nI (pr j9)))), (a4, .inl (cA, 10, .inl me)), (a5, .inl (cA, 10, .inl rk))] sz) := by
  refine Met.ofW (cc := cX2_ageAll) (maxL := 3) (ret := none) (by decide) rfl ?_
  intro p e s m args below meth c s₁ B hml hv
  obtain ⟨hargs, hsz, hP, hK, hD0⟩ := hv
  have hx := B.exec
  have hb := B.bytes
  have hr := B.returns
  have hts := atoms_spec (ws := wsX2_ageAll) B.pre
  have hown : s.vm.findClass RX2 = some m.cls := findClass_of_methodNamed B.named
  have hlocks := B.notSynchronized
  subst hsz
  have hD := hD0.self (sz := s.heap.size)
  generalize hAe : va_A [(h, .inr (1, [.ref a0, .ref a1, .ref a2, .ref a3, .ref a4, .ref a5, .int (nI n)])), (a0, .inl (cA, 10, .inl (fun j9 => nI (wa j9)))), (a1, .inl (cA, 10, .inl (fun j9 => nI (iv j9)))), (a2, .inl (cA, 10, .inl (fun j9 => nI (gh j9)))), (a3, .inl (cA, 10, .inl (fun j9 => nI (pr j9)))), (a4, .inl (cA, 10, .inl me)), (a5, .inl (cA, 10, .inl rk))] s.heap.size = A at hD ⊢
  have hA : ∀ q : Nat, s.heap.size ≤ q → A q := fun q h => by rw [← hAe]; exact Or.inr h
  have hS : va_S A s.heap s.heap [] := va_S.rf
  have hP : va_P (dC, dI) vwCl [(h, .inr (1, [.ref a0, .ref a1, .ref a2, .ref a3, .ref a4, .ref a5, .int (nI n)])), (a0, .inl (cA, 10, .inl (fun j9 => nI (wa j9)))), (a1, .inl (cA, 10, .inl (fun j9 => nI (iv j9)))), (a2, .inl (cA, 10, .inl (fun j9 => nI (gh j9)))), (a3, .inl (cA, 10, .inl (fun j9 => nI (pr j9)))), (a4, .inl (cA, 10, .inl me)), (a5, .inl (cA, 10, .inl rk))] s.heap := hP
  have hl := lv_entry ([.ref h, .int (nI d)]) (n := 3) (Nat.le_of_ble_eq_true rfl)
  rw [hargs, lg_entry_eq, ← hargs]
  generalize (lg_sl ([.ref h, .int (nI d)]) ++ List.replicate (3 - (lg_sl ([.ref h, .int (nI d)])).length) Slot.unset).toArray = ls at hl ⊢
  have hl : lv_has ls 3 [(0, .ref h), (1, .int (nI d))] := hl
  refine lv_iconst (v := nI 0) hx hb dX2_ageAll_0 (by decide) ?_
  refine lv_istore_n (lv' := [(2, .int (nI 0)), (0, .ref h), (1, .int (nI d))]) hx hb dX2_ageAll_1 rfl hl (by decide) rfl (fun ls hl => ?_)
  have lp_2 : ∀ (f9 : Nat) (i : Nat) , (n - i) < f9 → (i ≤ n) → ∀ (H : Heap) (locs : List Loc), va_P (dC, dI) vwCl [(h, .inr (1, [.ref a0, .ref a1, .ref a2, .ref a3, .ref a4, .ref a5, .int (nI n)])), (a0, .inl (cA, 10, .inl (fun j9 => nI ((zAw d i wa iv) j9)))), (a1, .inl (cA, 10, .inl (fun j9 => nI ((zAi d i wa iv) j9)))), (a2, .inl (cA, 10, .inl (fun j9 => nI ((zAg d i wa iv gh) j9)))), (a3, .inl (cA, 10, .inl (fun j9 => nI (pr j9)))), (a4, .inl (cA, 10, .inl me)), (a5, .inl (cA, 10, .inl rk))] H → va_D A [(h, .inr (1, [.ref a0, .ref a1, .ref a2, .ref a3, .ref a4, .ref a5, .int (nI n)])), (a0, .inl (cA, 10, .inl (fun j9 => nI ((zAw d i wa iv) j9)))), (a1, .inl (cA, 10, .inl (fun j9 => nI ((zAi d i wa iv) j9)))), (a2, .inl (cA, 10, .inl (fun j9 => nI ((zAg d i wa iv gh) j9)))), (a3, .inl (cA, 10, .inl (fun j9 => nI (pr j9)))), (a4, .inl (cA, 10, .inl me)), (a5, .inl (cA, 10, .inl rk))] → va_S A s.heap H locs → ∀ (ls : Array Slot), lv_has ls 3 [(0, .ref h), (1, .int (nI d)), (2, .int (nI i))] → W p l e ({ frames := 3, cells := 0, slots := 0, locals := 67 } : Room) s m args below meth c H locs 0 0 (MQ below (va_Qv (fun _ : Unit => True) (fun (_ : Unit) t => va_P (dC, dI) vwCl [(h, .inr (1, [.ref a0, .ref a1, .ref a2, .ref a3, .ref a4, .ref a5, .int (nI n)])), (a0, .inl (cA, 10, .inl (fun j9 => nI ((zAw d n wa iv) j9)))), (a1, .inl (cA, 10, .inl (fun j9 => nI ((zAi d n wa iv) j9)))), (a2, .inl (cA, 10, .inl (fun j9 => nI ((zAg d n wa iv gh) j9)))), (a3, .inl (cA, 10, .inl (fun j9 => nI (pr j9)))), (a4, .inl (cA, 10, .inl me)), (a5, .inl (cA, 10, .inl rk))] t.heap ∧ va_D A [(h, .inr (1, [.ref a0, .ref a1, .ref a2, .ref a3, .ref a4, .ref a5, .int (nI n)])), (a0, .inl (cA, 10, .inl (fun j9 => nI ((zAw d n wa iv) j9)))), (a1, .inl (cA, 10, .inl (fun j9 => nI ((zAi d n wa iv) j9)))), (a2, .inl (cA, 10, .inl (fun j9 => nI ((zAg d n wa iv gh) j9)))), (a3, .inl (cA, 10, .inl (fun j9 => nI (pr j9)))), (a4, .inl (cA, 10, .inl me)), (a5, .inl (cA, 10, .inl rk))]) A) args s 0 0 A) (F0 m 2 ls []) := by
    intro f9
    induction f9 with
    | zero => intro i hm9; exact absurd hm9 (Nat.not_lt_zero _)
    | succ f9 ih_2 =>
      intro i hm9 hi H locs hP hD hS ls hl
      have e91 : zAw d i wa iv i = wa i := by simp [zAw]
      have e92 : zAi d i wa iv i = iv i := by simp [zAi]
      have e93 : zAg d i wa iv gh i = gh i := by simp [zAg]
      have hw9 := hwa i
      have hi9 := hiv i
      have hg9 := hgh i
      refine lv_iload_n hx hb dX2_ageAll_2 rfl (lv_at hl 2 rfl) ?_
      refine lv_aload_n hx hb dX2_ageAll_3 rfl (lv_at hl 0 rfl) ?_
      refine va_get (D := (dC, dI)) (ci := 1) (v := .int (nI n)) (C := RX2) (T := TX2) (N := 7) hx hb hts i_X2_ageAll_X2 hown hK hP 0 rfl rfl 6 (by decide) (hts (.fieldLink RX2 30 "RuinViews$Ruins" "count" "I") (List.mem_of_getElem? (i := 1) rfl)) (fun _ h9 => h9) rfl dX2_ageAll_4 ?_
      refine lv_icmp_ge (tgt := 22) hx hb dX2_ageAll_7 (by decide) (fun c_1 => ?_) (fun c_1 => ?_)
      · skip
        replace c_1 := (nI_leI (by omega) (by omega)).mp c_1
        have hw2 : ∀ (x0 : Nat → Nat) (x1 : Nat → Nat) (x2 : Nat → Nat), x0 = zAw d i wa iv → x1 = zAi d i wa iv → x2 = zAg d i wa iv gh → va_P (dC, dI) vwCl [(h, .inr (1, [.ref a0, .ref a1, .ref a2, .ref a3, .ref a4, .ref a5, .int (nI n)])), (a0, .inl (cA, 10, .inl (fun j9 => nI (x0 j9)))), (a1, .inl (cA, 10, .inl (fun j9 => nI (x1 j9)))), (a2, .inl (cA, 10, .inl (fun j9 => nI (x2 j9)))), (a3, .inl (cA, 10, .inl (fun j9 => nI (pr j9)))), (a4, .inl (cA, 10, .inl me)), (a5, .inl (cA, 10, .inl rk))] H ∧ va_D A [(h, .inr (1, [.ref a0, .ref a1, .ref a2, .ref a3, .ref a4, .ref a5, .int (nI n)])), (a0, .inl (cA, 10, .inl (fun j9 => nI (x0 j9)))), (a1, .inl (cA, 10, .inl (fun j9 => nI (x1 j9)))), (a2, .inl (cA, 10, .inl (fun j9 => nI (x2 j9)))), (a3, .inl (cA, 10, .inl (fun j9 => nI (pr j9)))), (a4, .inl (cA, 10, .inl me)), (a5, .inl (cA, 10, .inl rk))] := by
          intro x0 x1 x2 h0 h1 h2; subst h0; subst h1; subst h2; exact ⟨hP, hD⟩
        obtain ⟨hP, hD⟩ := hw2 (zAw d n wa iv) (zAi d n wa iv) (zAg d n wa iv gh) (show (zAw d n wa iv) = zAw d i wa iv from by (rw [show n = i from by omega])) (show (zAi d n wa iv) = zAi d i wa iv from by (rw [show n = i from by omega])) (show (zAg d n wa iv gh) = zAg d i wa iv gh from by (rw [show n = i from by omega]))
        exact W.vret hx hb hr (fun t ht hW => ⟨⟨(), rfl, trivial, by rw [ht]; exact hP, hD⟩, hS.F ht⟩) hS.2.2 dX2_ageAll_22
      · skip
        replace c_1 := mt (nI_leI (by omega) (by omega)).mpr c_1
        refine lv_aload_n hx hb dX2_ageAll_10 rfl (lv_at hl 0 rfl) ?_
        refine lv_iload_n hx hb dX2_ageAll_11 rfl (lv_at hl 2 rfl) ?_
        refine lv_iload_n hx hb dX2_ageAll_12 rfl (lv_at hl 1 rfl) ?_
        have hPc := hP.sub (ws' := [(h, .inr (1, [.ref a0, .ref a1, .ref a2, .ref a3, .ref a4, .ref a5, .int (nI n)])), (a0, .inl (cA, 10, .inl (fun j9 => nI ((zAw d i wa iv) j9)))), (a1, .inl (cA, 10, .inl (fun j9 => nI ((zAi d i wa iv) j9)))), (a2, .inl (cA, 10, .inl (fun j9 => nI ((zAg d i wa iv gh) j9)))), (a3, .inl (cA, 10, .inl (fun j9 => nI (pr j9)))), (a4, .inl (cA, 10, .inl me)), (a5, .inl (cA, 10, .inl rk))]) [0, 1, 2, 3, 4, 5, 6] rfl
        have hDc := hD.sub (ws' := [(h, .inr (1, [.ref a0, .ref a1, .ref a2, .ref a3, .ref a4, .ref a5, .int (nI n)])), (a0, .inl (cA, 10, .inl (fun j9 => nI ((zAw d i wa iv) j9)))), (a1, .inl (cA, 10, .inl (fun j9 => nI ((zAi d i wa iv) j9)))), (a2, .inl (cA, 10, .inl (fun j9 => nI ((zAg d i wa iv gh) j9)))), (a3, .inl (cA, 10, .inl (fun j9 => nI (pr j9)))), (a4, .inl (cA, 10, .inl me)), (a5, .inl (cA, 10, .inl rk))]) [0, 1, 2, 3, 4, 5, 6] (by decide) rfl
        have hFc := va_free (wc := [(h, .inr (1, [.ref a0, .ref a1, .ref a2, .ref a3, .ref a4, .ref a5, .int (nI n)])), (a0, .inl (cA, 10, .inl (fun j9 => nI ((zAw d i wa iv) j9)))), (a1, .inl (cA, 10, .inl (fun j9 => nI ((zAi d i wa iv) j9)))), (a2, .inl (cA, 10, .inl (fun j9 => nI ((zAg d i wa iv gh) j9)))), (a3, .inl (cA, 10, .inl (fun j9 => nI (pr j9)))), (a4, .inl (cA, 10, .inl me)), (a5, .inl (cA, 10, .inl rk))]) hD hS hA [0, 1, 2, 3, 4, 5, 6] rfl
        refine va_callv (va_runV (As := [.int (nI i),.int (nI d)]) (rest := []) ⟨hx, hb, hml, hown, hts⟩ (c_X2_age l dC dI cA h a0 a1 a2 a3 a4 a5 n (zAw d i wa iv) (zAi d i wa iv) (zAg d i wa iv gh) pr me rk i d H.size (by first | assumption | omega) (by rw [e91]; omega) (by rw [e92]; omega) (by rw [e93]; omega) (by first | assumption | omega)) (cwV 2 hts gX2_ageAll_X2_age rfl rfl rfl (by decide +kernel) ⟨Nat.le_of_ble_eq_true rfl, Nat.le_of_ble_eq_true rfl⟩) ⟨fun a U g mk q => by obtain ⟨q0, q1, qP, qK, qD⟩ := q; exact ⟨q0, q1, qP, va_K.moved (u := U) (U := U.calling g mk a) (Vm.Alike.refl U.vm) qK, qD⟩, va_recv hK hP (ci := 1) (q0 := 0) rfl rfl, fun U hU hW => ⟨rfl, by rw [hU], by rw [hU]; exact hPc, va_K.moved hW.alike hK, hDc.weaken (fun _ _ _ _ => trivial)⟩⟩ rfl rfl hl.1 rfl (lv_room (Nat.le_of_ble_eq_true rfl)) dX2_ageAll_13 ⟨Nat.le_of_ble_eq_true rfl, Nat.le_of_ble_eq_true rfl⟩) hS (fun q _ h => hFc q h) hFc (fun u t H1 locs ht hvm hw_3 hB hz1 hk1 hS => ?_)
        obtain ⟨hP1, hD1⟩ := hB
        rw [ht] at hP1
        obtain ⟨hP, hD⟩ := va_join (wr := []) (w1 := [(h, .inr (1, [.ref a0, .ref a1, .ref a2, .ref a3, .ref a4, .ref a5, .int (nI n)])), (a0, .inl (cA, 10, .inl (fun j9 => nI ((zup (zAw d i wa iv) i (z_wa d ((zAw d i wa iv) i) ((zAi d i wa iv) i))) j9)))), (a1, .inl (cA, 10, .inl (fun j9 => nI ((zup (zAi d i wa iv) i (z_iv d ((zAw d i wa iv) i) ((zAi d i wa iv) i))) j9)))), (a2, .inl (cA, 10, .inl (fun j9 => nI ((zup (zAg d i wa iv gh) i (z_gh d ((zAw d i wa iv) i) ((zAi d i wa iv) i) ((zAg d i wa iv gh) i))) j9)))), (a3, .inl (cA, 10, .inl (fun j9 => nI (pr j9)))), (a4, .inl (cA, 10, .inl me)), (a5, .inl (cA, 10, .inl rk))]) hP hD [0, 1, 2, 3, 4, 5, 6] [] rfl rfl (by decide) (by decide) hk1 hFc hP1 hD1
        generalize H1 = H at hP hS ⊢
        have hP : va_P (dC, dI) vwCl [(h, .inr (1, [.ref a0, .ref a1, .ref a2, .ref a3, .ref a4, .ref a5, .int (nI n)])), (a0, .inl (cA, 10, .inl (fun j9 => nI ((zup (zAw d i wa iv) i (z_wa d ((zAw d i wa iv) i) ((zAi d i wa iv) i))) j9)))), (a1, .inl (cA, 10, .inl (fun j9 => nI ((zup (zAi d i wa iv) i (z_iv d ((zAw d i wa iv) i) ((zAi d i wa iv) i))) j9)))), (a2, .inl (cA, 10, .inl (fun j9 => nI ((zup (zAg d i wa iv gh) i (z_gh d ((zAw d i wa iv) i) ((zAi d i wa iv) i) ((zAg d i wa iv gh) i))) j9)))), (a3, .inl (cA, 10, .inl (fun j9 => nI (pr j9)))), (a4, .inl (cA, 10, .inl me)), (a5, .inl (cA, 10, .inl rk))] H := hP
        have hD : va_D A [(h, .inr (1, [.ref a0, .ref a1, .ref a2, .ref a3, .ref a4, .ref a5, .int (nI n)])), (a0, .inl (cA, 10, .inl (fun j9 => nI ((zup (zAw d i wa iv) i (z_wa d ((zAw d i wa iv) i) ((zAi d i wa iv) i))) j9)))), (a1, .inl (cA, 10, .inl (fun j9 => nI ((zup (zAi d i wa iv) i (z_iv d ((zAw d i wa iv) i) ((zAi d i wa iv) i))) j9)))), (a2, .inl (cA, 10, .inl (fun j9 => nI ((zup (zAg d i wa iv gh) i (z_gh d ((zAw d i wa iv) i) ((zAi d i wa iv) i) ((zAg d i wa iv gh) i))) j9)))), (a3, .inl (cA, 10, .inl (fun j9 => nI (pr j9)))), (a4, .inl (cA, 10, .inl me)), (a5, .inl (cA, 10, .inl rk))] := hD
        refine lv_iinc (v := nI (i + 1)) (lv' := [(2, .int (nI (i + 1))), (0, .ref h), (1, .int (nI d))]) hx hb dX2_ageAll_16 hl (k := 2) rfl (nI_1 _) (by decide) rfl (fun ls hl => ?_)
        refine lv_goto (tgt := 2) hx hb dX2_ageAll_19 (by decide) ?_
        have hl := lv_sub (l' := [(0, .ref h), (1, .int (nI d)), (2, .int (nI (i + 1)))]) hl [1, 2, 0] rfl
        have hw4 : ∀ (x0 : Nat → Nat) (x1 : Nat → Nat) (x2 : Nat → Nat), x0 = zup (zAw d i wa iv) i (z_wa d ((zAw d i wa iv) i) ((zAi d i wa iv) i)) → x1 = zup (zAi d i wa iv) i (z_iv d ((zAw d i wa iv) i) ((zAi d i wa iv) i)) → x2 = zup (zAg d i wa iv gh) i (z_gh d ((zAw d i wa iv) i) ((zAi d i wa iv) i) ((zAg d i wa iv gh) i)) → va_P (dC, dI) vwCl [(h, .inr (1, [.ref a0, .ref a1, .ref a2, .ref a3, .ref a4, .ref a5, .int (nI n)])), (a0, .inl (cA, 10, .inl (fun j9 => nI (x0 j9)))), (a1, .inl (cA, 10, .inl (fun j9 => nI (x1 j9)))), (a2, .inl (cA, 10, .inl (fun j9 => nI (x2 j9)))), (a3, .inl (cA, 10, .inl (fun j9 => nI (pr j9)))), (a4, .inl (cA, 10, .inl me)), (a5, .inl (cA, 10, .inl rk))] H ∧ va_D A [(h, .inr (1, [.ref a0, .ref a1, .ref a2, .ref a3, .ref a4, .ref a5, .int (nI n)])), (a0, .inl (cA, 10, .inl (fun j9 => nI (x0 j9)))), (a1, .inl (cA, 10, .inl (fun j9 => nI (x1 j9)))), (a2, .inl (cA, 10, .inl (fun j9 => nI (x2 j9)))), (a3, .inl (cA, 10, .inl (fun j9 => nI (pr j9)))), (a4, .inl (cA, 10, .inl me)), (a5, .inl (cA, 10, .inl rk))] := by
          intro x0 x1 x2 h0 h1 h2; subst h0; subst h1; subst h2; exact ⟨hP, hD⟩
        obtain ⟨hP, hD⟩ := hw4 (zAw d (i + 1) wa iv) (zAi d (i + 1) wa iv) (zAg d (i + 1) wa iv gh) (show (zAw d (i + 1) wa iv) = zup (zAw d i wa iv) i (z_wa d ((zAw d i wa iv) i) ((zAi d i wa iv) i)) from by (first | exact zA_0 | exact zA_s (by rw [e91, e92]))) (show (zAi d (i + 1) wa iv) = zup (zAi d i wa iv) i (z_iv d ((zAw d i wa iv) i) ((zAi d i wa iv) i)) from by (first | exact zA_0 | exact zA_s (by rw [e91, e92]))) (show (zAg d (i + 1) wa iv gh) = zup (zAg d i wa iv gh) i (z_gh d ((zAw d i wa iv) i) ((zAi d i wa iv) i) ((zAg d i wa iv gh) i)) from by (first | exact zA_0 | exact zA_s (by rw [e91, e92, e93])))
        exact ih_2 (i + 1) (by omega) (by first | assumption | omega) _ _ hP hD hS _ hl
  have hl := lv_sub (l' := [(0, .ref h), (1, .int (nI d)), (2, .int (nI 0))]) hl [1, 2, 0] rfl
  have hw5 : ∀ (x0 : Nat → Nat) (x1 : Nat → Nat) (x2 : Nat → Nat), x0 = wa → x1 = iv → x2 = gh → va_P (dC, dI) vwCl [(h, .inr (1, [.ref a0, .ref a1, .ref a2, .ref a3, .ref a4, .ref a5, .int (nI n)])), (a0, .inl (cA, 10, .inl (fun j9 => nI (x0 j9)))), (a1, .inl (cA, 10, .inl (fun j9 => nI (x1 j9)))), (a2, .inl (cA, 10, .inl (fun j9 => nI (x2 j9)))), (a3, .inl (cA, 10, .inl (fun j9 => nI (pr j9)))), (a4, .inl (cA, 10, .inl me)), (a5, .inl (cA, 10, .inl rk))] s.heap ∧ va_D A [(h, .inr (1, [.ref a0, .ref a1, .ref a2, .ref a3, .ref a4, .ref a5, .int (nI n)])), (a0, .inl (cA, 10, .inl (fun j9 => nI (x0 j9)))), (a1, .inl (cA, 10, .inl (fun j9 => nI (x1 j9)))), (a2, .inl (cA, 10, .inl (fun j9 => nI (x2 j9)))), (a3, .inl (cA, 10, .inl (fun j9 => nI (pr j9)))), (a4, .inl (cA, 10, .inl me)), (a5, .inl (cA, 10, .inl rk))] := by
    intro x0 x1 x2 h0 h1 h2; subst h0; subst h1; subst h2; exact ⟨hP, hD⟩
  obtain ⟨hP, hD⟩ := hw5 (zAw d 0 wa iv) (zAi d 0 wa iv) (zAg d 0 wa iv gh) (show (zAw d 0 wa iv) = wa from by (first | exact zA_0 | exact zA_s (by rw [e91, e92]))) (show (zAi d 0 wa iv) = iv from by (first | exact zA_0 | exact zA_s (by rw [e91, e92]))) (show (zAg d 0 wa iv gh) = gh from by (first | exact zA_0 | exact zA_s (by rw [e91, e92, e93])))
  exact lp_2 _ 0 (Nat.lt_succ_self _) (by first | assumption | omega) _ _ hP hD hS _ hl
theorem i_X2_build_X2 : ∀ w ∈ u_ws RX2 TX2 7, w ∈ wsX2_build := by decide +kernel
set_option maxHeartbeats 4000000 in
set_option maxRecDepth 100000 in
theorem c_X2_build (l : Launch) (dC : Nat → ClassId) (dI : Nat → Nat → Nat) (cA : ClassId) (h : Nat) (a0 : Nat) (a1 : Nat) (a2 : Nat) (a3 : Nat) (a4 : Nat) (a5 : Nat) (n : Nat) (wa : Nat → Nat) (iv : Nat → Nat) (gh : Nat → Nat) (pr : Nat → Nat) (me : Nat → Int32) (rk : Nat → Int32) (pw : Nat) (pi : Nat) (pg : Nat) (pp : Nat) (sz : Nat) (hn : n < 10) : Met l yX2_build wsX2_build ({ frames := 0, cells := 0, slots := 0, locals := 0 } : Room) (va_Pc [.ref h, .int (nI pw), .int (nI pi), .int (nI pg), .int (nI pp)] (fun U => U.heap.size = sz ∧ va_P (dC, dI) vwCl [(h, .inr (1, [.ref a0, .ref a1, .ref a2, .ref a3, .ref a4, .ref a5, .int (nI n)])), (a0, .inl (cA, 10, .inl (fun j9 => nI (wa j9)))), (a1, .inl (cA, 10, .inl (fun j9 => nI (iv j9)))), (a2, .inl (cA, 10, .inl (fun j9 => nI (gh j9)))), (a3, .inl (cA, 10, .inl (fun j9 => nI (pr j9)))), (a4, .inl (cA, 10, .inl me)), (a5, .inl (cA, 10, .inl rk))] U.heap ∧ va_K (dC, dI) vwCl [(cA, .int)] U ∧ va_D (fun _ => True) [(h, .inr (1, [.ref a0, .ref a1, .ref a2, .ref a3, .ref a4, .ref a5, .int (nI n)])), (a0, .inl (cA, 10, .inl (fun j9 => nI (wa j9)))), (a1, .inl (cA, 10, .inl (fun j9 => nI (iv j9)))), (a2, .inl (cA, 10, .inl (fun j9 => nI (gh j9)))), (a3, .inl (cA, 10, .inl (fun j9 => nI (pr j9)))), (a4, .inl (cA, 10, .inl me)), (a5, .inl (cA, 10, .inl rk))])) (va_Qi (fun (y9 : Int32) (_ : Unit) => y9 = nI n) (fun (_ : Unit) t => va_P (dC, dI) vwCl [(h, .inr (1, [.ref a0, .ref a1, .ref a2, .ref a3, .ref a4, .ref a5, .int (nI (n + 1))])), (a0, .inl (cA, 10, .inl (fun j9 => nI ((zup wa n pw) j9)))), (a1, .inl (cA, 10, .inl (fun j9 => nI ((zup iv n pi) j9)))), (a2, .inl (cA, 10, .inl (fun j9 => nI ((zup gh n pg) j9)))), (a3, .inl (cA, 10, .inl (fun j9 => nI ((zup pr n pp) j9)))), (a4, .inl (cA, 10, .inl me)), (a5, .inl (cA, 10, .inl rk))] t.heap ∧ va_D (va_A [(h, .inr (1, [.ref a0, .ref a1, .ref a2, .ref a3, .ref a4, .ref a5, .int (nI n)])), (a0, .inl (cA, 10, .inl (fun j9 => nI (wa j9)))), (a1, .inl (cA, 10, .inl (fun j9 => nI (iv j9)))), (a2, .inl (cA, 10, .inl (fun j9 => nI (gh j9)))), (a3, .inl (cA, 10, .inl (fun j9 => nI (pr j9)))), (a4, .inl (cA, 10, .inl me)), (a5, .inl (cA, 10, .inl rk))] sz) [(h, .inr (1, [.ref a0, .ref a1, .ref a2, .ref a3, .ref a4, .ref a5, .int (nI (n + 1))])), (a0, .inl (cA, 10, .inl (fun j9 => nI ((zup wa n pw) j9)))), (a1, .inl (cA, 10, .inl (fun j9 => nI ((zup iv n pi) j9)))), (a2, .inl (cA, 10, .inl (fun j9 => nI ((zup gh n pg) j9)))), (a3, .inl (cA, 10, .inl (fun j9 => nI ((zup pr n pp) j9)))), (a4, .inl (cA, 10, .inl me)), (a5, .inl (cA, 10, .inl rk))]) (va_A [(h, .inr (1, [.ref a0, .ref a1, .ref a2, .ref a3, .ref a4, .ref a5, .int (nI n)])), (a0, .inl (cA, 10, .inl (fun j9 => nI (wa j9)))), (a1, .inl (cA, 10, .inl (fun j9 => nI (iv j9)))), (a2, .inl (cA, 10, .inl (fun j9 => nI (gh j9)))), (a3, .inl (cA, 10, .inl (fun j9 => nI (pr j9)))), (a4, .inl (cA, 10, .inl me)), (a5, .inl (cA, 10, .inl rk))] sz)) 0 0 (va_A [(h, .inr (1, [.ref a0, .ref a1, .ref a2, .ref a3, .ref a4, .ref a5, .int (nI n)])), (a0, .inl (cA, 10, .inl (fun j9 => nI (wa j9)))), (a1, .inl (cA, 10, .inl (fun j9 => nI (iv j9)))), (a2, .inl (cA, 10, .inl (fun j9 => nI (gh j9)))), (a3, .inl (cA, 10, .inl (fun j9 => nI (pr j9)))), (a4, .inl (cA, 10, .inl me)), (a5, .inl (cA, 10, .inl rk))] sz) := by
  refine Met.ofW (cc := cX2_build) (maxL := 6) (ret := (some .int)) (by decide) rfl ?_
  intro p e s m args below meth c s₁ B hml hv
  obtain ⟨hargs, hsz, hP, hK, hD0⟩ := hv
  have hx := B.exec
  have hb := B.bytes
  have hr := B.returns
  have hts := atoms_spec (ws := wsX2_build) B.pre
  have hown : s.vm.findClass RX2 = some m.cls := findClass_of_methodNamed B.named
  have hlocks := B.notSynchronized
  subst hsz
  have hD := hD0.self (sz := s.heap.size)
  generalize hAe : va_A [(h, .inr (1, [.ref a0, .ref a1, .ref a2, .ref a3, .ref a4, .ref a5, .int (nI n)])), (a0, .inl (cA, 10, .inl (fun j9 => nI (wa j9)))), (a1, .inl (cA, 10, .inl (fun j9 => nI (iv j9)))), (a2, .inl (cA, 10, .inl (fun j9 => nI (gh j9)))), (a3, .inl (cA, 10, .inl (fun j9 => nI (pr j9)))), (a4, .inl (cA, 10, .inl me)), (a5, .inl (cA, 10, .inl rk))] s.heap.size = A at hD ⊢
  have hA : ∀ q : Nat, s.heap.size ≤ q → A q := fun q h => by rw [← hAe]; exact Or.inr h
  have hS : va_S A s.heap s.heap [] := va_S.rf
  have hP : va_P (dC, dI) vwCl [(h, .inr (1, [.ref a0, .ref a1, .ref a2, .ref a3, .ref a4, .ref a5, .int (nI n)])), (a0, .inl (cA, 10, .inl (fun j9 => nI (wa j9)))), (a1, .inl (cA, 10, .inl (fun j9 => nI (iv j9)))), (a2, .inl (cA, 10, .inl (fun j9 => nI (gh j9)))), (a3, .inl (cA, 10, .inl (fun j9 => nI (pr j9)))), (a4, .inl (cA, 10, .inl me)), (a5, .inl (cA, 10, .inl rk))] s.heap := hP
  have hl := lv_entry ([.ref h, .int (nI pw), .int (nI pi), .int (nI pg), .int (nI pp)]) (n := 6) (Nat.le_of_ble_eq_true rfl)
  rw [hargs, lg_entry_eq, ← hargs]
  generalize (lg_sl ([.ref h, .int (nI pw), .int (nI pi), .int (nI pg), .int (nI pp)]) ++ List.replicate (6 - (lg_sl ([.ref h, .int (nI pw), .int (nI pi), .int (nI pg), .int (nI pp)])).length) Slot.unset).toArray = ls at hl ⊢
  have hl : lv_has ls 6 [(0, .ref h), (1, .int (nI pw)), (2, .int (nI pi)), (3, .int (nI pg)), (4, .int (nI pp))] := hl
  refine lv_aload_n hx hb dX2_build_0 rfl (lv_at hl 0 rfl) ?_
  refine va_get (D := (dC, dI)) (ci := 1) (v := .int (nI n)) (C := RX2) (T := TX2) (N := 7) hx hb hts i_X2_build_X2 hown hK hP 0 rfl rfl 6 (by decide) (hts (.fieldLink RX2 30 "RuinViews$Ruins" "count" "I") (List.mem_of_getElem? (i := 1) rfl)) (fun _ h9 => h9) rfl dX2_build_1 ?_
  refine lv_istore (lv' := [(5, .int (nI n)), (0, .ref h), (1, .int (nI pw)), (2, .int (nI pi)), (3, .int (nI pg)), (4, .int (nI pp))]) hx hb dX2_build_4 hl (by decide) rfl (fun ls hl => ?_)
  refine lv_iload hx hb dX2_build_6 (lv_at hl 0 rfl) ?_
  refine lv_bipush (v := nI 10) hx hb dX2_build_8 (by decide) ?_
  refine lv_icmp_lt (tgt := 15) hx hb dX2_build_10 (by decide) (fun c_1 => ?_) (fun c_1 => ?_)
  · skip
    replace c_1 := (nI_ltI (by omega) (by omega)).mp c_1
    refine lv_aload_n hx hb dX2_build_15 rfl (lv_at hl 1 rfl) ?_
    refine va_get (D := (dC, dI)) (ci := 1) (v := .ref a0) (C := RX2) (T := TX2) (N := 7) hx hb hts i_X2_build_X2 hown hK hP 0 rfl rfl 0 (by decide) (hts (.fieldLink RX2 9 "RuinViews$Ruins" "walls" "[I") (List.mem_of_getElem? (i := 2) rfl)) (fun _ h9 => h9) rfl dX2_build_16 ?_
    refine lv_iload hx hb dX2_build_19 (lv_at hl 0 rfl) ?_
    refine lv_iload_n hx hb dX2_build_21 rfl (lv_at hl 2 rfl) ?_
    refine zz_ast hx hb hK hP hD hS 1 (f := wa) rfl rfl (by omega) (by decide) dX2_build_22 (fun H locs hP hD hS => ?_)
    have hP : va_P (dC, dI) vwCl [(h, .inr (1, [.ref a0, .ref a1, .ref a2, .ref a3, .ref a4, .ref a5, .int (nI n)])), (a0, .inl (cA, 10, .inl (fun j9 => nI ((zup wa n pw) j9)))), (a1, .inl (cA, 10, .inl (fun j9 => nI (iv j9)))), (a2, .inl (cA, 10, .inl (fun j9 => nI (gh j9)))), (a3, .inl (cA, 10, .inl (fun j9 => nI (pr j9)))), (a4, .inl (cA, 10, .inl me)), (a5, .inl (cA, 10, .inl rk))] H := hP
    have hD : va_D A [(h, .inr (1, [.ref a0, .ref a1, .ref a2, .ref a3, .ref a4, .ref a5, .int (nI n)])), (a0, .inl (cA, 10, .inl (fun j9 => nI ((zup wa n pw) j9)))), (a1, .inl (cA, 10, .inl (fun j9 => nI (iv j9)))), (a2, .inl (cA, 10, .inl (fun j9 => nI (gh j9)))), (a3, .inl (cA, 10, .inl (fun j9 => nI (pr j9)))), (a4, .inl (cA, 10, .inl me)), (a5, .inl (cA, 10, .inl rk))] := hD
    refine lv_aload_n hx hb dX2_build_23 rfl (lv_at hl 1 rfl) ?_
    refine va_get (D := (dC, dI)) (ci := 1) (v := .ref a1) (C := RX2) (T := TX2) (N := 7) hx hb hts i_X2_build_X2 hown hK hP 0 rfl rfl 1 (by decide) (hts (.fieldLink RX2 15 "RuinViews$Ruins" "ivy" "[I") (List.mem_of_getElem? (i := 3) rfl)) (fun _ h9 => h9) rfl dX2_build_24 ?_
    refine lv_iload hx hb dX2_build_27 (lv_at hl 0 rfl) ?_
    refine lv_iload_n hx hb dX2_build_29 rfl (lv_at hl 3 rfl) ?_
    refine zz_ast hx hb hK hP hD hS 2 (f := iv) rfl rfl (by omega) (by decide) dX2_build_30 (fun H locs hP hD hS => ?_)
    have hP : va_P (dC, dI) vwCl [(h, .inr (1, [.ref a0, .ref a1, .ref a2, .ref a3, .ref a4, .ref a5, .int (nI n)])), (a0, .inl (cA, 10, .inl (fun j9 => nI ((zup wa n pw) j9)))), (a1, .inl (cA, 10, .inl (fun j9 => nI ((zup iv n pi) j9)))), (a2, .inl (cA, 10, .inl (fun j9 => nI (gh j9)))), (a3, .inl (cA, 10, .inl (fun j9 => nI (pr j9)))), (a4, .inl (cA, 10, .inl me)), (a5, .inl (cA, 10, .inl rk))] H := hP
    have hD : va_D A [(h, .inr (1, [.ref a0, .ref a1, .ref a2, .ref a3, .ref a4, .ref a5, .int (nI n)])), (a0, .inl (cA, 10, .inl (fun j9 => nI ((zup wa n pw) j9)))), (a1, .inl (cA, 10, .inl (fun j9 => nI ((zup iv n pi) j9)))), (a2, .inl (cA, 10, .inl (fun j9 => nI (gh j9)))), (a3, .inl (cA, 10, .inl (fun j9 => nI (pr j9)))), (a4, .inl (cA, 10, .inl me)), (a5, .inl (cA, 10, .inl rk))] := hD
    refine lv_aload_n hx hb dX2_build_31 rfl (lv_at hl 1 rfl) ?_
    refine va_get (D := (dC, dI)) (ci := 1) (v := .ref a2) (C := RX2) (T := TX2) (N := 7) hx hb hts i_X2_build_X2 hown hK hP 0 rfl rfl 2 (by decide) (hts (.fieldLink RX2 18 "RuinViews$Ruins" "ghosts" "[I") (List.mem_of_getElem? (i := 4) rfl)) (fun _ h9 => h9) rfl dX2_build_32 ?_
    refine lv_iload hx hb dX2_build_35 (lv_at hl 0 rfl) ?_
    refine lv_iload_n hx hb dX2_build_37 rfl (lv_at hl 4 rfl) ?_
    refine zz_ast hx hb hK hP hD hS 3 (f := gh) rfl rfl (by omega) (by decide) dX2_build_38 (fun H locs hP hD hS => ?_)
    have hP : va_P (dC, dI) vwCl [(h, .inr (1, [.ref a0, .ref a1, .ref a2, .ref a3, .ref a4, .ref a5, .int (nI n)])), (a0, .inl (cA, 10, .inl (fun j9 => nI ((zup wa n pw) j9)))), (a1, .inl (cA, 10, .inl (fun j9 => nI ((zup iv n pi) j9)))), (a2, .inl (cA, 10, .inl (fun j9 => nI ((zup gh n pg) j9)))), (a3, .inl (cA, 10, .inl (fun j9 => nI (pr j9)))), (a4, .inl (cA, 10, .inl me)), (a5, .inl (cA, 10, .inl rk))] H := hP
    have hD : va_D A [(h, .inr (1, [.ref a0, .ref a1, .ref a2, .ref a3, .ref a4, .ref a5, .int (nI n)])), (a0, .inl (cA, 10, .inl (fun j9 => nI ((zup wa n pw) j9)))), (a1, .inl (cA, 10, .inl (fun j9 => nI ((zup iv n pi) j9)))), (a2, .inl (cA, 10, .inl (fun j9 => nI ((zup gh n pg) j9)))), (a3, .inl (cA, 10, .inl (fun j9 => nI (pr j9)))), (a4, .inl (cA, 10, .inl me)), (a5, .inl (cA, 10, .inl rk))] := hD
    refine lv_aload_n hx hb dX2_build_39 rfl (lv_at hl 1 rfl) ?_
    refine va_get (D := (dC, dI)) (ci := 1) (v := .ref a3) (C := RX2) (T := TX2) (N := 7) hx hb hts i_X2_build_X2 hown hK hP 0 rfl rfl 3 (by decide) (hts (.fieldLink RX2 21 "RuinViews$Ruins" "price" "[I") (List.mem_of_getElem? (i := 5) rfl)) (fun _ h9 => h9) rfl dX2_build_40 ?_
    refine lv_iload hx hb dX2_build_43 (lv_at hl 0 rfl) ?_
    refine lv_iload hx hb dX2_build_45 (lv_at hl 5 rfl) ?_
    refine zz_ast hx hb hK hP hD hS 4 (f := pr) rfl rfl (by omega) (by decide) dX2_build_47 (fun H locs hP hD hS => ?_)
    have hP : va_P (dC, dI) vwCl [(h, .inr (1, [.ref a0, .ref a1, .ref a2, .ref a3, .ref a4, .ref a5, .int (nI n)])), (a0, .inl (cA, 10, .inl (fun j9 => nI ((zup wa n pw) j9)))), (a1, .inl (cA, 10, .inl (fun j9 => nI ((zup iv n pi) j9)))), (a2, .inl (cA, 10, .inl (fun j9 => nI ((zup gh n pg) j9)))), (a3, .inl (cA, 10, .inl (fun j9 => nI ((zup pr n pp) j9)))), (a4, .inl (cA, 10, .inl me)), (a5, .inl (cA, 10, .inl rk))] H := hP
    have hD : va_D A [(h, .inr (1, [.ref a0, .ref a1, .ref a2, .ref a3, .ref a4, .ref a5, .int (nI n)])), (a0, .inl (cA, 10, .inl (fun j9 => nI ((zup wa n pw) j9)))), (a1, .inl (cA, 10, .inl (fun j9 => nI ((zup iv n pi) j9)))), (a2, .inl (cA, 10, .inl (fun j9 => nI ((zup gh n pg) j9)))), (a3, .inl (cA, 10, .inl (fun j9 => nI ((zup pr n pp) j9)))), (a4, .inl (cA, 10, .inl me)), (a5, .inl (cA, 10, .inl rk))] := hD
    refine lv_aload_n hx hb dX2_build_48 rfl (lv_at hl 1 rfl) ?_
    refine lv_dup hx hb dX2_build_49 rfl ?_
    refine va_get (D := (dC, dI)) (ci := 1) (v := .int (nI n)) (C := RX2) (T := TX2) (N := 7) hx hb hts i_X2_build_X2 hown hK hP 0 rfl rfl 6 (by decide) (hts (.fieldLink RX2 30 "RuinViews$Ruins" "count" "I") (List.mem_of_getElem? (i := 1) rfl)) (fun _ h9 => h9) rfl dX2_build_50 ?_
    refine lv_iconst (v := nI 1) hx hb dX2_build_53 (by decide) ?_
    refine lv_iadd hx hb dX2_build_54 ?_
    refine zz_top (nI_add _ _) ?_
    refine va_put (D := (dC, dI)) (ci := 1) (v := .int (nI (n + 1))) (ty := .int) (C := RX2) (T := TX2) (N := 7) hx hb hts i_X2_build_X2 tyX2 tyX2_ok nmX2 hown hK hP hD hS 0 rfl rfl 6 (by decide) (hts (.fieldLink RX2 30 "RuinViews$Ruins" "count" "I") (List.mem_of_getElem? (i := 1) rfl)) (fun _ h9 => h9) rfl (by decide +kernel) rfl rfl (Nat.le_of_ble_eq_true rfl) dX2_build_55 (fun H locs hP hD hS => ?_)
    have hP : va_P (dC, dI) vwCl [(h, .inr (1, [.ref a0, .ref a1, .ref a2, .ref a3, .ref a4, .ref a5, .int (nI (n + 1))])), (a0, .inl (cA, 10, .inl (fun j9 => nI ((zup wa n pw) j9)))), (a1, .inl (cA, 10, .inl (fun j9 => nI ((zup iv n pi) j9)))), (a2, .inl (cA, 10, .inl (fun j9 => nI ((zup gh n pg) j9)))), (a3, .inl (cA, 10, .inl (fun j9 => nI ((zup pr n pp) j9)))), (a4, .inl (cA, 10, .inl me)), (a5, .inl (cA, 10, .inl rk))] H := hP
    have hD : va_D A [(h, .inr (1, [.ref a0, .ref a1, .ref a2, .ref a3, .ref a4, .ref a5, .int (nI (n + 1))])), (a0, .inl (cA, 10, .inl (fun j9 => nI ((zup wa n pw) j9)))), (a1, .inl (cA, 10, .inl (fun j9 => nI ((zup iv n pi) j9)))), (a2, .inl (cA, 10, .inl (fun j9 => nI ((zup gh n pg) j9)))), (a3, .inl (cA, 10, .inl (fun j9 => nI ((zup pr n pp) j9)))), (a4, .inl (cA, 10, .inl me)), (a5, .inl (cA, 10, .inl rk))] := hD
    refine lv_iload hx hb dX2_build_58 (lv_at hl 0 rfl) ?_
    exact W.iret hx hb hr (fun t ht hW => ⟨⟨_, (), rfl, rfl, by rw [ht]; exact hP, hD⟩, hS.F ht⟩) hS.2.2 dX2_build_60
  · skip
    replace c_1 := mt (nI_ltI (by omega) (by omega)).mpr c_1
    exfalso; omega
theorem i_X2_init_X2 : ∀ w ∈ u_ws RX2 TX2 7, w ∈ wsX2_init := by decide +kernel
set_option maxHeartbeats 4000000 in
set_option maxRecDepth 100000 in
theorem c_X2_init (l : Launch) (dC : Nat → ClassId) (dI : Nat → Nat → Nat) (cA : ClassId) (h : Nat) (sz : Nat) : Met l yX2_init wsX2_init ({ frames := 1, cells := 6, slots := 60, locals := 22 } : Room) (va_Pc [.ref h] (fun U => U.heap.size = sz ∧ va_P (dC, dI) vwCl [(h, .inr (1, [.null, .null, .null, .null, .null, .null, .int (nI 0)]))] U.heap ∧ va_K (dC, dI) vwCl [(cA, .int)] U ∧ va_D (fun _ => True) [(h, .inr (1, [.null, .null, .null, .null, .null, .null, .int (nI 0)]))])) (va_Qv (fun _ : Unit => True) (fun (_ : Unit) t => ∃ (a0 : Nat) (a1 : Nat) (a2 : Nat) (a3 : Nat) (a4 : Nat) (a5 : Nat) , va_P (dC, dI) vwCl [(h, .inr (1, [.ref a0, .ref a1, .ref a2, .ref a3, .ref a4, .ref a5, .int (nI 0)])), (a0, .inl (cA, 10, .inl (fun j9 => nI (z0 j9)))), (a1, .inl (cA, 10, .inl (fun j9 => nI (z0 j9)))), (a2, .inl (cA, 10, .inl (fun j9 => nI (z0 j9)))), (a3, .inl (cA, 10, .inl (fun j9 => nI (z0 j9)))), (a4, .inl (cA, 10, .inl (fun j9 => nI (z0 j9)))), (a5, .inl (cA, 10, .inl (fun j9 => nI (z0 j9))))] t.heap ∧ va_D (va_A [(h, .inr (1, [.null, .null, .null, .null, .null, .null, .int (nI 0)]))] sz) [(h, .inr (1, [.ref a0, .ref a1, .ref a2, .ref a3, .ref a4, .ref a5, .int (nI 0)])), (a0, .inl (cA, 10, .inl (fun j9 => nI (z0 j9)))), (a1, .inl (cA, 10, .inl (fun j9 => nI (z0 j9)))), (a2, .inl (cA, 10, .inl (fun j9 => nI (z0 j9)))), (a3, .inl (cA, 10, .inl (fun j9 => nI (z0 j9)))), (a4, .inl (cA, 10, .inl (fun j9 => nI (z0 j9)))), (a5, .inl (cA, 10, .inl (fun j9 => nI (z0 j9))))]) (va_A [(h, .inr (1, [.null, .null, .null, .null, .null, .null, .int (nI 0)]))] sz)) 6 60 (va_A [(h, .inr (1, [.null, .null, .null, .null, .null, .null, .int (nI 0)]))] sz) := by
  refine Met.ofW (cc := cX2_init) (maxL := 1) (ret := none) (by decide) rfl ?_
  intro p e s m args below meth c s₁ B hml hv
  obtain ⟨hargs, hsz, hP, hK, hD0⟩ := hv
  have hx := B.exec
  have hb := B.bytes
  have hr := B.returns
  have hts := atoms_spec (ws := wsX2_init) B.pre
  have hown : s.vm.findClass RX2 = some m.cls := findClass_of_methodNamed B.named
  have hlocks := B.notSynchronized
  have hin : meth.name = "<init>" := (name_of_methodNamed B.named B.method).1
  subst hsz
  have hD := hD0.self (sz := s.heap.size)
  generalize hAe : va_A [(h, .inr (1, [.null, .null, .null, .null, .null, .null, .int (nI 0)]))] s.heap.size = A at hD ⊢
  have hA : ∀ q : Nat, s.heap.size ≤ q → A q := fun q h => by rw [← hAe]; exact Or.inr h
  have hS : va_S A s.heap s.heap [] := va_S.rf
  have hP : va_P (dC, dI) vwCl [(h, .inr (1, [.null, .null, .null, .null, .null, .null, .int (nI 0)]))] s.heap := hP
  have hl := lv_entry ([.ref h]) (n := 1) (Nat.le_of_ble_eq_true rfl)
  rw [hargs, lg_entry_eq, ← hargs]
  generalize (lg_sl ([.ref h]) ++ List.replicate (1 - (lg_sl ([.ref h])).length) Slot.unset).toArray = ls at hl ⊢
  have hl : lv_has ls 1 [(0, .ref h)] := hl
  refine lv_aload_n hx hb dX2_init_0 rfl (lv_at hl 0 rfl) ?_
  refine W.objInit hx hb hown (hts (.methodLink RX2 3 objectInit) (List.mem_of_getElem? (i := 1) rfl)) (hts (.instanceMethod objectInit) (List.mem_of_getElem? (i := 2) rfl)) (hts (.code objectInit ⟨#[0xb1]⟩ 1 none) (List.mem_of_getElem? (i := 3) rfl)) rfl (by rw [hml]; exact hl.1) rfl dX2_init_1 (Nat.le_of_ble_eq_true rfl) (Nat.le_of_ble_eq_true rfl) ?_
  refine W.eq (g2 := F0 m 4 ls []) rfl ?_
  refine lv_aload_n hx hb dX2_init_4 rfl (lv_at hl 0 rfl) ?_
  refine lv_bipush (v := nI 10) hx hb dX2_init_5 (by decide) ?_
  refine zz_newa hx hb (hts (.arrayClass .int) (List.mem_of_getElem? (i := 4) rfl)) hK hP hD hS hA (n := 10) (by decide) (Nat.le_of_ble_eq_true rfl) (Nat.le_of_ble_eq_true rfl) (Nat.le_of_ble_eq_true rfl) dX2_init_7 (fun q7 H hP hD hS => ?_)
  have hP : va_P (dC, dI) vwCl [(h, .inr (1, [.null, .null, .null, .null, .null, .null, .int (nI 0)])), (q7, .inl (cA, 10, .inl (fun j9 => nI (z0 j9))))] H := hP
  have hD : va_D A [(h, .inr (1, [.null, .null, .null, .null, .null, .null, .int (nI 0)])), (q7, .inl (cA, 10, .inl (fun j9 => nI (z0 j9))))] := hD
  refine va_putF (D := (dC, dI)) (ci := 1) (v := .ref q7) (ty := .array .int) (C := RX2) (T := TX2) (N := 7) hx hb hts i_X2_init_X2 tyX2 tyX2_ok nmX2 hown hK hP hD hS 0 rfl rfl 0 (by decide) (hts (.fieldLink RX2 9 "RuinViews$Ruins" "walls" "[I") (List.mem_of_getElem? (i := 5) rfl)) (fun _ h9 => h9) rfl hin rfl (by decide +kernel) rfl rfl (Nat.le_of_ble_eq_true rfl) dX2_init_9 (fun H locs hP hD hS => ?_)
  have hP : va_P (dC, dI) vwCl [(h, .inr (1, [.ref q7, .null, .null, .null, .null, .null, .int (nI 0)])), (q7, .inl (cA, 10, .inl (fun j9 => nI (z0 j9))))] H := hP
  have hD : va_D A [(h, .inr (1, [.ref q7, .null, .null, .null, .null, .null, .int (nI 0)])), (q7, .inl (cA, 10, .inl (fun j9 => nI (z0 j9))))] := hD
  refine lv_aload_n hx hb dX2_init_12 rfl (lv_at hl 0 rfl) ?_
  refine lv_bipush (v := nI 10) hx hb dX2_init_13 (by decide) ?_
  refine zz_newa hx hb (hts (.arrayClass .int) (List.mem_of_getElem? (i := 4) rfl)) hK hP hD hS hA (n := 10) (by decide) (Nat.le_of_ble_eq_true rfl) (Nat.le_of_ble_eq_true rfl) (Nat.le_of_ble_eq_true rfl) dX2_init_15 (fun q15 H hP hD hS => ?_)
  have hP : va_P (dC, dI) vwCl [(h, .inr (1, [.ref q7, .null, .null, .null, .null, .null, .int (nI 0)])), (q7, .inl (cA, 10, .inl (fun j9 => nI (z0 j9)))), (q15, .inl (cA, 10, .inl (fun j9 => nI (z0 j9))))] H := hP
  have hD : va_D A [(h, .inr (1, [.ref q7, .null, .null, .null, .null, .null, .int (nI 0)])), (q7, .inl (cA, 10, .inl (fun j9 => nI (z0 j9)))), (q15, .inl (cA, 10, .inl (fun j9 => nI (z0 j9))))] := hD
  refine va_putF (D := (dC, dI)) (ci := 1) (v := .ref q15) (ty := .array .int) (C := RX2) (T := TX2) (N := 7) hx hb hts i_X2_init_X2 tyX2 tyX2_ok nmX2 hown hK hP hD hS 0 rfl rfl 1 (by decide) (hts (.fieldLink RX2 15 "RuinViews$Ruins" "ivy" "[I") (List.mem_of_getElem? (i := 6) rfl)) (fun _ h9 => h9) rfl hin rfl (by decide +kernel) rfl rfl (Nat.le_of_ble_eq_true rfl) dX2_init_17 (fun H locs hP hD hS => ?_)
  have hP : va_P (dC, dI) vwCl [(h, .inr (1, [.ref q7, .ref q15, .null, .null, .null, .null, .int (nI 0)])), (q7, .inl (cA, 10, .inl (fun j9 => nI (z0 j9)))), (q15, .inl (cA, 10, .inl (fun j9 => nI (z0 j9))))] H := hP
  have hD : va_D A [(h, .inr (1, [.ref q7, .ref q15, .null, .null, .null, .null, .int (nI 0)])), (q7, .inl (cA, 10, .inl (fun j9 => nI (z0 j9)))), (q15, .inl (cA, 10, .inl (fun j9 => nI (z0 j9))))] := hD
  refine lv_aload_n hx hb dX2_init_20 rfl (lv_at hl 0 rfl) ?_
  refine lv_bipush (v := nI 10) hx hb dX2_init_21 (by decide) ?_
  refine zz_newa hx hb (hts (.arrayClass .int) (List.mem_of_getElem? (i := 4) rfl)) hK hP hD hS hA (n := 10) (by decide) (Nat.le_of_ble_eq_true rfl) (Nat.le_of_ble_eq_true rfl) (Nat.le_of_ble_eq_true rfl) dX2_init_23 (fun q23 H hP hD hS => ?_)
  have hP : va_P (dC, dI) vwCl [(h, .inr (1, [.ref q7, .ref q15, .null, .null, .null, .null, .int (nI 0)])), (q7, .inl (cA, 10, .inl (fun j9 => nI (z0 j9)))), (q15, .inl (cA, 10, .inl (fun j9 => nI (z0 j9)))), (q23, .inl (cA, 10, .inl (fun j9 => nI (z0 j9))))] H := hP
  have hD : va_D A [(h, .inr (1, [.ref q7, .ref q15, .null, .null, .null, .null, .int (nI 0)])), (q7, .inl (cA, 10, .inl (fun j9 => nI (z0 j9)))), (q15, .inl (cA, 10, .inl (fun j9 => nI (z0 j9)))), (q23, .inl (cA, 10, .inl (fun j9 => nI (z0 j9))))] := hD
  refine va_putF (D := (dC, dI)) (ci := 1) (v := .ref q23) (ty := .array .int) (C := RX2) (T := TX2) (N := 7) hx hb hts i_X2_init_X2 tyX2 tyX2_ok nmX2 hown hK hP hD hS 0 rfl rfl 2 (by decide) (hts (.fieldLink RX2 18 "RuinViews$Ruins" "ghosts" "[I") (List.mem_of_getElem? (i := 7) rfl)) (fun _ h9 => h9) rfl hin rfl (by decide +kernel) rfl rfl (Nat.le_of_ble_eq_true rfl) dX2_init_25 (fun H locs hP hD hS => ?_)
  have hP : va_P (dC, dI) vwCl [(h, .inr (1, [.ref q7, .ref q15, .ref q23, .null, .null, .null, .int (nI 0)])), (q7, .inl (cA, 10, .inl (fun j9 => nI (z0 j9)))), (q15, .inl (cA, 10, .inl (fun j9 => nI (z0 j9)))), (q23, .inl (cA, 10, .inl (fun j9 => nI (z0 j9))))] H := hP
  have hD : va_D A [(h, .inr (1, [.ref q7, .ref q15, .ref q23, .null, .null, .null, .int (nI 0)])), (q7, .inl (cA, 10, .inl (fun j9 => nI (z0 j9)))), (q15, .inl (cA, 10, .inl (fun j9 => nI (z0 j9)))), (q23, .inl (cA, 10, .inl (fun j9 => nI (z0 j9))))] := hD
  refine lv_aload_n hx hb dX2_init_28 rfl (lv_at hl 0 rfl) ?_
  refine lv_bipush (v := nI 10) hx hb dX2_init_29 (by decide) ?_
  refine zz_newa hx hb (hts (.arrayClass .int) (List.mem_of_getElem? (i := 4) rfl)) hK hP hD hS hA (n := 10) (by decide) (Nat.le_of_ble_eq_true rfl) (Nat.le_of_ble_eq_true rfl) (Nat.le_of_ble_eq_true rfl) dX2_init_31 (fun q31 H hP hD hS => ?_)
  have hP : va_P (dC, dI) vwCl [(h, .inr (1, [.ref q7, .ref q15, .ref q23, .null, .null, .null, .int (nI 0)])), (q7, .inl (cA, 10, .inl (fun j9 => nI (z0 j9)))), (q15, .inl (cA, 10, .inl (fun j9 => nI (z0 j9)))), (q23, .inl (cA, 10, .inl (fun j9 => nI (z0 j9)))), (q31, .inl (cA, 10, .inl (fun j9 => nI (z0 j9))))] H := hP
  have hD : va_D A [(h, .inr (1, [.ref q7, .ref q15, .ref q23, .null, .null, .null, .int (nI 0)])), (q7, .inl (cA, 10, .inl (fun j9 => nI (z0 j9)))), (q15, .inl (cA, 10, .inl (fun j9 => nI (z0 j9)))), (q23, .inl (cA, 10, .inl (fun j9 => nI (z0 j9)))), (q31, .inl (cA, 10, .inl (fun j9 => nI (z0 j9))))] := hD
  refine va_putF (D := (dC, dI)) (ci := 1) (v := .ref q31) (ty := .array .int) (C := RX2) (T := TX2) (N := 7) hx hb hts i_X2_init_X2 tyX2 tyX2_ok nmX2 hown hK hP hD hS 0 rfl rfl 3 (by decide) (hts (.fieldLink RX2 21 "RuinViews$Ruins" "price" "[I") (List.mem_of_getElem? (i := 8) rfl)) (fun _ h9 => h9) rfl hin rfl (by decide +kernel) rfl rfl (Nat.le_of_ble_eq_true rfl) dX2_init_33 (fun H locs hP hD hS => ?_)
  have hP : va_P (dC, dI) vwCl [(h, .inr (1, [.ref q7, .ref q15, .ref q23, .ref q31, .null, .null, .int (nI 0)])), (q7, .inl (cA, 10, .inl (fun j9 => nI (z0 j9)))), (q15, .inl (cA, 10, .inl (fun j9 => nI (z0 j9)))), (q23, .inl (cA, 10, .inl (fun j9 => nI (z0 j9)))), (q31, .inl (cA, 10, .inl (fun j9 => nI (z0 j9))))] H := hP
  have hD : va_D A [(h, .inr (1, [.ref q7, .ref q15, .ref q23, .ref q31, .null, .null, .int (nI 0)])), (q7, .inl (cA, 10, .inl (fun j9 => nI (z0 j9)))), (q15, .inl (cA, 10, .inl (fun j9 => nI (z0 j9)))), (q23, .inl (cA, 10, .inl (fun j9 => nI (z0 j9)))), (q31, .inl (cA, 10, .inl (fun j9 => nI (z0 j9))))] := hD
  refine lv_aload_n hx hb dX2_init_36 rfl (lv_at hl 0 rfl) ?_
  refine lv_bipush (v := nI 10) hx hb dX2_init_37 (by decide) ?_
  refine zz_newa hx hb (hts (.arrayClass .int) (List.mem_of_getElem? (i := 4) rfl)) hK hP hD hS hA (n := 10) (by decide) (Nat.le_of_ble_eq_true rfl) (Nat.le_of_ble_eq_true rfl) (Nat.le_of_ble_eq_true rfl) dX2_init_39 (fun q39 H hP hD hS => ?_)
  have hP : va_P (dC, dI) vwCl [(h, .inr (1, [.ref q7, .ref q15, .ref q23, .ref q31, .null, .null, .int (nI 0)])), (q7, .inl (cA, 10, .inl (fun j9 => nI (z0 j9)))), (q15, .inl (cA, 10, .inl (fun j9 => nI (z0 j9)))), (q23, .inl (cA, 10, .inl (fun j9 => nI (z0 j9)))), (q31, .inl (cA, 10, .inl (fun j9 => nI (z0 j9)))), (q39, .inl (cA, 10, .inl (fun j9 => nI (z0 j9))))] H := hP
  have hD : va_D A [(h, .inr (1, [.ref q7, .ref q15, .ref q23, .ref q31, .null, .null, .int (nI 0)])), (q7, .inl (cA, 10, .inl (fun j9 => nI (z0 j9)))), (q15, .inl (cA, 10, .inl (fun j9 => nI (z0 j9)))), (q23, .inl (cA, 10, .inl (fun j9 => nI (z0 j9)))), (q31, .inl (cA, 10, .inl (fun j9 => nI (z0 j9)))), (q39, .inl (cA, 10, .inl (fun j9 => nI (z0 j9))))] := hD
  refine va_putF (D := (dC, dI)) (ci := 1) (v := .ref q39) (ty := .array .int) (C := RX2) (T := TX2) (N := 7) hx hb hts i_X2_init_X2 tyX2 tyX2_ok nmX2 hown hK hP hD hS 0 rfl rfl 4 (by decide) (hts (.fieldLink RX2 24 "RuinViews$Ruins" "merits" "[I") (List.mem_of_getElem? (i := 9) rfl)) (fun _ h9 => h9) rfl hin rfl (by decide +kernel) rfl rfl (Nat.le_of_ble_eq_true rfl) dX2_init_41 (fun H locs hP hD hS => ?_)
  have hP : va_P (dC, dI) vwCl [(h, .inr (1, [.ref q7, .ref q15, .ref q23, .ref q31, .ref q39, .null, .int (nI 0)])), (q7, .inl (cA, 10, .inl (fun j9 => nI (z0 j9)))), (q15, .inl (cA, 10, .inl (fun j9 => nI (z0 j9)))), (q23, .inl (cA, 10, .inl (fun j9 => nI (z0 j9)))), (q31, .inl (cA, 10, .inl (fun j9 => nI (z0 j9)))), (q39, .inl (cA, 10, .inl (fun j9 => nI (z0 j9))))] H := hP
  have hD : va_D A [(h, .inr (1, [.ref q7, .ref q15, .ref q23, .ref q31, .ref q39, .null, .int (nI 0)])), (q7, .inl (cA, 10, .inl (fun j9 => nI (z0 j9)))), (q15, .inl (cA, 10, .inl (fun j9 => nI (z0 j9)))), (q23, .inl (cA, 10, .inl (fun j9 => nI (z0 j9)))), (q31, .inl (cA, 10, .inl (fun j9 => nI (z0 j9)))), (q39, .inl (cA, 10, .inl (fun j9 => nI (z0 j9))))] := hD
  refine lv_aload_n hx hb dX2_init_44 rfl (lv_at hl 0 rfl) ?_
  refine lv_bipush (v := nI 10) hx hb dX2_init_45 (by decide) ?_
  refine zz_newa hx hb (hts (.arrayClass .int) (List.mem_of_getElem? (i := 4) rfl)) hK hP hD hS hA (n := 10) (by decide) (Nat.le_of_ble_eq_true rfl) (Nat.le_of_ble_eq_true rfl) (Nat.le_of_ble_eq_true rfl) dX2_init_47 (fun q47 H hP hD hS => ?_)
  have hP : va_P (dC, dI) vwCl [(h, .inr (1, [.ref q7, .ref q15, .ref q23, .ref q31, .ref q39, .null, .int (nI 0)])), (q7, .inl (cA, 10, .inl (fun j9 => nI (z0 j9)))), (q15, .inl (cA, 10, .inl (fun j9 => nI (z0 j9)))), (q23, .inl (cA, 10, .inl (fun j9 => nI (z0 j9)))), (q31, .inl (cA, 10, .inl (fun j9 => nI (z0 j9)))), (q39, .inl (cA, 10, .inl (fun j9 => nI (z0 j9)))), (q47, .inl (cA, 10, .inl (fun j9 => nI (z0 j9))))] H := hP
  have hD : va_D A [(h, .inr (1, [.ref q7, .ref q15, .ref q23, .ref q31, .ref q39, .null, .int (nI 0)])), (q7, .inl (cA, 10, .inl (fun j9 => nI (z0 j9)))), (q15, .inl (cA, 10, .inl (fun j9 => nI (z0 j9)))), (q23, .inl (cA, 10, .inl (fun j9 => nI (z0 j9)))), (q31, .inl (cA, 10, .inl (fun j9 => nI (z0 j9)))), (q39, .inl (cA, 10, .inl (fun j9 => nI (z0 j9)))), (q47, .inl (cA, 10, .inl (fun j9 => nI (z0 j9))))] := hD
  refine va_putF (D := (dC, dI)) (ci := 1) (v := .ref q47) (ty := .array .int) (C := RX2) (T := TX2) (N := 7) hx hb hts i_X2_init_X2 tyX2 tyX2_ok nmX2 hown hK hP hD hS 0 rfl rfl 5 (by decide) (hts (.fieldLink RX2 27 "RuinViews$Ruins" "ranks" "[I") (List.mem_of_getElem? (i := 10) rfl)) (fun _ h9 => h9) rfl hin rfl (by decide +kernel) rfl rfl (Nat.le_of_ble_eq_true rfl) dX2_init_49 (fun H locs hP hD hS => ?_)
  have hP : va_P (dC, dI) vwCl [(h, .inr (1, [.ref q7, .ref q15, .ref q23, .ref q31, .ref q39, .ref q47, .int (nI 0)])), (q7, .inl (cA, 10, .inl (fun j9 => nI (z0 j9)))), (q15, .inl (cA, 10, .inl (fun j9 => nI (z0 j9)))), (q23, .inl (cA, 10, .inl (fun j9 => nI (z0 j9)))), (q31, .inl (cA, 10, .inl (fun j9 => nI (z0 j9)))), (q39, .inl (cA, 10, .inl (fun j9 => nI (z0 j9)))), (q47, .inl (cA, 10, .inl (fun j9 => nI (z0 j9))))] H := hP
  have hD : va_D A [(h, .inr (1, [.ref q7, .ref q15, .ref q23, .ref q31, .ref q39, .ref q47, .int (nI 0)])), (q7, .inl (cA, 10, .inl (fun j9 => nI (z0 j9)))), (q15, .inl (cA, 10, .inl (fun j9 => nI (z0 j9)))), (q23, .inl (cA, 10, .inl (fun j9 => nI (z0 j9)))), (q31, .inl (cA, 10, .inl (fun j9 => nI (z0 j9)))), (q39, .inl (cA, 10, .inl (fun j9 => nI (z0 j9)))), (q47, .inl (cA, 10, .inl (fun j9 => nI (z0 j9))))] := hD
  refine lv_aload_n hx hb dX2_init_52 rfl (lv_at hl 0 rfl) ?_
  refine lv_iconst (v := nI 0) hx hb dX2_init_53 (by decide) ?_
  refine va_put (D := (dC, dI)) (ci := 1) (v := .int (nI 0)) (ty := .int) (C := RX2) (T := TX2) (N := 7) hx hb hts i_X2_init_X2 tyX2 tyX2_ok nmX2 hown hK hP hD hS 0 rfl rfl 6 (by decide) (hts (.fieldLink RX2 30 "RuinViews$Ruins" "count" "I") (List.mem_of_getElem? (i := 11) rfl)) (fun _ h9 => h9) rfl (by decide +kernel) rfl rfl (Nat.le_of_ble_eq_true rfl) dX2_init_54 (fun H locs hP hD hS => ?_)
  have hP : va_P (dC, dI) vwCl [(h, .inr (1, [.ref q7, .ref q15, .ref q23, .ref q31, .ref q39, .ref q47, .int (nI 0)])), (q7, .inl (cA, 10, .inl (fun j9 => nI (z0 j9)))), (q15, .inl (cA, 10, .inl (fun j9 => nI (z0 j9)))), (q23, .inl (cA, 10, .inl (fun j9 => nI (z0 j9)))), (q31, .inl (cA, 10, .inl (fun j9 => nI (z0 j9)))), (q39, .inl (cA, 10, .inl (fun j9 => nI (z0 j9)))), (q47, .inl (cA, 10, .inl (fun j9 => nI (z0 j9))))] H := hP
  have hD : va_D A [(h, .inr (1, [.ref q7, .ref q15, .ref q23, .ref q31, .ref q39, .ref q47, .int (nI 0)])), (q7, .inl (cA, 10, .inl (fun j9 => nI (z0 j9)))), (q15, .inl (cA, 10, .inl (fun j9 => nI (z0 j9)))), (q23, .inl (cA, 10, .inl (fun j9 => nI (z0 j9)))), (q31, .inl (cA, 10, .inl (fun j9 => nI (z0 j9)))), (q39, .inl (cA, 10, .inl (fun j9 => nI (z0 j9)))), (q47, .inl (cA, 10, .inl (fun j9 => nI (z0 j9))))] := hD
  exact W.vret hx hb hr (fun t ht hW => ⟨⟨(), rfl, trivial, q7, q15, q23, q31, q39, q47, by rw [ht]; exact hP, hD⟩, hS.F ht⟩) hS.2.2 dX2_init_57
