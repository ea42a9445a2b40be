set_option maxHeartbeats 4000000 in
set_option maxRecDepth 100000 in
theorem x_X4_requireRuin (l : Launch) (dC : Nat → ClassId) (dI : Nat → Nat → Nat) (cA : ClassId) (xo : Nat) (pk_ : Nat) (pk : Nat) (h : Nat) (a0 : Nat) (a1 : Nat) (a2 : Nat) (a3 : Nat) (a4 : Nat) (a5 : Nat) (kk : Nat) (c0 : Nat) (c1 : Nat) (c2 : Nat) (c3 : Nat) (z : ZS) (me : Nat → Int32) (rk : Nat → Int32) (x : Int32) (hlt : l.stackTraces = false) (sz : Nat) (hz : zok z) (hdz : zdy z ≤ 40000) (hx9 : zhas x (zn z) = 0) : vx_Met l yX4_requireRuin wsX4_requireRuin ({ frames := 6, cells := 1, slots := 6, locals := 90 } : Room) (va_Pc [.ref xo, .int x] (fun U => U.heap.size = sz ∧ va_P (dC, dI) vwCl [(xo, .inr (3, [.ref pk, .ref pk_])), (pk, .inr (0, [.ref h, .ref kk, .int (nI (zdy z)), .int (nI (zgu z)), .int (zpu z)])), (h, .inr (1, [.ref a0, .ref a1, .ref a2, .ref a3, .ref a4, .ref a5, .int (nI (zn z))])), (a0, .inl (cA, 10, .inl (fun j9 => nI ((zwa z) j9)))), (a1, .inl (cA, 10, .inl (fun j9 => nI ((ziv z) j9)))), (a2, .inl (cA, 10, .inl (fun j9 => nI ((zgh z) j9)))), (a3, .inl (cA, 10, .inl (fun j9 => nI ((zpr z) j9)))), (a4, .inl (cA, 10, .inl me)), (a5, .inl (cA, 10, .inl rk)), (kk, .inr (2, [.ref c0, .ref c1, .ref c2, .ref c3, .int (nI (ztn z))])), (c0, .inl (cA, 30, .inl (fun j9 => nI ((ztr z) j9)))), (c1, .inl (cA, 30, .inl (fun j9 => nI ((ztd z) j9)))), (c2, .inl (cA, 30, .inl (fun j9 => nI ((ztp z) j9)))), (c3, .inl (cA, 30, .inl (fun j9 => nI ((ztf z) j9))))] U.heap ∧ va_K (dC, dI) vwCl [(cA, .int)] U ∧ zVm U ∧ zSt (fun q => sz ≤ q) U)) (va_Qv (fun _ : Unit => False) (fun _ _ => True) (fun q => sz ≤ q)) (vx_X (fun _ : Unit => True) (fun E _ _ => E = "java/lang/IndexOutOfBoundsException") (fun q => sz ≤ q)) 1 6 (fun q => sz ≤ q) := by
  refine vx_ofW (cc := cX4_requireRuin) (maxL := 2) (ret := none) (by decide) rfl ?_
  intro p e s m args below meth c s₁ B hml hnt hv
  obtain ⟨hargs, hsz, hP, hK, hV, hZ⟩ := hv
  have hx := B.exec
  have hb := B.bytes
  have hr := B.returns
  have hts := atoms_spec (ws := wsX4_requireRuin) B.pre
  have hown : s.vm.findClass RX4 = some m.cls := findClass_of_methodNamed B.named
  have hlocks := B.notSynchronized
  subst hsz
  have hS : va_S (fun q => s.heap.size ≤ q) s.heap s.heap [] := va_S.rf
  have hl := lv_entry ([.ref xo, .int x]) (n := 2) (Nat.le_of_ble_eq_true rfl)
  rw [hargs, lg_entry_eq, ← hargs]
  generalize (lg_sl ([.ref xo, .int x]) ++ List.replicate (2 - (lg_sl ([.ref xo, .int x])).length) Slot.unset).toArray = ls at hl ⊢
  have hl : lv_has ls 2 [(0, .ref xo), (1, .int x)] := hl
  obtain ⟨o1, o2, o3, o4, o5, o6, o7, o8, o9, o10, o11⟩ := id hz
  refine lv_aload_n hx hb dX4_requireRuin_0 rfl (lv_at hl 0 rfl) ?_
  refine va_get (D := (dC, dI)) (ci := 3) (v := .ref pk) (C := RX4) (T := TX4) (N := 2) hx hb hts i_X4_requireRuin_X4 hown hK hP 0 rfl rfl 0 (by decide) (hts (.fieldLink RX4 10 "RuinViews" "now" "LRuinViews$Park;") (List.mem_of_getElem? (i := 3) rfl)) (fun _ h9 => h9) rfl dX4_requireRuin_1 ?_
  refine va_get (D := (dC, dI)) (ci := 0) (v := .ref h) (C := RX1) (T := TX1) (N := 5) hx hb hts i_X4_requireRuin_X1 hown hK hP 1 rfl rfl 0 (by decide) (hts (.fieldLink RX4 30 "RuinViews$Park" "ruins" "LRuinViews$Ruins;") (List.mem_of_getElem? (i := 4) rfl)) (fun _ h9 => h9) rfl dX4_requireRuin_4 ?_
  refine lv_iload_n hx hb dX4_requireRuin_7 rfl (lv_at hl 1 rfl) ?_
  have hPc := hP.sub (ws' := [(h, .inr (1, [.ref a0, .ref a1, .ref a2, .ref a3, .ref a4, .ref a5, .int (nI (zn z))])), (a0, .inl (cA, 10, .inl (fun j9 => nI ((zwa z) j9)))), (a1, .inl (cA, 10, .inl (fun j9 => nI ((ziv z) j9)))), (a2, .inl (cA, 10, .inl (fun j9 => nI ((zgh z) j9)))), (a3, .inl (cA, 10, .inl (fun j9 => nI ((zpr z) j9)))), (a4, .inl (cA, 10, .inl me)), (a5, .inl (cA, 10, .inl rk))]) [2, 3, 4, 5, 6, 7, 8] rfl
  refine vp_callSi (W.runV (As := [.int x]) (rest := []) ⟨hx, hb, hml, hown, hts⟩ (c_X2_has l dC dI cA h a0 a1 a2 a3 a4 a5 (zn z) (zwa z) (ziv z) (zgh z) (zpr z) me rk x (by first | assumption | omega)) (cwV 1 hts gX4_requireRuin_X2_has rfl rfl rfl (by decide +kernel) ⟨Nat.le_of_ble_eq_true rfl, Nat.le_of_ble_eq_true rfl⟩) ⟨fun a U g mk q => by obtain ⟨q0, qP, qK⟩ := q; exact ⟨q0, qP, va_K.moved (u := U) (U := U.calling g mk a) (Vm.Alike.refl U.vm) qK⟩, va_recv hK hP (ci := 1) (q0 := 2) rfl rfl, fun U hU hW => ⟨rfl, by rw [hU]; exact hPc, va_K.moved hW.alike hK⟩⟩ rfl rfl hl.1 rfl (lv_room (Nat.le_of_ble_eq_true rfl)) dX4_requireRuin_8 ⟨Nat.le_of_ble_eq_true rfl, Nat.le_of_ble_eq_true rfl⟩) (fun r_1 hw_1 => ?_)
  subst hw_1
  refine lv_if_ne (tgt := 24) hx hb dX4_requireRuin_11 (by decide) (fun c_2 => ?_) (fun c_2 => ?_)
  · skip
    replace c_2 := mt (zz_eq0 (by first | omega | (have := zhas_le x (zn z); omega))).mpr c_2
    exfalso; exact c_2 hx9
  · skip
    replace c_2 := (zz_eq0 (by first | omega | (have := zhas_le x (zn z); omega))).mp c_2
    obtain ⟨sa3, hstr3⟩ := hV.1.2.2.1
    exact vx_throwS (own := RX4) (cls := "java/lang/IndexOutOfBoundsException") (text := "no such ruin") (names := ["java/lang/RuntimeException", "java/lang/Exception"]) (ic := 145) hx hb hlt hown rfl (by decide +kernel) (hts (.classLink RX4 141 "java/lang/IndexOutOfBoundsException") (List.mem_of_getElem? (i := 1) rfl)) (hts (.initialized "java/lang/IndexOutOfBoundsException") (List.mem_of_getElem? (i := 2) rfl)) hstr3 (vx_hat (B := zBioe) (fun w h => hts w (by first | exact List.mem_cons_of_mem _ (List.mem_append_right _ h) | exact List.mem_cons_of_mem _ (List.mem_append_left _ (List.mem_append_right _ h)) | exact List.mem_cons_of_mem _ (List.mem_append_left _ (List.mem_append_left _ (List.mem_append_right _ h))))) (by decide +kernel) (zVm.ioe hV)) (by decide +kernel) hZ.1 hZ.2 hS (hl.1.trans hml.symm) dX4_requireRuin_14 dX4_requireRuin_17 dX4_requireRuin_18 dX4_requireRuin_20 dX4_requireRuin_23 (fun x hx => (hnt x hx).elim) (Nat.le_of_ble_eq_true rfl) (Nat.le_of_ble_eq_true rfl) (Nat.le_of_ble_eq_true rfl) (Nat.le_of_ble_eq_true rfl) hlocks (fun t hvm hsz9 hk9 => ⟨(), trivial, rfl, hsz9, fun q h1 _ => hk9 q h1⟩) (fun _ h => nomatch h) (Nat.le_refl _) (Nat.le_refl _)
set_option maxHeartbeats 4000000 in
set_option maxRecDepth 100000 in
theorem x_X4_requireTicket (l : Launch) (dC : Nat → ClassId) (dI : Nat → Nat → Nat) (cA : ClassId) (xo : Nat) (pk_ : Nat) (pk : Nat) (h : Nat) (a0 : Nat) (a1 : Nat) (a2 : Nat) (a3 : Nat) (a4 : Nat) (a5 : Nat) (kk : Nat) (c0 : Nat) (c1 : Nat) (c2 : Nat) (c3 : Nat) (z : ZS) (me : Nat → Int32) (rk : Nat → Int32) (x : Int32) (hlt : l.stackTraces = false) (sz : Nat) (hz : zok z) (hdz : zdy z ≤ 40000) (hx9 : zhas x (ztn z) = 0) : vx_Met l yX4_requireTicket wsX4_requireTicket ({ frames := 6, cells := 1, slots := 6, locals := 90 } : Room) (va_Pc [.ref xo, .int x] (fun U => U.heap.size = sz ∧ va_P (dC, dI) vwCl [(xo, .inr (3, [.ref pk, .ref pk_])), (pk, .inr (0, [.ref h, .ref kk, .int (nI (zdy z)), .int (nI (zgu z)), .int (zpu z)])), (h, .inr (1, [.ref a0, .ref a1, .ref a2, .ref a3, .ref a4, .ref a5, .int (nI (zn z))])), (a0, .inl (cA, 10, .inl (fun j9 => nI ((zwa z) j9)))), (a1, .inl (cA, 10, .inl (fun j9 => nI ((ziv z) j9)))), (a2, .inl (cA, 10, .inl (fun j9 => nI ((zgh z) j9)))), (a3, .inl (cA, 10, .inl (fun j9 => nI ((zpr z) j9)))), (a4, .inl (cA, 10, .inl me)), (a5, .inl (cA, 10, .inl rk)), (kk, .inr (2, [.ref c0, .ref c1, .ref c2, .ref c3, .int (nI (ztn z))])), (c0, .inl (cA, 30, .inl (fun j9 => nI ((ztr z) j9)))), (c1, .inl (cA, 30, .inl (fun j9 => nI ((ztd z) j9)))), (c2, .inl (cA, 30, .inl (fun j9 => nI ((ztp z) j9)))), (c3, .inl (cA, 30, .inl (fun j9 => nI ((ztf z) j9))))] U.heap ∧ va_K (dC, dI) vwCl [(cA, .int)] U ∧ zVm U ∧ zSt (fun q => sz ≤ q) U)) (va_Qv (fun _ : Unit => False) (fun _ _ => True) (fun q => sz ≤ q)) (vx_X (fun _ : Unit => True) (fun E _ _ => E = "java/lang/IndexOutOfBoundsException") (fun q => sz ≤ q)) 1 6 (fun q => sz ≤ q) := by
  refine vx_ofW (cc := cX4_requireTicket) (maxL := 2) (ret := none) (by decide) rfl ?_
  intro p e s m args below meth c s₁ B hml hnt hv
  obtain ⟨hargs, hsz, hP, hK, hV, hZ⟩ := hv
  have hx := B.exec
  have hb := B.bytes
  have hr := B.returns
  have hts := atoms_spec (ws := wsX4_requireTicket) B.pre
  have hown : s.vm.findClass RX4 = some m.cls := findClass_of_methodNamed B.named
  have hlocks := B.notSynchronized
  subst hsz
  have hS : va_S (fun q => s.heap.size ≤ q) s.heap s.heap [] := va_S.rf
  have hl := lv_entry ([.ref xo, .int x]) (n := 2) (Nat.le_of_ble_eq_true rfl)
  rw [hargs, lg_entry_eq, ← hargs]
  generalize (lg_sl ([.ref xo, .int x]) ++ List.replicate (2 - (lg_sl ([.ref xo, .int x])).length) Slot.unset).toArray = ls at hl ⊢
  have hl : lv_has ls 2 [(0, .ref xo), (1, .int x)] := hl
  obtain ⟨o1, o2, o3, o4, o5, o6, o7, o8, o9, o10, o11⟩ := id hz
  refine lv_aload_n hx hb dX4_requireTicket_0 rfl (lv_at hl 0 rfl) ?_
  refine va_get (D := (dC, dI)) (ci := 3) (v := .ref pk) (C := RX4) (T := TX4) (N := 2) hx hb hts i_X4_requireTicket_X4 hown hK hP 0 rfl rfl 0 (by decide) (hts (.fieldLink RX4 10 "RuinViews" "now" "LRuinViews$Park;") (List.mem_of_getElem? (i := 3) rfl)) (fun _ h9 => h9) rfl dX4_requireTicket_1 ?_
  refine va_get (D := (dC, dI)) (ci := 0) (v := .ref kk) (C := RX1) (T := TX1) (N := 5) hx hb hts i_X4_requireTicket_X1 hown hK hP 1 rfl rfl 1 (by decide) (hts (.fieldLink RX4 87 "RuinViews$Park" "tickets" "LRuinViews$Tickets;") (List.mem_of_getElem? (i := 4) rfl)) (fun _ h9 => h9) rfl dX4_requireTicket_4 ?_
  refine lv_iload_n hx hb dX4_requireTicket_7 rfl (lv_at hl 1 rfl) ?_
  have hPc := hP.sub (ws' := [(kk, .inr (2, [.ref c0, .ref c1, .ref c2, .ref c3, .int (nI (ztn z))])), (c0, .inl (cA, 30, .inl (fun j9 => nI ((ztr z) j9)))), (c1, .inl (cA, 30, .inl (fun j9 => nI ((ztd z) j9)))), (c2, .inl (cA, 30, .inl (fun j9 => nI ((ztp z) j9)))), (c3, .inl (cA, 30, .inl (fun j9 => nI ((ztf z) j9))))]) [9, 10, 11, 12, 13] rfl
  refine vp_callSi (W.runV (As := [.int x]) (rest := []) ⟨hx, hb, hml, hown, hts⟩ (c_X3_has l dC dI cA kk c0 c1 c2 c3 (ztn z) (ztr z) (ztd z) (ztp z) (ztf z) x (by first | assumption | omega)) (cwV 1 hts gX4_requireTicket_X3_has rfl rfl rfl (by decide +kernel) ⟨Nat.le_of_ble_eq_true rfl, Nat.le_of_ble_eq_true rfl⟩) ⟨fun a U g mk q => by obtain ⟨q0, qP, qK⟩ := q; exact ⟨q0, qP, va_K.moved (u := U) (U := U.calling g mk a) (Vm.Alike.refl U.vm) qK⟩, va_recv hK hP (ci := 2) (q0 := 9) rfl rfl, fun U hU hW => ⟨rfl, by rw [hU]; exact hPc, va_K.moved hW.alike hK⟩⟩ rfl rfl hl.1 rfl (lv_room (Nat.le_of_ble_eq_true rfl)) dX4_requireTicket_8 ⟨Nat.le_of_ble_eq_true rfl, Nat.le_of_ble_eq_true rfl⟩) (fun r_1 hw_1 => ?_)
  subst hw_1
  refine lv_if_ne (tgt := 24) hx hb dX4_requireTicket_11 (by decide) (fun c_2 => ?_) (fun c_2 => ?_)
  · skip
    replace c_2 := mt (zz_eq0 (by first | omega | (have := zhas_le x (ztn z); omega))).mpr c_2
    exfalso; exact c_2 hx9
  · skip
    replace c_2 := (zz_eq0 (by first | omega | (have := zhas_le x (ztn z); omega))).mp c_2
    obtain ⟨sa3, hstr3⟩ := hV.1.2.2.2.2.2.2.2.2.2.2.2
    exact vx_throwS (own := RX4) (cls := "java/lang/IndexOutOfBoundsException") (text := "no such ticket") (names := ["java/lang/RuntimeException", "java/lang/Exception"]) (ic := 145) hx hb hlt hown rfl (by decide +kernel) (hts (.classLink RX4 141 "java/lang/IndexOutOfBoundsException") (List.mem_of_getElem? (i := 1) rfl)) (hts (.initialized "java/lang/IndexOutOfBoundsException") (List.mem_of_getElem? (i := 2) rfl)) hstr3 (vx_hat (B := zBioe) (fun w h => hts w (by first | exact List.mem_cons_of_mem _ (List.mem_append_right _ h) | exact List.mem_cons_of_mem _ (List.mem_append_left _ (List.mem_append_right _ h)) | exact List.mem_cons_of_mem _ (List.mem_append_left _ (List.mem_append_left _ (List.mem_append_right _ h))))) (by decide +kernel) (zVm.ioe hV)) (by decide +kernel) hZ.1 hZ.2 hS (hl.1.trans hml.symm) dX4_requireTicket_14 dX4_requireTicket_17 dX4_requireTicket_18 dX4_requireTicket_20 dX4_requireTicket_23 (fun x hx => (hnt x hx).elim) (Nat.le_of_ble_eq_true rfl) (Nat.le_of_ble_eq_true rfl) (Nat.le_of_ble_eq_true rfl) (Nat.le_of_ble_eq_true rfl) hlocks (fun t hvm hsz9 hk9 => ⟨(), trivial, rfl, hsz9, fun q h1 _ => hk9 q h1⟩) (fun _ h => nomatch h) (Nat.le_refl _) (Nat.le_refl _)
set_option maxHeartbeats 4000000 in
set_option maxRecDepth 100000 in
theorem x_X4_requireDaysToPass (l : Launch) (dC : Nat → ClassId) (dI : Nat → Nat → Nat) (cA : ClassId) (x : Int32) (hlt : l.stackTraces = false) (sz : Nat) (hx9 : zin x (nI 1) (nI 60) = 0) : vx_Met l yX4_requireDaysToPass wsX4_requireDaysToPass ({ frames := 6, cells := 1, slots := 6, locals := 90 } : Room) (va_Pc [.int x] (fun U => U.heap.size = sz ∧ va_P (dC, dI) vwCl [] U.heap ∧ va_K (dC, dI) vwCl [(cA, .int)] U ∧ zVm U ∧ zSt (fun q => sz ≤ q) U)) (va_Qv (fun _ : Unit => False) (fun _ _ => True) (fun q => sz ≤ q)) (vx_X (fun _ : Unit => True) (fun E _ _ => E = "java/lang/IllegalArgumentException") (fun q => sz ≤ q)) 1 6 (fun q => sz ≤ q) := by
  refine vx_ofW (cc := cX4_requireDaysToPass) (maxL := 1) (ret := none) (by decide) rfl ?_
  intro p e s m args below meth c s₁ B hml hnt hv
  obtain ⟨hargs, hsz, hP, hK, hV, hZ⟩ := hv
  have hx := B.exec
  have hb := B.bytes
  have hr := B.returns
  have hts := atoms_spec (ws := wsX4_requireDaysToPass) B.pre
  have hown : s.vm.findClass RX4 = some m.cls := findClass_of_methodNamed B.named
  have hlocks := B.notSynchronized
  subst hsz
  have hS : va_S (fun q => s.heap.size ≤ q) s.heap s.heap [] := va_S.rf
  have hl := lv_entry ([.int x]) (n := 1) (Nat.le_of_ble_eq_true rfl)
  rw [hargs, lg_entry_eq, ← hargs]
  generalize (lg_sl ([.int x]) ++ List.replicate (1 - (lg_sl ([.int x])).length) Slot.unset).toArray = ls at hl ⊢
  have hl : lv_has ls 1 [(0, .int x)] := hl
  refine lv_iload_n hx hb dX4_requireDaysToPass_0 rfl (lv_at hl 0 rfl) ?_
  refine lv_iconst (v := nI 1) hx hb dX4_requireDaysToPass_1 (by decide) ?_
  refine lv_bipush (v := nI 60) hx hb dX4_requireDaysToPass_2 (by decide) ?_
  refine vp_callSi (W.runS (As := [.int x,.int (nI 1),.int (nI 60)]) (rest := []) ⟨hx, hb, hml, hown, hts⟩ (c_X4_isWithin l dC dI cA x (nI 1) (nI 60) ) (va_cwS 3 hts gX4_requireDaysToPass_X4_isWithin rfl rfl rfl (by decide +kernel) ⟨Nat.le_of_ble_eq_true rfl, Nat.le_of_ble_eq_true rfl⟩) ⟨fun _ _ _ _ q => q, fun U hU hW => ⟨rfl, trivial⟩⟩ rfl rfl hl.1 rfl (lv_room (Nat.le_of_ble_eq_true rfl)) dX4_requireDaysToPass_4 ⟨Nat.le_of_ble_eq_true rfl, Nat.le_of_ble_eq_true rfl⟩) (fun r_1 hw_1 => ?_)
  subst hw_1
  refine lv_if_ne (tgt := 20) hx hb dX4_requireDaysToPass_7 (by decide) (fun c_2 => ?_) (fun c_2 => ?_)
  · skip
    replace c_2 := mt (zz_eq0 (by first | omega | (have := zin_le x (nI 1) (nI 60); omega))).mpr c_2
    exfalso; exact c_2 hx9
  · skip
    replace c_2 := (zz_eq0 (by first | omega | (have := zin_le x (nI 1) (nI 60); omega))).mp c_2
    obtain ⟨sa3, hstr3⟩ := hV.1.2.2.2.2.2.2.2.2.2.1
    exact vx_throwS (own := RX4) (cls := "java/lang/IllegalArgumentException") (text := "days is not 1 to 60") (names := ["java/lang/RuntimeException", "java/lang/Exception"]) (ic := 27) hx hb hlt hown rfl (by decide +kernel) (hts (.classLink RX4 23 "java/lang/IllegalArgumentException") (List.mem_of_getElem? (i := 1) rfl)) (hts (.initialized "java/lang/IllegalArgumentException") (List.mem_of_getElem? (i := 2) rfl)) hstr3 (vx_hat (B := zBiae) (fun w h => hts w (by first | exact List.mem_cons_of_mem _ (List.mem_append_right _ h) | exact List.mem_cons_of_mem _ (List.mem_append_left _ (List.mem_append_right _ h)) | exact List.mem_cons_of_mem _ (List.mem_append_left _ (List.mem_append_left _ (List.mem_append_right _ h))))) (by decide +kernel) (zVm.iae hV)) (by decide +kernel) hZ.1 hZ.2 hS (hl.1.trans hml.symm) dX4_requireDaysToPass_10 dX4_requireDaysToPass_13 dX4_requireDaysToPass_14 dX4_requireDaysToPass_16 dX4_requireDaysToPass_19 (fun x hx => (hnt x hx).elim) (Nat.le_of_ble_eq_true rfl) (Nat.le_of_ble_eq_true rfl) (Nat.le_of_ble_eq_true rfl) (Nat.le_of_ble_eq_true rfl) hlocks (fun t hvm hsz9 hk9 => ⟨(), trivial, rfl, hsz9, fun q h1 _ => hk9 q h1⟩) (fun _ h => nomatch h) (Nat.le_refl _) (Nat.le_refl _)
set_option maxHeartbeats 4000000 in
set_option maxRecDepth 100000 in
theorem x_X4_wallsOf (l : Launch) (dC : Nat → ClassId) (dI : Nat → Nat → Nat) (cA : ClassId) (xo : Nat) (pk_ : Nat) (pk : Nat) (h : Nat) (a0 : Nat) (a1 : Nat) (a2 : Nat) (a3 : Nat) (a4 : Nat) (a5 : Nat) (kk : Nat) (c0 : Nat) (c1 : Nat) (c2 : Nat) (c3 : Nat) (z : ZS) (me : Nat → Int32) (rk : Nat → Int32) (x : Int32) (hlt : l.stackTraces = false) (sz : Nat) (hz : zok z) (hdz : zdy z ≤ 40000) (hx9 : zhas x (zn z) = 0) : vx_Met l yX4_wallsOf wsX4_wallsOf ({ frames := 7, cells := 1, slots := 6, locals := 111 } : Room) (va_Pc [.ref xo, .int x] (fun U => U.heap.size = sz ∧ va_P (dC, dI) vwCl [(xo, .inr (3, [.ref pk, .ref pk_])), (pk, .inr (0, [.ref h, .ref kk, .int (nI (zdy z)), .int (nI (zgu z)), .int (zpu z)])), (h, .inr (1, [.ref a0, .ref a1, .ref a2, .ref a3, .ref a4, .ref a5, .int (nI (zn z))])), (a0, .inl (cA, 10, .inl (fun j9 => nI ((zwa z) j9)))), (a1, .inl (cA, 10, .inl (fun j9 => nI ((ziv z) j9)))), (a2, .inl (cA, 10, .inl (fun j9 => nI ((zgh z) j9)))), (a3, .inl (cA, 10, .inl (fun j9 => nI ((zpr z) j9)))), (a4, .inl (cA, 10, .inl me)), (a5, .inl (cA, 10, .inl rk)), (kk, .inr (2, [.ref c0, .ref c1, .ref c2, .ref c3, .int (nI (ztn z))])), (c0, .inl (cA, 30, .inl (fun j9 => nI ((ztr z) j9)))), (c1, .inl (cA, 30, .inl (fun j9 => nI ((ztd z) j9)))), (c2, .inl (cA, 30, .inl (fun j9 => nI ((ztp z) j9)))), (c3, .inl (cA, 30, .inl (fun j9 => nI ((ztf z) j9))))] U.heap ∧ va_K (dC, dI) vwCl [(cA, .int)] U ∧ zVm U ∧ zSt (fun q => sz ≤ q) U)) (va_Qi (fun (_ : Int32) (_ : Unit) => False) (fun _ _ => True) (fun q => sz ≤ q)) (vx_X (fun _ : Unit => True) (fun E _ _ => E = "java/lang/IndexOutOfBoundsException") (fun q => sz ≤ q)) 1 6 (fun q => sz ≤ q) := by
  refine vx_ofW (cc := cX4_wallsOf) (maxL := 2) (ret := (some .int)) (by decide) rfl ?_
  intro p e s m args below meth c s₁ B hml hnt hv
  obtain ⟨hargs, hsz, hP, hK, hV, hZ⟩ := hv
  have hx := B.exec
  have hb := B.bytes
  have hr := B.returns
  have hts := atoms_spec (ws := wsX4_wallsOf) B.pre
  have hown : s.vm.findClass RX4 = some m.cls := findClass_of_methodNamed B.named
  have hlocks := B.notSynchronized
  subst hsz
  have hS : va_S (fun q => s.heap.size ≤ q) s.heap s.heap [] := va_S.rf
  have hl := lv_entry ([.ref xo, .int x]) (n := 2) (Nat.le_of_ble_eq_true rfl)
  rw [hargs, lg_entry_eq, ← hargs]
  generalize (lg_sl ([.ref xo, .int x]) ++ List.replicate (2 - (lg_sl ([.ref xo, .int x])).length) Slot.unset).toArray = ls at hl ⊢
  have hl : lv_has ls 2 [(0, .ref xo), (1, .int x)] := hl
  obtain ⟨o1, o2, o3, o4, o5, o6, o7, o8, o9, o10, o11⟩ := id hz
  refine lv_aload_n hx hb dX4_wallsOf_0 rfl (lv_at hl 0 rfl) ?_
  refine lv_iload_n hx hb dX4_wallsOf_1 rfl (lv_at hl 1 rfl) ?_
  have hPc := hP.sub (ws' := [(xo, .inr (3, [.ref pk, .ref pk_])), (pk, .inr (0, [.ref h, .ref kk, .int (nI (zdy z)), .int (nI (zgu z)), .int (zpu z)])), (h, .inr (1, [.ref a0, .ref a1, .ref a2, .ref a3, .ref a4, .ref a5, .int (nI (zn z))])), (a0, .inl (cA, 10, .inl (fun j9 => nI ((zwa z) j9)))), (a1, .inl (cA, 10, .inl (fun j9 => nI ((ziv z) j9)))), (a2, .inl (cA, 10, .inl (fun j9 => nI ((zgh z) j9)))), (a3, .inl (cA, 10, .inl (fun j9 => nI ((zpr z) j9)))), (a4, .inl (cA, 10, .inl me)), (a5, .inl (cA, 10, .inl rk)), (kk, .inr (2, [.ref c0, .ref c1, .ref c2, .ref c3, .int (nI (ztn z))])), (c0, .inl (cA, 30, .inl (fun j9 => nI ((ztr z) j9)))), (c1, .inl (cA, 30, .inl (fun j9 => nI ((ztd z) j9)))), (c2, .inl (cA, 30, .inl (fun j9 => nI ((ztp z) j9)))), (c3, .inl (cA, 30, .inl (fun j9 => nI ((ztf z) j9))))]) [0, 1, 2, 3, 4, 5, 6, 7, 8, 9, 10, 11, 12, 13] rfl
  exact vx_callv (vx_runV (As := [.int x]) (rest := []) ⟨hx, hb, hml, hown, hts⟩ (x_X4_requireRuin l dC dI cA xo pk_ pk h a0 a1 a2 a3 a4 a5 kk c0 c1 c2 c3 z me rk x hlt s.heap.size (by first | assumption | omega) (by first | assumption | omega) (by first | assumption | omega)) (cwV 1 hts gX4_wallsOf_X4_requireRuin rfl rfl rfl (by decide +kernel) ⟨Nat.le_of_ble_eq_true rfl, Nat.le_of_ble_eq_true rfl⟩) ⟨fun a U g mk q => by obtain ⟨q0, q1, qP, qK, qV, qZ⟩ := q; exact ⟨q0, q1, qP, va_K.moved (u := U) (U := U.calling g mk a) (Vm.Alike.refl U.vm) qK, zVm.same (u := U) (U := U.calling g mk a) rfl qV, zSt.same (u := U) (U := U.calling g mk a) rfl rfl qZ⟩, va_recv hK hP (ci := 3) (q0 := 0) rfl rfl, fun U hU hW => ⟨rfl, by rw [hU], by rw [hU]; exact hPc, va_K.moved hW.alike hK, zVm.moved hW hV, zSt.moved hW hU hZ⟩⟩ rfl rfl hl.1 rfl (lv_room (Nat.le_of_ble_eq_true rfl)) dX4_wallsOf_2 ⟨Nat.le_of_ble_eq_true rfl, Nat.le_of_ble_eq_true rfl⟩) hS (fun _ h1 h2 => absurd h2 (Nat.not_le.mpr h1)) (fun _ h => h) (fun _ h1 h2 => absurd h2 (Nat.not_le.mpr h1)) (fun E ce q9 u t H1 locs1 ht hvm hp hB hz hk hS1 hce hcv hcl => vx_out (fun x hx => (hnt x hx).elim) hlocks hce hcv hcl (fun t9 ht9 hv9 => ⟨(), trivial, hB, hS1.F ht9⟩) hS1.2.2 (Nat.le_refl _) (Nat.le_refl _)) (fun u t H1 locs1 ht hvm hw => hw.elim)
set_option maxHeartbeats 4000000 in
set_option maxRecDepth 100000 in
theorem x_X4_ivyOf (l : Launch) (dC : Nat → ClassId) (dI : Nat → Nat → Nat) (cA : ClassId) (xo : Nat) (pk_ : Nat) (pk : Nat) (h : Nat) (a0 : Nat) (a1 : Nat) (a2 : Nat) (a3 : Nat) (a4 : Nat) (a5 : Nat) (kk : Nat) (c0 : Nat) (c1 : Nat) (c2 : Nat) (c3 : Nat) (z : ZS) (me : Nat → Int32) (rk : Nat → Int32) (x : Int32) (hlt : l.stackTraces = false) (sz : Nat) (hz : zok z) (hdz : zdy z ≤ 40000) (hx9 : zhas x (zn z) = 0) : vx_Met l yX4_ivyOf wsX4_ivyOf ({ frames := 7, cells := 1, slots := 6, locals := 111 } : Room) (va_Pc [.ref xo, .int x] (fun U => U.heap.size = sz ∧ va_P (dC, dI) vwCl [(xo, .inr (3, [.ref pk, .ref pk_])), (pk, .inr (0, [.ref h, .ref kk, .int (nI (zdy z)), .int (nI (zgu z)), .int (zpu z)])), (h, .inr (1, [.ref a0, .ref a1, .ref a2, .ref a3, .ref a4, .ref a5, .int (nI (zn z))])), (a0, .inl (cA, 10, .inl (fun j9 => nI ((zwa z) j9)))), (a1, .inl (cA, 10, .inl (fun j9 => nI ((ziv z) j9)))), (a2, .inl (cA, 10, .inl (fun j9 => nI ((zgh z) j9)))), (a3, .inl (cA, 10, .inl (fun j9 => nI ((zpr z) j9)))), (a4, .inl (cA, 10, .inl me)), (a5, .inl (cA, 10, .inl rk)), (kk, .inr (2, [.ref c0, .ref c1, .ref c2, .ref c3, .int (nI (ztn z))])), (c0, .inl (cA, 30, .inl (fun j9 => nI ((ztr z) j9)))), (c1, .inl (cA, 30, .inl (fun j9 => nI ((ztd z) j9)))), (c2, .inl (cA, 30, .inl (fun j9 => nI ((ztp z) j9)))), (c3, .inl (cA, 30, .inl (fun j9 => nI ((ztf z) j9))))] U.heap ∧ va_K (dC, dI) vwCl [(cA, .int)] U ∧ zVm U ∧ zSt (fun q => sz ≤ q) U)) (va_Qi (fun (_ : Int32) (_ : Unit) => False) (fun _ _ => True) (fun q => sz ≤ q)) (vx_X (fun _ : Unit => True) (fun E _ _ => E = "java/lang/IndexOutOfBoundsException") (fun q => sz ≤ q)) 1 6 (fun q => sz ≤ q) := by
  refine vx_ofW (cc := cX4_ivyOf) (maxL := 2) (ret := (some .int)) (by decide) rfl ?_
  intro p e s m args below meth c s₁ B hml hnt hv
  obtain ⟨hargs, hsz, hP, hK, hV, hZ⟩ := hv
  have hx := B.exec
  have hb := B.bytes
  have hr := B.returns
  have hts := atoms_spec (ws := wsX4_ivyOf) B.pre
  have hown : s.vm.findClass RX4 = some m.cls := findClass_of_methodNamed B.named
  have hlocks := B.notSynchronized
  subst hsz
  have hS : va_S (fun q => s.heap.size ≤ q) s.heap s.heap [] := va_S.rf
  have hl := lv_entry ([.ref xo, .int x]) (n := 2) (Nat.le_of_ble_eq_true rfl)
  rw [hargs, lg_entry_eq, ← hargs]
  generalize (lg_sl ([.ref xo, .int x]) ++ List.replicate (2 - (lg_sl ([.ref xo, .int x])).length) Slot.unset).toArray = ls at hl ⊢
  have hl : lv_has ls 2 [(0, .ref xo), (1, .int x)] := hl
  obtain ⟨o1, o2, o3, o4, o5, o6, o7, o8, o9, o10, o11⟩ := id hz
  refine lv_aload_n hx hb dX4_ivyOf_0 rfl (lv_at hl 0 rfl) ?_
  refine lv_iload_n hx hb dX4_ivyOf_1 rfl (lv_at hl 1 rfl) ?_
  have hPc := hP.sub (ws' := [(xo, .inr (3, [.ref pk, .ref pk_])), (pk, .inr (0, [.ref h, .ref kk, .int (nI (zdy z)), .int (nI (zgu z)), .int (zpu z)])), (h, .inr (1, [.ref a0, .ref a1, .ref a2, .ref a3, .ref a4, .ref a5, .int (nI (zn z))])), (a0, .inl (cA, 10, .inl (fun j9 => nI ((zwa z) j9)))), (a1, .inl (cA, 10, .inl (fun j9 => nI ((ziv z) j9)))), (a2, .inl (cA, 10, .inl (fun j9 => nI ((zgh z) j9)))), (a3, .inl (cA, 10, .inl (fun j9 => nI ((zpr z) j9)))), (a4, .inl (cA, 10, .inl me)), (a5, .inl (cA, 10, .inl rk)), (kk, .inr (2, [.ref c0, .ref c1, .ref c2, .ref c3, .int (nI (ztn z))])), (c0, .inl (cA, 30, .inl (fun j9 => nI ((ztr z) j9)))), (c1, .inl (cA, 30, .inl (fun j9 => nI ((ztd z) j9)))), (c2, .inl (cA, 30, .inl (fun j9 => nI ((ztp z) j9)))), (c3, .inl (cA, 30, .inl (fun j9 => nI ((ztf z) j9))))]) [0, 1, 2, 3, 4, 5, 6, 7, 8, 9, 10, 11, 12, 13] rfl
  exact vx_callv (vx_runV (As := [.int x]) (rest := []) ⟨hx, hb, hml, hown, hts⟩ (x_X4_requireRuin l dC dI cA xo pk_ pk h a0 a1 a2 a3 a4 a5 kk c0 c1 c2 c3 z me rk x hlt s.heap.size (by first | assumption | omega) (by first | assumption | omega) (by first | assumption | omega)) (cwV 1 hts gX4_ivyOf_X4_requireRuin rfl rfl rfl (by decide +kernel) ⟨Nat.le_of_ble_eq_true rfl, Nat.le_of_ble_eq_true rfl⟩) ⟨fun a U g mk q => by obtain ⟨q0, q1, qP, qK, qV, qZ⟩ := q; exact ⟨q0, q1, qP, va_K.moved (u := U) (U := U.calling g mk a) (Vm.Alike.refl U.vm) qK, zVm.same (u := U) (U := U.calling g mk a) rfl qV, zSt.same (u := U) (U := U.calling g mk a) rfl rfl qZ⟩, va_recv hK hP (ci := 3) (q0 := 0) rfl rfl, fun U hU hW => ⟨rfl, by rw [hU], by rw [hU]; exact hPc, va_K.moved hW.alike hK, zVm.moved hW hV, zSt.moved hW hU hZ⟩⟩ rfl rfl hl.1 rfl (lv_room (Nat.le_of_ble_eq_true rfl)) dX4_ivyOf_2 ⟨Nat.le_of_ble_eq_true rfl, Nat.le_of_ble_eq_true rfl⟩) hS (fun _ h1 h2 => absurd h2 (Nat.not_le.mpr h1)) (fun _ h => h) (fun _ h1 h2 => absurd h2 (Nat.not_le.mpr h1)) (fun E ce q9 u t H1 locs1 ht hvm hp hB hz hk hS1 hce hcv hcl => vx_out (fun x hx => (hnt x hx).elim) hlocks hce hcv hcl (fun t9 ht9 hv9 => ⟨(), trivial, hB, hS1.F ht9⟩) hS1.2.2 (Nat.le_refl _) (Nat.le_refl _)) (fun u t H1 locs1 ht hvm hw => hw.elim)
set_option maxHeartbeats 4000000 in
set_option maxRecDepth 100000 in
theorem x_X4_gradeOf (l : Launch) (dC : Nat → ClassId) (dI : Nat → Nat → Nat) (cA : ClassId) (xo : Nat) (pk_ : Nat) (pk : Nat) (h : Nat) (a0 : Nat) (a1 : Nat) (a2 : Nat) (a3 : Nat) (a4 : Nat) (a5 : Nat) (kk : Nat) (c0 : Nat) (c1 : Nat) (c2 : Nat) (c3 : Nat) (z : ZS) (me : Nat → Int32) (rk : Nat → Int32) (x : Int32) (hlt : l.stackTraces = false) (sz : Nat) (hz : zok z) (hdz : zdy z ≤ 40000) (hx9 : zhas x (zn z) = 0) : vx_Met l yX4_gradeOf wsX4_gradeOf ({ frames := 7, cells := 1, slots := 6, locals := 111 } : Room) (va_Pc [.ref xo, .int x] (fun U => U.heap.size = sz ∧ va_P (dC, dI) vwCl [(xo, .inr (3, [.ref pk, .ref pk_])), (pk, .inr (0, [.ref h, .ref kk, .int (nI (zdy z)), .int (nI (zgu z)), .int (zpu z)])), (h, .inr (1, [.ref a0, .ref a1, .ref a2, .ref a3, .ref a4, .ref a5, .int (nI (zn z))])), (a0, .inl (cA, 10, .inl (fun j9 => nI ((zwa z) j9)))), (a1, .inl (cA, 10, .inl (fun j9 => nI ((ziv z) j9)))), (a2, .inl (cA, 10, .inl (fun j9 => nI ((zgh z) j9)))), (a3, .inl (cA, 10, .inl (fun j9 => nI ((zpr z) j9)))), (a4, .inl (cA, 10, .inl me)), (a5, .inl (cA, 10, .inl rk)), (kk, .inr (2, [.ref c0, .ref c1, .ref c2, .ref c3, .int (nI (ztn z))])), (c0, .inl (cA, 30, .inl (fun j9 => nI ((ztr z) j9)))), (c1, .inl (cA, 30, .inl (fun j9 => nI ((ztd z) j9)))), (c2, .inl (cA, 30, .inl (fun j9 => nI ((ztp z) j9)))), (c3, .inl (cA, 30, .inl (fun j9 => nI ((ztf z) j9))))] U.heap ∧ va_K (dC, dI) vwCl [(cA, .int)] U ∧ zVm U ∧ zSt (fun q => sz ≤ q) U)) (va_Qi (fun (_ : Int32) (_ : Unit) => False) (fun _ _ => True) (fun q => sz ≤ q)) (vx_X (fun _ : Unit => True) (fun E _ _ => E = "java/lang/IndexOutOfBoundsException") (fun q => sz ≤ q)) 1 6 (fun q => sz ≤ q) := by
  refine vx_ofW (cc := cX4_gradeOf) (maxL := 2) (ret := (some .int)) (by decide) rfl ?_
  intro p e s m args below meth c s₁ B hml hnt hv
  obtain ⟨hargs, hsz, hP, hK, hV, hZ⟩ := hv
  have hx := B.exec
  have hb := B.bytes
  have hr := B.returns
  have hts := atoms_spec (ws := wsX4_gradeOf) B.pre
  have hown : s.vm.findClass RX4 = some m.cls := findClass_of_methodNamed B.named
  have hlocks := B.notSynchronized
  subst hsz
  have hS : va_S (fun q => s.heap.size ≤ q) s.heap s.heap [] := va_S.rf
  have hl := lv_entry ([.ref xo, .int x]) (n := 2) (Nat.le_of_ble_eq_true rfl)
  rw [hargs, lg_entry_eq, ← hargs]
  generalize (lg_sl ([.ref xo, .int x]) ++ List.replicate (2 - (lg_sl ([.ref xo, .int x])).length) Slot.unset).toArray = ls at hl ⊢
  have hl : lv_has ls 2 [(0, .ref xo), (1, .int x)] := hl
  obtain ⟨o1, o2, o3, o4, o5, o6, o7, o8, o9, o10, o11⟩ := id hz
  refine lv_aload_n hx hb dX4_gradeOf_0 rfl (lv_at hl 0 rfl) ?_
  refine lv_iload_n hx hb dX4_gradeOf_1 rfl (lv_at hl 1 rfl) ?_
  have hPc := hP.sub (ws' := [(xo, .inr (3, [.ref pk, .ref pk_])), (pk, .inr (0, [.ref h, .ref kk, .int (nI (zdy z)), .int (nI (zgu z)), .int (zpu z)])), (h, .inr (1, [.ref a0, .ref a1, .ref a2, .ref a3, .ref a4, .ref a5, .int (nI (zn z))])), (a0, .inl (cA, 10, .inl (fun j9 => nI ((zwa z) j9)))), (a1, .inl (cA, 10, .inl (fun j9 => nI ((ziv z) j9)))), (a2, .inl (cA, 10, .inl (fun j9 => nI ((zgh z) j9)))), (a3, .inl (cA, 10, .inl (fun j9 => nI ((zpr z) j9)))), (a4, .inl (cA, 10, .inl me)), (a5, .inl (cA, 10, .inl rk)), (kk, .inr (2, [.ref c0, .ref c1, .ref c2, .ref c3, .int (nI (ztn z))])), (c0, .inl (cA, 30, .inl (fun j9 => nI ((ztr z) j9)))), (c1, .inl (cA, 30, .inl (fun j9 => nI ((ztd z) j9)))), (c2, .inl (cA, 30, .inl (fun j9 => nI ((ztp z) j9)))), (c3, .inl (cA, 30, .inl (fun j9 => nI ((ztf z) j9))))]) [0, 1, 2, 3, 4, 5, 6, 7, 8, 9, 10, 11, 12, 13] rfl
  exact vx_callv (vx_runV (As := [.int x]) (rest := []) ⟨hx, hb, hml, hown, hts⟩ (x_X4_requireRuin l dC dI cA xo pk_ pk h a0 a1 a2 a3 a4 a5 kk c0 c1 c2 c3 z me rk x hlt s.heap.size (by first | assumption | omega) (by first | assumption | omega) (by first | assumption | omega)) (cwV 1 hts gX4_gradeOf_X4_requireRuin rfl rfl rfl (by decide +kernel) ⟨Nat.le_of_ble_eq_true rfl, Nat.le_of_ble_eq_true rfl⟩) ⟨fun a U g mk q => by obtain ⟨q0, q1, qP, qK, qV, qZ⟩ := q; exact ⟨q0, q1, qP, va_K.moved (u := U) (U := U.calling g mk a) (Vm.Alike.refl U.vm) qK, zVm.same (u := U) (U := U.calling g mk a) rfl qV, zSt.same (u := U) (U := U.calling g mk a) rfl rfl qZ⟩, va_recv hK hP (ci := 3) (q0 := 0) rfl rfl, fun U hU hW => ⟨rfl, by rw [hU], by rw [hU]; exact hPc, va_K.moved hW.alike hK, zVm.moved hW hV, zSt.moved hW hU hZ⟩⟩ rfl rfl hl.1 rfl (lv_room (Nat.le_of_ble_eq_true rfl)) dX4_gradeOf_2 ⟨Nat.le_of_ble_eq_true rfl, Nat.le_of_ble_eq_true rfl⟩) hS (fun _ h1 h2 => absurd h2 (Nat.not_le.mpr h1)) (fun _ h => h) (fun _ h1 h2 => absurd h2 (Nat.not_le.mpr h1)) (fun E ce q9 u t H1 locs1 ht hvm hp hB hz hk hS1 hce hcv hcl => vx_out (fun x hx => (hnt x hx).elim) hlocks hce hcv hcl (fun t9 ht9 hv9 => ⟨(), trivial, hB, hS1.F ht9⟩) hS1.2.2 (Nat.le_refl _) (Nat.le_refl _)) (fun u t H1 locs1 ht hvm hw => hw.elim)
set_option maxHeartbeats 4000000 in
set_option maxRecDepth 100000 in
theorem x_X4_ghostsOf (l : Launch) (dC : Nat → ClassId) (dI : Nat → Nat → Nat) (cA : ClassId) (xo : Nat) (pk_ : Nat) (pk : Nat) (h : Nat) (a0 : Nat) (a1 : Nat) (a2 : Nat) (a3 : Nat) (a4 : Nat) (a5 : Nat) (kk : Nat) (c0 : Nat) (c1 : Nat) (c2 : Nat) (c3 : Nat) (z : ZS) (me : Nat → Int32) (rk : Nat → Int32) (x : Int32) (hlt : l.stackTraces = false) (sz : Nat) (hz : zok z) (hdz : zdy z ≤ 40000) (hx9 : zhas x (zn z) = 0) : vx_Met l yX4_ghostsOf wsX4_ghostsOf ({ frames := 7, cells := 1, slots := 6, locals := 111 } : Room) (va_Pc [.ref xo, .int x] (fun U => U.heap.size = sz ∧ va_P (dC, dI) vwCl [(xo, .inr (3, [.ref pk, .ref pk_])), (pk, .inr (0, [.ref h, .ref kk, .int (nI (zdy z)), .int (nI (zgu z)), .int (zpu z)])), (h, .inr (1, [.ref a0, .ref a1, .ref a2, .ref a3, .ref a4, .ref a5, .int (nI (zn z))])), (a0, .inl (cA, 10, .inl (fun j9 => nI ((zwa z) j9)))), (a1, .inl (cA, 10, .inl (fun j9 => nI ((ziv z) j9)))), (a2, .inl (cA, 10, .inl (fun j9 => nI ((zgh z) j9)))), (a3, .inl (cA, 10, .inl (fun j9 => nI ((zpr z) j9)))), (a4, .inl (cA, 10, .inl me)), (a5, .inl (cA, 10, .inl rk)), (kk, .inr (2, [.ref c0, .ref c1, .ref c2, .ref c3, .int (nI (ztn z))])), (c0, .inl (cA, 30, .inl (fun j9 => nI ((ztr z) j9)))), (c1, .inl (cA, 30, .inl (fun j9 => nI ((ztd z) j9)))), (c2, .inl (cA, 30, .inl (fun j9 => nI ((ztp z) j9)))), (c3, .inl (cA, 30, .inl (fun j9 => nI ((ztf z) j9))))] U.heap ∧ va_K (dC, dI) vwCl [(cA, .int)] U ∧ zVm U ∧ zSt (fun q => sz ≤ q) U)) (va_Qi (fun (_ : Int32) (_ : Unit) => False) (fun _ _ => True) (fun q => sz ≤ q)) (vx_X (fun _ : Unit => True) (fun E _ _ => E = "java/lang/IndexOutOfBoundsException") (fun q => sz ≤ q)) 1 6 (fun q => sz ≤ q) := by
  refine vx_ofW (cc := cX4_ghostsOf) (maxL := 2) (ret := (some .int)) (by decide) rfl ?_
  intro p e s m args below meth c s₁ B hml hnt hv
  obtain ⟨hargs, hsz, hP, hK, hV, hZ⟩ := hv
  have hx := B.exec
  have hb := B.bytes
  have hr := B.returns
  have hts := atoms_spec (ws := wsX4_ghostsOf) B.pre
  have hown : s.vm.findClass RX4 = some m.cls := findClass_of_methodNamed B.named
  have hlocks := B.notSynchronized
  subst hsz
  have hS : va_S (fun q => s.heap.size ≤ q) s.heap s.heap [] := va_S.rf
  have hl := lv_entry ([.ref xo, .int x]) (n := 2) (Nat.le_of_ble_eq_true rfl)
  rw [hargs, lg_entry_eq, ← hargs]
  generalize (lg_sl ([.ref xo, .int x]) ++ List.replicate (2 - (lg_sl ([.ref xo, .int x])).length) Slot.unset).toArray = ls at hl ⊢
  have hl : lv_has ls 2 [(0, .ref xo), (1, .int x)] := hl
  obtain ⟨o1, o2, o3, o4, o5, o6, o7, o8, o9, o10, o11⟩ := id hz
  refine lv_aload_n hx hb dX4_ghostsOf_0 rfl (lv_at hl 0 rfl) ?_
  refine lv_iload_n hx hb dX4_ghostsOf_1 rfl (lv_at hl 1 rfl) ?_
  have hPc := hP.sub (ws' := [(xo, .inr (3, [.ref pk, .ref pk_])), (pk, .inr (0, [.ref h, .ref kk, .int (nI (zdy z)), .int (nI (zgu z)), .int (zpu z)])), (h, .inr (1, [.ref a0, .ref a1, .ref a2, .ref a3, .ref a4, .ref a5, .int (nI (zn z))])), (a0, .inl (cA, 10, .inl (fun j9 => nI ((zwa z) j9)))), (a1, .inl (cA, 10, .inl (fun j9 => nI ((ziv z) j9)))), (a2, .inl (cA, 10, .inl (fun j9 => nI ((zgh z) j9)))), (a3, .inl (cA, 10, .inl (fun j9 => nI ((zpr z) j9)))), (a4, .inl (cA, 10, .inl me)), (a5, .inl (cA, 10, .inl rk)), (kk, .inr (2, [.ref c0, .ref c1, .ref c2, .ref c3, .int (nI (ztn z))])), (c0, .inl (cA, 30, .inl (fun j9 => nI ((ztr z) j9)))), (c1, .inl (cA, 30, .inl (fun j9 => nI ((ztd z) j9)))), (c2, .inl (cA, 30, .inl (fun j9 => nI ((ztp z) j9)))), (c3, .inl (cA, 30, .inl (fun j9 => nI ((ztf z) j9))))]) [0, 1, 2, 3, 4, 5, 6, 7, 8, 9, 10, 11, 12, 13] rfl
  exact vx_callv (vx_runV (As := [.int x]) (rest := []) ⟨hx, hb, hml, hown, hts⟩ (x_X4_requireRuin l dC dI cA xo pk_ pk h a0 a1 a2 a3 a4 a5 kk c0 c1 c2 c3 z me rk x hlt s.heap.size (by first | assumption | omega) (by first | assumption | omega) (by first | assumption | omega)) (cwV 1 hts gX4_ghostsOf_X4_requireRuin rfl rfl rfl (by decide +kernel) ⟨Nat.le_of_ble_eq_true rfl, Nat.le_of_ble_eq_true rfl⟩) ⟨fun a U g mk q => by obtain ⟨q0, q1, qP, qK, qV, qZ⟩ := q; exact ⟨q0, q1, qP, va_K.moved (u := U) (U := U.calling g mk a) (Vm.Alike.refl U.vm) qK, zVm.same (u := U) (U := U.calling g mk a) rfl qV, zSt.same (u := U) (U := U.calling g mk a) rfl rfl qZ⟩, va_recv hK hP (ci := 3) (q0 := 0) rfl rfl, fun U hU hW => ⟨rfl, by rw [hU], by rw [hU]; exact hPc, va_K.moved hW.alike hK, zVm.moved hW hV, zSt.moved hW hU hZ⟩⟩ rfl rfl hl.1 rfl (lv_room (Nat.le_of_ble_eq_true rfl)) dX4_ghostsOf_2 ⟨Nat.le_of_ble_eq_true rfl, Nat.le_of_ble_eq_true rfl⟩) hS (fun _ h1 h2 => absurd h2 (Nat.not_le.mpr h1)) (fun _ h => h) (fun _ h1 h2 => absurd h2 (Nat.not_le.mpr h1)) (fun E ce q9 u t H1 locs1 ht hvm hp hB hz hk hS1 hce hcv hcl => vx_out (fun x hx => (hnt x hx).elim) hlocks hce hcv hcl (fun t9 ht9 hv9 => ⟨(), trivial, hB, hS1.F ht9⟩) hS1.2.2 (Nat.le_refl _) (Nat.le_refl _)) (fun u t H1 locs1 ht hvm hw => hw.elim)
set_option maxHeartbeats 4000000 in
set_option maxRecDepth 100000 in
theorem x_X4_hasCollapsed (l : Launch) (dC : Nat → ClassId) (dI : Nat → Nat → Nat) (cA : ClassId) (xo : Nat) (pk_ : Nat) (pk : Nat) (h : Nat) (a0 : Nat) (a1 : Nat) (a2 : Nat) (a3 : Nat) (a4 : Nat) (a5 : Nat) (kk : Nat) (c0 : Nat) (c1 : Nat) (c2 : Nat) (c3 : Nat) (z : ZS) (me : Nat → Int32) (rk : Nat → Int32) (x : Int32) (hlt : l.stackTraces = false) (sz : Nat) (hz : zok z) (hdz : zdy z ≤ 40000) (hx9 : zhas x (zn z) = 0) : vx_Met l yX4_hasCollapsed wsX4_hasCollapsed ({ frames := 7, cells := 1, slots := 6, locals := 111 } : Room) (va_Pc [.ref xo, .int x] (fun U => U.heap.size = sz ∧ va_P (dC, dI) vwCl [(xo, .inr (3, [.ref pk, .ref pk_])), (pk, .inr (0, [.ref h, .ref kk, .int (nI (zdy z)), .int (nI (zgu z)), .int (zpu z)])), (h, .inr (1, [.ref a0, .ref a1, .ref a2, .ref a3, .ref a4, .ref a5, .int (nI (zn z))])), (a0, .inl (cA, 10, .inl (fun j9 => nI ((zwa z) j9)))), (a1, .inl (cA, 10, .inl (fun j9 => nI ((ziv z) j9)))), (a2, .inl (cA, 10, .inl (fun j9 => nI ((zgh z) j9)))), (a3, .inl (cA, 10, .inl (fun j9 => nI ((zpr z) j9)))), (a4, .inl (cA, 10, .inl me)), (a5, .inl (cA, 10, .inl rk)), (kk, .inr (2, [.ref c0, .ref c1, .ref c2, .ref c3, .int (nI (ztn z))])), (c0, .inl (cA, 30, .inl (fun j9 => nI ((ztr z) j9)))), (c1, .inl (cA, 30, .inl (fun j9 => nI ((ztd z) j9)))), (c2, .inl (cA, 30, .inl (fun j9 => nI ((ztp z) j9)))), (c3, .inl (cA, 30, .inl (fun j9 => nI ((ztf z) j9))))] U.heap ∧ va_K (dC, dI) vwCl [(cA, .int)] U ∧ zVm U ∧ zSt (fun q => sz ≤ q) U)) (va_Qi (fun (_ : Int32) (_ : Unit) => False) (fun _ _ => True) (fun q => sz ≤ q)) (vx_X (fun _ : Unit => True) (fun E _ _ => E = "java/lang/IndexOutOfBoundsException") (fun q => sz ≤ q)) 1 6 (fun q => sz ≤ q) := by
  refine vx_ofW (cc := cX4_hasCollapsed) (maxL := 2) (ret := (some .boolean)) (by decide) rfl ?_
  intro p e s m args below meth c s₁ B hml hnt hv
  obtain ⟨hargs, hsz, hP, hK, hV, hZ⟩ := hv
  have hx := B.exec
  have hb := B.bytes
  have hr := B.returns
  have hts := atoms_spec (ws := wsX4_hasCollapsed) B.pre
  have hown : s.vm.findClass RX4 = some m.cls := findClass_of_methodNamed B.named
  have hlocks := B.notSynchronized
  subst hsz
  have hS : va_S (fun q => s.heap.size ≤ q) s.heap s.heap [] := va_S.rf
  have hl := lv_entry ([.ref xo, .int x]) (n := 2) (Nat.le_of_ble_eq_true rfl)
  rw [hargs, lg_entry_eq, ← hargs]
  generalize (lg_sl ([.ref xo, .int x]) ++ List.replicate (2 - (lg_sl ([.ref xo, .int x])).length) Slot.unset).toArray = ls at hl ⊢
  have hl : lv_has ls 2 [(0, .ref xo), (1, .int x)] := hl
  obtain ⟨o1, o2, o3, o4, o5, o6, o7, o8, o9, o10, o11⟩ := id hz
  refine lv_aload_n hx hb dX4_hasCollapsed_0 rfl (lv_at hl 0 rfl) ?_
  refine lv_iload_n hx hb dX4_hasCollapsed_1 rfl (lv_at hl 1 rfl) ?_
  have hPc := hP.sub (ws' := [(xo, .inr (3, [.ref pk, .ref pk_])), (pk, .inr (0, [.ref h, .ref kk, .int (nI (zdy z)), .int (nI (zgu z)), .int (zpu z)])), (h, .inr (1, [.ref a0, .ref a1, .ref a2, .ref a3, .ref a4, .ref a5, .int (nI (zn z))])), (a0, .inl (cA, 10, .inl (fun j9 => nI ((zwa z) j9)))), (a1, .inl (cA, 10, .inl (fun j9 => nI ((ziv z) j9)))), (a2, .inl (cA, 10, .inl (fun j9 => nI ((zgh z) j9)))), (a3, .inl (cA, 10, .inl (fun j9 => nI ((zpr z) j9)))), (a4, .inl (cA, 10, .inl me)), (a5, .inl (cA, 10, .inl rk)), (kk, .inr (2, [.ref c0, .ref c1, .ref c2, .ref c3, .int (nI (ztn z))])), (c0, .inl (cA, 30, .inl (fun j9 => nI ((ztr z) j9)))), (c1, .inl (cA, 30, .inl (fun j9 => nI ((ztd z) j9)))), (c2, .inl (cA, 30, .inl (fun j9 => nI ((ztp z) j9)))), (c3, .inl (cA, 30, .inl (fun j9 => nI ((ztf z) j9))))]) [0, 1, 2, 3, 4, 5, 6, 7, 8, 9, 10, 11, 12, 13] rfl
  exact vx_callv (vx_runV (As := [.int x]) (rest := []) ⟨hx, hb, hml, hown, hts⟩ (x_X4_requireRuin l dC dI cA xo pk_ pk h a0 a1 a2 a3 a4 a5 kk c0 c1 c2 c3 z me rk x hlt s.heap.size (by first | assumption | omega) (by first | assumption | omega) (by first | assumption | omega)) (cwV 1 hts gX4_hasCollapsed_X4_requireRuin rfl rfl rfl (by decide +kernel) ⟨Nat.le_of_ble_eq_true rfl, Nat.le_of_ble_eq_true rfl⟩) ⟨fun a U g mk q => by obtain ⟨q0, q1, qP, qK, qV, qZ⟩ := q; exact ⟨q0, q1, qP, va_K.moved (u := U) (U := U.calling g mk a) (Vm.Alike.refl U.vm) qK, zVm.same (u := U) (U := U.calling g mk a) rfl qV, zSt.same (u := U) (U := U.calling g mk a) rfl rfl qZ⟩, va_recv hK hP (ci := 3) (q0 := 0) rfl rfl, fun U hU hW => ⟨rfl, by rw [hU], by rw [hU]; exact hPc, va_K.moved hW.alike hK, zVm.moved hW hV, zSt.moved hW hU hZ⟩⟩ rfl rfl hl.1 rfl (lv_room (Nat.le_of_ble_eq_true rfl)) dX4_hasCollapsed_2 ⟨Nat.le_of_ble_eq_true rfl, Nat.le_of_ble_eq_true rfl⟩) hS (fun _ h1 h2 => absurd h2 (Nat.not_le.mpr h1)) (fun _ h => h) (fun _ h1 h2 => absurd h2 (Nat.not_le.mpr h1)) (fun E ce q9 u t H1 locs1 ht hvm hp hB hz hk hS1 hce hcv hcl => vx_out (fun x hx => (hnt x hx).elim) hlocks hce hcv hcl (fun t9 ht9 hv9 => ⟨(), trivial, hB, hS1.F ht9⟩) hS1.2.2 (Nat.le_refl _) (Nat.le_refl _)) (fun u t H1 locs1 ht hvm hw => hw.elim)
set_option maxHeartbeats 4000000 in
set_option maxRecDepth 100000 in
theorem x_X4_viewOf (l : Launch) (dC : Nat → ClassId) (dI : Nat → Nat → Nat) (cA : ClassId) (xo : Nat) (pk_ : Nat) (pk : Nat) (h : Nat) (a0 : Nat) (a1 : Nat) (a2 : Nat) (a3 : Nat) (a4 : Nat) (a5 : Nat) (kk : Nat) (c0 : Nat) (c1 : Nat) (c2 : Nat) (c3 : Nat) (z : ZS) (me : Nat → Int32) (rk : Nat → Int32) (x : Int32) (hlt : l.stackTraces = false) (sz : Nat) (hz : zok z) (hdz : zdy z ≤ 40000) (hx9 : zhas x (zn z) = 0) : vx_Met l yX4_viewOf wsX4_viewOf ({ frames := 7, cells := 1, slots := 6, locals := 111 } : Room) (va_Pc [.ref xo, .int x] (fun U => U.heap.size = sz ∧ va_P (dC, dI) vwCl [(xo, .inr (3, [.ref pk, .ref pk_])), (pk, .inr (0, [.ref h, .ref kk, .int (nI (zdy z)), .int (nI (zgu z)), .int (zpu z)])), (h, .inr (1, [.ref a0, .ref a1, .ref a2, .ref a3, .ref a4, .ref a5, .int (nI (zn z))])), (a0, .inl (cA, 10, .inl (fun j9 => nI ((zwa z) j9)))), (a1, .inl (cA, 10, .inl (fun j9 => nI ((ziv z) j9)))), (a2, .inl (cA, 10, .inl (fun j9 => nI ((zgh z) j9)))), (a3, .inl (cA, 10, .inl (fun j9 => nI ((zpr z) j9)))), (a4, .inl (cA, 10, .inl me)), (a5, .inl (cA, 10, .inl rk)), (kk, .inr (2, [.ref c0, .ref c1, .ref c2, .ref c3, .int (nI (ztn z))])), (c0, .inl (cA, 30, .inl (fun j9 => nI ((ztr z) j9)))), (c1, .inl (cA, 30, .inl (fun j9 => nI ((ztd z) j9)))), (c2, .inl (cA, 30, .inl (fun j9 => nI ((ztp z) j9)))), (c3, .inl (cA, 30, .inl (fun j9 => nI ((ztf z) j9))))] U.heap ∧ va_K (dC, dI) vwCl [(cA, .int)] U ∧ zVm U ∧ zSt (fun q => sz ≤ q) U)) (va_Qi (fun (_ : Int32) (_ : Unit) => False) (fun _ _ => True) (fun q => sz ≤ q)) (vx_X (fun _ : Unit => True) (fun E _ _ => E = "java/lang/IndexOutOfBoundsException") (fun q => sz ≤ q)) 1 6 (fun q => sz ≤ q) := by
  refine vx_ofW (cc := cX4_viewOf) (maxL := 2) (ret := (some .int)) (by decide) rfl ?_
  intro p e s m args below meth c s₁ B hml hnt hv
  obtain ⟨hargs, hsz, hP, hK, hV, hZ⟩ := hv
  have hx := B.exec
  have hb := B.bytes
  have hr := B.returns
  have hts := atoms_spec (ws := wsX4_viewOf) B.pre
  have hown : s.vm.findClass RX4 = some m.cls := findClass_of_methodNamed B.named
  have hlocks := B.notSynchronized
  subst hsz
  have hS : va_S (fun q => s.heap.size ≤ q) s.heap s.heap [] := va_S.rf
  have hl := lv_entry ([.ref xo, .int x]) (n := 2) (Nat.le_of_ble_eq_true rfl)
  rw [hargs, lg_entry_eq, ← hargs]
  generalize (lg_sl ([.ref xo, .int x]) ++ List.replicate (2 - (lg_sl ([.ref xo, .int x])).length) Slot.unset).toArray = ls at hl ⊢
  have hl : lv_has ls 2 [(0, .ref xo), (1, .int x)] := hl
  obtain ⟨o1, o2, o3, o4, o5, o6, o7, o8, o9, o10, o11⟩ := id hz
  refine lv_aload_n hx hb dX4_viewOf_0 rfl (lv_at hl 0 rfl) ?_
  refine lv_iload_n hx hb dX4_viewOf_1 rfl (lv_at hl 1 rfl) ?_
  have hPc := hP.sub (ws' := [(xo, .inr (3, [.ref pk, .ref pk_])), (pk, .inr (0, [.ref h, .ref kk, .int (nI (zdy z)), .int (nI (zgu z)), .int (zpu z)])), (h, .inr (1, [.ref a0, .ref a1, .ref a2, .ref a3, .ref a4, .ref a5, .int (nI (zn z))])), (a0, .inl (cA, 10, .inl (fun j9 => nI ((zwa z) j9)))), (a1, .inl (cA, 10, .inl (fun j9 => nI ((ziv z) j9)))), (a2, .inl (cA, 10, .inl (fun j9 => nI ((zgh z) j9)))), (a3, .inl (cA, 10, .inl (fun j9 => nI ((zpr z) j9)))), (a4, .inl (cA, 10, .inl me)), (a5, .inl (cA, 10, .inl rk)), (kk, .inr (2, [.ref c0, .ref c1, .ref c2, .ref c3, .int (nI (ztn z))])), (c0, .inl (cA, 30, .inl (fun j9 => nI ((ztr z) j9)))), (c1, .inl (cA, 30, .inl (fun j9 => nI ((ztd z) j9)))), (c2, .inl (cA, 30, .inl (fun j9 => nI ((ztp z) j9)))), (c3, .inl (cA, 30, .inl (fun j9 => nI ((ztf z) j9))))]) [0, 1, 2, 3, 4, 5, 6, 7, 8, 9, 10, 11, 12, 13] rfl
  exact vx_callv (vx_runV (As := [.int x]) (rest := []) ⟨hx, hb, hml, hown, hts⟩ (x_X4_requireRuin l dC dI cA xo pk_ pk h a0 a1 a2 a3 a4 a5 kk c0 c1 c2 c3 z me rk x hlt s.heap.size (by first | assumption | omega) (by first | assumption | omega) (by first | assumption | omega)) (cwV 1 hts gX4_viewOf_X4_requireRuin rfl rfl rfl (by decide +kernel) ⟨Nat.le_of_ble_eq_true rfl, Nat.le_of_ble_eq_true rfl⟩) ⟨fun a U g mk q => by obtain ⟨q0, q1, qP, qK, qV, qZ⟩ := q; exact ⟨q0, q1, qP, va_K.moved (u := U) (U := U.calling g mk a) (Vm.Alike.refl U.vm) qK, zVm.same (u := U) (U := U.calling g mk a) rfl qV, zSt.same (u := U) (U := U.calling g mk a) rfl rfl qZ⟩, va_recv hK hP (ci := 3) (q0 := 0) rfl rfl, fun U hU hW => ⟨rfl, by rw [hU], by rw [hU]; exact hPc, va_K.moved hW.alike hK, zVm.moved hW hV, zSt.moved hW hU hZ⟩⟩ rfl rfl hl.1 rfl (lv_room (Nat.le_of_ble_eq_true rfl)) dX4_viewOf_2 ⟨Nat.le_of_ble_eq_true rfl, Nat.le_of_ble_eq_true rfl⟩) hS (fun _ h1 h2 => absurd h2 (Nat.not_le.mpr h1)) (fun _ h => h) (fun _ h1 h2 => absurd h2 (Nat.not_le.mpr h1)) (fun E ce q9 u t H1 locs1 ht hvm hp hB hz hk hS1 hce hcv hcl => vx_out (fun x hx => (hnt x hx).elim) hlocks hce hcv hcl (fun t9 ht9 hv9 => ⟨(), trivial, hB, hS1.F ht9⟩) hS1.2.2 (Nat.le_refl _) (Nat.le_refl _)) (fun u t H1 locs1 ht hvm hw => hw.elim)
set_option maxHeartbeats 4000000 in
set_option maxRecDepth 100000 in
theorem x_X4_rankOf (l : Launch) (dC : Nat → ClassId) (dI : Nat → Nat → Nat) (cA : ClassId) (xo : Nat) (pk_ : Nat) (pk : Nat) (h : Nat) (a0 : Nat) (a1 : Nat) (a2 : Nat) (a3 : Nat) (a4 : Nat) (a5 : Nat) (kk : Nat) (c0 : Nat) (c1 : Nat) (c2 : Nat) (c3 : Nat) (z : ZS) (me : Nat → Int32) (rk : Nat → Int32) (x : Int32) (hlt : l.stackTraces = false) (sz : Nat) (hz : zok z) (hdz : zdy z ≤ 40000) (hx9 : zhas x (zn z) = 0) : vx_Met l yX4_rankOf wsX4_rankOf ({ frames := 7, cells := 1, slots := 6, locals := 111 } : Room) (va_Pc [.ref xo, .int x] (fun U => U.heap.size = sz ∧ va_P (dC, dI) vwCl [(xo, .inr (3, [.ref pk, .ref pk_])), (pk, .inr (0, [.ref h, .ref kk, .int (nI (zdy z)), .int (nI (zgu z)), .int (zpu z)])), (h, .inr (1, [.ref a0, .ref a1, .ref a2, .ref a3, .ref a4, .ref a5, .int (nI (zn z))])), (a0, .inl (cA, 10, .inl (fun j9 => nI ((zwa z) j9)))), (a1, .inl (cA, 10, .inl (fun j9 => nI ((ziv z) j9)))), (a2, .inl (cA, 10, .inl (fun j9 => nI ((zgh z) j9)))), (a3, .inl (cA, 10, .inl (fun j9 => nI ((zpr z) j9)))), (a4, .inl (cA, 10, .inl me)), (a5, .inl (cA, 10, .inl rk)), (kk, .inr (2, [.ref c0, .ref c1, .ref c2, .ref c3, .int (nI (ztn z))])), (c0, .inl (cA, 30, .inl (fun j9 => nI ((ztr z) j9)))), (c1, .inl (cA, 30, .inl (fun j9 => nI ((ztd z) j9)))), (c2, .inl (cA, 30, .inl (fun j9 => nI ((ztp z) j9)))), (c3, .inl (cA, 30, .inl (fun j9 => nI ((ztf z) j9))))] U.heap ∧ va_K (dC, dI) vwCl [(cA, .int)] U ∧ zVm U ∧ zSt (fun q => sz ≤ q) U)) (va_Qi (fun (_ : Int32) (_ : Unit) => False) (fun _ _ => True) (fun q => sz ≤ q)) (vx_X (fun _ : Unit => True) (fun E _ _ => E = "java/lang/IndexOutOfBoundsException") (fun q => sz ≤ q)) 1 6 (fun q => sz ≤ q) := by
  refine vx_ofW (cc := cX4_rankOf) (maxL := 2) (ret := (some .int)) (by decide) rfl ?_
  intro p e s m args below meth c s₁ B hml hnt hv
  obtain ⟨hargs, hsz, hP, hK, hV, hZ⟩ := hv
  have hx := B.exec
  have hb := B.bytes
  have hr := B.returns
  have hts := atoms_spec (ws := wsX4_rankOf) B.pre
  have hown : s.vm.findClass RX4 = some m.cls := findClass_of_methodNamed B.named
  have hlocks := B.notSynchronized
  subst hsz
  have hS : va_S (fun q => s.heap.size ≤ q) s.heap s.heap [] := va_S.rf
  have hl := lv_entry ([.ref xo, .int x]) (n := 2) (Nat.le_of_ble_eq_true rfl)
  rw [hargs, lg_entry_eq, ← hargs]
  generalize (lg_sl ([.ref xo, .int x]) ++ List.replicate (2 - (lg_sl ([.ref xo, .int x])).length) Slot.unset).toArray = ls at hl ⊢
  have hl : lv_has ls 2 [(0, .ref xo), (1, .int x)] := hl
  obtain ⟨o1, o2, o3, o4, o5, o6, o7, o8, o9, o10, o11⟩ := id hz
  refine lv_aload_n hx hb dX4_rankOf_0 rfl (lv_at hl 0 rfl) ?_
  refine lv_iload_n hx hb dX4_rankOf_1 rfl (lv_at hl 1 rfl) ?_
  have hPc := hP.sub (ws' := [(xo, .inr (3, [.ref pk, .ref pk_])), (pk, .inr (0, [.ref h, .ref kk, .int (nI (zdy z)), .int (nI (zgu z)), .int (zpu z)])), (h, .inr (1, [.ref a0, .ref a1, .ref a2, .ref a3, .ref a4, .ref a5, .int (nI (zn z))])), (a0, .inl (cA, 10, .inl (fun j9 => nI ((zwa z) j9)))), (a1, .inl (cA, 10, .inl (fun j9 => nI ((ziv z) j9)))), (a2, .inl (cA, 10, .inl (fun j9 => nI ((zgh z) j9)))), (a3, .inl (cA, 10, .inl (fun j9 => nI ((zpr z) j9)))), (a4, .inl (cA, 10, .inl me)), (a5, .inl (cA, 10, .inl rk)), (kk, .inr (2, [.ref c0, .ref c1, .ref c2, .ref c3, .int (nI (ztn z))])), (c0, .inl (cA, 30, .inl (fun j9 => nI ((ztr z) j9)))), (c1, .inl (cA, 30, .inl (fun j9 => nI ((ztd z) j9)))), (c2, .inl (cA, 30, .inl (fun j9 => nI ((ztp z) j9)))), (c3, .inl (cA, 30, .inl (fun j9 => nI ((ztf z) j9))))]) [0, 1, 2, 3, 4, 5, 6, 7, 8, 9, 10, 11, 12, 13] rfl
  exact vx_callv (vx_runV (As := [.int x]) (rest := []) ⟨hx, hb, hml, hown, hts⟩ (x_X4_requireRuin l dC dI cA xo pk_ pk h a0 a1 a2 a3 a4 a5 kk c0 c1 c2 c3 z me rk x hlt s.heap.size (by first | assumption | omega) (by first | assumption | omega) (by first | assumption | omega)) (cwV 1 hts gX4_rankOf_X4_requireRuin rfl rfl rfl (by decide +kernel) ⟨Nat.le_of_ble_eq_true rfl, Nat.le_of_ble_eq_true rfl⟩) ⟨fun a U g mk q => by obtain ⟨q0, q1, qP, qK, qV, qZ⟩ := q; exact ⟨q0, q1, qP, va_K.moved (u := U) (U := U.calling g mk a) (Vm.Alike.refl U.vm) qK, zVm.same (u := U) (U := U.calling g mk a) rfl qV, zSt.same (u := U) (U := U.calling g mk a) rfl rfl qZ⟩, va_recv hK hP (ci := 3) (q0 := 0) rfl rfl, fun U hU hW => ⟨rfl, by rw [hU], by rw [hU]; exact hPc, va_K.moved hW.alike hK, zVm.moved hW hV, zSt.moved hW hU hZ⟩⟩ rfl rfl hl.1 rfl (lv_room (Nat.le_of_ble_eq_true rfl)) dX4_rankOf_2 ⟨Nat.le_of_ble_eq_true rfl, Nat.le_of_ble_eq_true rfl⟩) hS (fun _ h1 h2 => absurd h2 (Nat.not_le.mpr h1)) (fun _ h => h) (fun _ h1 h2 => absurd h2 (Nat.not_le.mpr h1)) (fun E ce q9 u t H1 locs1 ht hvm hp hB hz hk hS1 hce hcv hcl => vx_out (fun x hx => (hnt x hx).elim) hlocks hce hcv hcl (fun t9 ht9 hv9 => ⟨(), trivial, hB, hS1.F ht9⟩) hS1.2.2 (Nat.le_refl _) (Nat.le_refl _)) (fun u t H1 locs1 ht hvm hw => hw.elim)
set_option maxHeartbeats 4000000 in
set_option maxRecDepth 100000 in
theorem x_X4_guestsOf (l : Launch) (dC : Nat → ClassId) (dI : Nat → Nat → Nat) (cA : ClassId) (xo : Nat) (pk_ : Nat) (pk : Nat) (h : Nat) (a0 : Nat) (a1 : Nat) (a2 : Nat) (a3 : Nat) (a4 : Nat) (a5 : Nat) (kk : Nat) (c0 : Nat) (c1 : Nat) (c2 : Nat) (c3 : Nat) (z : ZS) (me : Nat → Int32) (rk : Nat → Int32) (x : Int32) (hlt : l.stackTraces = false) (sz : Nat) (hz : zok z) (hdz : zdy z ≤ 40000) (hx9 : zhas x (zn z) = 0) : vx_Met l yX4_guestsOf wsX4_guestsOf ({ frames := 7, cells := 1, slots := 6, locals := 111 } : Room) (va_Pc [.ref xo, .int x] (fun U => U.heap.size = sz ∧ va_P (dC, dI) vwCl [(xo, .inr (3, [.ref pk, .ref pk_])), (pk, .inr (0, [.ref h, .ref kk, .int (nI (zdy z)), .int (nI (zgu z)), .int (zpu z)])), (h, .inr (1, [.ref a0, .ref a1, .ref a2, .ref a3, .ref a4, .ref a5, .int (nI (zn z))])), (a0, .inl (cA, 10, .inl (fun j9 => nI ((zwa z) j9)))), (a1, .inl (cA, 10, .inl (fun j9 => nI ((ziv z) j9)))), (a2, .inl (cA, 10, .inl (fun j9 => nI ((zgh z) j9)))), (a3, .inl (cA, 10, .inl (fun j9 => nI ((zpr z) j9)))), (a4, .inl (cA, 10, .inl me)), (a5, .inl (cA, 10, .inl rk)), (kk, .inr (2, [.ref c0, .ref c1, .ref c2, .ref c3, .int (nI (ztn z))])), (c0, .inl (cA, 30, .inl (fun j9 => nI ((ztr z) j9)))), (c1, .inl (cA, 30, .inl (fun j9 => nI ((ztd z) j9)))), (c2, .inl (cA, 30, .inl (fun j9 => nI ((ztp z) j9)))), (c3, .inl (cA, 30, .inl (fun j9 => nI ((ztf z) j9))))] U.heap ∧ va_K (dC, dI) vwCl [(cA, .int)] U ∧ zVm U ∧ zSt (fun q => sz ≤ q) U)) (va_Qi (fun (_ : Int32) (_ : Unit) => False) (fun _ _ => True) (fun q => sz ≤ q)) (vx_X (fun _ : Unit => True) (fun E _ _ => E = "java/lang/IndexOutOfBoundsException") (fun q => sz ≤ q)) 1 6 (fun q => sz ≤ q) := by
  refine vx_ofW (cc := cX4_guestsOf) (maxL := 2) (ret := (some .int)) (by decide) rfl ?_
  intro p e s m args below meth c s₁ B hml hnt hv
  obtain ⟨hargs, hsz, hP, hK, hV, hZ⟩ := hv
  have hx := B.exec
  have hb := B.bytes
  have hr := B.returns
  have hts := atoms_spec (ws := wsX4_guestsOf) B.pre
  have hown : s.vm.findClass RX4 = some m.cls := findClass_of_methodNamed B.named
  have hlocks := B.notSynchronized
  subst hsz
  have hS : va_S (fun q => s.heap.size ≤ q) s.heap s.heap [] := va_S.rf
  have hl := lv_entry ([.ref xo, .int x]) (n := 2) (Nat.le_of_ble_eq_true rfl)
  rw [hargs, lg_entry_eq, ← hargs]
  generalize (lg_sl ([.ref xo, .int x]) ++ List.replicate (2 - (lg_sl ([.ref xo, .int x])).length) Slot.unset).toArray = ls at hl ⊢
  have hl : lv_has ls 2 [(0, .ref xo), (1, .int x)] := hl
  obtain ⟨o1, o2, o3, o4, o5, o6, o7, o8, o9, o10, o11⟩ := id hz
  refine lv_aload_n hx hb dX4_guestsOf_0 rfl (lv_at hl 0 rfl) ?_
  refine lv_iload_n hx hb dX4_guestsOf_1 rfl (lv_at hl 1 rfl) ?_
  have hPc := hP.sub (ws' := [(xo, .inr (3, [.ref pk, .ref pk_])), (pk, .inr (0, [.ref h, .ref kk, .int (nI (zdy z)), .int (nI (zgu z)), .int (zpu z)])), (h, .inr (1, [.ref a0, .ref a1, .ref a2, .ref a3, .ref a4, .ref a5, .int (nI (zn z))])), (a0, .inl (cA, 10, .inl (fun j9 => nI ((zwa z) j9)))), (a1, .inl (cA, 10, .inl (fun j9 => nI ((ziv z) j9)))), (a2, .inl (cA, 10, .inl (fun j9 => nI ((zgh z) j9)))), (a3, .inl (cA, 10, .inl (fun j9 => nI ((zpr z) j9)))), (a4, .inl (cA, 10, .inl me)), (a5, .inl (cA, 10, .inl rk)), (kk, .inr (2, [.ref c0, .ref c1, .ref c2, .ref c3, .int (nI (ztn z))])), (c0, .inl (cA, 30, .inl (fun j9 => nI ((ztr z) j9)))), (c1, .inl (cA, 30, .inl (fun j9 => nI ((ztd z) j9)))), (c2, .inl (cA, 30, .inl (fun j9 => nI ((ztp z) j9)))), (c3, .inl (cA, 30, .inl (fun j9 => nI ((ztf z) j9))))]) [0, 1, 2, 3, 4, 5, 6, 7, 8, 9, 10, 11, 12, 13] rfl
  exact vx_callv (vx_runV (As := [.int x]) (rest := []) ⟨hx, hb, hml, hown, hts⟩ (x_X4_requireRuin l dC dI cA xo pk_ pk h a0 a1 a2 a3 a4 a5 kk c0 c1 c2 c3 z me rk x hlt s.heap.size (by first | assumption | omega) (by first | assumption | omega) (by first | assumption | omega)) (cwV 1 hts gX4_guestsOf_X4_requireRuin rfl rfl rfl (by decide +kernel) ⟨Nat.le_of_ble_eq_true rfl, Nat.le_of_ble_eq_true rfl⟩) ⟨fun a U g mk q => by obtain ⟨q0, q1, qP, qK, qV, qZ⟩ := q; exact ⟨q0, q1, qP, va_K.moved (u := U) (U := U.calling g mk a) (Vm.Alike.refl U.vm) qK, zVm.same (u := U) (U := U.calling g mk a) rfl qV, zSt.same (u := U) (U := U.calling g mk a) rfl rfl qZ⟩, va_recv hK hP (ci := 3) (q0 := 0) rfl rfl, fun U hU hW => ⟨rfl, by rw [hU], by rw [hU]; exact hPc, va_K.moved hW.alike hK, zVm.moved hW hV, zSt.moved hW hU hZ⟩⟩ rfl rfl hl.1 rfl (lv_room (Nat.le_of_ble_eq_true rfl)) dX4_guestsOf_2 ⟨Nat.le_of_ble_eq_true rfl, Nat.le_of_ble_eq_true rfl⟩) hS (fun _ h1 h2 => absurd h2 (Nat.not_le.mpr h1)) (fun _ h => h) (fun _ h1 h2 => absurd h2 (Nat.not_le.mpr h1)) (fun E ce q9 u t H1 locs1 ht hvm hp hB hz hk hS1 hce hcv hcl => vx_out (fun x hx => (hnt x hx).elim) hlocks hce hcv hcl (fun t9 ht9 hv9 => ⟨(), trivial, hB, hS1.F ht9⟩) hS1.2.2 (Nat.le_refl _) (Nat.le_refl _)) (fun u t H1 locs1 ht hvm hw => hw.elim)
set_option maxHeartbeats 4000000 in
set_option maxRecDepth 100000 in
theorem x_X4_daysUntilCollapse (l : Launch) (dC : Nat → ClassId) (dI : Nat → Nat → Nat) (cA : ClassId) (xo : Nat) (pk_ : Nat) (pk : Nat) (h : Nat) (a0 : Nat) (a1 : Nat) (a2 : Nat) (a3 : Nat) (a4 : Nat) (a5 : Nat) (kk : Nat) (c0 : Nat) (c1 : Nat) (c2 : Nat) (c3 : Nat) (z : ZS) (me : Nat → Int32) (rk : Nat → Int32) (x : Int32) (hlt : l.stackTraces = false) (sz : Nat) (hz : zok z) (hdz : zdy z ≤ 40000) (hx9 : zhas x (zn z) = 0) : vx_Met l yX4_daysUntilCollapse wsX4_daysUntilCollapse ({ frames := 7, cells := 1, slots := 6, locals := 111 } : Room) (va_Pc [.ref xo, .int x] (fun U => U.heap.size = sz ∧ va_P (dC, dI) vwCl [(xo, .inr (3, [.ref pk, .ref pk_])), (pk, .inr (0, [.ref h, .ref kk, .int (nI (zdy z)), .int (nI (zgu z)), .int (zpu z)])), (h, .inr (1, [.ref a0, .ref a1, .ref a2, .ref a3, .ref a4, .ref a5, .int (nI (zn z))])), (a0, .inl (cA, 10, .inl (fun j9 => nI ((zwa z) j9)))), (a1, .inl (cA, 10, .inl (fun j9 => nI ((ziv z) j9)))), (a2, .inl (cA, 10, .inl (fun j9 => nI ((zgh z) j9)))), (a3, .inl (cA, 10, .inl (fun j9 => nI ((zpr z) j9)))), (a4, .inl (cA, 10, .inl me)), (a5, .inl (cA, 10, .inl rk)), (kk, .inr (2, [.ref c0, .ref c1, .ref c2, .ref c3, .int (nI (ztn z))])), (c0, .inl (cA, 30, .inl (fun j9 => nI ((ztr z) j9)))), (c1, .inl (cA, 30, .inl (fun j9 => nI ((ztd z) j9)))), (c2, .inl (cA, 30, .inl (fun j9 => nI ((ztp z) j9)))), (c3, .inl (cA, 30, .inl (fun j9 => nI ((ztf z) j9))))] U.heap ∧ va_K (dC, dI) vwCl [(cA, .int)] U ∧ zVm U ∧ zSt (fun q => sz ≤ q) U)) (va_Qi (fun (_ : Int32) (_ : Unit) => False) (fun _ _ => True) (fun q => sz ≤ q)) (vx_X (fun _ : Unit => True) (fun E _ _ => E = "java/lang/IndexOutOfBoundsException") (fun q => sz ≤ q)) 1 6 (fun q => sz ≤ q) := by
  refine vx_ofW (cc := cX4_daysUntilCollapse) (maxL := 3) (ret := (some .int)) (by decide) rfl ?_
  intro p e s m args below meth c s₁ B hml hnt hv
  obtain ⟨hargs, hsz, hP, hK, hV, hZ⟩ := hv
  have hx := B.exec
  have hb := B.bytes
  have hr := B.returns
  have hts := atoms_spec (ws := wsX4_daysUntilCollapse) B.pre
  have hown : s.vm.findClass RX4 = some m.cls := findClass_of_methodNamed B.named
  have hlocks := B.notSynchronized
  subst hsz
  have hS : va_S (fun q => s.heap.size ≤ q) s.heap s.heap [] := va_S.rf
  have hl := lv_entry ([.ref xo, .int x]) (n := 3) (Nat.le_of_ble_eq_true rfl)
  rw [hargs, lg_entry_eq, ← hargs]
  generalize (lg_sl ([.ref xo, .int x]) ++ List.replicate (3 - (lg_sl ([.ref xo, .int x])).length) Slot.unset).toArray = ls at hl ⊢
  have hl : lv_has ls 3 [(0, .ref xo), (1, .int x)] := hl
  obtain ⟨o1, o2, o3, o4, o5, o6, o7, o8, o9, o10, o11⟩ := id hz
  refine lv_aload_n hx hb dX4_daysUntilCollapse_0 rfl (lv_at hl 0 rfl) ?_
  refine lv_iload_n hx hb dX4_daysUntilCollapse_1 rfl (lv_at hl 1 rfl) ?_
  have hPc := hP.sub (ws' := [(xo, .inr (3, [.ref pk, .ref pk_])), (pk, .inr (0, [.ref h, .ref kk, .int (nI (zdy z)), .int (nI (zgu z)), .int (zpu z)])), (h, .inr (1, [.ref a0, .ref a1, .ref a2, .ref a3, .ref a4, .ref a5, .int (nI (zn z))])), (a0, .inl (cA, 10, .inl (fun j9 => nI ((zwa z) j9)))), (a1, .inl (cA, 10, .inl (fun j9 => nI ((ziv z) j9)))), (a2, .inl (cA, 10, .inl (fun j9 => nI ((zgh z) j9)))), (a3, .inl (cA, 10, .inl (fun j9 => nI ((zpr z) j9)))), (a4, .inl (cA, 10, .inl me)), (a5, .inl (cA, 10, .inl rk)), (kk, .inr (2, [.ref c0, .ref c1, .ref c2, .ref c3, .int (nI (ztn z))])), (c0, .inl (cA, 30, .inl (fun j9 => nI ((ztr z) j9)))), (c1, .inl (cA, 30, .inl (fun j9 => nI ((ztd z) j9)))), (c2, .inl (cA, 30, .inl (fun j9 => nI ((ztp z) j9)))), (c3, .inl (cA, 30, .inl (fun j9 => nI ((ztf z) j9))))]) [0, 1, 2, 3, 4, 5, 6, 7, 8, 9, 10, 11, 12, 13] rfl
  exact vx_callv (vx_runV (As := [.int x]) (rest := []) ⟨hx, hb, hml, hown, hts⟩ (x_X4_requireRuin l dC dI cA xo pk_ pk h a0 a1 a2 a3 a4 a5 kk c0 c1 c2 c3 z me rk x hlt s.heap.size (by first | assumption | omega) (by first | assumption | omega) (by first | assumption | omega)) (cwV 1 hts gX4_daysUntilCollapse_X4_requireRuin rfl rfl rfl (by decide +kernel) ⟨Nat.le_of_ble_eq_true rfl, Nat.le_of_ble_eq_true rfl⟩) ⟨fun a U g mk q => by obtain ⟨q0, q1, qP, qK, qV, qZ⟩ := q; exact ⟨q0, q1, qP, va_K.moved (u := U) (U := U.calling g mk a) (Vm.Alike.refl U.vm) qK, zVm.same (u := U) (U := U.calling g mk a) rfl qV, zSt.same (u := U) (U := U.calling g mk a) rfl rfl qZ⟩, va_recv hK hP (ci := 3) (q0 := 0) rfl rfl, fun U hU hW => ⟨rfl, by rw [hU], by rw [hU]; exact hPc, va_K.moved hW.alike hK, zVm.moved hW hV, zSt.moved hW hU hZ⟩⟩ rfl rfl hl.1 rfl (lv_room (Nat.le_of_ble_eq_true rfl)) dX4_daysUntilCollapse_2 ⟨Nat.le_of_ble_eq_true rfl, Nat.le_of_ble_eq_true rfl⟩) hS (fun _ h1 h2 => absurd h2 (Nat.not_le.mpr h1)) (fun _ h => h) (fun _ h1 h2 => absurd h2 (Nat.not_le.mpr h1)) (fun E ce q9 u t H1 locs1 ht hvm hp hB hz hk hS1 hce hcv hcl => vx_out (fun x hx => (hnt x hx).elim) hlocks hce hcv hcl (fun t9 ht9 hv9 => ⟨(), trivial, hB, hS1.F ht9⟩) hS1.2.2 (Nat.le_refl _) (Nat.le_refl _)) (fun u t H1 locs1 ht hvm hw => hw.elim)
set_option maxHeartbeats 4000000 in
set_option maxRecDepth 100000 in
theorem x_X4_daysUntilFirst (l : Launch) (dC : Nat → ClassId) (dI : Nat → Nat → Nat) (cA : ClassId) (xo : Nat) (pk_ : Nat) (pk : Nat) (h : Nat) (a0 : Nat) (a1 : Nat) (a2 : Nat) (a3 : Nat) (a4 : Nat) (a5 : Nat) (kk : Nat) (c0 : Nat) (c1 : Nat) (c2 : Nat) (c3 : Nat) (z : ZS) (me : Nat → Int32) (rk : Nat → Int32) (x : Int32) (hlt : l.stackTraces = false) (sz : Nat) (hz : zok z) (hdz : zdy z ≤ 40000) (hx9 : zhas x (zn z) = 0) : vx_Met l yX4_daysUntilFirst wsX4_daysUntilFirst ({ frames := 7, cells := 1, slots := 6, locals := 111 } : Room) (va_Pc [.ref xo, .int x] (fun U => U.heap.size = sz ∧ va_P (dC, dI) vwCl [(xo, .inr (3, [.ref pk, .ref pk_])), (pk, .inr (0, [.ref h, .ref kk, .int (nI (zdy z)), .int (nI (zgu z)), .int (zpu z)])), (h, .inr (1, [.ref a0, .ref a1, .ref a2, .ref a3, .ref a4, .ref a5, .int (nI (zn z))])), (a0, .inl (cA, 10, .inl (fun j9 => nI ((zwa z) j9)))), (a1, .inl (cA, 10, .inl (fun j9 => nI ((ziv z) j9)))), (a2, .inl (cA, 10, .inl (fun j9 => nI ((zgh z) j9)))), (a3, .inl (cA, 10, .inl (fun j9 => nI ((zpr z) j9)))), (a4, .inl (cA, 10, .inl me)), (a5, .inl (cA, 10, .inl rk)), (kk, .inr (2, [.ref c0, .ref c1, .ref c2, .ref c3, .int (nI (ztn z))])), (c0, .inl (cA, 30, .inl (fun j9 => nI ((ztr z) j9)))), (c1, .inl (cA, 30, .inl (fun j9 => nI ((ztd z) j9)))), (c2, .inl (cA, 30, .inl (fun j9 => nI ((ztp z) j9)))), (c3, .inl (cA, 30, .inl (fun j9 => nI ((ztf z) j9))))] U.heap ∧ va_K (dC, dI) vwCl [(cA, .int)] U ∧ zVm U ∧ zSt (fun q => sz ≤ q) U)) (va_Qi (fun (_ : Int32) (_ : Unit) => False) (fun _ _ => True) (fun q => sz ≤ q)) (vx_X (fun _ : Unit => True) (fun E _ _ => E = "java/lang/IndexOutOfBoundsException") (fun q => sz ≤ q)) 1 6 (fun q => sz ≤ q) := by
  refine vx_ofW (cc := cX4_daysUntilFirst) (maxL := 4) (ret := (some .int)) (by decide) rfl ?_
  intro p e s m args below meth c s₁ B hml hnt hv
  obtain ⟨hargs, hsz, hP, hK, hV, hZ⟩ := hv
  have hx := B.exec
  have hb := B.bytes
  have hr := B.returns
  have hts := atoms_spec (ws := wsX4_daysUntilFirst) B.pre
  have hown : s.vm.findClass RX4 = some m.cls := findClass_of_methodNamed B.named
  have hlocks := B.notSynchronized
  subst hsz
  have hS : va_S (fun q => s.heap.size ≤ q) s.heap s.heap [] := va_S.rf
  have hl := lv_entry ([.ref xo, .int x]) (n := 4) (Nat.le_of_ble_eq_true rfl)
  rw [hargs, lg_entry_eq, ← hargs]
  generalize (lg_sl ([.ref xo, .int x]) ++ List.replicate (4 - (lg_sl ([.ref xo, .int x])).length) Slot.unset).toArray = ls at hl ⊢
  have hl : lv_has ls 4 [(0, .ref xo), (1, .int x)] := hl
  obtain ⟨o1, o2, o3, o4, o5, o6, o7, o8, o9, o10, o11⟩ := id hz
  refine lv_aload_n hx hb dX4_daysUntilFirst_0 rfl (lv_at hl 0 rfl) ?_
  refine lv_iload_n hx hb dX4_daysUntilFirst_1 rfl (lv_at hl 1 rfl) ?_
  have hPc := hP.sub (ws' := [(xo, .inr (3, [.ref pk, .ref pk_])), (pk, .inr (0, [.ref h, .ref kk, .int (nI (zdy z)), .int (nI (zgu z)), .int (zpu z)])), (h, .inr (1, [.ref a0, .ref a1, .ref a2, .ref a3, .ref a4, .ref a5, .int (nI (zn z))])), (a0, .inl (cA, 10, .inl (fun j9 => nI ((zwa z) j9)))), (a1, .inl (cA, 10, .inl (fun j9 => nI ((ziv z) j9)))), (a2, .inl (cA, 10, .inl (fun j9 => nI ((zgh z) j9)))), (a3, .inl (cA, 10, .inl (fun j9 => nI ((zpr z) j9)))), (a4, .inl (cA, 10, .inl me)), (a5, .inl (cA, 10, .inl rk)), (kk, .inr (2, [.ref c0, .ref c1, .ref c2, .ref c3, .int (nI (ztn z))])), (c0, .inl (cA, 30, .inl (fun j9 => nI ((ztr z) j9)))), (c1, .inl (cA, 30, .inl (fun j9 => nI ((ztd z) j9)))), (c2, .inl (cA, 30, .inl (fun j9 => nI ((ztp z) j9)))), (c3, .inl (cA, 30, .inl (fun j9 => nI ((ztf z) j9))))]) [0, 1, 2, 3, 4, 5, 6, 7, 8, 9, 10, 11, 12, 13] rfl
  exact vx_callv (vx_runV (As := [.int x]) (rest := []) ⟨hx, hb, hml, hown, hts⟩ (x_X4_requireRuin l dC dI cA xo pk_ pk h a0 a1 a2 a3 a4 a5 kk c0 c1 c2 c3 z me rk x hlt s.heap.size (by first | assumption | omega) (by first | assumption | omega) (by first | assumption | omega)) (cwV 1 hts gX4_daysUntilFirst_X4_requireRuin rfl rfl rfl (by decide +kernel) ⟨Nat.le_of_ble_eq_true rfl, Nat.le_of_ble_eq_true rfl⟩) ⟨fun a U g mk q => by obtain ⟨q0, q1, qP, qK, qV, qZ⟩ := q; exact ⟨q0, q1, qP, va_K.moved (u := U) (U := U.calling g mk a) (Vm.Alike.refl U.vm) qK, zVm.same (u := U) (U := U.calling g mk a) rfl qV, zSt.same (u := U) (U := U.calling g mk a) rfl rfl qZ⟩, va_recv hK hP (ci := 3) (q0 := 0) rfl rfl, fun U hU hW => ⟨rfl, by rw [hU], by rw [hU]; exact hPc, va_K.moved hW.alike hK, zVm.moved hW hV, zSt.moved hW hU hZ⟩⟩ rfl rfl hl.1 rfl (lv_room (Nat.le_of_ble_eq_true rfl)) dX4_daysUntilFirst_2 ⟨Nat.le_of_ble_eq_true rfl, Nat.le_of_ble_eq_true rfl⟩) hS (fun _ h1 h2 => absurd h2 (Nat.not_le.mpr h1)) (fun _ h => h) (fun _ h1 h2 => absurd h2 (Nat.not_le.mpr h1)) (fun E ce q9 u t H1 locs1 ht hvm hp hB hz hk hS1 hce hcv hcl => vx_out (fun x hx => (hnt x hx).elim) hlocks hce hcv hcl (fun t9 ht9 hv9 => ⟨(), trivial, hB, hS1.F ht9⟩) hS1.2.2 (Nat.le_refl _) (Nat.le_refl _)) (fun u t H1 locs1 ht hvm hw => hw.elim)
set_option maxHeartbeats 4000000 in
set_option maxRecDepth 100000 in
theorem x_X4_bestCut (l : Launch) (dC : Nat → ClassId) (dI : Nat → Nat → Nat) (cA : ClassId) (xo : Nat) (pk_ : Nat) (pk : Nat) (h : Nat) (a0 : Nat) (a1 : Nat) (a2 : Nat) (a3 : Nat) (a4 : Nat) (a5 : Nat) (kk : Nat) (c0 : Nat) (c1 : Nat) (c2 : Nat) (c3 : Nat) (z : ZS) (me : Nat → Int32) (rk : Nat → Int32) (x : Int32) (hlt : l.stackTraces = false) (sz : Nat) (hz : zok z) (hdz : zdy z ≤ 40000) (hx9 : zhas x (zn z) = 0) : vx_Met l yX4_bestCut wsX4_bestCut ({ frames := 7, cells := 1, slots := 6, locals := 111 } : Room) (va_Pc [.ref xo, .int x] (fun U => U.heap.size = sz ∧ va_P (dC, dI) vwCl [(xo, .inr (3, [.ref pk, .ref pk_])), (pk, .inr (0, [.ref h, .ref kk, .int (nI (zdy z)), .int (nI (zgu z)), .int (zpu z)])), (h, .inr (1, [.ref a0, .ref a1, .ref a2, .ref a3, .ref a4, .ref a5, .int (nI (zn z))])), (a0, .inl (cA, 10, .inl (fun j9 => nI ((zwa z) j9)))), (a1, .inl (cA, 10, .inl (fun j9 => nI ((ziv z) j9)))), (a2, .inl (cA, 10, .inl (fun j9 => nI ((zgh z) j9)))), (a3, .inl (cA, 10, .inl (fun j9 => nI ((zpr z) j9)))), (a4, .inl (cA, 10, .inl me)), (a5, .inl (cA, 10, .inl rk)), (kk, .inr (2, [.ref c0, .ref c1, .ref c2, .ref c3, .int (nI (ztn z))])), (c0, .inl (cA, 30, .inl (fun j9 => nI ((ztr z) j9)))), (c1, .inl (cA, 30, .inl (fun j9 => nI ((ztd z) j9)))), (c2, .inl (cA, 30, .inl (fun j9 => nI ((ztp z) j9)))), (c3, .inl (cA, 30, .inl (fun j9 => nI ((ztf z) j9))))] U.heap ∧ va_K (dC, dI) vwCl [(cA, .int)] U ∧ zVm U ∧ zSt (fun q => sz ≤ q) U)) (va_Qi (fun (_ : Int32) (_ : Unit) => False) (fun _ _ => True) (fun q => sz ≤ q)) (vx_X (fun _ : Unit => True) (fun E _ _ => E = "java/lang/IndexOutOfBoundsException") (fun q => sz ≤ q)) 1 6 (fun q => sz ≤ q) := by
  refine vx_ofW (cc := cX4_bestCut) (maxL := 9) (ret := (some .int)) (by decide) rfl ?_
  intro p e s m args below meth c s₁ B hml hnt hv
  obtain ⟨hargs, hsz, hP, hK, hV, hZ⟩ := hv
  have hx := B.exec
  have hb := B.bytes
  have hr := B.returns
  have hts := atoms_spec (ws := wsX4_bestCut) B.pre
  have hown : s.vm.findClass RX4 = some m.cls := findClass_of_methodNamed B.named
  have hlocks := B.notSynchronized
  subst hsz
  have hS : va_S (fun q => s.heap.size ≤ q) s.heap s.heap [] := va_S.rf
  have hl := lv_entry ([.ref xo, .int x]) (n := 9) (Nat.le_of_ble_eq_true rfl)
  rw [hargs, lg_entry_eq, ← hargs]
  generalize (lg_sl ([.ref xo, .int x]) ++ List.replicate (9 - (lg_sl ([.ref xo, .int x])).length) Slot.unset).toArray = ls at hl ⊢
  have hl : lv_has ls 9 [(0, .ref xo), (1, .int x)] := hl
  obtain ⟨o1, o2, o3, o4, o5, o6, o7, o8, o9, o10, o11⟩ := id hz
  refine lv_aload_n hx hb dX4_bestCut_0 rfl (lv_at hl 0 rfl) ?_
  refine lv_iload_n hx hb dX4_bestCut_1 rfl (lv_at hl 1 rfl) ?_
  have hPc := hP.sub (ws' := [(xo, .inr (3, [.ref pk, .ref pk_])), (pk, .inr (0, [.ref h, .ref kk, .int (nI (zdy z)), .int (nI (zgu z)), .int (zpu z)])), (h, .inr (1, [.ref a0, .ref a1, .ref a2, .ref a3, .ref a4, .ref a5, .int (nI (zn z))])), (a0, .inl (cA, 10, .inl (fun j9 => nI ((zwa z) j9)))), (a1, .inl (cA, 10, .inl (fun j9 => nI ((ziv z) j9)))), (a2, .inl (cA, 10, .inl (fun j9 => nI ((zgh z) j9)))), (a3, .inl (cA, 10, .inl (fun j9 => nI ((zpr z) j9)))), (a4, .inl (cA, 10, .inl me)), (a5, .inl (cA, 10, .inl rk)), (kk, .inr (2, [.ref c0, .ref c1, .ref c2, .ref c3, .int (nI (ztn z))])), (c0, .inl (cA, 30, .inl (fun j9 => nI ((ztr z) j9)))), (c1, .inl (cA, 30, .inl (fun j9 => nI ((ztd z) j9)))), (c2, .inl (cA, 30, .inl (fun j9 => nI ((ztp z) j9)))), (c3, .inl (cA, 30, .inl (fun j9 => nI ((ztf z) j9))))]) [0, 1, 2, 3, 4, 5, 6, 7, 8, 9, 10, 11, 12, 13] rfl
  exact vx_callv (vx_runV (As := [.int x]) (rest := []) ⟨hx, hb, hml, hown, hts⟩ (x_X4_requireRuin l dC dI cA xo pk_ pk h a0 a1 a2 a3 a4 a5 kk c0 c1 c2 c3 z me rk x hlt s.heap.size (by first | assumption | omega) (by first | assumption | omega) (by first | assumption | omega)) (cwV 1 hts gX4_bestCut_X4_requireRuin rfl rfl rfl (by decide +kernel) ⟨Nat.le_of_ble_eq_true rfl, Nat.le_of_ble_eq_true rfl⟩) ⟨fun a U g mk q => by obtain ⟨q0, q1, qP, qK, qV, qZ⟩ := q; exact ⟨q0, q1, qP, va_K.moved (u := U) (U := U.calling g mk a) (Vm.Alike.refl U.vm) qK, zVm.same (u := U) (U := U.calling g mk a) rfl qV, zSt.same (u := U) (U := U.calling g mk a) rfl rfl qZ⟩, va_recv hK hP (ci := 3) (q0 := 0) rfl rfl, fun U hU hW => ⟨rfl, by rw [hU], by rw [hU]; exact hPc, va_K.moved hW.alike hK, zVm.moved hW hV, zSt.moved hW hU hZ⟩⟩ rfl rfl hl.1 rfl (lv_room (Nat.le_of_ble_eq_true rfl)) dX4_bestCut_2 ⟨Nat.le_of_ble_eq_true rfl, Nat.le_of_ble_eq_true rfl⟩) hS (fun _ h1 h2 => absurd h2 (Nat.not_le.mpr h1)) (fun _ h => h) (fun _ h1 h2 => absurd h2 (Nat.not_le.mpr h1)) (fun E ce q9 u t H1 locs1 ht hvm hp hB hz hk hS1 hce hcv hcl => vx_out (fun x hx => (hnt x hx).elim) hlocks hce hcv hcl (fun t9 ht9 hv9 => ⟨(), trivial, hB, hS1.F ht9⟩) hS1.2.2 (Nat.le_refl _) (Nat.le_refl _)) (fun u t H1 locs1 ht hvm hw => hw.elim)
set_option maxHeartbeats 4000000 in
set_option maxRecDepth 100000 in
theorem x_X4_prop1 (l : Launch) (dC : Nat → ClassId) (dI : Nat → Nat → Nat) (cA : ClassId) (xo : Nat) (pk_ : Nat) (pk : Nat) (h : Nat) (a0 : Nat) (a1 : Nat) (a2 : Nat) (a3 : Nat) (a4 : Nat) (a5 : Nat) (kk : Nat) (c0 : Nat) (c1 : Nat) (c2 : Nat) (c3 : Nat) (z : ZS) (me : Nat → Int32) (rk : Nat → Int32) (x : Int32) (hlt : l.stackTraces = false) (sz : Nat) (hz : zok z) (hdz : zdy z ≤ 40000) (hx9 : zhas x (zn z) = 0) : vx_Met l yX4_prop wsX4_prop ({ frames := 7, cells := 1, slots := 6, locals := 111 } : Room) (va_Pc [.ref xo, .int x] (fun U => U.heap.size = sz ∧ va_P (dC, dI) vwCl [(xo, .inr (3, [.ref pk, .ref pk_])), (pk, .inr (0, [.ref h, .ref kk, .int (nI (zdy z)), .int (nI (zgu z)), .int (zpu z)])), (h, .inr (1, [.ref a0, .ref a1, .ref a2, .ref a3, .ref a4, .ref a5, .int (nI (zn z))])), (a0, .inl (cA, 10, .inl (fun j9 => nI ((zwa z) j9)))), (a1, .inl (cA, 10, .inl (fun j9 => nI ((ziv z) j9)))), (a2, .inl (cA, 10, .inl (fun j9 => nI ((zgh z) j9)))), (a3, .inl (cA, 10, .inl (fun j9 => nI ((zpr z) j9)))), (a4, .inl (cA, 10, .inl me)), (a5, .inl (cA, 10, .inl rk)), (kk, .inr (2, [.ref c0, .ref c1, .ref c2, .ref c3, .int (nI (ztn z))])), (c0, .inl (cA, 30, .inl (fun j9 => nI ((ztr z) j9)))), (c1, .inl (cA, 30, .inl (fun j9 => nI ((ztd z) j9)))), (c2, .inl (cA, 30, .inl (fun j9 => nI ((ztp z) j9)))), (c3, .inl (cA, 30, .inl (fun j9 => nI ((ztf z) j9))))] U.heap ∧ va_K (dC, dI) vwCl [(cA, .int)] U ∧ zVm U ∧ zSt (fun q => sz ≤ q) U)) (va_Qi (fun (_ : Int32) (_ : Unit) => False) (fun _ _ => True) (fun q => sz ≤ q)) (vx_X (fun _ : Unit => True) (fun E _ _ => E = "java/lang/IndexOutOfBoundsException") (fun q => sz ≤ q)) 1 6 (fun q => sz ≤ q) := by
  refine vx_ofW (cc := cX4_prop) (maxL := 2) (ret := (some .int)) (by decide) rfl ?_
  intro p e s m args below meth c s₁ B hml hnt hv
  obtain ⟨hargs, hsz, hP, hK, hV, hZ⟩ := hv
  have hx := B.exec
  have hb := B.bytes
  have hr := B.returns
  have hts := atoms_spec (ws := wsX4_prop) B.pre
  have hown : s.vm.findClass RX4 = some m.cls := findClass_of_methodNamed B.named
  have hlocks := B.notSynchronized
  subst hsz
  have hS : va_S (fun q => s.heap.size ≤ q) s.heap s.heap [] := va_S.rf
  have hl := lv_entry ([.ref xo, .int x]) (n := 2) (Nat.le_of_ble_eq_true rfl)
  rw [hargs, lg_entry_eq, ← hargs]
  generalize (lg_sl ([.ref xo, .int x]) ++ List.replicate (2 - (lg_sl ([.ref xo, .int x])).length) Slot.unset).toArray = ls at hl ⊢
  have hl : lv_has ls 2 [(0, .ref xo), (1, .int x)] := hl
  obtain ⟨o1, o2, o3, o4, o5, o6, o7, o8, o9, o10, o11⟩ := id hz
  refine lv_aload_n hx hb dX4_prop_0 rfl (lv_at hl 0 rfl) ?_
  refine lv_iload_n hx hb dX4_prop_1 rfl (lv_at hl 1 rfl) ?_
  have hPc := hP.sub (ws' := [(xo, .inr (3, [.ref pk, .ref pk_])), (pk, .inr (0, [.ref h, .ref kk, .int (nI (zdy z)), .int (nI (zgu z)), .int (zpu z)])), (h, .inr (1, [.ref a0, .ref a1, .ref a2, .ref a3, .ref a4, .ref a5, .int (nI (zn z))])), (a0, .inl (cA, 10, .inl (fun j9 => nI ((zwa z) j9)))), (a1, .inl (cA, 10, .inl (fun j9 => nI ((ziv z) j9)))), (a2, .inl (cA, 10, .inl (fun j9 => nI ((zgh z) j9)))), (a3, .inl (cA, 10, .inl (fun j9 => nI ((zpr z) j9)))), (a4, .inl (cA, 10, .inl me)), (a5, .inl (cA, 10, .inl rk)), (kk, .inr (2, [.ref c0, .ref c1, .ref c2, .ref c3, .int (nI (ztn z))])), (c0, .inl (cA, 30, .inl (fun j9 => nI ((ztr z) j9)))), (c1, .inl (cA, 30, .inl (fun j9 => nI ((ztd z) j9)))), (c2, .inl (cA, 30, .inl (fun j9 => nI ((ztp z) j9)))), (c3, .inl (cA, 30, .inl (fun j9 => nI ((ztf z) j9))))]) [0, 1, 2, 3, 4, 5, 6, 7, 8, 9, 10, 11, 12, 13] rfl
  exact vx_callv (vx_runV (As := [.int x]) (rest := []) ⟨hx, hb, hml, hown, hts⟩ (x_X4_requireRuin l dC dI cA xo pk_ pk h a0 a1 a2 a3 a4 a5 kk c0 c1 c2 c3 z me rk x hlt s.heap.size (by first | assumption | omega) (by first | assumption | omega) (by first | assumption | omega)) (cwV 1 hts gX4_prop_X4_requireRuin rfl rfl rfl (by decide +kernel) ⟨Nat.le_of_ble_eq_true rfl, Nat.le_of_ble_eq_true rfl⟩) ⟨fun a U g mk q => by obtain ⟨q0, q1, qP, qK, qV, qZ⟩ := q; exact ⟨q0, q1, qP, va_K.moved (u := U) (U := U.calling g mk a) (Vm.Alike.refl U.vm) qK, zVm.same (u := U) (U := U.calling g mk a) rfl qV, zSt.same (u := U) (U := U.calling g mk a) rfl rfl qZ⟩, va_recv hK hP (ci := 3) (q0 := 0) rfl rfl, fun U hU hW => ⟨rfl, by rw [hU], by rw [hU]; exact hPc, va_K.moved hW.alike hK, zVm.moved hW hV, zSt.moved hW hU hZ⟩⟩ rfl rfl hl.1 rfl (lv_room (Nat.le_of_ble_eq_true rfl)) dX4_prop_2 ⟨Nat.le_of_ble_eq_true rfl, Nat.le_of_ble_eq_true rfl⟩) hS (fun _ h1 h2 => absurd h2 (Nat.not_le.mpr h1)) (fun _ h => h) (fun _ h1 h2 => absurd h2 (Nat.not_le.mpr h1)) (fun E ce q9 u t H1 locs1 ht hvm hp hB hz hk hS1 hce hcv hcl => vx_out (fun x hx => (hnt x hx).elim) hlocks hce hcv hcl (fun t9 ht9 hv9 => ⟨(), trivial, hB, hS1.F ht9⟩) hS1.2.2 (Nat.le_refl _) (Nat.le_refl _)) (fun u t H1 locs1 ht hvm hw => hw.elim)
set_option maxHeartbeats 4000000 in
set_option maxRecDepth 100000 in
theorem x_X4_cutIvy1 (l : Launch) (dC : Nat → ClassId) (dI : Nat → Nat → Nat) (cA : ClassId) (xo : Nat) (pk_ : Nat) (pk : Nat) (h : Nat) (a0 : Nat) (a1 : Nat) (a2 : Nat) (a3 : Nat) (a4 : Nat) (a5 : Nat) (kk : Nat) (c0 : Nat) (c1 : Nat) (c2 : Nat) (c3 : Nat) (z : ZS) (me : Nat → Int32) (rk : Nat → Int32) (x : Int32) (y : Int32) (hlt : l.stackTraces = false) (sz : Nat) (hz : zok z) (hdz : zdy z ≤ 40000) (hx9 : zhas x (zn z) = 0) : vx_Met l yX4_cutIvy wsX4_cutIvy ({ frames := 7, cells := 1, slots := 6, locals := 111 } : Room) (va_Pc [.ref xo, .int x, .int y] (fun U => U.heap.size = sz ∧ va_P (dC, dI) vwCl [(xo, .inr (3, [.ref pk, .ref pk_])), (pk, .inr (0, [.ref h, .ref kk, .int (nI (zdy z)), .int (nI (zgu z)), .int (zpu z)])), (h, .inr (1, [.ref a0, .ref a1, .ref a2, .ref a3, .ref a4, .ref a5, .int (nI (zn z))])), (a0, .inl (cA, 10, .inl (fun j9 => nI ((zwa z) j9)))), (a1, .inl (cA, 10, .inl (fun j9 => nI ((ziv z) j9)))), (a2, .inl (cA, 10, .inl (fun j9 => nI ((zgh z) j9)))), (a3, .inl (cA, 10, .inl (fun j9 => nI ((zpr z) j9)))), (a4, .inl (cA, 10, .inl me)), (a5, .inl (cA, 10, .inl rk)), (kk, .inr (2, [.ref c0, .ref c1, .ref c2, .ref c3, .int (nI (ztn z))])), (c0, .inl (cA, 30, .inl (fun j9 => nI ((ztr z) j9)))), (c1, .inl (cA, 30, .inl (fun j9 => nI ((ztd z) j9)))), (c2, .inl (cA, 30, .inl (fun j9 => nI ((ztp z) j9)))), (c3, .inl (cA, 30, .inl (fun j9 => nI ((ztf z) j9))))] U.heap ∧ va_K (dC, dI) vwCl [(cA, .int)] U ∧ zVm U ∧ zSt (fun q => sz ≤ q) U)) (va_Qi (fun (_ : Int32) (_ : Unit) => False) (fun _ _ => True) (fun q => sz ≤ q)) (vx_X (fun _ : Unit => True) (fun E _ _ => E = "java/lang/IndexOutOfBoundsException") (fun q => sz ≤ q)) 1 6 (fun q => sz ≤ q) := by
  refine vx_ofW (cc := cX4_cutIvy) (maxL := 3) (ret := (some .int)) (by decide) rfl ?_
  intro p e s m args below meth c s₁ B hml hnt hv
  obtain ⟨hargs, hsz, hP, hK, hV, hZ⟩ := hv
  have hx := B.exec
  have hb := B.bytes
  have hr := B.returns
  have hts := atoms_spec (ws := wsX4_cutIvy) B.pre
  have hown : s.vm.findClass RX4 = some m.cls := findClass_of_methodNamed B.named
  have hlocks := B.notSynchronized
  subst hsz
  have hS : va_S (fun q => s.heap.size ≤ q) s.heap s.heap [] := va_S.rf
  have hl := lv_entry ([.ref xo, .int x, .int y]) (n := 3) (Nat.le_of_ble_eq_true rfl)
  rw [hargs, lg_entry_eq, ← hargs]
  generalize (lg_sl ([.ref xo, .int x, .int y]) ++ List.replicate (3 - (lg_sl ([.ref xo, .int x, .int y])).length) Slot.unset).toArray = ls at hl ⊢
  have hl : lv_has ls 3 [(0, .ref xo), (1, .int x), (2, .int y)] := hl
  obtain ⟨o1, o2, o3, o4, o5, o6, o7, o8, o9, o10, o11⟩ := id hz
  refine lv_aload_n hx hb dX4_cutIvy_0 rfl (lv_at hl 0 rfl) ?_
  refine lv_iload_n hx hb dX4_cutIvy_1 rfl (lv_at hl 1 rfl) ?_
  have hPc := hP.sub (ws' := [(xo, .inr (3, [.ref pk, .ref pk_])), (pk, .inr (0, [.ref h, .ref kk, .int (nI (zdy z)), .int (nI (zgu z)), .int (zpu z)])), (h, .inr (1, [.ref a0, .ref a1, .ref a2, .ref a3, .ref a4, .ref a5, .int (nI (zn z))])), (a0, .inl (cA, 10, .inl (fun j9 => nI ((zwa z) j9)))), (a1, .inl (cA, 10, .inl (fun j9 => nI ((ziv z) j9)))), (a2, .inl (cA, 10, .inl (fun j9 => nI ((zgh z) j9)))), (a3, .inl (cA, 10, .inl (fun j9 => nI ((zpr z) j9)))), (a4, .inl (cA, 10, .inl me)), (a5, .inl (cA, 10, .inl rk)), (kk, .inr (2, [.ref c0, .ref c1, .ref c2, .ref c3, .int (nI (ztn z))])), (c0, .inl (cA, 30, .inl (fun j9 => nI ((ztr z) j9)))), (c1, .inl (cA, 30, .inl (fun j9 => nI ((ztd z) j9)))), (c2, .inl (cA, 30, .inl (fun j9 => nI ((ztp z) j9)))), (c3, .inl (cA, 30, .inl (fun j9 => nI ((ztf z) j9))))]) [0, 1, 2, 3, 4, 5, 6, 7, 8, 9, 10, 11, 12, 13] rfl
  exact vx_callv (vx_runV (As := [.int x]) (rest := []) ⟨hx, hb, hml, hown, hts⟩ (x_X4_requireRuin l dC dI cA xo pk_ pk h a0 a1 a2 a3 a4 a5 kk c0 c1 c2 c3 z me rk x hlt s.heap.size (by first | assumption | omega) (by first | assumption | omega) (by first | assumption | omega)) (cwV 1 hts gX4_cutIvy_X4_requireRuin rfl rfl rfl (by decide +kernel) ⟨Nat.le_of_ble_eq_true rfl, Nat.le_of_ble_eq_true rfl⟩) ⟨fun a U g mk q => by obtain ⟨q0, q1, qP, qK, qV, qZ⟩ := q; exact ⟨q0, q1, qP, va_K.moved (u := U) (U := U.calling g mk a) (Vm.Alike.refl U.vm) qK, zVm.same (u := U) (U := U.calling g mk a) rfl qV, zSt.same (u := U) (U := U.calling g mk a) rfl rfl qZ⟩, va_recv hK hP (ci := 3) (q0 := 0) rfl rfl, fun U hU hW => ⟨rfl, by rw [hU], by rw [hU]; exact hPc, va_K.moved hW.alike hK, zVm.moved hW hV, zSt.moved hW hU hZ⟩⟩ rfl rfl hl.1 rfl (lv_room (Nat.le_of_ble_eq_true rfl)) dX4_cutIvy_2 ⟨Nat.le_of_ble_eq_true rfl, Nat.le_of_ble_eq_true rfl⟩) hS (fun _ h1 h2 => absurd h2 (Nat.not_le.mpr h1)) (fun _ h => h) (fun _ h1 h2 => absurd h2 (Nat.not_le.mpr h1)) (fun E ce q9 u t H1 locs1 ht hvm hp hB hz hk hS1 hce hcv hcl => vx_out (fun x hx => (hnt x hx).elim) hlocks hce hcv hcl (fun t9 ht9 hv9 => ⟨(), trivial, hB, hS1.F ht9⟩) hS1.2.2 (Nat.le_refl _) (Nat.le_refl _)) (fun u t H1 locs1 ht hvm hw => hw.elim)
set_option maxHeartbeats 4000000 in
set_option maxRecDepth 100000 in
theorem x_X4_setPrice1 (l : Launch) (dC : Nat → ClassId) (dI : Nat → Nat → Nat) (cA : ClassId) (xo : Nat) (pk_ : Nat) (pk : Nat) (h : Nat) (a0 : Nat) (a1 : Nat) (a2 : Nat) (a3 : Nat) (a4 : Nat) (a5 : Nat) (kk : Nat) (c0 : Nat) (c1 : Nat) (c2 : Nat) (c3 : Nat) (z : ZS) (me : Nat → Int32) (rk : Nat → Int32) (x : Int32) (y : Int32) (hlt : l.stackTraces = false) (sz : Nat) (hz : zok z) (hdz : zdy z ≤ 40000) (hx9 : zhas x (zn z) = 0) : vx_Met l yX4_setPrice wsX4_setPrice ({ frames := 7, cells := 1, slots := 6, locals := 111 } : Room) (va_Pc [.ref xo, .int x, .int y] (fun U => U.heap.size = sz ∧ va_P (dC, dI) vwCl [(xo, .inr (3, [.ref pk, .ref pk_])), (pk, .inr (0, [.ref h, .ref kk, .int (nI (zdy z)), .int (nI (zgu z)), .int (zpu z)])), (h, .inr (1, [.ref a0, .ref a1, .ref a2, .ref a3, .ref a4, .ref a5, .int (nI (zn z))])), (a0, .inl (cA, 10, .inl (fun j9 => nI ((zwa z) j9)))), (a1, .inl (cA, 10, .inl (fun j9 => nI ((ziv z) j9)))), (a2, .inl (cA, 10, .inl (fun j9 => nI ((zgh z) j9)))), (a3, .inl (cA, 10, .inl (fun j9 => nI ((zpr z) j9)))), (a4, .inl (cA, 10, .inl me)), (a5, .inl (cA, 10, .inl rk)), (kk, .inr (2, [.ref c0, .ref c1, .ref c2, .ref c3, .int (nI (ztn z))])), (c0, .inl (cA, 30, .inl (fun j9 => nI ((ztr z) j9)))), (c1, .inl (cA, 30, .inl (fun j9 => nI ((ztd z) j9)))), (c2, .inl (cA, 30, .inl (fun j9 => nI ((ztp z) j9)))), (c3, .inl (cA, 30, .inl (fun j9 => nI ((ztf z) j9))))] U.heap ∧ va_K (dC, dI) vwCl [(cA, .int)] U ∧ zVm U ∧ zSt (fun q => sz ≤ q) U)) (va_Qi (fun (_ : Int32) (_ : Unit) => False) (fun _ _ => True) (fun q => sz ≤ q)) (vx_X (fun _ : Unit => True) (fun E _ _ => E = "java/lang/IndexOutOfBoundsException") (fun q => sz ≤ q)) 1 6 (fun q => sz ≤ q) := by
  refine vx_ofW (cc := cX4_setPrice) (maxL := 4) (ret := (some .int)) (by decide) rfl ?_
  intro p e s m args below meth c s₁ B hml hnt hv
  obtain ⟨hargs, hsz, hP, hK, hV, hZ⟩ := hv
  have hx := B.exec
  have hb := B.bytes
  have hr := B.returns
  have hts := atoms_spec (ws := wsX4_setPrice) B.pre
  have hown : s.vm.findClass RX4 = some m.cls := findClass_of_methodNamed B.named
  have hlocks := B.notSynchronized
  subst hsz
  have hS : va_S (fun q => s.heap.size ≤ q) s.heap s.heap [] := va_S.rf
  have hl := lv_entry ([.ref xo, .int x, .int y]) (n := 4) (Nat.le_of_ble_eq_true rfl)
  rw [hargs, lg_entry_eq, ← hargs]
  generalize (lg_sl ([.ref xo, .int x, .int y]) ++ List.replicate (4 - (lg_sl ([.ref xo, .int x, .int y])).length) Slot.unset).toArray = ls at hl ⊢
  have hl : lv_has ls 4 [(0, .ref xo), (1, .int x), (2, .int y)] := hl
  obtain ⟨o1, o2, o3, o4, o5, o6, o7, o8, o9, o10, o11⟩ := id hz
  refine lv_aload_n hx hb dX4_setPrice_0 rfl (lv_at hl 0 rfl) ?_
  refine lv_iload_n hx hb dX4_setPrice_1 rfl (lv_at hl 1 rfl) ?_
  have hPc := hP.sub (ws' := [(xo, .inr (3, [.ref pk, .ref pk_])), (pk, .inr (0, [.ref h, .ref kk, .int (nI (zdy z)), .int (nI (zgu z)), .int (zpu z)])), (h, .inr (1, [.ref a0, .ref a1, .ref a2, .ref a3, .ref a4, .ref a5, .int (nI (zn z))])), (a0, .inl (cA, 10, .inl (fun j9 => nI ((zwa z) j9)))), (a1, .inl (cA, 10, .inl (fun j9 => nI ((ziv z) j9)))), (a2, .inl (cA, 10, .inl (fun j9 => nI ((zgh z) j9)))), (a3, .inl (cA, 10, .inl (fun j9 => nI ((zpr z) j9)))), (a4, .inl (cA, 10, .inl me)), (a5, .inl (cA, 10, .inl rk)), (kk, .inr (2, [.ref c0, .ref c1, .ref c2, .ref c3, .int (nI (ztn z))])), (c0, .inl (cA, 30, .inl (fun j9 => nI ((ztr z) j9)))), (c1, .inl (cA, 30, .inl (fun j9 => nI ((ztd z) j9)))), (c2, .inl (cA, 30, .inl (fun j9 => nI ((ztp z) j9)))), (c3, .inl (cA, 30, .inl (fun j9 => nI ((ztf z) j9))))]) [0, 1, 2, 3, 4, 5, 6, 7, 8, 9, 10, 11, 12, 13] rfl
  exact vx_callv (vx_runV (As := [.int x]) (rest := []) ⟨hx, hb, hml, hown, hts⟩ (x_X4_requireRuin l dC dI cA xo pk_ pk h a0 a1 a2 a3 a4 a5 kk c0 c1 c2 c3 z me rk x hlt s.heap.size (by first | assumption | omega) (by first | assumption | omega) (by first | assumption | omega)) (cwV 1 hts gX4_setPrice_X4_requireRuin rfl rfl rfl (by decide +kernel) ⟨Nat.le_of_ble_eq_true rfl, Nat.le_of_ble_eq_true rfl⟩) ⟨fun a U g mk q => by obtain ⟨q0, q1, qP, qK, qV, qZ⟩ := q; exact ⟨q0, q1, qP, va_K.moved (u := U) (U := U.calling g mk a) (Vm.Alike.refl U.vm) qK, zVm.same (u := U) (U := U.calling g mk a) rfl qV, zSt.same (u := U) (U := U.calling g mk a) rfl rfl qZ⟩, va_recv hK hP (ci := 3) (q0 := 0) rfl rfl, fun U hU hW => ⟨rfl, by rw [hU], by rw [hU]; exact hPc, va_K.moved hW.alike hK, zVm.moved hW hV, zSt.moved hW hU hZ⟩⟩ rfl rfl hl.1 rfl (lv_room (Nat.le_of_ble_eq_true rfl)) dX4_setPrice_2 ⟨Nat.le_of_ble_eq_true rfl, Nat.le_of_ble_eq_true rfl⟩) hS (fun _ h1 h2 => absurd h2 (Nat.not_le.mpr h1)) (fun _ h => h) (fun _ h1 h2 => absurd h2 (Nat.not_le.mpr h1)) (fun E ce q9 u t H1 locs1 ht hvm hp hB hz hk hS1 hce hcv hcl => vx_out (fun x hx => (hnt x hx).elim) hlocks hce hcv hcl (fun t9 ht9 hv9 => ⟨(), trivial, hB, hS1.F ht9⟩) hS1.2.2 (Nat.le_refl _) (Nat.le_refl _)) (fun u t H1 locs1 ht hvm hw => hw.elim)
set_option maxHeartbeats 4000000 in
set_option maxRecDepth 100000 in
theorem x_X4_sellTicket1 (l : Launch) (dC : Nat → ClassId) (dI : Nat → Nat → Nat) (cA : ClassId) (xo : Nat) (pk_ : Nat) (pk : Nat) (h : Nat) (a0 : Nat) (a1 : Nat) (a2 : Nat) (a3 : Nat) (a4 : Nat) (a5 : Nat) (kk : Nat) (c0 : Nat) (c1 : Nat) (c2 : Nat) (c3 : Nat) (z : ZS) (me : Nat → Int32) (rk : Nat → Int32) (x : Int32) (y : Int32) (hlt : l.stackTraces = false) (sz : Nat) (hz : zok z) (hdz : zdy z ≤ 40000) (hx9 : zhas x (zn z) = 0) : vx_Met l yX4_sellTicket wsX4_sellTicket ({ frames := 7, cells := 1, slots := 6, locals := 111 } : Room) (va_Pc [.ref xo, .int x, .int y] (fun U => U.heap.size = sz ∧ va_P (dC, dI) vwCl [(xo, .inr (3, [.ref pk, .ref pk_])), (pk, .inr (0, [.ref h, .ref kk, .int (nI (zdy z)), .int (nI (zgu z)), .int (zpu z)])), (h, .inr (1, [.ref a0, .ref a1, .ref a2, .ref a3, .ref a4, .ref a5, .int (nI (zn z))])), (a0, .inl (cA, 10, .inl (fun j9 => nI ((zwa z) j9)))), (a1, .inl (cA, 10, .inl (fun j9 => nI ((ziv z) j9)))), (a2, .inl (cA, 10, .inl (fun j9 => nI ((zgh z) j9)))), (a3, .inl (cA, 10, .inl (fun j9 => nI ((zpr z) j9)))), (a4, .inl (cA, 10, .inl me)), (a5, .inl (cA, 10, .inl rk)), (kk, .inr (2, [.ref c0, .ref c1, .ref c2, .ref c3, .int (nI (ztn z))])), (c0, .inl (cA, 30, .inl (fun j9 => nI ((ztr z) j9)))), (c1, .inl (cA, 30, .inl (fun j9 => nI ((ztd z) j9)))), (c2, .inl (cA, 30, .inl (fun j9 => nI ((ztp z) j9)))), (c3, .inl (cA, 30, .inl (fun j9 => nI ((ztf z) j9))))] U.heap ∧ va_K (dC, dI) vwCl [(cA, .int)] U ∧ zVm U ∧ zSt (fun q => sz ≤ q) U)) (va_Qi (fun (_ : Int32) (_ : Unit) => False) (fun _ _ => True) (fun q => sz ≤ q)) (vx_X (fun _ : Unit => True) (fun E _ _ => E = "java/lang/IndexOutOfBoundsException") (fun q => sz ≤ q)) 1 6 (fun q => sz ≤ q) := by
  refine vx_ofW (cc := cX4_sellTicket) (maxL := 4) (ret := (some .int)) (by decide) rfl ?_
  intro p e s m args below meth c s₁ B hml hnt hv
  obtain ⟨hargs, hsz, hP, hK, hV, hZ⟩ := hv
  have hx := B.exec
  have hb := B.bytes
  have hr := B.returns
  have hts := atoms_spec (ws := wsX4_sellTicket) B.pre
  have hown : s.vm.findClass RX4 = some m.cls := findClass_of_methodNamed B.named
  have hlocks := B.notSynchronized
  subst hsz
  have hS : va_S (fun q => s.heap.size ≤ q) s.heap s.heap [] := va_S.rf
  have hl := lv_entry ([.ref xo, .int x, .int y]) (n := 4) (Nat.le_of_ble_eq_true rfl)
  rw [hargs, lg_entry_eq, ← hargs]
  generalize (lg_sl ([.ref xo, .int x, .int y]) ++ List.replicate (4 - (lg_sl ([.ref xo, .int x, .int y])).length) Slot.unset).toArray = ls at hl ⊢
  have hl : lv_has ls 4 [(0, .ref xo), (1, .int x), (2, .int y)] := hl
  obtain ⟨o1, o2, o3, o4, o5, o6, o7, o8, o9, o10, o11⟩ := id hz
  refine lv_aload_n hx hb dX4_sellTicket_0 rfl (lv_at hl 0 rfl) ?_
  refine lv_iload_n hx hb dX4_sellTicket_1 rfl (lv_at hl 1 rfl) ?_
  have hPc := hP.sub (ws' := [(xo, .inr (3, [.ref pk, .ref pk_])), (pk, .inr (0, [.ref h, .ref kk, .int (nI (zdy z)), .int (nI (zgu z)), .int (zpu z)])), (h, .inr (1, [.ref a0, .ref a1, .ref a2, .ref a3, .ref a4, .ref a5, .int (nI (zn z))])), (a0, .inl (cA, 10, .inl (fun j9 => nI ((zwa z) j9)))), (a1, .inl (cA, 10, .inl (fun j9 => nI ((ziv z) j9)))), (a2, .inl (cA, 10, .inl (fun j9 => nI ((zgh z) j9)))), (a3, .inl (cA, 10, .inl (fun j9 => nI ((zpr z) j9)))), (a4, .inl (cA, 10, .inl me)), (a5, .inl (cA, 10, .inl rk)), (kk, .inr (2, [.ref c0, .ref c1, .ref c2, .ref c3, .int (nI (ztn z))])), (c0, .inl (cA, 30, .inl (fun j9 => nI ((ztr z) j9)))), (c1, .inl (cA, 30, .inl (fun j9 => nI ((ztd z) j9)))), (c2, .inl (cA, 30, .inl (fun j9 => nI ((ztp z) j9)))), (c3, .inl (cA, 30, .inl (fun j9 => nI ((ztf z) j9))))]) [0, 1, 2, 3, 4, 5, 6, 7, 8, 9, 10, 11, 12, 13] rfl
  exact vx_callv (vx_runV (As := [.int x]) (rest := []) ⟨hx, hb, hml, hown, hts⟩ (x_X4_requireRuin l dC dI cA xo pk_ pk h a0 a1 a2 a3 a4 a5 kk c0 c1 c2 c3 z me rk x hlt s.heap.size (by first | assumption | omega) (by first | assumption | omega) (by first | assumption | omega)) (cwV 1 hts gX4_sellTicket_X4_requireRuin rfl rfl rfl (by decide +kernel) ⟨Nat.le_of_ble_eq_true rfl, Nat.le_of_ble_eq_true rfl⟩) ⟨fun a U g mk q => by obtain ⟨q0, q1, qP, qK, qV, qZ⟩ := q; exact ⟨q0, q1, qP, va_K.moved (u := U) (U := U.calling g mk a) (Vm.Alike.refl U.vm) qK, zVm.same (u := U) (U := U.calling g mk a) rfl qV, zSt.same (u := U) (U := U.calling g mk a) rfl rfl qZ⟩, va_recv hK hP (ci := 3) (q0 := 0) rfl rfl, fun U hU hW => ⟨rfl, by rw [hU], by rw [hU]; exact hPc, va_K.moved hW.alike hK, zVm.moved hW hV, zSt.moved hW hU hZ⟩⟩ rfl rfl hl.1 rfl (lv_room (Nat.le_of_ble_eq_true rfl)) dX4_sellTicket_2 ⟨Nat.le_of_ble_eq_true rfl, Nat.le_of_ble_eq_true rfl⟩) hS (fun _ h1 h2 => absurd h2 (Nat.not_le.mpr h1)) (fun _ h => h) (fun _ h1 h2 => absurd h2 (Nat.not_le.mpr h1)) (fun E ce q9 u t H1 locs1 ht hvm hp hB hz hk hS1 hce hcv hcl => vx_out (fun x hx => (hnt x hx).elim) hlocks hce hcv hcl (fun t9 ht9 hv9 => ⟨(), trivial, hB, hS1.F ht9⟩) hS1.2.2 (Nat.le_refl _) (Nat.le_refl _)) (fun u t H1 locs1 ht hvm hw => hw.elim)
set_option maxHeartbeats 4000000 in
set_option maxRecDepth 100000 in
theorem x_X4_viewIn1 (l : Launch) (dC : Nat → ClassId) (dI : Nat → Nat → Nat) (cA : ClassId) (xo : Nat) (pk_ : Nat) (pk : Nat) (h : Nat) (a0 : Nat) (a1 : Nat) (a2 : Nat) (a3 : Nat) (a4 : Nat) (a5 : Nat) (kk : Nat) (c0 : Nat) (c1 : Nat) (c2 : Nat) (c3 : Nat) (z : ZS) (me : Nat → Int32) (rk : Nat → Int32) (x : Int32) (y : Int32) (hlt : l.stackTraces = false) (sz : Nat) (hz : zok z) (hdz : zdy z ≤ 40000) (hx9 : zhas x (zn z) = 0) : vx_Met l yX4_viewIn wsX4_viewIn ({ frames := 7, cells := 1, slots := 6, locals := 111 } : Room) (va_Pc [.ref xo, .int x, .int y] (fun U => U.heap.size = sz ∧ va_P (dC, dI) vwCl [(xo, .inr (3, [.ref pk, .ref pk_])), (pk, .inr (0, [.ref h, .ref kk, .int (nI (zdy z)), .int (nI (zgu z)), .int (zpu z)])), (h, .inr (1, [.ref a0, .ref a1, .ref a2, .ref a3, .ref a4, .ref a5, .int (nI (zn z))])), (a0, .inl (cA, 10, .inl (fun j9 => nI ((zwa z) j9)))), (a1, .inl (cA, 10, .inl (fun j9 => nI ((ziv z) j9)))), (a2, .inl (cA, 10, .inl (fun j9 => nI ((zgh z) j9)))), (a3, .inl (cA, 10, .inl (fun j9 => nI ((zpr z) j9)))), (a4, .inl (cA, 10, .inl me)), (a5, .inl (cA, 10, .inl rk)), (kk, .inr (2, [.ref c0, .ref c1, .ref c2, .ref c3, .int (nI (ztn z))])), (c0, .inl (cA, 30, .inl (fun j9 => nI ((ztr z) j9)))), (c1, .inl (cA, 30, .inl (fun j9 => nI ((ztd z) j9)))), (c2, .inl (cA, 30, .inl (fun j9 => nI ((ztp z) j9)))), (c3, .inl (cA, 30, .inl (fun j9 => nI ((ztf z) j9))))] U.heap ∧ va_K (dC, dI) vwCl [(cA, .int)] U ∧ zVm U ∧ zSt (fun q => sz ≤ q) U)) (va_Qi (fun (_ : Int32) (_ : Unit) => False) (fun _ _ => True) (fun q => sz ≤ q)) (vx_X (fun _ : Unit => True) (fun E _ _ => E = "java/lang/IndexOutOfBoundsException") (fun q => sz ≤ q)) 1 6 (fun q => sz ≤ q) := by
  refine vx_ofW (cc := cX4_viewIn) (maxL := 3) (ret := (some .int)) (by decide) rfl ?_
  intro p e s m args below meth c s₁ B hml hnt hv
  obtain ⟨hargs, hsz, hP, hK, hV, hZ⟩ := hv
  have hx := B.exec
  have hb := B.bytes
  have hr := B.returns
  have hts := atoms_spec (ws := wsX4_viewIn) B.pre
  have hown : s.vm.findClass RX4 = some m.cls := findClass_of_methodNamed B.named
  have hlocks := B.notSynchronized
  subst hsz
  have hS : va_S (fun q => s.heap.size ≤ q) s.heap s.heap [] := va_S.rf
  have hl := lv_entry ([.ref xo, .int x, .int y]) (n := 3) (Nat.le_of_ble_eq_true rfl)
  rw [hargs, lg_entry_eq, ← hargs]
  generalize (lg_sl ([.ref xo, .int x, .int y]) ++ List.replicate (3 - (lg_sl ([.ref xo, .int x, .int y])).length) Slot.unset).toArray = ls at hl ⊢
  have hl : lv_has ls 3 [(0, .ref xo), (1, .int x), (2, .int y)] := hl
  obtain ⟨o1, o2, o3, o4, o5, o6, o7, o8, o9, o10, o11⟩ := id hz
  refine lv_aload_n hx hb dX4_viewIn_0 rfl (lv_at hl 0 rfl) ?_
  refine lv_iload_n hx hb dX4_viewIn_1 rfl (lv_at hl 1 rfl) ?_
  have hPc := hP.sub (ws' := [(xo, .inr (3, [.ref pk, .ref pk_])), (pk, .inr (0, [.ref h, .ref kk, .int (nI (zdy z)), .int (nI (zgu z)), .int (zpu z)])), (h, .inr (1, [.ref a0, .ref a1, .ref a2, .ref a3, .ref a4, .ref a5, .int (nI (zn z))])), (a0, .inl (cA, 10, .inl (fun j9 => nI ((zwa z) j9)))), (a1, .inl (cA, 10, .inl (fun j9 => nI ((ziv z) j9)))), (a2, .inl (cA, 10, .inl (fun j9 => nI ((zgh z) j9)))), (a3, .inl (cA, 10, .inl (fun j9 => nI ((zpr z) j9)))), (a4, .inl (cA, 10, .inl me)), (a5, .inl (cA, 10, .inl rk)), (kk, .inr (2, [.ref c0, .ref c1, .ref c2, .ref c3, .int (nI (ztn z))])), (c0, .inl (cA, 30, .inl (fun j9 => nI ((ztr z) j9)))), (c1, .inl (cA, 30, .inl (fun j9 => nI ((ztd z) j9)))), (c2, .inl (cA, 30, .inl (fun j9 => nI ((ztp z) j9)))), (c3, .inl (cA, 30, .inl (fun j9 => nI ((ztf z) j9))))]) [0, 1, 2, 3, 4, 5, 6, 7, 8, 9, 10, 11, 12, 13] rfl
  exact vx_callv (vx_runV (As := [.int x]) (rest := []) ⟨hx, hb, hml, hown, hts⟩ (x_X4_requireRuin l dC dI cA xo pk_ pk h a0 a1 a2 a3 a4 a5 kk c0 c1 c2 c3 z me rk x hlt s.heap.size (by first | assumption | omega) (by first | assumption | omega) (by first | assumption | omega)) (cwV 1 hts gX4_viewIn_X4_requireRuin rfl rfl rfl (by decide +kernel) ⟨Nat.le_of_ble_eq_true rfl, Nat.le_of_ble_eq_true rfl⟩) ⟨fun a U g mk q => by obtain ⟨q0, q1, qP, qK, qV, qZ⟩ := q; exact ⟨q0, q1, qP, va_K.moved (u := U) (U := U.calling g mk a) (Vm.Alike.refl U.vm) qK, zVm.same (u := U) (U := U.calling g mk a) rfl qV, zSt.same (u := U) (U := U.calling g mk a) rfl rfl qZ⟩, va_recv hK hP (ci := 3) (q0 := 0) rfl rfl, fun U hU hW => ⟨rfl, by rw [hU], by rw [hU]; exact hPc, va_K.moved hW.alike hK, zVm.moved hW hV, zSt.moved hW hU hZ⟩⟩ rfl rfl hl.1 rfl (lv_room (Nat.le_of_ble_eq_true rfl)) dX4_viewIn_2 ⟨Nat.le_of_ble_eq_true rfl, Nat.le_of_ble_eq_true rfl⟩) hS (fun _ h1 h2 => absurd h2 (Nat.not_le.mpr h1)) (fun _ h => h) (fun _ h1 h2 => absurd h2 (Nat.not_le.mpr h1)) (fun E ce q9 u t H1 locs1 ht hvm hp hB hz hk hS1 hce hcv hcl => vx_out (fun x hx => (hnt x hx).elim) hlocks hce hcv hcl (fun t9 ht9 hv9 => ⟨(), trivial, hB, hS1.F ht9⟩) hS1.2.2 (Nat.le_refl _) (Nat.le_refl _)) (fun u t H1 locs1 ht hvm hw => hw.elim)
set_option maxHeartbeats 4000000 in
set_option maxRecDepth 100000 in
theorem x_X4_dayOf (l : Launch) (dC : Nat → ClassId) (dI : Nat → Nat → Nat) (cA : ClassId) (xo : Nat) (pk_ : Nat) (pk : Nat) (h : Nat) (a0 : Nat) (a1 : Nat) (a2 : Nat) (a3 : Nat) (a4 : Nat) (a5 : Nat) (kk : Nat) (c0 : Nat) (c1 : Nat) (c2 : Nat) (c3 : Nat) (z : ZS) (me : Nat → Int32) (rk : Nat → Int32) (x : Int32) (hlt : l.stackTraces = false) (sz : Nat) (hz : zok z) (hdz : zdy z ≤ 40000) (hx9 : zhas x (ztn z) = 0) : vx_Met l yX4_dayOf wsX4_dayOf ({ frames := 7, cells := 1, slots := 6, locals := 111 } : Room) (va_Pc [.ref xo, .int x] (fun U => U.heap.size = sz ∧ va_P (dC, dI) vwCl [(xo, .inr (3, [.ref pk, .ref pk_])), (pk, .inr (0, [.ref h, .ref kk, .int (nI (zdy z)), .int (nI (zgu z)), .int (zpu z)])), (h, .inr (1, [.ref a0, .ref a1, .ref a2, .ref a3, .ref a4, .ref a5, .int (nI (zn z))])), (a0, .inl (cA, 10, .inl (fun j9 => nI ((zwa z) j9)))), (a1, .inl (cA, 10, .inl (fun j9 => nI ((ziv z) j9)))), (a2, .inl (cA, 10, .inl (fun j9 => nI ((zgh z) j9)))), (a3, .inl (cA, 10, .inl (fun j9 => nI ((zpr z) j9)))), (a4, .inl (cA, 10, .inl me)), (a5, .inl (cA, 10, .inl rk)), (kk, .inr (2, [.ref c0, .ref c1, .ref c2, .ref c3, .int (nI (ztn z))])), (c0, .inl (cA, 30, .inl (fun j9 => nI ((ztr z) j9)))), (c1, .inl (cA, 30, .inl (fun j9 => nI ((ztd z) j9)))), (c2, .inl (cA, 30, .inl (fun j9 => nI ((ztp z) j9)))), (c3, .inl (cA, 30, .inl (fun j9 => nI ((ztf z) j9))))] U.heap ∧ va_K (dC, dI) vwCl [(cA, .int)] U ∧ zVm U ∧ zSt (fun q => sz ≤ q) U)) (va_Qi (fun (_ : Int32) (_ : Unit) => False) (fun _ _ => True) (fun q => sz ≤ q)) (vx_X (fun _ : Unit => True) (fun E _ _ => E = "java/lang/IndexOutOfBoundsException") (fun q => sz ≤ q)) 1 6 (fun q => sz ≤ q) := by
  refine vx_ofW (cc := cX4_dayOf) (maxL := 2) (ret := (some .int)) (by decide) rfl ?_
  intro p e s m args below meth c s₁ B hml hnt hv
  obtain ⟨hargs, hsz, hP, hK, hV, hZ⟩ := hv
  have hx := B.exec
  have hb := B.bytes
  have hr := B.returns
  have hts := atoms_spec (ws := wsX4_dayOf) B.pre
  have hown : s.vm.findClass RX4 = some m.cls := findClass_of_methodNamed B.named
  have hlocks := B.notSynchronized
  subst hsz
  have hS : va_S (fun q => s.heap.size ≤ q) s.heap s.heap [] := va_S.rf
  have hl := lv_entry ([.ref xo, .int x]) (n := 2) (Nat.le_of_ble_eq_true rfl)
  rw [hargs, lg_entry_eq, ← hargs]
  generalize (lg_sl ([.ref xo, .int x]) ++ List.replicate (2 - (lg_sl ([.ref xo, .int x])).length) Slot.unset).toArray = ls at hl ⊢
  have hl : lv_has ls 2 [(0, .ref xo), (1, .int x)] := hl
  obtain ⟨o1, o2, o3, o4, o5, o6, o7, o8, o9, o10, o11⟩ := id hz
  refine lv_aload_n hx hb dX4_dayOf_0 rfl (lv_at hl 0 rfl) ?_
  refine lv_iload_n hx hb dX4_dayOf_1 rfl (lv_at hl 1 rfl) ?_
  have hPc := hP.sub (ws' := [(xo, .inr (3, [.ref pk, .ref pk_])), (pk, .inr (0, [.ref h, .ref kk, .int (nI (zdy z)), .int (nI (zgu z)), .int (zpu z)])), (h, .inr (1, [.ref a0, .ref a1, .ref a2, .ref a3, .ref a4, .ref a5, .int (nI (zn z))])), (a0, .inl (cA, 10, .inl (fun j9 => nI ((zwa z) j9)))), (a1, .inl (cA, 10, .inl (fun j9 => nI ((ziv z) j9)))), (a2, .inl (cA, 10, .inl (fun j9 => nI ((zgh z) j9)))), (a3, .inl (cA, 10, .inl (fun j9 => nI ((zpr z) j9)))), (a4, .inl (cA, 10, .inl me)), (a5, .inl (cA, 10, .inl rk)), (kk, .inr (2, [.ref c0, .ref c1, .ref c2, .ref c3, .int (nI (ztn z))])), (c0, .inl (cA, 30, .inl (fun j9 => nI ((ztr z) j9)))), (c1, .inl (cA, 30, .inl (fun j9 => nI ((ztd z) j9)))), (c2, .inl (cA, 30, .inl (fun j9 => nI ((ztp z) j9)))), (c3, .inl (cA, 30, .inl (fun j9 => nI ((ztf z) j9))))]) [0, 1, 2, 3, 4, 5, 6, 7, 8, 9, 10, 11, 12, 13] rfl
  exact vx_callv (vx_runV (As := [.int x]) (rest := []) ⟨hx, hb, hml, hown, hts⟩ (x_X4_requireTicket l dC dI cA xo pk_ pk h a0 a1 a2 a3 a4 a5 kk c0 c1 c2 c3 z me rk x hlt s.heap.size (by first | assumption | omega) (by first | assumption | omega) (by first | assumption | omega)) (cwV 1 hts gX4_dayOf_X4_requireTicket rfl rfl rfl (by decide +kernel) ⟨Nat.le_of_ble_eq_true rfl, Nat.le_of_ble_eq_true rfl⟩) ⟨fun a U g mk q => by obtain ⟨q0, q1, qP, qK, qV, qZ⟩ := q; exact ⟨q0, q1, qP, va_K.moved (u := U) (U := U.calling g mk a) (Vm.Alike.refl U.vm) qK, zVm.same (u := U) (U := U.calling g mk a) rfl qV, zSt.same (u := U) (U := U.calling g mk a) rfl rfl qZ⟩, va_recv hK hP (ci := 3) (q0 := 0) rfl rfl, fun U hU hW => ⟨rfl, by rw [hU], by rw [hU]; exact hPc, va_K.moved hW.alike hK, zVm.moved hW hV, zSt.moved hW hU hZ⟩⟩ rfl rfl hl.1 rfl (lv_room (Nat.le_of_ble_eq_true rfl)) dX4_dayOf_2 ⟨Nat.le_of_ble_eq_true rfl, Nat.le_of_ble_eq_true rfl⟩) hS (fun _ h1 h2 => absurd h2 (Nat.not_le.mpr h1)) (fun _ h => h) (fun _ h1 h2 => absurd h2 (Nat.not_le.mpr h1)) (fun E ce q9 u t H1 locs1 ht hvm hp hB hz hk hS1 hce hcv hcl => vx_out (fun x hx => (hnt x hx).elim) hlocks hce hcv hcl (fun t9 ht9 hv9 => ⟨(), trivial, hB, hS1.F ht9⟩) hS1.2.2 (Nat.le_refl _) (Nat.le_refl _)) (fun u t H1 locs1 ht hvm hw => hw.elim)
set_option maxHeartbeats 4000000 in
set_option maxRecDepth 100000 in
theorem x_X4_isOpen (l : Launch) (dC : Nat → ClassId) (dI : Nat → Nat → Nat) (cA : ClassId) (xo : Nat) (pk_ : Nat) (pk : Nat) (h : Nat) (a0 : Nat) (a1 : Nat) (a2 : Nat) (a3 : Nat) (a4 : Nat) (a5 : Nat) (kk : Nat) (c0 : Nat) (c1 : Nat) (c2 : Nat) (c3 : Nat) (z : ZS) (me : Nat → Int32) (rk : Nat → Int32) (x : Int32) (hlt : l.stackTraces = false) (sz : Nat) (hz : zok z) (hdz : zdy z ≤ 40000) (hx9 : zhas x (ztn z) = 0) : vx_Met l yX4_isOpen wsX4_isOpen ({ frames := 7, cells := 1, slots := 6, locals := 111 } : Room) (va_Pc [.ref xo, .int x] (fun U => U.heap.size = sz ∧ va_P (dC, dI) vwCl [(xo, .inr (3, [.ref pk, .ref pk_])), (pk, .inr (0, [.ref h, .ref kk, .int (nI (zdy z)), .int (nI (zgu z)), .int (zpu z)])), (h, .inr (1, [.ref a0, .ref a1, .ref a2, .ref a3, .ref a4, .ref a5, .int (nI (zn z))])), (a0, .inl (cA, 10, .inl (fun j9 => nI ((zwa z) j9)))), (a1, .inl (cA, 10, .inl (fun j9 => nI ((ziv z) j9)))), (a2, .inl (cA, 10, .inl (fun j9 => nI ((zgh z) j9)))), (a3, .inl (cA, 10, .inl (fun j9 => nI ((zpr z) j9)))), (a4, .inl (cA, 10, .inl me)), (a5, .inl (cA, 10, .inl rk)), (kk, .inr (2, [.ref c0, .ref c1, .ref c2, .ref c3, .int (nI (ztn z))])), (c0, .inl (cA, 30, .inl (fun j9 => nI ((ztr z) j9)))), (c1, .inl (cA, 30, .inl (fun j9 => nI ((ztd z) j9)))), (c2, .inl (cA, 30, .inl (fun j9 => nI ((ztp z) j9)))), (c3, .inl (cA, 30, .inl (fun j9 => nI ((ztf z) j9))))] U.heap ∧ va_K (dC, dI) vwCl [(cA, .int)] U ∧ zVm U ∧ zSt (fun q => sz ≤ q) U)) (va_Qi (fun (_ : Int32) (_ : Unit) => False) (fun _ _ => True) (fun q => sz ≤ q)) (vx_X (fun _ : Unit => True) (fun E _ _ => E = "java/lang/IndexOutOfBoundsException") (fun q => sz ≤ q)) 1 6 (fun q => sz ≤ q) := by
  refine vx_ofW (cc := cX4_isOpen) (maxL := 2) (ret := (some .boolean)) (by decide) rfl ?_
  intro p e s m args below meth c s₁ B hml hnt hv
  obtain ⟨hargs, hsz, hP, hK, hV, hZ⟩ := hv
  have hx := B.exec
  have hb := B.bytes
  have hr := B.returns
  have hts := atoms_spec (ws := wsX4_isOpen) B.pre
  have hown : s.vm.findClass RX4 = some m.cls := findClass_of_methodNamed B.named
  have hlocks := B.notSynchronized
  subst hsz
  have hS : va_S (fun q => s.heap.size ≤ q) s.heap s.heap [] := va_S.rf
  have hl := lv_entry ([.ref xo, .int x]) (n := 2) (Nat.le_of_ble_eq_true rfl)
  rw [hargs, lg_entry_eq, ← hargs]
  generalize (lg_sl ([.ref xo, .int x]) ++ List.replicate (2 - (lg_sl ([.ref xo, .int x])).length) Slot.unset).toArray = ls at hl ⊢
  have hl : lv_has ls 2 [(0, .ref xo), (1, .int x)] := hl
  obtain ⟨o1, o2, o3, o4, o5, o6, o7, o8, o9, o10, o11⟩ := id hz
  refine lv_aload_n hx hb dX4_isOpen_0 rfl (lv_at hl 0 rfl) ?_
  refine lv_iload_n hx hb dX4_isOpen_1 rfl (lv_at hl 1 rfl) ?_
  have hPc := hP.sub (ws' := [(xo, .inr (3, [.ref pk, .ref pk_])), (pk, .inr (0, [.ref h, .ref kk, .int (nI (zdy z)), .int (nI (zgu z)), .int (zpu z)])), (h, .inr (1, [.ref a0, .ref a1, .ref a2, .ref a3, .ref a4, .ref a5, .int (nI (zn z))])), (a0, .inl (cA, 10, .inl (fun j9 => nI ((zwa z) j9)))), (a1, .inl (cA, 10, .inl (fun j9 => nI ((ziv z) j9)))), (a2, .inl (cA, 10, .inl (fun j9 => nI ((zgh z) j9)))), (a3, .inl (cA, 10, .inl (fun j9 => nI ((zpr z) j9)))), (a4, .inl (cA, 10, .inl me)), (a5, .inl (cA, 10, .inl rk)), (kk, .inr (2, [.ref c0, .ref c1, .ref c2, .ref c3, .int (nI (ztn z))])), (c0, .inl (cA, 30, .inl (fun j9 => nI ((ztr z) j9)))), (c1, .inl (cA, 30, .inl (fun j9 => nI ((ztd z) j9)))), (c2, .inl (cA, 30, .inl (fun j9 => nI ((ztp z) j9)))), (c3, .inl (cA, 30, .inl (fun j9 => nI ((ztf z) j9))))]) [0, 1, 2, 3, 4, 5, 6, 7, 8, 9, 10, 11, 12, 13] rfl
  exact vx_callv (vx_runV (As := [.int x]) (rest := []) ⟨hx, hb, hml, hown, hts⟩ (x_X4_requireTicket l dC dI cA xo pk_ pk h a0 a1 a2 a3 a4 a5 kk c0 c1 c2 c3 z me rk x hlt s.heap.size (by first | assumption | omega) (by first | assumption | omega) (by first | assumption | omega)) (cwV 1 hts gX4_isOpen_X4_requireTicket rfl rfl rfl (by decide +kernel) ⟨Nat.le_of_ble_eq_true rfl, Nat.le_of_ble_eq_true rfl⟩) ⟨fun a U g mk q => by obtain ⟨q0, q1, qP, qK, qV, qZ⟩ := q; exact ⟨q0, q1, qP, va_K.moved (u := U) (U := U.calling g mk a) (Vm.Alike.refl U.vm) qK, zVm.same (u := U) (U := U.calling g mk a) rfl qV, zSt.same (u := U) (U := U.calling g mk a) rfl rfl qZ⟩, va_recv hK hP (ci := 3) (q0 := 0) rfl rfl, fun U hU hW => ⟨rfl, by rw [hU], by rw [hU]; exact hPc, va_K.moved hW.alike hK, zVm.moved hW hV, zSt.moved hW hU hZ⟩⟩ rfl rfl hl.1 rfl (lv_room (Nat.le_of_ble_eq_true rfl)) dX4_isOpen_2 ⟨Nat.le_of_ble_eq_true rfl, Nat.le_of_ble_eq_true rfl⟩) hS (fun _ h1 h2 => absurd h2 (Nat.not_le.mpr h1)) (fun _ h => h) (fun _ h1 h2 => absurd h2 (Nat.not_le.mpr h1)) (fun E ce q9 u t H1 locs1 ht hvm hp hB hz hk hS1 hce hcv hcl => vx_out (fun x hx => (hnt x hx).elim) hlocks hce hcv hcl (fun t9 ht9 hv9 => ⟨(), trivial, hB, hS1.F ht9⟩) hS1.2.2 (Nat.le_refl _) (Nat.le_refl _)) (fun u t H1 locs1 ht hvm hw => hw.elim)
set_option maxHeartbeats 4000000 in
set_option maxRecDepth 100000 in
theorem x_X4_isPaidBack (l : Launch) (dC : Nat → ClassId) (dI : Nat → Nat → Nat) (cA : ClassId) (xo : Nat) (pk_ : Nat) (pk : Nat) (h : Nat) (a0 : Nat) (a1 : Nat) (a2 : Nat) (a3 : Nat) (a4 : Nat) (a5 : Nat) (kk : Nat) (c0 : Nat) (c1 : Nat) (c2 : Nat) (c3 : Nat) (z : ZS) (me : Nat → Int32) (rk : Nat → Int32) (x : Int32) (hlt : l.stackTraces = false) (sz : Nat) (hz : zok z) (hdz : zdy z ≤ 40000) (hx9 : zhas x (ztn z) = 0) : vx_Met l yX4_isPaidBack wsX4_isPaidBack ({ frames := 7, cells := 1, slots := 6, locals := 111 } : Room) (va_Pc [.ref xo, .int x] (fun U => U.heap.size = sz ∧ va_P (dC, dI) vwCl [(xo, .inr (3, [.ref pk, .ref pk_])), (pk, .inr (0, [.ref h, .ref kk, .int (nI (zdy z)), .int (nI (zgu z)), .int (zpu z)])), (h, .inr (1, [.ref a0, .ref a1, .ref a2, .ref a3, .ref a4, .ref a5, .int (nI (zn z))])), (a0, .inl (cA, 10, .inl (fun j9 => nI ((zwa z) j9)))), (a1, .inl (cA, 10, .inl (fun j9 => nI ((ziv z) j9)))), (a2, .inl (cA, 10, .inl (fun j9 => nI ((zgh z) j9)))), (a3, .inl (cA, 10, .inl (fun j9 => nI ((zpr z) j9)))), (a4, .inl (cA, 10, .inl me)), (a5, .inl (cA, 10, .inl rk)), (kk, .inr (2, [.ref c0, .ref c1, .ref c2, .ref c3, .int (nI (ztn z))])), (c0, .inl (cA, 30, .inl (fun j9 => nI ((ztr z) j9)))), (c1, .inl (cA, 30, .inl (fun j9 => nI ((ztd z) j9)))), (c2, .inl (cA, 30, .inl (fun j9 => nI ((ztp z) j9)))), (c3, .inl (cA, 30, .inl (fun j9 => nI ((ztf z) j9))))] U.heap ∧ va_K (dC, dI) vwCl [(cA, .int)] U ∧ zVm U ∧ zSt (fun q => sz ≤ q) U)) (va_Qi (fun (_ : Int32) (_ : Unit) => False) (fun _ _ => True) (fun q => sz ≤ q)) (vx_X (fun _ : Unit => True) (fun E _ _ => E = "java/lang/IndexOutOfBoundsException") (fun q => sz ≤ q)) 1 6 (fun q => sz ≤ q) := by
  refine vx_ofW (cc := cX4_isPaidBack) (maxL := 2) (ret := (some .boolean)) (by decide) rfl ?_
  intro p e s m args below meth c s₁ B hml hnt hv
  obtain ⟨hargs, hsz, hP, hK, hV, hZ⟩ := hv
  have hx := B.exec
  have hb := B.bytes
  have hr := B.returns
  have hts := atoms_spec (ws := wsX4_isPaidBack) B.pre
  have hown : s.vm.findClass RX4 = some m.cls := findClass_of_methodNamed B.named
  have hlocks := B.notSynchronized
  subst hsz
  have hS : va_S (fun q => s.heap.size ≤ q) s.heap s.heap [] := va_S.rf
  have hl := lv_entry ([.ref xo, .int x]) (n := 2) (Nat.le_of_ble_eq_true rfl)
  rw [hargs, lg_entry_eq, ← hargs]
  generalize (lg_sl ([.ref xo, .int x]) ++ List.replicate (2 - (lg_sl ([.ref xo, .int x])).length) Slot.unset).toArray = ls at hl ⊢
  have hl : lv_has ls 2 [(0, .ref xo), (1, .int x)] := hl
  obtain ⟨o1, o2, o3, o4, o5, o6, o7, o8, o9, o10, o11⟩ := id hz
  refine lv_aload_n hx hb dX4_isPaidBack_0 rfl (lv_at hl 0 rfl) ?_
  refine lv_iload_n hx hb dX4_isPaidBack_1 rfl (lv_at hl 1 rfl) ?_
  have hPc := hP.sub (ws' := [(xo, .inr (3, [.ref pk, .ref pk_])), (pk, .inr (0, [.ref h, .ref kk, .int (nI (zdy z)), .int (nI (zgu z)), .int (zpu z)])), (h, .inr (1, [.ref a0, .ref a1, .ref a2, .ref a3, .ref a4, .ref a5, .int (nI (zn z))])), (a0, .inl (cA, 10, .inl (fun j9 => nI ((zwa z) j9)))), (a1, .inl (cA, 10, .inl (fun j9 => nI ((ziv z) j9)))), (a2, .inl (cA, 10, .inl (fun j9 => nI ((zgh z) j9)))), (a3, .inl (cA, 10, .inl (fun j9 => nI ((zpr z) j9)))), (a4, .inl (cA, 10, .inl me)), (a5, .inl (cA, 10, .inl rk)), (kk, .inr (2, [.ref c0, .ref c1, .ref c2, .ref c3, .int (nI (ztn z))])), (c0, .inl (cA, 30, .inl (fun j9 => nI ((ztr z) j9)))), (c1, .inl (cA, 30, .inl (fun j9 => nI ((ztd z) j9)))), (c2, .inl (cA, 30, .inl (fun j9 => nI ((ztp z) j9)))), (c3, .inl (cA, 30, .inl (fun j9 => nI ((ztf z) j9))))]) [0, 1, 2, 3, 4, 5, 6, 7, 8, 9, 10, 11, 12, 13] rfl
  exact vx_callv (vx_runV (As := [.int x]) (rest := []) ⟨hx, hb, hml, hown, hts⟩ (x_X4_requireTicket l dC dI cA xo pk_ pk h a0 a1 a2 a3 a4 a5 kk c0 c1 c2 c3 z me rk x hlt s.heap.size (by first | assumption | omega) (by first | assumption | omega) (by first | assumption | omega)) (cwV 1 hts gX4_isPaidBack_X4_requireTicket rfl rfl rfl (by decide +kernel) ⟨Nat.le_of_ble_eq_true rfl, Nat.le_of_ble_eq_true rfl⟩) ⟨fun a U g mk q => by obtain ⟨q0, q1, qP, qK, qV, qZ⟩ := q; exact ⟨q0, q1, qP, va_K.moved (u := U) (U := U.calling g mk a) (Vm.Alike.refl U.vm) qK, zVm.same (u := U) (U := U.calling g mk a) rfl qV, zSt.same (u := U) (U := U.calling g mk a) rfl rfl qZ⟩, va_recv hK hP (ci := 3) (q0 := 0) rfl rfl, fun U hU hW => ⟨rfl, by rw [hU], by rw [hU]; exact hPc, va_K.moved hW.alike hK, zVm.moved hW hV, zSt.moved hW hU hZ⟩⟩ rfl rfl hl.1 rfl (lv_room (Nat.le_of_ble_eq_true rfl)) dX4_isPaidBack_2 ⟨Nat.le_of_ble_eq_true rfl, Nat.le_of_ble_eq_true rfl⟩) hS (fun _ h1 h2 => absurd h2 (Nat.not_le.mpr h1)) (fun _ h => h) (fun _ h1 h2 => absurd h2 (Nat.not_le.mpr h1)) (fun E ce q9 u t H1 locs1 ht hvm hp hB hz hk hS1 hce hcv hcl => vx_out (fun x hx => (hnt x hx).elim) hlocks hce hcv hcl (fun t9 ht9 hv9 => ⟨(), trivial, hB, hS1.F ht9⟩) hS1.2.2 (Nat.le_refl _) (Nat.le_refl _)) (fun u t H1 locs1 ht hvm hw => hw.elim)
set_option maxHeartbeats 4000000 in
set_option maxRecDepth 100000 in
theorem x_X4_cutIvy2 (l : Launch) (dC : Nat → ClassId) (dI : Nat → Nat → Nat) (cA : ClassId) (xo : Nat) (pk_ : Nat) (pk : Nat) (h : Nat) (a0 : Nat) (a1 : Nat) (a2 : Nat) (a3 : Nat) (a4 : Nat) (a5 : Nat) (kk : Nat) (c0 : Nat) (c1 : Nat) (c2 : Nat) (c3 : Nat) (z : ZS) (me : Nat → Int32) (rk : Nat → Int32) (j : Nat) (y : Int32) (hlt : l.stackTraces = false) (sz : Nat) (hz : zok z) (hdz : zdy z ≤ 40000) (hj : j < zn z) (hx9 : zin y (nI 1) (nI 12) = 0) : vx_Met l yX4_cutIvy wsX4_cutIvy ({ frames := 7, cells := 1, slots := 6, locals := 111 } : Room) (va_Pc [.ref xo, .int (nI j), .int y] (fun U => U.heap.size = sz ∧ va_P (dC, dI) vwCl [(xo, .inr (3, [.ref pk, .ref pk_])), (pk, .inr (0, [.ref h, .ref kk, .int (nI (zdy z)), .int (nI (zgu z)), .int (zpu z)])), (h, .inr (1, [.ref a0, .ref a1, .ref a2, .ref a3, .ref a4, .ref a5, .int (nI (zn z))])), (a0, .inl (cA, 10, .inl (fun j9 => nI ((zwa z) j9)))), (a1, .inl (cA, 10, .inl (fun j9 => nI ((ziv z) j9)))), (a2, .inl (cA, 10, .inl (fun j9 => nI ((zgh z) j9)))), (a3, .inl (cA, 10, .inl (fun j9 => nI ((zpr z) j9)))), (a4, .inl (cA, 10, .inl me)), (a5, .inl (cA, 10, .inl rk)), (kk, .inr (2, [.ref c0, .ref c1, .ref c2, .ref c3, .int (nI (ztn z))])), (c0, .inl (cA, 30, .inl (fun j9 => nI ((ztr z) j9)))), (c1, .inl (cA, 30, .inl (fun j9 => nI ((ztd z) j9)))), (c2, .inl (cA, 30, .inl (fun j9 => nI ((ztp z) j9)))), (c3, .inl (cA, 30, .inl (fun j9 => nI ((ztf z) j9))))] U.heap ∧ va_K (dC, dI) vwCl [(cA, .int)] U ∧ zVm U ∧ zSt (fun q => sz ≤ q) U)) (va_Qi (fun (_ : Int32) (_ : Unit) => False) (fun _ _ => True) (fun q => sz ≤ q)) (vx_X (fun _ : Unit => True) (fun E _ _ => E = "java/lang/IllegalArgumentException") (fun q => sz ≤ q)) 1 6 (fun q => sz ≤ q) := by
  refine vx_ofW (cc := cX4_cutIvy) (maxL := 3) (ret := (some .int)) (by decide) rfl ?_
  intro p e s m args below meth c s₁ B hml hnt hv
  obtain ⟨hargs, hsz, hP, hK, hV, hZ⟩ := hv
  have hx := B.exec
  have hb := B.bytes
  have hr := B.returns
  have hts := atoms_spec (ws := wsX4_cutIvy) B.pre
  have hown : s.vm.findClass RX4 = some m.cls := findClass_of_methodNamed B.named
  have hlocks := B.notSynchronized
  subst hsz
  have hS : va_S (fun q => s.heap.size ≤ q) s.heap s.heap [] := va_S.rf
  have hl := lv_entry ([.ref xo, .int (nI j), .int y]) (n := 3) (Nat.le_of_ble_eq_true rfl)
  rw [hargs, lg_entry_eq, ← hargs]
  generalize (lg_sl ([.ref xo, .int (nI j), .int y]) ++ List.replicate (3 - (lg_sl ([.ref xo, .int (nI j), .int y])).length) Slot.unset).toArray = ls at hl ⊢
  have hl : lv_has ls 3 [(0, .ref xo), (1, .int (nI j)), (2, .int y)] := hl
  obtain ⟨o1, o2, o3, o4, o5, o6, o7, o8, o9, o10, o11⟩ := id hz
  refine lv_aload_n hx hb dX4_cutIvy_0 rfl (lv_at hl 0 rfl) ?_
  refine lv_iload_n hx hb dX4_cutIvy_1 rfl (lv_at hl 1 rfl) ?_
  have hPc := hP.sub (ws' := [(xo, .inr (3, [.ref pk, .ref pk_])), (pk, .inr (0, [.ref h, .ref kk, .int (nI (zdy z)), .int (nI (zgu z)), .int (zpu z)])), (h, .inr (1, [.ref a0, .ref a1, .ref a2, .ref a3, .ref a4, .ref a5, .int (nI (zn z))])), (a0, .inl (cA, 10, .inl (fun j9 => nI ((zwa z) j9)))), (a1, .inl (cA, 10, .inl (fun j9 => nI ((ziv z) j9)))), (a2, .inl (cA, 10, .inl (fun j9 => nI ((zgh z) j9)))), (a3, .inl (cA, 10, .inl (fun j9 => nI ((zpr z) j9)))), (a4, .inl (cA, 10, .inl me)), (a5, .inl (cA, 10, .inl rk)), (kk, .inr (2, [.ref c0, .ref c1, .ref c2, .ref c3, .int (nI (ztn z))])), (c0, .inl (cA, 30, .inl (fun j9 => nI ((ztr z) j9)))), (c1, .inl (cA, 30, .inl (fun j9 => nI ((ztd z) j9)))), (c2, .inl (cA, 30, .inl (fun j9 => nI ((ztp z) j9)))), (c3, .inl (cA, 30, .inl (fun j9 => nI ((ztf z) j9))))]) [0, 1, 2, 3, 4, 5, 6, 7, 8, 9, 10, 11, 12, 13] rfl
  refine va_csv (W.runV (As := [.int (nI j)]) (rest := []) ⟨hx, hb, hml, hown, hts⟩ (c_X4_requireRuin l dC dI cA xo pk_ pk h a0 a1 a2 a3 a4 a5 kk c0 c1 c2 c3 z me rk j (by first | assumption | omega) (by first | assumption | omega) (by first | assumption | omega)) (cwV 1 hts gX4_cutIvy_X4_requireRuin rfl rfl rfl (by decide +kernel) ⟨Nat.le_of_ble_eq_true rfl, Nat.le_of_ble_eq_true rfl⟩) ⟨fun a U g mk q => by obtain ⟨q0, qP, qK⟩ := q; exact ⟨q0, qP, va_K.moved (u := U) (U := U.calling g mk a) (Vm.Alike.refl U.vm) qK⟩, va_recv hK hP (ci := 3) (q0 := 0) rfl rfl, fun U hU hW => ⟨rfl, by rw [hU]; exact hPc, va_K.moved hW.alike hK⟩⟩ rfl rfl hl.1 rfl (lv_room (Nat.le_of_ble_eq_true rfl)) dX4_cutIvy_2 ⟨Nat.le_of_ble_eq_true rfl, Nat.le_of_ble_eq_true rfl⟩) (fun hw_1 => ?_)
  refine lv_iload_n hx hb dX4_cutIvy_5 rfl (lv_at hl 2 rfl) ?_
  refine lv_iconst (v := nI 1) hx hb dX4_cutIvy_6 (by decide) ?_
  refine lv_bipush (v := nI 12) hx hb dX4_cutIvy_7 (by decide) ?_
  refine vp_callSi (W.runS (As := [.int y,.int (nI 1),.int (nI 12)]) (rest := []) ⟨hx, hb, hml, hown, hts⟩ (c_X4_isWithin l dC dI cA y (nI 1) (nI 12) ) (va_cwS 3 hts gX4_cutIvy_X4_isWithin rfl rfl rfl (by decide +kernel) ⟨Nat.le_of_ble_eq_true rfl, Nat.le_of_ble_eq_true rfl⟩) ⟨fun _ _ _ _ q => q, fun U hU hW => ⟨rfl, trivial⟩⟩ rfl rfl hl.1 rfl (lv_room (Nat.le_of_ble_eq_true rfl)) dX4_cutIvy_9 ⟨Nat.le_of_ble_eq_true rfl, Nat.le_of_ble_eq_true rfl⟩) (fun r_2 hw_2 => ?_)
  subst hw_2
  refine lv_if_ne (tgt := 25) hx hb dX4_cutIvy_12 (by decide) (fun c_3 => ?_) (fun c_3 => ?_)
  · skip
    replace c_3 := mt (zz_eq0 (by first | omega | (have := zin_le y (nI 1) (nI 12); omega))).mpr c_3
    exfalso; exact c_3 hx9
  · skip
    replace c_3 := (zz_eq0 (by first | omega | (have := zin_le y (nI 1) (nI 12); omega))).mp c_3
    obtain ⟨sa4, hstr4⟩ := hV.1.2.2.2.1
    exact vx_throwS (own := RX4) (cls := "java/lang/IllegalArgumentException") (text := "ivy is not 1 to 12") (names := ["java/lang/RuntimeException", "java/lang/Exception"]) (ic := 27) hx hb hlt hown rfl (by decide +kernel) (hts (.classLink RX4 23 "java/lang/IllegalArgumentException") (List.mem_of_getElem? (i := 1) rfl)) (hts (.initialized "java/lang/IllegalArgumentException") (List.mem_of_getElem? (i := 2) rfl)) hstr4 (vx_hat (B := zBiae) (fun w h => hts w (by first | exact List.mem_cons_of_mem _ (List.mem_append_right _ h) | exact List.mem_cons_of_mem _ (List.mem_append_left _ (List.mem_append_right _ h)) | exact List.mem_cons_of_mem _ (List.mem_append_left _ (List.mem_append_left _ (List.mem_append_right _ h))))) (by decide +kernel) (zVm.iae hV)) (by decide +kernel) hZ.1 hZ.2 hS (hl.1.trans hml.symm) dX4_cutIvy_15 dX4_cutIvy_18 dX4_cutIvy_19 dX4_cutIvy_21 dX4_cutIvy_24 (fun x hx => (hnt x hx).elim) (Nat.le_of_ble_eq_true rfl) (Nat.le_of_ble_eq_true rfl) (Nat.le_of_ble_eq_true rfl) (Nat.le_of_ble_eq_true rfl) hlocks (fun t hvm hsz9 hk9 => ⟨(), trivial, rfl, hsz9, fun q h1 _ => hk9 q h1⟩) (fun _ h => nomatch h) (Nat.le_refl _) (Nat.le_refl _)
set_option maxHeartbeats 4000000 in
set_option maxRecDepth 100000 in
theorem x_X4_setPrice2 (l : Launch) (dC : Nat → ClassId) (dI : Nat → Nat → Nat) (cA : ClassId) (xo : Nat) (pk_ : Nat) (pk : Nat) (h : Nat) (a0 : Nat) (a1 : Nat) (a2 : Nat) (a3 : Nat) (a4 : Nat) (a5 : Nat) (kk : Nat) (c0 : Nat) (c1 : Nat) (c2 : Nat) (c3 : Nat) (z : ZS) (me : Nat → Int32) (rk : Nat → Int32) (j : Nat) (y : Int32) (hlt : l.stackTraces = false) (sz : Nat) (hz : zok z) (hdz : zdy z ≤ 40000) (hj : j < zn z) (hx9 : zin y (nI 0) (nI 9) = 0) : vx_Met l yX4_setPrice wsX4_setPrice ({ frames := 7, cells := 1, slots := 6, locals := 111 } : Room) (va_Pc [.ref xo, .int (nI j), .int y] (fun U => U.heap.size = sz ∧ va_P (dC, dI) vwCl [(xo, .inr (3, [.ref pk, .ref pk_])), (pk, .inr (0, [.ref h, .ref kk, .int (nI (zdy z)), .int (nI (zgu z)), .int (zpu z)])), (h, .inr (1, [.ref a0, .ref a1, .ref a2, .ref a3, .ref a4, .ref a5, .int (nI (zn z))])), (a0, .inl (cA, 10, .inl (fun j9 => nI ((zwa z) j9)))), (a1, .inl (cA, 10, .inl (fun j9 => nI ((ziv z) j9)))), (a2, .inl (cA, 10, .inl (fun j9 => nI ((zgh z) j9)))), (a3, .inl (cA, 10, .inl (fun j9 => nI ((zpr z) j9)))), (a4, .inl (cA, 10, .inl me)), (a5, .inl (cA, 10, .inl rk)), (kk, .inr (2, [.ref c0, .ref c1, .ref c2, .ref c3, .int (nI (ztn z))])), (c0, .inl (cA, 30, .inl (fun j9 => nI ((ztr z) j9)))), (c1, .inl (cA, 30, .inl (fun j9 => nI ((ztd z) j9)))), (c2, .inl (cA, 30, .inl (fun j9 => nI ((ztp z) j9)))), (c3, .inl (cA, 30, .inl (fun j9 => nI ((ztf z) j9))))] U.heap ∧ va_K (dC, dI) vwCl [(cA, .int)] U ∧ zVm U ∧ zSt (fun q => sz ≤ q) U)) (va_Qi (fun (_ : Int32) (_ : Unit) => False) (fun _ _ => True) (fun q => sz ≤ q)) (vx_X (fun _ : Unit => True) (fun E _ _ => E = "java/lang/IllegalArgumentException") (fun q => sz ≤ q)) 1 6 (fun q => sz ≤ q) := by
  refine vx_ofW (cc := cX4_setPrice) (maxL := 4) (ret := (some .int)) (by decide) rfl ?_
  intro p e s m args below meth c s₁ B hml hnt hv
  obtain ⟨hargs, hsz, hP, hK, hV, hZ⟩ := hv
  have hx := B.exec
  have hb := B.bytes
  have hr := B.returns
  have hts := atoms_spec (ws := wsX4_setPrice) B.pre
  have hown : s.vm.findClass RX4 = some m.cls := findClass_of_methodNamed B.named
  have hlocks := B.notSynchronized
  subst hsz
  have hS : va_S (fun q => s.heap.size ≤ q) s.heap s.heap [] := va_S.rf
  have hl := lv_entry ([.ref xo, .int (nI j), .int y]) (n := 4) (Nat.le_of_ble_eq_true rfl)
  rw [hargs, lg_entry_eq, ← hargs]
  generalize (lg_sl ([.ref xo, .int (nI j), .int y]) ++ List.replicate (4 - (lg_sl ([.ref xo, .int (nI j), .int y])).length) Slot.unset).toArray = ls at hl ⊢
  have hl : lv_has ls 4 [(0, .ref xo), (1, .int (nI j)), (2, .int y)] := hl
  obtain ⟨o1, o2, o3, o4, o5, o6, o7, o8, o9, o10, o11⟩ := id hz
  refine lv_aload_n hx hb dX4_setPrice_0 rfl (lv_at hl 0 rfl) ?_
  refine lv_iload_n hx hb dX4_setPrice_1 rfl (lv_at hl 1 rfl) ?_
  have hPc := hP.sub (ws' := [(xo, .inr (3, [.ref pk, .ref pk_])), (pk, .inr (0, [.ref h, .ref kk, .int (nI (zdy z)), .int (nI (zgu z)), .int (zpu z)])), (h, .inr (1, [.ref a0, .ref a1, .ref a2, .ref a3, .ref a4, .ref a5, .int (nI (zn z))])), (a0, .inl (cA, 10, .inl (fun j9 => nI ((zwa z) j9)))), (a1, .inl (cA, 10, .inl (fun j9 => nI ((ziv z) j9)))), (a2, .inl (cA, 10, .inl (fun j9 => nI ((zgh z) j9)))), (a3, .inl (cA, 10, .inl (fun j9 => nI ((zpr z) j9)))), (a4, .inl (cA, 10, .inl me)), (a5, .inl (cA, 10, .inl rk)), (kk, .inr (2, [.ref c0, .ref c1, .ref c2, .ref c3, .int (nI (ztn z))])), (c0, .inl (cA, 30, .inl (fun j9 => nI ((ztr z) j9)))), (c1, .inl (cA, 30, .inl (fun j9 => nI ((ztd z) j9)))), (c2, .inl (cA, 30, .inl (fun j9 => nI ((ztp z) j9)))), (c3, .inl (cA, 30, .inl (fun j9 => nI ((ztf z) j9))))]) [0, 1, 2, 3, 4, 5, 6, 7, 8, 9, 10, 11, 12, 13] rfl
  refine va_csv (W.runV (As := [.int (nI j)]) (rest := []) ⟨hx, hb, hml, hown, hts⟩ (c_X4_requireRuin l dC dI cA xo pk_ pk h a0 a1 a2 a3 a4 a5 kk c0 c1 c2 c3 z me rk j (by first | assumption | omega) (by first | assumption | omega) (by first | assumption | omega)) (cwV 1 hts gX4_setPrice_X4_requireRuin rfl rfl rfl (by decide +kernel) ⟨Nat.le_of_ble_eq_true rfl, Nat.le_of_ble_eq_true rfl⟩) ⟨fun a U g mk q => by obtain ⟨q0, qP, qK⟩ := q; exact ⟨q0, qP, va_K.moved (u := U) (U := U.calling g mk a) (Vm.Alike.refl U.vm) qK⟩, va_recv hK hP (ci := 3) (q0 := 0) rfl rfl, fun U hU hW => ⟨rfl, by rw [hU]; exact hPc, va_K.moved hW.alike hK⟩⟩ rfl rfl hl.1 rfl (lv_room (Nat.le_of_ble_eq_true rfl)) dX4_setPrice_2 ⟨Nat.le_of_ble_eq_true rfl, Nat.le_of_ble_eq_true rfl⟩) (fun hw_1 => ?_)
  refine lv_iload_n hx hb dX4_setPrice_5 rfl (lv_at hl 2 rfl) ?_
  refine lv_iconst (v := nI 0) hx hb dX4_setPrice_6 (by decide) ?_
  refine lv_bipush (v := nI 9) hx hb dX4_setPrice_7 (by decide) ?_
  refine vp_callSi (W.runS (As := [.int y,.int (nI 0),.int (nI 9)]) (rest := []) ⟨hx, hb, hml, hown, hts⟩ (c_X4_isWithin l dC dI cA y (nI 0) (nI 9) ) (va_cwS 3 hts gX4_setPrice_X4_isWithin rfl rfl rfl (by decide +kernel) ⟨Nat.le_of_ble_eq_true rfl, Nat.le_of_ble_eq_true rfl⟩) ⟨fun _ _ _ _ q => q, fun U hU hW => ⟨rfl, trivial⟩⟩ rfl rfl hl.1 rfl (lv_room (Nat.le_of_ble_eq_true rfl)) dX4_setPrice_9 ⟨Nat.le_of_ble_eq_true rfl, Nat.le_of_ble_eq_true rfl⟩) (fun r_2 hw_2 => ?_)
  subst hw_2
  refine lv_if_ne (tgt := 25) hx hb dX4_setPrice_12 (by decide) (fun c_3 => ?_) (fun c_3 => ?_)
  · skip
    replace c_3 := mt (zz_eq0 (by first | omega | (have := zin_le y (nI 0) (nI 9); omega))).mpr c_3
    exfalso; exact c_3 hx9
  · skip
    replace c_3 := (zz_eq0 (by first | omega | (have := zin_le y (nI 0) (nI 9); omega))).mp c_3
    obtain ⟨sa4, hstr4⟩ := hV.1.2.2.2.2.2.1
    exact vx_throwS (own := RX4) (cls := "java/lang/IllegalArgumentException") (text := "price is not 0 to 9") (names := ["java/lang/RuntimeException", "java/lang/Exception"]) (ic := 27) hx hb hlt hown rfl (by decide +kernel) (hts (.classLink RX4 23 "java/lang/IllegalArgumentException") (List.mem_of_getElem? (i := 1) rfl)) (hts (.initialized "java/lang/IllegalArgumentException") (List.mem_of_getElem? (i := 2) rfl)) hstr4 (vx_hat (B := zBiae) (fun w h => hts w (by first | exact List.mem_cons_of_mem _ (List.mem_append_right _ h) | exact List.mem_cons_of_mem _ (List.mem_append_left _ (List.mem_append_right _ h)) | exact List.mem_cons_of_mem _ (List.mem_append_left _ (List.mem_append_left _ (List.mem_append_right _ h))))) (by decide +kernel) (zVm.iae hV)) (by decide +kernel) hZ.1 hZ.2 hS (hl.1.trans hml.symm) dX4_setPrice_15 dX4_setPrice_18 dX4_setPrice_19 dX4_setPrice_21 dX4_setPrice_24 (fun x hx => (hnt x hx).elim) (Nat.le_of_ble_eq_true rfl) (Nat.le_of_ble_eq_true rfl) (Nat.le_of_ble_eq_true rfl) (Nat.le_of_ble_eq_true rfl) hlocks (fun t hvm hsz9 hk9 => ⟨(), trivial, rfl, hsz9, fun q h1 _ => hk9 q h1⟩) (fun _ h => nomatch h) (Nat.le_refl _) (Nat.le_refl _)
set_option maxHeartbeats 4000000 in
set_option maxRecDepth 100000 in
theorem x_X4_sellTicket2 (l : Launch) (dC : Nat → ClassId) (dI : Nat → Nat → Nat) (cA : ClassId) (xo : Nat) (pk_ : Nat) (pk : Nat) (h : Nat) (a0 : Nat) (a1 : Nat) (a2 : Nat) (a3 : Nat) (a4 : Nat) (a5 : Nat) (kk : Nat) (c0 : Nat) (c1 : Nat) (c2 : Nat) (c3 : Nat) (z : ZS) (me : Nat → Int32) (rk : Nat → Int32) (j : Nat) (y : Int32) (hlt : l.stackTraces = false) (sz : Nat) (hz : zok z) (hdz : zdy z ≤ 40000) (hj : j < zn z) (hx9 : zin y (nI 0) (nI 30) = 0) : vx_Met l yX4_sellTicket wsX4_sellTicket ({ frames := 7, cells := 1, slots := 6, locals := 111 } : Room) (va_Pc [.ref xo, .int (nI j), .int y] (fun U => U.heap.size = sz ∧ va_P (dC, dI) vwCl [(xo, .inr (3, [.ref pk, .ref pk_])), (pk, .inr (0, [.ref h, .ref kk, .int (nI (zdy z)), .int (nI (zgu z)), .int (zpu z)])), (h, .inr (1, [.ref a0, .ref a1, .ref a2, .ref a3, .ref a4, .ref a5, .int (nI (zn z))])), (a0, .inl (cA, 10, .inl (fun j9 => nI ((zwa z) j9)))), (a1, .inl (cA, 10, .inl (fun j9 => nI ((ziv z) j9)))), (a2, .inl (cA, 10, .inl (fun j9 => nI ((zgh z) j9)))), (a3, .inl (cA, 10, .inl (fun j9 => nI ((zpr z) j9)))), (a4, .inl (cA, 10, .inl me)), (a5, .inl (cA, 10, .inl rk)), (kk, .inr (2, [.ref c0, .ref c1, .ref c2, .ref c3, .int (nI (ztn z))])), (c0, .inl (cA, 30, .inl (fun j9 => nI ((ztr z) j9)))), (c1, .inl (cA, 30, .inl (fun j9 => nI ((ztd z) j9)))), (c2, .inl (cA, 30, .inl (fun j9 => nI ((ztp z) j9)))), (c3, .inl (cA, 30, .inl (fun j9 => nI ((ztf z) j9))))] U.heap ∧ va_K (dC, dI) vwCl [(cA, .int)] U ∧ zVm U ∧ zSt (fun q => sz ≤ q) U)) (va_Qi (fun (_ : Int32) (_ : Unit) => False) (fun _ _ => True) (fun q => sz ≤ q)) (vx_X (fun _ : Unit => True) (fun E _ _ => E = "java/lang/IllegalArgumentException") (fun q => sz ≤ q)) 1 6 (fun q => sz ≤ q) := by
  refine vx_ofW (cc := cX4_sellTicket) (maxL := 4) (ret := (some .int)) (by decide) rfl ?_
  intro p e s m args below meth c s₁ B hml hnt hv
  obtain ⟨hargs, hsz, hP, hK, hV, hZ⟩ := hv
  have hx := B.exec
  have hb := B.bytes
  have hr := B.returns
  have hts := atoms_spec (ws := wsX4_sellTicket) B.pre
  have hown : s.vm.findClass RX4 = some m.cls := findClass_of_methodNamed B.named
  have hlocks := B.notSynchronized
  subst hsz
  have hS : va_S (fun q => s.heap.size ≤ q) s.heap s.heap [] := va_S.rf
  have hl := lv_entry ([.ref xo, .int (nI j), .int y]) (n := 4) (Nat.le_of_ble_eq_true rfl)
  rw [hargs, lg_entry_eq, ← hargs]
  generalize (lg_sl ([.ref xo, .int (nI j), .int y]) ++ List.replicate (4 - (lg_sl ([.ref xo, .int (nI j), .int y])).length) Slot.unset).toArray = ls at hl ⊢
  have hl : lv_has ls 4 [(0, .ref xo), (1, .int (nI j)), (2, .int y)] := hl
  obtain ⟨o1, o2, o3, o4, o5, o6, o7, o8, o9, o10, o11⟩ := id hz
  refine lv_aload_n hx hb dX4_sellTicket_0 rfl (lv_at hl 0 rfl) ?_
  refine lv_iload_n hx hb dX4_sellTicket_1 rfl (lv_at hl 1 rfl) ?_
  have hPc := hP.sub (ws' := [(xo, .inr (3, [.ref pk, .ref pk_])), (pk, .inr (0, [.ref h, .ref kk, .int (nI (zdy z)), .int (nI (zgu z)), .int (zpu z)])), (h, .inr (1, [.ref a0, .ref a1, .ref a2, .ref a3, .ref a4, .ref a5, .int (nI (zn z))])), (a0, .inl (cA, 10, .inl (fun j9 => nI ((zwa z) j9)))), (a1, .inl (cA, 10, .inl (fun j9 => nI ((ziv z) j9)))), (a2, .inl (cA, 10, .inl (fun j9 => nI ((zgh z) j9)))), (a3, .inl (cA, 10, .inl (fun j9 => nI ((zpr z) j9)))), (a4, .inl (cA, 10, .inl me)), (a5, .inl (cA, 10, .inl rk)), (kk, .inr (2, [.ref c0, .ref c1, .ref c2, .ref c3, .int (nI (ztn z))])), (c0, .inl (cA, 30, .inl (fun j9 => nI ((ztr z) j9)))), (c1, .inl (cA, 30, .inl (fun j9 => nI ((ztd z) j9)))), (c2, .inl (cA, 30, .inl (fun j9 => nI ((ztp z) j9)))), (c3, .inl (cA, 30, .inl (fun j9 => nI ((ztf z) j9))))]) [0, 1, 2, 3, 4, 5, 6, 7, 8, 9, 10, 11, 12, 13] rfl
  refine va_csv (W.runV (As := [.int (nI j)]) (rest := []) ⟨hx, hb, hml, hown, hts⟩ (c_X4_requireRuin l dC dI cA xo pk_ pk h a0 a1 a2 a3 a4 a5 kk c0 c1 c2 c3 z me rk j (by first | assumption | omega) (by first | assumption | omega) (by first | assumption | omega)) (cwV 1 hts gX4_sellTicket_X4_requireRuin rfl rfl rfl (by decide +kernel) ⟨Nat.le_of_ble_eq_true rfl, Nat.le_of_ble_eq_true rfl⟩) ⟨fun a U g mk q => by obtain ⟨q0, qP, qK⟩ := q; exact ⟨q0, qP, va_K.moved (u := U) (U := U.calling g mk a) (Vm.Alike.refl U.vm) qK⟩, va_recv hK hP (ci := 3) (q0 := 0) rfl rfl, fun U hU hW => ⟨rfl, by rw [hU]; exact hPc, va_K.moved hW.alike hK⟩⟩ rfl rfl hl.1 rfl (lv_room (Nat.le_of_ble_eq_true rfl)) dX4_sellTicket_2 ⟨Nat.le_of_ble_eq_true rfl, Nat.le_of_ble_eq_true rfl⟩) (fun hw_1 => ?_)
  refine lv_iload_n hx hb dX4_sellTicket_5 rfl (lv_at hl 2 rfl) ?_
  refine lv_iconst (v := nI 0) hx hb dX4_sellTicket_6 (by decide) ?_
  refine lv_bipush (v := nI 30) hx hb dX4_sellTicket_7 (by decide) ?_
  refine vp_callSi (W.runS (As := [.int y,.int (nI 0),.int (nI 30)]) (rest := []) ⟨hx, hb, hml, hown, hts⟩ (c_X4_isWithin l dC dI cA y (nI 0) (nI 30) ) (va_cwS 3 hts gX4_sellTicket_X4_isWithin rfl rfl rfl (by decide +kernel) ⟨Nat.le_of_ble_eq_true rfl, Nat.le_of_ble_eq_true rfl⟩) ⟨fun _ _ _ _ q => q, fun U hU hW => ⟨rfl, trivial⟩⟩ rfl rfl hl.1 rfl (lv_room (Nat.le_of_ble_eq_true rfl)) dX4_sellTicket_9 ⟨Nat.le_of_ble_eq_true rfl, Nat.le_of_ble_eq_true rfl⟩) (fun r_2 hw_2 => ?_)
  subst hw_2
  refine lv_if_ne (tgt := 25) hx hb dX4_sellTicket_12 (by decide) (fun c_3 => ?_) (fun c_3 => ?_)
  · skip
    replace c_3 := mt (zz_eq0 (by first | omega | (have := zin_le y (nI 0) (nI 30); omega))).mpr c_3
    exfalso; exact c_3 hx9
  · skip
    replace c_3 := (zz_eq0 (by first | omega | (have := zin_le y (nI 0) (nI 30); omega))).mp c_3
    obtain ⟨sa4, hstr4⟩ := hV.1.2.2.2.2.2.2.2.1
    exact vx_throwS (own := RX4) (cls := "java/lang/IllegalArgumentException") (text := "days is not 0 to 30") (names := ["java/lang/RuntimeException", "java/lang/Exception"]) (ic := 27) hx hb hlt hown rfl (by decide +kernel) (hts (.classLink RX4 23 "java/lang/IllegalArgumentException") (List.mem_of_getElem? (i := 1) rfl)) (hts (.initialized "java/lang/IllegalArgumentException") (List.mem_of_getElem? (i := 2) rfl)) hstr4 (vx_hat (B := zBiae) (fun w h => hts w (by first | exact List.mem_cons_of_mem _ (List.mem_append_right _ h) | exact List.mem_cons_of_mem _ (List.mem_append_left _ (List.mem_append_right _ h)) | exact List.mem_cons_of_mem _ (List.mem_append_left _ (List.mem_append_left _ (List.mem_append_right _ h))))) (by decide +kernel) (zVm.iae hV)) (by decide +kernel) hZ.1 hZ.2 hS (hl.1.trans hml.symm) dX4_sellTicket_15 dX4_sellTicket_18 dX4_sellTicket_19 dX4_sellTicket_21 dX4_sellTicket_24 (fun x hx => (hnt x hx).elim) (Nat.le_of_ble_eq_true rfl) (Nat.le_of_ble_eq_true rfl) (Nat.le_of_ble_eq_true rfl) (Nat.le_of_ble_eq_true rfl) hlocks (fun t hvm hsz9 hk9 => ⟨(), trivial, rfl, hsz9, fun q h1 _ => hk9 q h1⟩) (fun _ h => nomatch h) (Nat.le_refl _) (Nat.le_refl _)
set_option maxHeartbeats 4000000 in
set_option maxRecDepth 100000 in
theorem x_X4_setGuests (l : Launch) (dC : Nat → ClassId) (dI : Nat → Nat → Nat) (cA : ClassId) (xo : Nat) (pk_ : Nat) (pk : Nat) (h : Nat) (a0 : Nat) (a1 : Nat) (a2 : Nat) (a3 : Nat) (a4 : Nat) (a5 : Nat) (kk : Nat) (c0 : Nat) (c1 : Nat) (c2 : Nat) (c3 : Nat) (z : ZS) (me : Nat → Int32) (rk : Nat → Int32) (x : Int32) (hlt : l.stackTraces = false) (sz : Nat) (hz : zok z) (hdz : zdy z ≤ 40000) (hx9 : zin x (nI 0) (nI 40) = 0) : vx_Met l yX4_setGuests wsX4_setGuests ({ frames := 6, cells := 1, slots := 6, locals := 90 } : Room) (va_Pc [.ref xo, .int x] (fun U => U.heap.size = sz ∧ va_P (dC, dI) vwCl [(xo, .inr (3, [.ref pk, .ref pk_])), (pk, .inr (0, [.ref h, .ref kk, .int (nI (zdy z)), .int (nI (zgu z)), .int (zpu z)])), (h, .inr (1, [.ref a0, .ref a1, .ref a2, .ref a3, .ref a4, .ref a5, .int (nI (zn z))])), (a0, .inl (cA, 10, .inl (fun j9 => nI ((zwa z) j9)))), (a1, .inl (cA, 10, .inl (fun j9 => nI ((ziv z) j9)))), (a2, .inl (cA, 10, .inl (fun j9 => nI ((zgh z) j9)))), (a3, .inl (cA, 10, .inl (fun j9 => nI ((zpr z) j9)))), (a4, .inl (cA, 10, .inl me)), (a5, .inl (cA, 10, .inl rk)), (kk, .inr (2, [.ref c0, .ref c1, .ref c2, .ref c3, .int (nI (ztn z))])), (c0, .inl (cA, 30, .inl (fun j9 => nI ((ztr z) j9)))), (c1, .inl (cA, 30, .inl (fun j9 => nI ((ztd z) j9)))), (c2, .inl (cA, 30, .inl (fun j9 => nI ((ztp z) j9)))), (c3, .inl (cA, 30, .inl (fun j9 => nI ((ztf z) j9))))] U.heap ∧ va_K (dC, dI) vwCl [(cA, .int)] U ∧ zVm U ∧ zSt (fun q => sz ≤ q) U)) (va_Qi (fun (_ : Int32) (_ : Unit) => False) (fun _ _ => True) (fun q => sz ≤ q)) (vx_X (fun _ : Unit => True) (fun E _ _ => E = "java/lang/IllegalArgumentException") (fun q => sz ≤ q)) 1 6 (fun q => sz ≤ q) := by
  refine vx_ofW (cc := cX4_setGuests) (maxL := 3) (ret := (some .int)) (by decide) rfl ?_
  intro p e s m args below meth c s₁ B hml hnt hv
  obtain ⟨hargs, hsz, hP, hK, hV, hZ⟩ := hv
  have hx := B.exec
  have hb := B.bytes
  have hr := B.returns
  have hts := atoms_spec (ws := wsX4_setGuests) B.pre
  have hown : s.vm.findClass RX4 = some m.cls := findClass_of_methodNamed B.named
  have hlocks := B.notSynchronized
  subst hsz
  have hS : va_S (fun q => s.heap.size ≤ q) s.heap s.heap [] := va_S.rf
  have hl := lv_entry ([.ref xo, .int x]) (n := 3) (Nat.le_of_ble_eq_true rfl)
  rw [hargs, lg_entry_eq, ← hargs]
  generalize (lg_sl ([.ref xo, .int x]) ++ List.replicate (3 - (lg_sl ([.ref xo, .int x])).length) Slot.unset).toArray = ls at hl ⊢
  have hl : lv_has ls 3 [(0, .ref xo), (1, .int x)] := hl
  obtain ⟨o1, o2, o3, o4, o5, o6, o7, o8, o9, o10, o11⟩ := id hz
  refine lv_iload_n hx hb dX4_setGuests_0 rfl (lv_at hl 1 rfl) ?_
  refine lv_iconst (v := nI 0) hx hb dX4_setGuests_1 (by decide) ?_
  refine lv_bipush (v := nI 40) hx hb dX4_setGuests_2 (by decide) ?_
  refine vp_callSi (W.runS (As := [.int x,.int (nI 0),.int (nI 40)]) (rest := []) ⟨hx, hb, hml, hown, hts⟩ (c_X4_isWithin l dC dI cA x (nI 0) (nI 40) ) (va_cwS 3 hts gX4_setGuests_X4_isWithin rfl rfl rfl (by decide +kernel) ⟨Nat.le_of_ble_eq_true rfl, Nat.le_of_ble_eq_true rfl⟩) ⟨fun _ _ _ _ q => q, fun U hU hW => ⟨rfl, trivial⟩⟩ rfl rfl hl.1 rfl (lv_room (Nat.le_of_ble_eq_true rfl)) dX4_setGuests_4 ⟨Nat.le_of_ble_eq_true rfl, Nat.le_of_ble_eq_true rfl⟩) (fun r_1 hw_1 => ?_)
  subst hw_1
  refine lv_if_ne (tgt := 20) hx hb dX4_setGuests_7 (by decide) (fun c_2 => ?_) (fun c_2 => ?_)
  · skip
    replace c_2 := mt (zz_eq0 (by first | omega | (have := zin_le x (nI 0) (nI 40); omega))).mpr c_2
    exfalso; exact c_2 hx9
  · skip
    replace c_2 := (zz_eq0 (by first | omega | (have := zin_le x (nI 0) (nI 40); omega))).mp c_2
    obtain ⟨sa3, hstr3⟩ := hV.1.2.2.2.2.2.2.1
    exact vx_throwS (own := RX4) (cls := "java/lang/IllegalArgumentException") (text := "guests is not 0 to 40") (names := ["java/lang/RuntimeException", "java/lang/Exception"]) (ic := 27) hx hb hlt hown rfl (by decide +kernel) (hts (.classLink RX4 23 "java/lang/IllegalArgumentException") (List.mem_of_getElem? (i := 1) rfl)) (hts (.initialized "java/lang/IllegalArgumentException") (List.mem_of_getElem? (i := 2) rfl)) hstr3 (vx_hat (B := zBiae) (fun w h => hts w (by first | exact List.mem_cons_of_mem _ (List.mem_append_right _ h) | exact List.mem_cons_of_mem _ (List.mem_append_left _ (List.mem_append_right _ h)) | exact List.mem_cons_of_mem _ (List.mem_append_left _ (List.mem_append_left _ (List.mem_append_right _ h))))) (by decide +kernel) (zVm.iae hV)) (by decide +kernel) hZ.1 hZ.2 hS (hl.1.trans hml.symm) dX4_setGuests_10 dX4_setGuests_13 dX4_setGuests_14 dX4_setGuests_16 dX4_setGuests_19 (fun x hx => (hnt x hx).elim) (Nat.le_of_ble_eq_true rfl) (Nat.le_of_ble_eq_true rfl) (Nat.le_of_ble_eq_true rfl) (Nat.le_of_ble_eq_true rfl) hlocks (fun t hvm hsz9 hk9 => ⟨(), trivial, rfl, hsz9, fun q h1 _ => hk9 q h1⟩) (fun _ h => nomatch h) (Nat.le_refl _) (Nat.le_refl _)
set_option maxHeartbeats 4000000 in
set_option maxRecDepth 100000 in
theorem x_X4_pass (l : Launch) (dC : Nat → ClassId) (dI : Nat → Nat → Nat) (cA : ClassId) (xo : Nat) (pk_ : Nat) (pk : Nat) (h : Nat) (a0 : Nat) (a1 : Nat) (a2 : Nat) (a3 : Nat) (a4 : Nat) (a5 : Nat) (kk : Nat) (c0 : Nat) (c1 : Nat) (c2 : Nat) (c3 : Nat) (z : ZS) (me : Nat → Int32) (rk : Nat → Int32) (x : Int32) (hlt : l.stackTraces = false) (sz : Nat) (hz : zok z) (hdz : zdy z ≤ 40000) (hx9 : zin x (nI 1) (nI 60) = 0) : vx_Met l yX4_pass wsX4_pass ({ frames := 7, cells := 1, slots := 6, locals := 133 } : Room) (va_Pc [.ref xo, .int x] (fun U => U.heap.size = sz ∧ va_P (dC, dI) vwCl [(xo, .inr (3, [.ref pk, .ref pk_])), (pk, .inr (0, [.ref h, .ref kk, .int (nI (zdy z)), .int (nI (zgu z)), .int (zpu z)])), (h, .inr (1, [.ref a0, .ref a1, .ref a2, .ref a3, .ref a4, .ref a5, .int (nI (zn z))])), (a0, .inl (cA, 10, .inl (fun j9 => nI ((zwa z) j9)))), (a1, .inl (cA, 10, .inl (fun j9 => nI ((ziv z) j9)))), (a2, .inl (cA, 10, .inl (fun j9 => nI ((zgh z) j9)))), (a3, .inl (cA, 10, .inl (fun j9 => nI ((zpr z) j9)))), (a4, .inl (cA, 10, .inl me)), (a5, .inl (cA, 10, .inl rk)), (kk, .inr (2, [.ref c0, .ref c1, .ref c2, .ref c3, .int (nI (ztn z))])), (c0, .inl (cA, 30, .inl (fun j9 => nI ((ztr z) j9)))), (c1, .inl (cA, 30, .inl (fun j9 => nI ((ztd z) j9)))), (c2, .inl (cA, 30, .inl (fun j9 => nI ((ztp z) j9)))), (c3, .inl (cA, 30, .inl (fun j9 => nI ((ztf z) j9))))] U.heap ∧ va_K (dC, dI) vwCl [(cA, .int)] U ∧ zVm U ∧ zSt (fun q => sz ≤ q) U)) (va_Qi (fun (_ : Int32) (_ : Unit) => False) (fun _ _ => True) (fun q => sz ≤ q)) (vx_X (fun _ : Unit => True) (fun E _ _ => E = "java/lang/IllegalArgumentException") (fun q => sz ≤ q)) 1 6 (fun q => sz ≤ q) := by
  refine vx_ofW (cc := cX4_pass) (maxL := 3) (ret := (some .int)) (by decide) rfl ?_
  intro p e s m args below meth c s₁ B hml hnt hv
  obtain ⟨hargs, hsz, hP, hK, hV, hZ⟩ := hv
  have hx := B.exec
  have hb := B.bytes
  have hr := B.returns
  have hts := atoms_spec (ws := wsX4_pass) B.pre
  have hown : s.vm.findClass RX4 = some m.cls := findClass_of_methodNamed B.named
  have hlocks := B.notSynchronized
  subst hsz
  have hS : va_S (fun q => s.heap.size ≤ q) s.heap s.heap [] := va_S.rf
  have hl := lv_entry ([.ref xo, .int x]) (n := 3) (Nat.le_of_ble_eq_true rfl)
  rw [hargs, lg_entry_eq, ← hargs]
  generalize (lg_sl ([.ref xo, .int x]) ++ List.replicate (3 - (lg_sl ([.ref xo, .int x])).length) Slot.unset).toArray = ls at hl ⊢
  have hl : lv_has ls 3 [(0, .ref xo), (1, .int x)] := hl
  obtain ⟨o1, o2, o3, o4, o5, o6, o7, o8, o9, o10, o11⟩ := id hz
  refine lv_iload_n hx hb dX4_pass_0 rfl (lv_at hl 1 rfl) ?_
  have hPc := hP.sub (ws' := []) [] rfl
  exact vx_callv (vx_runS (As := [.int x]) (rest := []) ⟨hx, hb, hml, hown, hts⟩ (x_X4_requireDaysToPass l dC dI cA x hlt s.heap.size (by first | assumption | omega)) (va_cwS 1 hts gX4_pass_X4_requireDaysToPass rfl rfl rfl (by decide +kernel) ⟨Nat.le_of_ble_eq_true rfl, Nat.le_of_ble_eq_true rfl⟩) ⟨fun a U g mk q => by obtain ⟨q0, q1, qP, qK, qV, qZ⟩ := q; exact ⟨q0, q1, qP, va_K.moved (u := U) (U := U.calling g mk a) (Vm.Alike.refl U.vm) qK, zVm.same (u := U) (U := U.calling g mk a) rfl qV, zSt.same (u := U) (U := U.calling g mk a) rfl rfl qZ⟩, fun U hU hW => ⟨rfl, by rw [hU], by rw [hU]; exact hPc, va_K.moved hW.alike hK, zVm.moved hW hV, zSt.moved hW hU hZ⟩⟩ rfl rfl hl.1 rfl (lv_room (Nat.le_of_ble_eq_true rfl)) dX4_pass_1 ⟨Nat.le_of_ble_eq_true rfl, Nat.le_of_ble_eq_true rfl⟩) hS (fun _ h1 h2 => absurd h2 (Nat.not_le.mpr h1)) (fun _ h => h) (fun _ h1 h2 => absurd h2 (Nat.not_le.mpr h1)) (fun E ce q9 u t H1 locs1 ht hvm hp hB hz hk hS1 hce hcv hcl => vx_out (fun x hx => (hnt x hx).elim) hlocks hce hcv hcl (fun t9 ht9 hv9 => ⟨(), trivial, hB, hS1.F ht9⟩) hS1.2.2 (Nat.le_refl _) (Nat.le_refl _)) (fun u t H1 locs1 ht hvm hw => hw.elim)
set_option maxHeartbeats 4000000 in
set_option maxRecDepth 100000 in
theorem x_X4_purseIn (l : Launch) (dC : Nat → ClassId) (dI : Nat → Nat → Nat) (cA : ClassId) (xo : Nat) (pk_ : Nat) (pk : Nat) (h : Nat) (a0 : Nat) (a1 : Nat) (a2 : Nat) (a3 : Nat) (a4 : Nat) (a5 : Nat) (kk : Nat) (c0 : Nat) (c1 : Nat) (c2 : Nat) (c3 : Nat) (z : ZS) (me : Nat → Int32) (rk : Nat → Int32) (x : Int32) (hlt : l.stackTraces = false) (sz : Nat) (hz : zok z) (hdz : zdy z ≤ 40000) (hx9 : zin x (nI 1) (nI 60) = 0) : vx_Met l yX4_purseIn wsX4_purseIn ({ frames := 7, cells := 1, slots := 6, locals := 133 } : Room) (va_Pc [.ref xo, .int x] (fun U => U.heap.size = sz ∧ va_P (dC, dI) vwCl [(xo, .inr (3, [.ref pk, .ref pk_])), (pk, .inr (0, [.ref h, .ref kk, .int (nI (zdy z)), .int (nI (zgu z)), .int (zpu z)])), (h, .inr (1, [.ref a0, .ref a1, .ref a2, .ref a3, .ref a4, .ref a5, .int (nI (zn z))])), (a0, .inl (cA, 10, .inl (fun j9 => nI ((zwa z) j9)))), (a1, .inl (cA, 10, .inl (fun j9 => nI ((ziv z) j9)))), (a2, .inl (cA, 10, .inl (fun j9 => nI ((zgh z) j9)))), (a3, .inl (cA, 10, .inl (fun j9 => nI ((zpr z) j9)))), (a4, .inl (cA, 10, .inl me)), (a5, .inl (cA, 10, .inl rk)), (kk, .inr (2, [.ref c0, .ref c1, .ref c2, .ref c3, .int (nI (ztn z))])), (c0, .inl (cA, 30, .inl (fun j9 => nI ((ztr z) j9)))), (c1, .inl (cA, 30, .inl (fun j9 => nI ((ztd z) j9)))), (c2, .inl (cA, 30, .inl (fun j9 => nI ((ztp z) j9)))), (c3, .inl (cA, 30, .inl (fun j9 => nI ((ztf z) j9))))] U.heap ∧ va_K (dC, dI) vwCl [(cA, .int)] U ∧ zVm U ∧ zSt (fun q => sz ≤ q) U)) (va_Qi (fun (_ : Int32) (_ : Unit) => False) (fun _ _ => True) (fun q => sz ≤ q)) (vx_X (fun _ : Unit => True) (fun E _ _ => E = "java/lang/IllegalArgumentException") (fun q => sz ≤ q)) 1 6 (fun q => sz ≤ q) := by
  refine vx_ofW (cc := cX4_purseIn) (maxL := 2) (ret := (some .int)) (by decide) rfl ?_
  intro p e s m args below meth c s₁ B hml hnt hv
  obtain ⟨hargs, hsz, hP, hK, hV, hZ⟩ := hv
  have hx := B.exec
  have hb := B.bytes
  have hr := B.returns
  have hts := atoms_spec (ws := wsX4_purseIn) B.pre
  have hown : s.vm.findClass RX4 = some m.cls := findClass_of_methodNamed B.named
  have hlocks := B.notSynchronized
  subst hsz
  have hS : va_S (fun q => s.heap.size ≤ q) s.heap s.heap [] := va_S.rf
  have hl := lv_entry ([.ref xo, .int x]) (n := 2) (Nat.le_of_ble_eq_true rfl)
  rw [hargs, lg_entry_eq, ← hargs]
  generalize (lg_sl ([.ref xo, .int x]) ++ List.replicate (2 - (lg_sl ([.ref xo, .int x])).length) Slot.unset).toArray = ls at hl ⊢
  have hl : lv_has ls 2 [(0, .ref xo), (1, .int x)] := hl
  obtain ⟨o1, o2, o3, o4, o5, o6, o7, o8, o9, o10, o11⟩ := id hz
  refine lv_iload_n hx hb dX4_purseIn_0 rfl (lv_at hl 1 rfl) ?_
  have hPc := hP.sub (ws' := []) [] rfl
  exact vx_callv (vx_runS (As := [.int x]) (rest := []) ⟨hx, hb, hml, hown, hts⟩ (x_X4_requireDaysToPass l dC dI cA x hlt s.heap.size (by first | assumption | omega)) (va_cwS 1 hts gX4_purseIn_X4_requireDaysToPass rfl rfl rfl (by decide +kernel) ⟨Nat.le_of_ble_eq_true rfl, Nat.le_of_ble_eq_true rfl⟩) ⟨fun a U g mk q => by obtain ⟨q0, q1, qP, qK, qV, qZ⟩ := q; exact ⟨q0, q1, qP, va_K.moved (u := U) (U := U.calling g mk a) (Vm.Alike.refl U.vm) qK, zVm.same (u := U) (U := U.calling g mk a) rfl qV, zSt.same (u := U) (U := U.calling g mk a) rfl rfl qZ⟩, fun U hU hW => ⟨rfl, by rw [hU], by rw [hU]; exact hPc, va_K.moved hW.alike hK, zVm.moved hW hV, zSt.moved hW hU hZ⟩⟩ rfl rfl hl.1 rfl (lv_room (Nat.le_of_ble_eq_true rfl)) dX4_purseIn_1 ⟨Nat.le_of_ble_eq_true rfl, Nat.le_of_ble_eq_true rfl⟩) hS (fun _ h1 h2 => absurd h2 (Nat.not_le.mpr h1)) (fun _ h => h) (fun _ h1 h2 => absurd h2 (Nat.not_le.mpr h1)) (fun E ce q9 u t H1 locs1 ht hvm hp hB hz hk hS1 hce hcv hcl => vx_out (fun x hx => (hnt x hx).elim) hlocks hce hcv hcl (fun t9 ht9 hv9 => ⟨(), trivial, hB, hS1.F ht9⟩) hS1.2.2 (Nat.le_refl _) (Nat.le_refl _)) (fun u t H1 locs1 ht hvm hw => hw.elim)
set_option maxHeartbeats 4000000 in
set_option maxRecDepth 100000 in
theorem x_X4_viewIn2 (l : Launch) (dC : Nat → ClassId) (dI : Nat → Nat → Nat) (cA : ClassId) (xo : Nat) (pk_ : Nat) (pk : Nat) (h : Nat) (a0 : Nat) (a1 : Nat) (a2 : Nat) (a3 : Nat) (a4 : Nat) (a5 : Nat) (kk : Nat) (c0 : Nat) (c1 : Nat) (c2 : Nat) (c3 : Nat) (z : ZS) (me : Nat → Int32) (rk : Nat → Int32) (j : Nat) (y : Int32) (hlt : l.stackTraces = false) (sz : Nat) (hz : zok z) (hdz : zdy z ≤ 40000) (hj : j < zn z) (hx9 : zin y (nI 1) (nI 60) = 0) : vx_Met l yX4_viewIn wsX4_viewIn ({ frames := 7, cells := 1, slots := 6, locals := 111 } : Room) (va_Pc [.ref xo, .int (nI j), .int y] (fun U => U.heap.size = sz ∧ va_P (dC, dI) vwCl [(xo, .inr (3, [.ref pk, .ref pk_])), (pk, .inr (0, [.ref h, .ref kk, .int (nI (zdy z)), .int (nI (zgu z)), .int (zpu z)])), (h, .inr (1, [.ref a0, .ref a1, .ref a2, .ref a3, .ref a4, .ref a5, .int (nI (zn z))])), (a0, .inl (cA, 10, .inl (fun j9 => nI ((zwa z) j9)))), (a1, .inl (cA, 10, .inl (fun j9 => nI ((ziv z) j9)))), (a2, .inl (cA, 10, .inl (fun j9 => nI ((zgh z) j9)))), (a3, .inl (cA, 10, .inl (fun j9 => nI ((zpr z) j9)))), (a4, .inl (cA, 10, .inl me)), (a5, .inl (cA, 10, .inl rk)), (kk, .inr (2, [.ref c0, .ref c1, .ref c2, .ref c3, .int (nI (ztn z))])), (c0, .inl (cA, 30, .inl (fun j9 => nI ((ztr z) j9)))), (c1, .inl (cA, 30, .inl (fun j9 => nI ((ztd z) j9)))), (c2, .inl (cA, 30, .inl (fun j9 => nI ((ztp z) j9)))), (c3, .inl (cA, 30, .inl (fun j9 => nI ((ztf z) j9))))] U.heap ∧ va_K (dC, dI) vwCl [(cA, .int)] U ∧ zVm U ∧ zSt (fun q => sz ≤ q) U)) (va_Qi (fun (_ : Int32) (_ : Unit) => False) (fun _ _ => True) (fun q => sz ≤ q)) (vx_X (fun _ : Unit => True) (fun E _ _ => E = "java/lang/IllegalArgumentException") (fun q => sz ≤ q)) 1 6 (fun q => sz ≤ q) := by
  refine vx_ofW (cc := cX4_viewIn) (maxL := 3) (ret := (some .int)) (by decide) rfl ?_
  intro p e s m args below meth c s₁ B hml hnt hv
  obtain ⟨hargs, hsz, hP, hK, hV, hZ⟩ := hv
  have hx := B.exec
  have hb := B.bytes
  have hr := B.returns
  have hts := atoms_spec (ws := wsX4_viewIn) B.pre
  have hown : s.vm.findClass RX4 = some m.cls := findClass_of_methodNamed B.named
  have hlocks := B.notSynchronized
  subst hsz
  have hS : va_S (fun q => s.heap.size ≤ q) s.heap s.heap [] := va_S.rf
  have hl := lv_entry ([.ref xo, .int (nI j), .int y]) (n := 3) (Nat.le_of_ble_eq_true rfl)
  rw [hargs, lg_entry_eq, ← hargs]
  generalize (lg_sl ([.ref xo, .int (nI j), .int y]) ++ List.replicate (3 - (lg_sl ([.ref xo, .int (nI j), .int y])).length) Slot.unset).toArray = ls at hl ⊢
  have hl : lv_has ls 3 [(0, .ref xo), (1, .int (nI j)), (2, .int y)] := hl
  obtain ⟨o1, o2, o3, o4, o5, o6, o7, o8, o9, o10, o11⟩ := id hz
  refine lv_aload_n hx hb dX4_viewIn_0 rfl (lv_at hl 0 rfl) ?_
  refine lv_iload_n hx hb dX4_viewIn_1 rfl (lv_at hl 1 rfl) ?_
  have hPc := hP.sub (ws' := [(xo, .inr (3, [.ref pk, .ref pk_])), (pk, .inr (0, [.ref h, .ref kk, .int (nI (zdy z)), .int (nI (zgu z)), .int (zpu z)])), (h, .inr (1, [.ref a0, .ref a1, .ref a2, .ref a3, .ref a4, .ref a5, .int (nI (zn z))])), (a0, .inl (cA, 10, .inl (fun j9 => nI ((zwa z) j9)))), (a1, .inl (cA, 10, .inl (fun j9 => nI ((ziv z) j9)))), (a2, .inl (cA, 10, .inl (fun j9 => nI ((zgh z) j9)))), (a3, .inl (cA, 10, .inl (fun j9 => nI ((zpr z) j9)))), (a4, .inl (cA, 10, .inl me)), (a5, .inl (cA, 10, .inl rk)), (kk, .inr (2, [.ref c0, .ref c1, .ref c2, .ref c3, .int (nI (ztn z))])), (c0, .inl (cA, 30, .inl (fun j9 => nI ((ztr z) j9)))), (c1, .inl (cA, 30, .inl (fun j9 => nI ((ztd z) j9)))), (c2, .inl (cA, 30, .inl (fun j9 => nI ((ztp z) j9)))), (c3, .inl (cA, 30, .inl (fun j9 => nI ((ztf z) j9))))]) [0, 1, 2, 3, 4, 5, 6, 7, 8, 9, 10, 11, 12, 13] rfl
  refine va_csv (W.runV (As := [.int (nI j)]) (rest := []) ⟨hx, hb, hml, hown, hts⟩ (c_X4_requireRuin l dC dI cA xo pk_ pk h a0 a1 a2 a3 a4 a5 kk c0 c1 c2 c3 z me rk j (by first | assumption | omega) (by first | assumption | omega) (by first | assumption | omega)) (cwV 1 hts gX4_viewIn_X4_requireRuin rfl rfl rfl (by decide +kernel) ⟨Nat.le_of_ble_eq_true rfl, Nat.le_of_ble_eq_true rfl⟩) ⟨fun a U g mk q => by obtain ⟨q0, qP, qK⟩ := q; exact ⟨q0, qP, va_K.moved (u := U) (U := U.calling g mk a) (Vm.Alike.refl U.vm) qK⟩, va_recv hK hP (ci := 3) (q0 := 0) rfl rfl, fun U hU hW => ⟨rfl, by rw [hU]; exact hPc, va_K.moved hW.alike hK⟩⟩ rfl rfl hl.1 rfl (lv_room (Nat.le_of_ble_eq_true rfl)) dX4_viewIn_2 ⟨Nat.le_of_ble_eq_true rfl, Nat.le_of_ble_eq_true rfl⟩) (fun hw_1 => ?_)
  refine lv_iload_n hx hb dX4_viewIn_5 rfl (lv_at hl 2 rfl) ?_
  have hPc := hP.sub (ws' := []) [] rfl
  exact vx_callv (vx_runS (As := [.int y]) (rest := []) ⟨hx, hb, hml, hown, hts⟩ (x_X4_requireDaysToPass l dC dI cA y hlt s.heap.size (by first | assumption | omega)) (va_cwS 1 hts gX4_viewIn_X4_requireDaysToPass rfl rfl rfl (by decide +kernel) ⟨Nat.le_of_ble_eq_true rfl, Nat.le_of_ble_eq_true rfl⟩) ⟨fun a U g mk q => by obtain ⟨q0, q1, qP, qK, qV, qZ⟩ := q; exact ⟨q0, q1, qP, va_K.moved (u := U) (U := U.calling g mk a) (Vm.Alike.refl U.vm) qK, zVm.same (u := U) (U := U.calling g mk a) rfl qV, zSt.same (u := U) (U := U.calling g mk a) rfl rfl qZ⟩, fun U hU hW => ⟨rfl, by rw [hU], by rw [hU]; exact hPc, va_K.moved hW.alike hK, zVm.moved hW hV, zSt.moved hW hU hZ⟩⟩ rfl rfl hl.1 rfl (lv_room (Nat.le_of_ble_eq_true rfl)) dX4_viewIn_6 ⟨Nat.le_of_ble_eq_true rfl, Nat.le_of_ble_eq_true rfl⟩) hS (fun _ h1 h2 => absurd h2 (Nat.not_le.mpr h1)) (fun _ h => h) (fun _ h1 h2 => absurd h2 (Nat.not_le.mpr h1)) (fun E ce q9 u t H1 locs1 ht hvm hp hB hz hk hS1 hce hcv hcl => vx_out (fun x hx => (hnt x hx).elim) hlocks hce hcv hcl (fun t9 ht9 hv9 => ⟨(), trivial, hB, hS1.F ht9⟩) hS1.2.2 (Nat.le_refl _) (Nat.le_refl _)) (fun u t H1 locs1 ht hvm hw => hw.elim)
set_option maxHeartbeats 4000000 in
set_option maxRecDepth 100000 in
theorem x_X4_ruinAt (l : Launch) (dC : Nat → ClassId) (dI : Nat → Nat → Nat) (cA : ClassId) (xo : Nat) (pk_ : Nat) (pk : Nat) (h : Nat) (a0 : Nat) (a1 : Nat) (a2 : Nat) (a3 : Nat) (a4 : Nat) (a5 : Nat) (kk : Nat) (c0 : Nat) (c1 : Nat) (c2 : Nat) (c3 : Nat) (z : ZS) (me : Nat → Int32) (rk : Nat → Int32) (x : Int32) (hlt : l.stackTraces = false) (sz : Nat) (hz : zok z) (hdz : zdy z ≤ 40000) (hx9 : zhas x (zcnt (zwa z) (zn z)) = 0) : vx_Met l yX4_ruinAt wsX4_ruinAt ({ frames := 6, cells := 1, slots := 6, locals := 109 } : Room) (va_Pc [.ref xo, .int x] (fun U => U.heap.size = sz ∧ va_P (dC, dI) vwCl [(xo, .inr (3, [.ref pk, .ref pk_])), (pk, .inr (0, [.ref h, .ref kk, .int (nI (zdy z)), .int (nI (zgu z)), .int (zpu z)])), (h, .inr (1, [.ref a0, .ref a1, .ref a2, .ref a3, .ref a4, .ref a5, .int (nI (zn z))])), (a0, .inl (cA, 10, .inl (fun j9 => nI ((zwa z) j9)))), (a1, .inl (cA, 10, .inl (fun j9 => nI ((ziv z) j9)))), (a2, .inl (cA, 10, .inl (fun j9 => nI ((zgh z) j9)))), (a3, .inl (cA, 10, .inl (fun j9 => nI ((zpr z) j9)))), (a4, .inl (cA, 10, .inl me)), (a5, .inl (cA, 10, .inl rk)), (kk, .inr (2, [.ref c0, .ref c1, .ref c2, .ref c3, .int (nI (ztn z))])), (c0, .inl (cA, 30, .inl (fun j9 => nI ((ztr z) j9)))), (c1, .inl (cA, 30, .inl (fun j9 => nI ((ztd z) j9)))), (c2, .inl (cA, 30, .inl (fun j9 => nI ((ztp z) j9)))), (c3, .inl (cA, 30, .inl (fun j9 => nI ((ztf z) j9))))] U.heap ∧ va_K (dC, dI) vwCl [(cA, .int)] U ∧ zVm U ∧ zSt (fun q => sz ≤ q) U)) (va_Qi (fun (_ : Int32) (_ : Unit) => False) (fun _ _ => True) (fun q => sz ≤ q)) (vx_X (fun _ : Unit => True) (fun E _ _ => E = "java/lang/IndexOutOfBoundsException") (fun q => sz ≤ q)) 1 6 (fun q => sz ≤ q) := by
  refine vx_ofW (cc := cX4_ruinAt) (maxL := 2) (ret := (some .int)) (by decide) rfl ?_
  intro p e s m args below meth c s₁ B hml hnt hv
  obtain ⟨hargs, hsz, hP, hK, hV, hZ⟩ := hv
  have hx := B.exec
  have hb := B.bytes
  have hr := B.returns
  have hts := atoms_spec (ws := wsX4_ruinAt) B.pre
  have hown : s.vm.findClass RX4 = some m.cls := findClass_of_methodNamed B.named
  have hlocks := B.notSynchronized
  subst hsz
  have hS : va_S (fun q => s.heap.size ≤ q) s.heap s.heap [] := va_S.rf
  have hl := lv_entry ([.ref xo, .int x]) (n := 2) (Nat.le_of_ble_eq_true rfl)
  rw [hargs, lg_entry_eq, ← hargs]
  generalize (lg_sl ([.ref xo, .int x]) ++ List.replicate (2 - (lg_sl ([.ref xo, .int x])).length) Slot.unset).toArray = ls at hl ⊢
  have hl : lv_has ls 2 [(0, .ref xo), (1, .int x)] := hl
  obtain ⟨o1, o2, o3, o4, o5, o6, o7, o8, o9, o10, o11⟩ := id hz
  have hc9 := zcnt_le (zwa z) (zn z)
  refine lv_iload_n hx hb dX4_ruinAt_0 rfl (lv_at hl 1 rfl) ?_
  refine lv_iconst (v := nI 0) hx hb dX4_ruinAt_1 (by decide) ?_
  refine lv_aload_n hx hb dX4_ruinAt_2 rfl (lv_at hl 0 rfl) ?_
  refine va_get (D := (dC, dI)) (ci := 3) (v := .ref pk) (C := RX4) (T := TX4) (N := 2) hx hb hts i_X4_ruinAt_X4 hown hK hP 0 rfl rfl 0 (by decide) (hts (.fieldLink RX4 10 "RuinViews" "now" "LRuinViews$Park;") (List.mem_of_getElem? (i := 3) rfl)) (fun _ h9 => h9) rfl dX4_ruinAt_3 ?_
  refine va_get (D := (dC, dI)) (ci := 0) (v := .ref h) (C := RX1) (T := TX1) (N := 5) hx hb hts i_X4_ruinAt_X1 hown hK hP 1 rfl rfl 0 (by decide) (hts (.fieldLink RX4 30 "RuinViews$Park" "ruins" "LRuinViews$Ruins;") (List.mem_of_getElem? (i := 4) rfl)) (fun _ h9 => h9) rfl dX4_ruinAt_6 ?_
  have hPc := hP.sub (ws' := [(h, .inr (1, [.ref a0, .ref a1, .ref a2, .ref a3, .ref a4, .ref a5, .int (nI (zn z))])), (a0, .inl (cA, 10, .inl (fun j9 => nI ((zwa z) j9)))), (a1, .inl (cA, 10, .inl (fun j9 => nI ((ziv z) j9)))), (a2, .inl (cA, 10, .inl (fun j9 => nI ((zgh z) j9)))), (a3, .inl (cA, 10, .inl (fun j9 => nI ((zpr z) j9)))), (a4, .inl (cA, 10, .inl me)), (a5, .inl (cA, 10, .inl rk))]) [2, 3, 4, 5, 6, 7, 8] rfl
  refine vp_callSi (W.runV (As := []) (rest := [.int (nI 0), .int x]) ⟨hx, hb, hml, hown, hts⟩ (c_X2_countStanding l dC dI cA h a0 a1 a2 a3 a4 a5 (zn z) (zwa z) (ziv z) (zgh z) (zpr z) me rk (by first | assumption | omega) (by first | assumption | omega)) (cwV 0 hts gX4_ruinAt_X2_countStanding rfl rfl rfl (by decide +kernel) ⟨Nat.le_of_ble_eq_true rfl, Nat.le_of_ble_eq_true rfl⟩) ⟨fun a U g mk q => by obtain ⟨q0, qP, qK⟩ := q; exact ⟨q0, qP, va_K.moved (u := U) (U := U.calling g mk a) (Vm.Alike.refl U.vm) qK⟩, va_recv hK hP (ci := 1) (q0 := 2) rfl rfl, fun U hU hW => ⟨rfl, by rw [hU]; exact hPc, va_K.moved hW.alike hK⟩⟩ rfl rfl hl.1 rfl (lv_room (Nat.le_of_ble_eq_true rfl)) dX4_ruinAt_9 ⟨Nat.le_of_ble_eq_true rfl, Nat.le_of_ble_eq_true rfl⟩) (fun r_1 hw_1 => ?_)
  subst hw_1
  refine lv_iconst (v := nI 1) hx hb dX4_ruinAt_12 (by decide) ?_
  refine lv_isub hx hb dX4_ruinAt_13 ?_
  refine vp_callSi (W.runS (As := [.int x,.int (nI 0),.int ((nI (zcnt (zwa z) (zn z))) - (nI 1))]) (rest := []) ⟨hx, hb, hml, hown, hts⟩ (c_X4_isWithin l dC dI cA x (nI 0) ((nI (zcnt (zwa z) (zn z))) - (nI 1)) ) (va_cwS 3 hts gX4_ruinAt_X4_isWithin rfl rfl rfl (by decide +kernel) ⟨Nat.le_of_ble_eq_true rfl, Nat.le_of_ble_eq_true rfl⟩) ⟨fun _ _ _ _ q => q, fun U hU hW => ⟨rfl, trivial⟩⟩ rfl rfl hl.1 rfl (lv_room (Nat.le_of_ble_eq_true rfl)) dX4_ruinAt_14 ⟨Nat.le_of_ble_eq_true rfl, Nat.le_of_ble_eq_true rfl⟩) (fun r_2 hw_2 => ?_)
  subst hw_2
  refine zz_top (congrArg nI (zin_has (by omega))) ?_
  refine lv_if_ne (tgt := 30) hx hb dX4_ruinAt_17 (by decide) (fun c_3 => ?_) (fun c_3 => ?_)
  · skip
    replace c_3 := mt (zz_eq0 (by first | omega | (have := zhas_le x (zcnt (zwa z) (zn z)); omega))).mpr c_3
    exfalso; exact c_3 hx9
  · skip
    replace c_3 := (zz_eq0 (by first | omega | (have := zhas_le x (zcnt (zwa z) (zn z)); omega))).mp c_3
    obtain ⟨sa4, hstr4⟩ := hV.1.2.2.2.2.2.2.2.2.2.2.1
    exact vx_throwS (own := RX4) (cls := "java/lang/IndexOutOfBoundsException") (text := "rank is not 0 to standing() - 1") (names := ["java/lang/RuntimeException", "java/lang/Exception"]) (ic := 145) hx hb hlt hown rfl (by decide +kernel) (hts (.classLink RX4 141 "java/lang/IndexOutOfBoundsException") (List.mem_of_getElem? (i := 1) rfl)) (hts (.initialized "java/lang/IndexOutOfBoundsException") (List.mem_of_getElem? (i := 2) rfl)) hstr4 (vx_hat (B := zBioe) (fun w h => hts w (by first | exact List.mem_cons_of_mem _ (List.mem_append_right _ h) | exact List.mem_cons_of_mem _ (List.mem_append_left _ (List.mem_append_right _ h)) | exact List.mem_cons_of_mem _ (List.mem_append_left _ (List.mem_append_left _ (List.mem_append_right _ h))))) (by decide +kernel) (zVm.ioe hV)) (by decide +kernel) hZ.1 hZ.2 hS (hl.1.trans hml.symm) dX4_ruinAt_20 dX4_ruinAt_23 dX4_ruinAt_24 dX4_ruinAt_26 dX4_ruinAt_29 (fun x hx => (hnt x hx).elim) (Nat.le_of_ble_eq_true rfl) (Nat.le_of_ble_eq_true rfl) (Nat.le_of_ble_eq_true rfl) (Nat.le_of_ble_eq_true rfl) hlocks (fun t hvm hsz9 hk9 => ⟨(), trivial, rfl, hsz9, fun q h1 _ => hk9 q h1⟩) (fun _ h => nomatch h) (Nat.le_refl _) (Nat.le_refl _)
set_option maxHeartbeats 4000000 in
set_option maxRecDepth 100000 in
theorem x_X4_prop2 (l : Launch) (dC : Nat → ClassId) (dI : Nat → Nat → Nat) (cA : ClassId) (xo : Nat) (pk_ : Nat) (pk : Nat) (h : Nat) (a0 : Nat) (a1 : Nat) (a2 : Nat) (a3 : Nat) (a4 : Nat) (a5 : Nat) (kk : Nat) (c0 : Nat) (c1 : Nat) (c2 : Nat) (c3 : Nat) (z : ZS) (me : Nat → Int32) (rk : Nat → Int32) (j : Nat) (hlt : l.stackTraces = false) (sz : Nat) (hz : zok z) (hdz : zdy z ≤ 40000) (hj : j < zn z) (hx9 : ¬ (0 < zwa z j ∧ zwa z j < 20 ∧ nI 5 ≤ zpu z)) : vx_Met l yX4_prop wsX4_prop ({ frames := 7, cells := 1, slots := 6, locals := 111 } : Room) (va_Pc [.ref xo, .int (nI j)] (fun U => U.heap.size = sz ∧ va_P (dC, dI) vwCl [(xo, .inr (3, [.ref pk, .ref pk_])), (pk, .inr (0, [.ref h, .ref kk, .int (nI (zdy z)), .int (nI (zgu z)), .int (zpu z)])), (h, .inr (1, [.ref a0, .ref a1, .ref a2, .ref a3, .ref a4, .ref a5, .int (nI (zn z))])), (a0, .inl (cA, 10, .inl (fun j9 => nI ((zwa z) j9)))), (a1, .inl (cA, 10, .inl (fun j9 => nI ((ziv z) j9)))), (a2, .inl (cA, 10, .inl (fun j9 => nI ((zgh z) j9)))), (a3, .inl (cA, 10, .inl (fun j9 => nI ((zpr z) j9)))), (a4, .inl (cA, 10, .inl me)), (a5, .inl (cA, 10, .inl rk)), (kk, .inr (2, [.ref c0, .ref c1, .ref c2, .ref c3, .int (nI (ztn z))])), (c0, .inl (cA, 30, .inl (fun j9 => nI ((ztr z) j9)))), (c1, .inl (cA, 30, .inl (fun j9 => nI ((ztd z) j9)))), (c2, .inl (cA, 30, .inl (fun j9 => nI ((ztp z) j9)))), (c3, .inl (cA, 30, .inl (fun j9 => nI ((ztf z) j9))))] U.heap ∧ va_K (dC, dI) vwCl [(cA, .int)] U ∧ zVm U ∧ zSt (fun q => sz ≤ q) U)) (va_Qi (fun (_ : Int32) (_ : Unit) => False) (fun _ _ => True) (fun q => sz ≤ q)) (vx_X (fun _ : Unit => True) (fun E _ _ => E = "java/lang/IllegalStateException") (fun q => sz ≤ q)) 1 6 (fun q => sz ≤ q) := by
  refine vx_ofW (cc := cX4_prop) (maxL := 2) (ret := (some .int)) (by decide) rfl ?_
  intro p e s m args below meth c s₁ B hml hnt hv
  obtain ⟨hargs, hsz, hP, hK, hV, hZ⟩ := hv
  have hx := B.exec
  have hb := B.bytes
  have hr := B.returns
  have hts := atoms_spec (ws := wsX4_prop) B.pre
  have hown : s.vm.findClass RX4 = some m.cls := findClass_of_methodNamed B.named
  have hlocks := B.notSynchronized
  subst hsz
  have hS : va_S (fun q => s.heap.size ≤ q) s.heap s.heap [] := va_S.rf
  have hl := lv_entry ([.ref xo, .int (nI j)]) (n := 2) (Nat.le_of_ble_eq_true rfl)
  rw [hargs, lg_entry_eq, ← hargs]
  generalize (lg_sl ([.ref xo, .int (nI j)]) ++ List.replicate (2 - (lg_sl ([.ref xo, .int (nI j)])).length) Slot.unset).toArray = ls at hl ⊢
  have hl : lv_has ls 2 [(0, .ref xo), (1, .int (nI j))] := hl
  obtain ⟨o1, o2, o3, o4, o5, o6, o7, o8, o9, o10, o11⟩ := id hz
  have hw9 := o4 j
  refine lv_aload_n hx hb dX4_prop_0 rfl (lv_at hl 0 rfl) ?_
  refine lv_iload_n hx hb dX4_prop_1 rfl (lv_at hl 1 rfl) ?_
  have hPc := hP.sub (ws' := [(xo, .inr (3, [.ref pk, .ref pk_])), (pk, .inr (0, [.ref h, .ref kk, .int (nI (zdy z)), .int (nI (zgu z)), .int (zpu z)])), (h, .inr (1, [.ref a0, .ref a1, .ref a2, .ref a3, .ref a4, .ref a5, .int (nI (zn z))])), (a0, .inl (cA, 10, .inl (fun j9 => nI ((zwa z) j9)))), (a1, .inl (cA, 10, .inl (fun j9 => nI ((ziv z) j9)))), (a2, .inl (cA, 10, .inl (fun j9 => nI ((zgh z) j9)))), (a3, .inl (cA, 10, .inl (fun j9 => nI ((zpr z) j9)))), (a4, .inl (cA, 10, .inl me)), (a5, .inl (cA, 10, .inl rk)), (kk, .inr (2, [.ref c0, .ref c1, .ref c2, .ref c3, .int (nI (ztn z))])), (c0, .inl (cA, 30, .inl (fun j9 => nI ((ztr z) j9)))), (c1, .inl (cA, 30, .inl (fun j9 => nI ((ztd z) j9)))), (c2, .inl (cA, 30, .inl (fun j9 => nI ((ztp z) j9)))), (c3, .inl (cA, 30, .inl (fun j9 => nI ((ztf z) j9))))]) [0, 1, 2, 3, 4, 5, 6, 7, 8, 9, 10, 11, 12, 13] rfl
  refine va_csv (W.runV (As := [.int (nI j)]) (rest := []) ⟨hx, hb, hml, hown, hts⟩ (c_X4_requireRuin l dC dI cA xo pk_ pk h a0 a1 a2 a3 a4 a5 kk c0 c1 c2 c3 z me rk j (by first | assumption | omega) (by first | assumption | omega) (by first | assumption | omega)) (cwV 1 hts gX4_prop_X4_requireRuin rfl rfl rfl (by decide +kernel) ⟨Nat.le_of_ble_eq_true rfl, Nat.le_of_ble_eq_true rfl⟩) ⟨fun a U g mk q => by obtain ⟨q0, qP, qK⟩ := q; exact ⟨q0, qP, va_K.moved (u := U) (U := U.calling g mk a) (Vm.Alike.refl U.vm) qK⟩, va_recv hK hP (ci := 3) (q0 := 0) rfl rfl, fun U hU hW => ⟨rfl, by rw [hU]; exact hPc, va_K.moved hW.alike hK⟩⟩ rfl rfl hl.1 rfl (lv_room (Nat.le_of_ble_eq_true rfl)) dX4_prop_2 ⟨Nat.le_of_ble_eq_true rfl, Nat.le_of_ble_eq_true rfl⟩) (fun hw_1 => ?_)
  refine lv_aload_n hx hb dX4_prop_5 rfl (lv_at hl 0 rfl) ?_
  refine va_get (D := (dC, dI)) (ci := 3) (v := .ref pk) (C := RX4) (T := TX4) (N := 2) hx hb hts i_X4_prop_X4 hown hK hP 0 rfl rfl 0 (by decide) (hts (.fieldLink RX4 10 "RuinViews" "now" "LRuinViews$Park;") (List.mem_of_getElem? (i := 3) rfl)) (fun _ h9 => h9) rfl dX4_prop_6 ?_
  refine va_get (D := (dC, dI)) (ci := 0) (v := .ref h) (C := RX1) (T := TX1) (N := 5) hx hb hts i_X4_prop_X1 hown hK hP 1 rfl rfl 0 (by decide) (hts (.fieldLink RX4 30 "RuinViews$Park" "ruins" "LRuinViews$Ruins;") (List.mem_of_getElem? (i := 4) rfl)) (fun _ h9 => h9) rfl dX4_prop_9 ?_
  refine lv_iload_n hx hb dX4_prop_12 rfl (lv_at hl 1 rfl) ?_
  have hPc := hP.sub (ws' := [(h, .inr (1, [.ref a0, .ref a1, .ref a2, .ref a3, .ref a4, .ref a5, .int (nI (zn z))])), (a0, .inl (cA, 10, .inl (fun j9 => nI ((zwa z) j9)))), (a1, .inl (cA, 10, .inl (fun j9 => nI ((ziv z) j9)))), (a2, .inl (cA, 10, .inl (fun j9 => nI ((zgh z) j9)))), (a3, .inl (cA, 10, .inl (fun j9 => nI ((zpr z) j9)))), (a4, .inl (cA, 10, .inl me)), (a5, .inl (cA, 10, .inl rk))]) [2, 3, 4, 5, 6, 7, 8] rfl
  refine vp_callSi (W.runV (As := [.int (nI j)]) (rest := []) ⟨hx, hb, hml, hown, hts⟩ (c_X2_stands l dC dI cA h a0 a1 a2 a3 a4 a5 (zn z) (zwa z) (ziv z) (zgh z) (zpr z) me rk j (by first | assumption | omega) (by first | assumption | omega) (by first | assumption | omega)) (cwV 1 hts gX4_prop_X2_stands rfl rfl rfl (by decide +kernel) ⟨Nat.le_of_ble_eq_true rfl, Nat.le_of_ble_eq_true rfl⟩) ⟨fun a U g mk q => by obtain ⟨q0, qP, qK⟩ := q; exact ⟨q0, qP, va_K.moved (u := U) (U := U.calling g mk a) (Vm.Alike.refl U.vm) qK⟩, va_recv hK hP (ci := 1) (q0 := 2) rfl rfl, fun U hU hW => ⟨rfl, by rw [hU]; exact hPc, va_K.moved hW.alike hK⟩⟩ rfl rfl hl.1 rfl (lv_room (Nat.le_of_ble_eq_true rfl)) dX4_prop_13 ⟨Nat.le_of_ble_eq_true rfl, Nat.le_of_ble_eq_true rfl⟩) (fun r_2 hw_2 => ?_)
  subst hw_2
  refine lv_if_eq (tgt := 47) hx hb dX4_prop_16 (by decide) (fun c_3 => ?_) (fun c_3 => ?_)
  · skip
    replace c_3 := (zz_eq0 (by first | omega | (split <;> omega))).mp c_3
    replace c_3 : ¬ 0 < zwa z j := fun q => by rw [if_pos q] at c_3; first | exact absurd c_3 (by decide) | exact c_3 (by decide)
    obtain ⟨sa4, hstr4⟩ := hV.1.2.2.2.2.1
    exact vx_throwS (own := RX4) (cls := "java/lang/IllegalStateException") (text := "the ruin has collapsed or has 20 walls, or there are too few coins") (names := ["java/lang/RuntimeException", "java/lang/Exception"]) (ic := 44) hx hb hlt hown rfl (by decide +kernel) (hts (.classLink RX4 40 "java/lang/IllegalStateException") (List.mem_of_getElem? (i := 1) rfl)) (hts (.initialized "java/lang/IllegalStateException") (List.mem_of_getElem? (i := 2) rfl)) hstr4 (vx_hat (B := zBise) (fun w h => hts w (by first | exact List.mem_cons_of_mem _ (List.mem_append_right _ h) | exact List.mem_cons_of_mem _ (List.mem_append_left _ (List.mem_append_right _ h)) | exact List.mem_cons_of_mem _ (List.mem_append_left _ (List.mem_append_left _ (List.mem_append_right _ h))))) (by decide +kernel) (zVm.ise hV)) (by decide +kernel) hZ.1 hZ.2 hS (hl.1.trans hml.symm) dX4_prop_47 dX4_prop_50 dX4_prop_51 dX4_prop_53 dX4_prop_56 (fun x hx => (hnt x hx).elim) (Nat.le_of_ble_eq_true rfl) (Nat.le_of_ble_eq_true rfl) (Nat.le_of_ble_eq_true rfl) (Nat.le_of_ble_eq_true rfl) hlocks (fun t hvm hsz9 hk9 => ⟨(), trivial, rfl, hsz9, fun q h1 _ => hk9 q h1⟩) (fun _ h => nomatch h) (Nat.le_refl _) (Nat.le_refl _)
  · skip
    replace c_3 := mt (zz_eq0 (by first | omega | (split <;> omega))).mpr c_3
    replace c_3 : 0 < zwa z j := Decidable.byContradiction fun q => by rw [if_neg q] at c_3; first | exact absurd c_3 (by decide) | exact c_3 rfl
    refine lv_aload_n hx hb dX4_prop_19 rfl (lv_at hl 0 rfl) ?_
    refine va_get (D := (dC, dI)) (ci := 3) (v := .ref pk) (C := RX4) (T := TX4) (N := 2) hx hb hts i_X4_prop_X4 hown hK hP 0 rfl rfl 0 (by decide) (hts (.fieldLink RX4 10 "RuinViews" "now" "LRuinViews$Park;") (List.mem_of_getElem? (i := 3) rfl)) (fun _ h9 => h9) rfl dX4_prop_20 ?_
    refine va_get (D := (dC, dI)) (ci := 0) (v := .ref h) (C := RX1) (T := TX1) (N := 5) hx hb hts i_X4_prop_X1 hown hK hP 1 rfl rfl 0 (by decide) (hts (.fieldLink RX4 30 "RuinViews$Park" "ruins" "LRuinViews$Ruins;") (List.mem_of_getElem? (i := 4) rfl)) (fun _ h9 => h9) rfl dX4_prop_23 ?_
    refine va_get (D := (dC, dI)) (ci := 1) (v := .ref a0) (C := RX2) (T := TX2) (N := 7) hx hb hts i_X4_prop_X2 hown hK hP 2 rfl rfl 0 (by decide) (hts (.fieldLink RX4 67 "RuinViews$Ruins" "walls" "[I") (List.mem_of_getElem? (i := 5) rfl)) (fun _ h9 => h9) rfl dX4_prop_26 ?_
    refine lv_iload_n hx hb dX4_prop_29 rfl (lv_at hl 1 rfl) ?_
    refine zz_ald hx hb hK hP 3 (f := zwa z) rfl rfl (by omega) (by decide) dX4_prop_30 ?_
    refine lv_bipush (v := nI 20) hx hb dX4_prop_31 (by decide) ?_
    refine lv_icmp_ge (tgt := 47) hx hb dX4_prop_33 (by decide) (fun c_5 => ?_) (fun c_5 => ?_)
    · skip
      replace c_5 := (nI_leI (by first | omega | (split <;> omega)) (by first | omega | (split <;> omega))).mp c_5
      obtain ⟨sa6, hstr6⟩ := hV.1.2.2.2.2.1
      exact vx_throwS (own := RX4) (cls := "java/lang/IllegalStateException") (text := "the ruin has collapsed or has 20 walls, or there are too few coins") (names := ["java/lang/RuntimeException", "java/lang/Exception"]) (ic := 44) hx hb hlt hown rfl (by decide +kernel) (hts (.classLink RX4 40 "java/lang/IllegalStateException") (List.mem_of_getElem? (i := 1) rfl)) (hts (.initialized "java/lang/IllegalStateException") (List.mem_of_getElem? (i := 2) rfl)) hstr6 (vx_hat (B := zBise) (fun w h => hts w (by first | exact List.mem_cons_of_mem _ (List.mem_append_right _ h) | exact List.mem_cons_of_mem _ (List.mem_append_left _ (List.mem_append_right _ h)) | exact List.mem_cons_of_mem _ (List.mem_append_left _ (List.mem_append_left _ (List.mem_append_right _ h))))) (by decide +kernel) (zVm.ise hV)) (by decide +kernel) hZ.1 hZ.2 hS (hl.1.trans hml.symm) dX4_prop_47 dX4_prop_50 dX4_prop_51 dX4_prop_53 dX4_prop_56 (fun x hx => (hnt x hx).elim) (Nat.le_of_ble_eq_true rfl) (Nat.le_of_ble_eq_true rfl) (Nat.le_of_ble_eq_true rfl) (Nat.le_of_ble_eq_true rfl) hlocks (fun t hvm hsz9 hk9 => ⟨(), trivial, rfl, hsz9, fun q h1 _ => hk9 q h1⟩) (fun _ h => nomatch h) (Nat.le_refl _) (Nat.le_refl _)
    · skip
      replace c_5 := mt (nI_leI (by first | omega | (split <;> omega)) (by first | omega | (split <;> omega))).mpr c_5
      refine lv_aload_n hx hb dX4_prop_36 rfl (lv_at hl 0 rfl) ?_
      refine va_get (D := (dC, dI)) (ci := 3) (v := .ref pk) (C := RX4) (T := TX4) (N := 2) hx hb hts i_X4_prop_X4 hown hK hP 0 rfl rfl 0 (by decide) (hts (.fieldLink RX4 10 "RuinViews" "now" "LRuinViews$Park;") (List.mem_of_getElem? (i := 3) rfl)) (fun _ h9 => h9) rfl dX4_prop_37 ?_
      refine va_get (D := (dC, dI)) (ci := 0) (v := .int (zpu z)) (C := RX1) (T := TX1) (N := 5) hx hb hts i_X4_prop_X1 hown hK hP 1 rfl rfl 4 (by decide) (hts (.fieldLink RX4 70 "RuinViews$Park" "purse" "I") (List.mem_of_getElem? (i := 6) rfl)) (fun _ h9 => h9) rfl dX4_prop_40 ?_
      refine lv_iconst (v := nI 5) hx hb dX4_prop_43 (by decide) ?_
      refine lv_icmp_ge (tgt := 57) hx hb dX4_prop_44 (by decide) (fun c_7 => ?_) (fun c_7 => ?_)
      · skip
        exfalso; exact hx9 ⟨by assumption, by omega, c_7⟩
      · skip
        obtain ⟨sa8, hstr8⟩ := hV.1.2.2.2.2.1
        exact vx_throwS (own := RX4) (cls := "java/lang/IllegalStateException") (text := "the ruin has collapsed or has 20 walls, or there are too few coins") (names := ["java/lang/RuntimeException", "java/lang/Exception"]) (ic := 44) hx hb hlt hown rfl (by decide +kernel) (hts (.classLink RX4 40 "java/lang/IllegalStateException") (List.mem_of_getElem? (i := 1) rfl)) (hts (.initialized "java/lang/IllegalStateException") (List.mem_of_getElem? (i := 2) rfl)) hstr8 (vx_hat (B := zBise) (fun w h => hts w (by first | exact List.mem_cons_of_mem _ (List.mem_append_right _ h) | exact List.mem_cons_of_mem _ (List.mem_append_left _ (List.mem_append_right _ h)) | exact List.mem_cons_of_mem _ (List.mem_append_left _ (List.mem_append_left _ (List.mem_append_right _ h))))) (by decide +kernel) (zVm.ise hV)) (by decide +kernel) hZ.1 hZ.2 hS (hl.1.trans hml.symm) dX4_prop_47 dX4_prop_50 dX4_prop_51 dX4_prop_53 dX4_prop_56 (fun x hx => (hnt x hx).elim) (Nat.le_of_ble_eq_true rfl) (Nat.le_of_ble_eq_true rfl) (Nat.le_of_ble_eq_true rfl) (Nat.le_of_ble_eq_true rfl) hlocks (fun t hvm hsz9 hk9 => ⟨(), trivial, rfl, hsz9, fun q h1 _ => hk9 q h1⟩) (fun _ h => nomatch h) (Nat.le_refl _) (Nat.le_refl _)
set_option maxHeartbeats 4000000 in
set_option maxRecDepth 100000 in
theorem x_X4_sellTicket3 (l : Launch) (dC : Nat → ClassId) (dI : Nat → Nat → Nat) (cA : ClassId) (xo : Nat) (pk_ : Nat) (pk : Nat) (h : Nat) (a0 : Nat) (a1 : Nat) (a2 : Nat) (a3 : Nat) (a4 : Nat) (a5 : Nat) (kk : Nat) (c0 : Nat) (c1 : Nat) (c2 : Nat) (c3 : Nat) (z : ZS) (me : Nat → Int32) (rk : Nat → Int32) (j : Nat) (k : Nat) (hlt : l.stackTraces = false) (sz : Nat) (hz : zok z) (hdz : zdy z ≤ 40000) (hj : j < zn z) (hk2 : k ≤ 30) (hx9 : ¬ (0 < zwa z j ∧ ztn z < 30)) : vx_Met l yX4_sellTicket wsX4_sellTicket ({ frames := 7, cells := 1, slots := 6, locals := 111 } : Room) (va_Pc [.ref xo, .int (nI j), .int (nI k)] (fun U => U.heap.size = sz ∧ va_P (dC, dI) vwCl [(xo, .inr (3, [.ref pk, .ref pk_])), (pk, .inr (0, [.ref h, .ref kk, .int (nI (zdy z)), .int (nI (zgu z)), .int (zpu z)])), (h, .inr (1, [.ref a0, .ref a1, .ref a2, .ref a3, .ref a4, .ref a5, .int (nI (zn z))])), (a0, .inl (cA, 10, .inl (fun j9 => nI ((zwa z) j9)))), (a1, .inl (cA, 10, .inl (fun j9 => nI ((ziv z) j9)))), (a2, .inl (cA, 10, .inl (fun j9 => nI ((zgh z) j9)))), (a3, .inl (cA, 10, .inl (fun j9 => nI ((zpr z) j9)))), (a4, .inl (cA, 10, .inl me)), (a5, .inl (cA, 10, .inl rk)), (kk, .inr (2, [.ref c0, .ref c1, .ref c2, .ref c3, .int (nI (ztn z))])), (c0, .inl (cA, 30, .inl (fun j9 => nI ((ztr z) j9)))), (c1, .inl (cA, 30, .inl (fun j9 => nI ((ztd z) j9)))), (c2, .inl (cA, 30, .inl (fun j9 => nI ((ztp z) j9)))), (c3, .inl (cA, 30, .inl (fun j9 => nI ((ztf z) j9))))] U.heap ∧ va_K (dC, dI) vwCl [(cA, .int)] U ∧ zVm U ∧ zSt (fun q => sz ≤ q) U)) (va_Qi (fun (_ : Int32) (_ : Unit) => False) (fun _ _ => True) (fun q => sz ≤ q)) (vx_X (fun _ : Unit => True) (fun E _ _ => E = "java/lang/IllegalStateException") (fun q => sz ≤ q)) 1 6 (fun q => sz ≤ q) := by
  refine vx_ofW (cc := cX4_sellTicket) (maxL := 4) (ret := (some .int)) (by decide) rfl ?_
  intro p e s m args below meth c s₁ B hml hnt hv
  obtain ⟨hargs, hsz, hP, hK, hV, hZ⟩ := hv
  have hx := B.exec
  have hb := B.bytes
  have hr := B.returns
  have hts := atoms_spec (ws := wsX4_sellTicket) B.pre
  have hown : s.vm.findClass RX4 = some m.cls := findClass_of_methodNamed B.named
  have hlocks := B.notSynchronized
  subst hsz
  have hS : va_S (fun q => s.heap.size ≤ q) s.heap s.heap [] := va_S.rf
  have hl := lv_entry ([.ref xo, .int (nI j), .int (nI k)]) (n := 4) (Nat.le_of_ble_eq_true rfl)
  rw [hargs, lg_entry_eq, ← hargs]
  generalize (lg_sl ([.ref xo, .int (nI j), .int (nI k)]) ++ List.replicate (4 - (lg_sl ([.ref xo, .int (nI j), .int (nI k)])).length) Slot.unset).toArray = ls at hl ⊢
  have hl : lv_has ls 4 [(0, .ref xo), (1, .int (nI j)), (2, .int (nI k))] := hl
  obtain ⟨o1, o2, o3, o4, o5, o6, o7, o8, o9, o10, o11⟩ := id hz
  have hw9 := o4 j
  refine lv_aload_n hx hb dX4_sellTicket_0 rfl (lv_at hl 0 rfl) ?_
  refine lv_iload_n hx hb dX4_sellTicket_1 rfl (lv_at hl 1 rfl) ?_
  have hPc := hP.sub (ws' := [(xo, .inr (3, [.ref pk, .ref pk_])), (pk, .inr (0, [.ref h, .ref kk, .int (nI (zdy z)), .int (nI (zgu z)), .int (zpu z)])), (h, .inr (1, [.ref a0, .ref a1, .ref a2, .ref a3, .ref a4, .ref a5, .int (nI (zn z))])), (a0, .inl (cA, 10, .inl (fun j9 => nI ((zwa z) j9)))), (a1, .inl (cA, 10, .inl (fun j9 => nI ((ziv z) j9)))), (a2, .inl (cA, 10, .inl (fun j9 => nI ((zgh z) j9)))), (a3, .inl (cA, 10, .inl (fun j9 => nI ((zpr z) j9)))), (a4, .inl (cA, 10, .inl me)), (a5, .inl (cA, 10, .inl rk)), (kk, .inr (2, [.ref c0, .ref c1, .ref c2, .ref c3, .int (nI (ztn z))])), (c0, .inl (cA, 30, .inl (fun j9 => nI ((ztr z) j9)))), (c1, .inl (cA, 30, .inl (fun j9 => nI ((ztd z) j9)))), (c2, .inl (cA, 30, .inl (fun j9 => nI ((ztp z) j9)))), (c3, .inl (cA, 30, .inl (fun j9 => nI ((ztf z) j9))))]) [0, 1, 2, 3, 4, 5, 6, 7, 8, 9, 10, 11, 12, 13] rfl
  refine va_csv (W.runV (As := [.int (nI j)]) (rest := []) ⟨hx, hb, hml, hown, hts⟩ (c_X4_requireRuin l dC dI cA xo pk_ pk h a0 a1 a2 a3 a4 a5 kk c0 c1 c2 c3 z me rk j (by first | assumption | omega) (by first | assumption | omega) (by first | assumption | omega)) (cwV 1 hts gX4_sellTicket_X4_requireRuin rfl rfl rfl (by decide +kernel) ⟨Nat.le_of_ble_eq_true rfl, Nat.le_of_ble_eq_true rfl⟩) ⟨fun a U g mk q => by obtain ⟨q0, qP, qK⟩ := q; exact ⟨q0, qP, va_K.moved (u := U) (U := U.calling g mk a) (Vm.Alike.refl U.vm) qK⟩, va_recv hK hP (ci := 3) (q0 := 0) rfl rfl, fun U hU hW => ⟨rfl, by rw [hU]; exact hPc, va_K.moved hW.alike hK⟩⟩ rfl rfl hl.1 rfl (lv_room (Nat.le_of_ble_eq_true rfl)) dX4_sellTicket_2 ⟨Nat.le_of_ble_eq_true rfl, Nat.le_of_ble_eq_true rfl⟩) (fun hw_1 => ?_)
  refine lv_iload_n hx hb dX4_sellTicket_5 rfl (lv_at hl 2 rfl) ?_
  refine lv_iconst (v := nI 0) hx hb dX4_sellTicket_6 (by decide) ?_
  refine lv_bipush (v := nI 30) hx hb dX4_sellTicket_7 (by decide) ?_
  refine vp_callSi (W.runS (As := [.int (nI k),.int (nI 0),.int (nI 30)]) (rest := []) ⟨hx, hb, hml, hown, hts⟩ (c_X4_isWithin l dC dI cA (nI k) (nI 0) (nI 30) ) (va_cwS 3 hts gX4_sellTicket_X4_isWithin rfl rfl rfl (by decide +kernel) ⟨Nat.le_of_ble_eq_true rfl, Nat.le_of_ble_eq_true rfl⟩) ⟨fun _ _ _ _ q => q, fun U hU hW => ⟨rfl, trivial⟩⟩ rfl rfl hl.1 rfl (lv_room (Nat.le_of_ble_eq_true rfl)) dX4_sellTicket_9 ⟨Nat.le_of_ble_eq_true rfl, Nat.le_of_ble_eq_true rfl⟩) (fun r_2 hw_2 => ?_)
  subst hw_2
  refine zz_top (congrArg nI (zin_in (Nat.zero_le _) hk2 (by decide))) ?_
  refine lv_if_ne (tgt := 25) hx hb dX4_sellTicket_12 (by decide) (fun c_3 => ?_) (fun c_3 => ?_)
  · skip
    replace c_3 := mt (zz_eq0 (by first | omega | (split <;> omega))).mpr c_3
    refine lv_aload_n hx hb dX4_sellTicket_25 rfl (lv_at hl 0 rfl) ?_
    refine va_get (D := (dC, dI)) (ci := 3) (v := .ref pk) (C := RX4) (T := TX4) (N := 2) hx hb hts i_X4_sellTicket_X4 hown hK hP 0 rfl rfl 0 (by decide) (hts (.fieldLink RX4 10 "RuinViews" "now" "LRuinViews$Park;") (List.mem_of_getElem? (i := 5) rfl)) (fun _ h9 => h9) rfl dX4_sellTicket_26 ?_
    refine va_get (D := (dC, dI)) (ci := 0) (v := .ref h) (C := RX1) (T := TX1) (N := 5) hx hb hts i_X4_sellTicket_X1 hown hK hP 1 rfl rfl 0 (by decide) (hts (.fieldLink RX4 30 "RuinViews$Park" "ruins" "LRuinViews$Ruins;") (List.mem_of_getElem? (i := 6) rfl)) (fun _ h9 => h9) rfl dX4_sellTicket_29 ?_
    refine lv_iload_n hx hb dX4_sellTicket_32 rfl (lv_at hl 1 rfl) ?_
    have hPc := hP.sub (ws' := [(h, .inr (1, [.ref a0, .ref a1, .ref a2, .ref a3, .ref a4, .ref a5, .int (nI (zn z))])), (a0, .inl (cA, 10, .inl (fun j9 => nI ((zwa z) j9)))), (a1, .inl (cA, 10, .inl (fun j9 => nI ((ziv z) j9)))), (a2, .inl (cA, 10, .inl (fun j9 => nI ((zgh z) j9)))), (a3, .inl (cA, 10, .inl (fun j9 => nI ((zpr z) j9)))), (a4, .inl (cA, 10, .inl me)), (a5, .inl (cA, 10, .inl rk))]) [2, 3, 4, 5, 6, 7, 8] rfl
    refine vp_callSi (W.runV (As := [.int (nI j)]) (rest := []) ⟨hx, hb, hml, hown, hts⟩ (c_X2_stands l dC dI cA h a0 a1 a2 a3 a4 a5 (zn z) (zwa z) (ziv z) (zgh z) (zpr z) me rk j (by first | assumption | omega) (by first | assumption | omega) (by first | assumption | omega)) (cwV 1 hts gX4_sellTicket_X2_stands rfl rfl rfl (by decide +kernel) ⟨Nat.le_of_ble_eq_true rfl, Nat.le_of_ble_eq_true rfl⟩) ⟨fun a U g mk q => by obtain ⟨q0, qP, qK⟩ := q; exact ⟨q0, qP, va_K.moved (u := U) (U := U.calling g mk a) (Vm.Alike.refl U.vm) qK⟩, va_recv hK hP (ci := 1) (q0 := 2) rfl rfl, fun U hU hW => ⟨rfl, by rw [hU]; exact hPc, va_K.moved hW.alike hK⟩⟩ rfl rfl hl.1 rfl (lv_room (Nat.le_of_ble_eq_true rfl)) dX4_sellTicket_33 ⟨Nat.le_of_ble_eq_true rfl, Nat.le_of_ble_eq_true rfl⟩) (fun r_4 hw_4 => ?_)
    subst hw_4
    refine lv_if_eq (tgt := 54) hx hb dX4_sellTicket_36 (by decide) (fun c_5 => ?_) (fun c_5 => ?_)
    · skip
      replace c_5 := (zz_eq0 (by first | omega | (split <;> omega))).mp c_5
      replace c_5 : ¬ 0 < zwa z j := fun q => by rw [if_pos q] at c_5; first | exact absurd c_5 (by decide) | exact c_5 (by decide)
      obtain ⟨sa6, hstr6⟩ := hV.1.2.2.2.2.2.2.2.2.1
      exact vx_throwS (own := RX4) (cls := "java/lang/IllegalStateException") (text := "the ruin has collapsed, or there are 30 tickets") (names := ["java/lang/RuntimeException", "java/lang/Exception"]) (ic := 44) hx hb hlt hown rfl (by decide +kernel) (hts (.classLink RX4 40 "java/lang/IllegalStateException") (List.mem_of_getElem? (i := 3) rfl)) (hts (.initialized "java/lang/IllegalStateException") (List.mem_of_getElem? (i := 4) rfl)) hstr6 (vx_hat (B := zBise) (fun w h => hts w (by first | exact List.mem_cons_of_mem _ (List.mem_append_right _ h) | exact List.mem_cons_of_mem _ (List.mem_append_left _ (List.mem_append_right _ h)) | exact List.mem_cons_of_mem _ (List.mem_append_left _ (List.mem_append_left _ (List.mem_append_right _ h))))) (by decide +kernel) (zVm.ise hV)) (by decide +kernel) hZ.1 hZ.2 hS (hl.1.trans hml.symm) dX4_sellTicket_54 dX4_sellTicket_57 dX4_sellTicket_58 dX4_sellTicket_60 dX4_sellTicket_63 (fun x hx => (hnt x hx).elim) (Nat.le_of_ble_eq_true rfl) (Nat.le_of_ble_eq_true rfl) (Nat.le_of_ble_eq_true rfl) (Nat.le_of_ble_eq_true rfl) hlocks (fun t hvm hsz9 hk9 => ⟨(), trivial, rfl, hsz9, fun q h1 _ => hk9 q h1⟩) (fun _ h => nomatch h) (Nat.le_refl _) (Nat.le_refl _)
    · skip
      replace c_5 := mt (zz_eq0 (by first | omega | (split <;> omega))).mpr c_5
      replace c_5 : 0 < zwa z j := Decidable.byContradiction fun q => by rw [if_neg q] at c_5; first | exact absurd c_5 (by decide) | exact c_5 rfl
      refine lv_aload_n hx hb dX4_sellTicket_39 rfl (lv_at hl 0 rfl) ?_
      refine va_get (D := (dC, dI)) (ci := 3) (v := .ref pk) (C := RX4) (T := TX4) (N := 2) hx hb hts i_X4_sellTicket_X4 hown hK hP 0 rfl rfl 0 (by decide) (hts (.fieldLink RX4 10 "RuinViews" "now" "LRuinViews$Park;") (List.mem_of_getElem? (i := 5) rfl)) (fun _ h9 => h9) rfl dX4_sellTicket_40 ?_
      refine va_get (D := (dC, dI)) (ci := 0) (v := .ref kk) (C := RX1) (T := TX1) (N := 5) hx hb hts i_X4_sellTicket_X1 hown hK hP 1 rfl rfl 1 (by decide) (hts (.fieldLink RX4 87 "RuinViews$Park" "tickets" "LRuinViews$Tickets;") (List.mem_of_getElem? (i := 7) rfl)) (fun _ h9 => h9) rfl dX4_sellTicket_43 ?_
      refine va_get (D := (dC, dI)) (ci := 2) (v := .int (nI (ztn z))) (C := RX3) (T := TX3) (N := 5) hx hb hts i_X4_sellTicket_X3 hown hK hP 9 rfl rfl 4 (by decide) (hts (.fieldLink RX4 91 "RuinViews$Tickets" "count" "I") (List.mem_of_getElem? (i := 8) rfl)) (fun _ h9 => h9) rfl dX4_sellTicket_46 ?_
      refine lv_bipush (v := nI 30) hx hb dX4_sellTicket_49 (by decide) ?_
      refine lv_icmp_lt (tgt := 64) hx hb dX4_sellTicket_51 (by decide) (fun c_7 => ?_) (fun c_7 => ?_)
      · skip
        replace c_7 := (nI_ltI (by first | omega | (split <;> omega)) (by first | omega | (split <;> omega))).mp c_7
        exfalso; exact hx9 ⟨by assumption, by omega⟩
      · skip
        replace c_7 := mt (nI_ltI (by first | omega | (split <;> omega)) (by first | omega | (split <;> omega))).mpr c_7
        obtain ⟨sa8, hstr8⟩ := hV.1.2.2.2.2.2.2.2.2.1
        exact vx_throwS (own := RX4) (cls := "java/lang/IllegalStateException") (text := "the ruin has collapsed, or there are 30 tickets") (names := ["java/lang/RuntimeException", "java/lang/Exception"]) (ic := 44) hx hb hlt hown rfl (by decide +kernel) (hts (.classLink RX4 40 "java/lang/IllegalStateException") (List.mem_of_getElem? (i := 3) rfl)) (hts (.initialized "java/lang/IllegalStateException") (List.mem_of_getElem? (i := 4) rfl)) hstr8 (vx_hat (B := zBise) (fun w h => hts w (by first | exact List.mem_cons_of_mem _ (List.mem_append_right _ h) | exact List.mem_cons_of_mem _ (List.mem_append_left _ (List.mem_append_right _ h)) | exact List.mem_cons_of_mem _ (List.mem_append_left _ (List.mem_append_left _ (List.mem_append_right _ h))))) (by decide +kernel) (zVm.ise hV)) (by decide +kernel) hZ.1 hZ.2 hS (hl.1.trans hml.symm) dX4_sellTicket_54 dX4_sellTicket_57 dX4_sellTicket_58 dX4_sellTicket_60 dX4_sellTicket_63 (fun x hx => (hnt x hx).elim) (Nat.le_of_ble_eq_true rfl) (Nat.le_of_ble_eq_true rfl) (Nat.le_of_ble_eq_true rfl) (Nat.le_of_ble_eq_true rfl) hlocks (fun t hvm hsz9 hk9 => ⟨(), trivial, rfl, hsz9, fun q h1 _ => hk9 q h1⟩) (fun _ h => nomatch h) (Nat.le_refl _) (Nat.le_refl _)
  · skip
    replace c_3 := (zz_eq0 (by first | omega | (split <;> omega))).mp c_3
    exfalso; omega
set_option maxHeartbeats 4000000 in
set_option maxRecDepth 100000 in
theorem x_X4_addRuin1 (l : Launch) (dC : Nat → ClassId) (dI : Nat → Nat → Nat) (cA : ClassId) (xo : Nat) (pk_ : Nat) (pk : Nat) (h : Nat) (a0 : Nat) (a1 : Nat) (a2 : Nat) (a3 : Nat) (a4 : Nat) (a5 : Nat) (kk : Nat) (c0 : Nat) (c1 : Nat) (c2 : Nat) (c3 : Nat) (z : ZS) (me : Nat → Int32) (rk : Nat → Int32) (vw : Int32) (vi : Int32) (vg : Int32) (vp : Int32) (hlt : l.stackTraces = false) (sz : Nat) (hz : zok z) (hdz : zdy z ≤ 40000) (hx9 : zin vw (nI 1) (nI 20) = 0 ∨ zin vi (nI 0) (nI 12) = 0 ∨ zin vg (nI 0) (nI 5) = 0 ∨ zin vp (nI 0) (nI 9) = 0) : vx_Met l yX4_addRuin wsX4_addRuin ({ frames := 6, cells := 1, slots := 6, locals := 90 } : Room) (va_Pc [.ref xo, .int vw, .int vi, .int vg, .int vp] (fun U => U.heap.size = sz ∧ va_P (dC, dI) vwCl [(xo, .inr (3, [.ref pk, .ref pk_])), (pk, .inr (0, [.ref h, .ref kk, .int (nI (zdy z)), .int (nI (zgu z)), .int (zpu z)])), (h, .inr (1, [.ref a0, .ref a1, .ref a2, .ref a3, .ref a4, .ref a5, .int (nI (zn z))])), (a0, .inl (cA, 10, .inl (fun j9 => nI ((zwa z) j9)))), (a1, .inl (cA, 10, .inl (fun j9 => nI ((ziv z) j9)))), (a2, .inl (cA, 10, .inl (fun j9 => nI ((zgh z) j9)))), (a3, .inl (cA, 10, .inl (fun j9 => nI ((zpr z) j9)))), (a4, .inl (cA, 10, .inl me)), (a5, .inl (cA, 10, .inl rk)), (kk, .inr (2, [.ref c0, .ref c1, .ref c2, .ref c3, .int (nI (ztn z))])), (c0, .inl (cA, 30, .inl (fun j9 => nI ((ztr z) j9)))), (c1, .inl (cA, 30, .inl (fun j9 => nI ((ztd z) j9)))), (c2, .inl (cA, 30, .inl (fun j9 => nI ((ztp z) j9)))), (c3, .inl (cA, 30, .inl (fun j9 => nI ((ztf z) j9))))] U.heap ∧ va_K (dC, dI) vwCl [(cA, .int)] U ∧ zVm U ∧ zSt (fun q => sz ≤ q) U)) (va_Qi (fun (_ : Int32) (_ : Unit) => False) (fun _ _ => True) (fun q => sz ≤ q)) (vx_X (fun _ : Unit => True) (fun E _ _ => E = "java/lang/IllegalArgumentException") (fun q => sz ≤ q)) 1 6 (fun q => sz ≤ q) := by
  refine vx_ofW (cc := cX4_addRuin) (maxL := 5) (ret := (some .int)) (by decide) rfl ?_
  intro p e s m args below meth c s₁ B hml hnt hv
  obtain ⟨hargs, hsz, hP, hK, hV, hZ⟩ := hv
  have hx := B.exec
  have hb := B.bytes
  have hr := B.returns
  have hts := atoms_spec (ws := wsX4_addRuin) B.pre
  have hown : s.vm.findClass RX4 = some m.cls := findClass_of_methodNamed B.named
  have hlocks := B.notSynchronized
  subst hsz
  have hS : va_S (fun q => s.heap.size ≤ q) s.heap s.heap [] := va_S.rf
  have hl := lv_entry ([.ref xo, .int vw, .int vi, .int vg, .int vp]) (n := 5) (Nat.le_of_ble_eq_true rfl)
  rw [hargs, lg_entry_eq, ← hargs]
  generalize (lg_sl ([.ref xo, .int vw, .int vi, .int vg, .int vp]) ++ List.replicate (5 - (lg_sl ([.ref xo, .int vw, .int vi, .int vg, .int vp])).length) Slot.unset).toArray = ls at hl ⊢
  have hl : lv_has ls 5 [(0, .ref xo), (1, .int vw), (2, .int vi), (3, .int vg), (4, .int vp)] := hl
  obtain ⟨o1, o2, o3, o4, o5, o6, o7, o8, o9, o10, o11⟩ := id hz
  refine lv_iload_n hx hb dX4_addRuin_0 rfl (lv_at hl 1 rfl) ?_
  refine lv_iconst (v := nI 1) hx hb dX4_addRuin_1 (by decide) ?_
  refine lv_bipush (v := nI 20) hx hb dX4_addRuin_2 (by decide) ?_
  refine vp_callSi (W.runS (As := [.int vw,.int (nI 1),.int (nI 20)]) (rest := []) ⟨hx, hb, hml, hown, hts⟩ (c_X4_isWithin l dC dI cA vw (nI 1) (nI 20) ) (va_cwS 3 hts gX4_addRuin_X4_isWithin rfl rfl rfl (by decide +kernel) ⟨Nat.le_of_ble_eq_true rfl, Nat.le_of_ble_eq_true rfl⟩) ⟨fun _ _ _ _ q => q, fun U hU hW => ⟨rfl, trivial⟩⟩ rfl rfl hl.1 rfl (lv_room (Nat.le_of_ble_eq_true rfl)) dX4_addRuin_4 ⟨Nat.le_of_ble_eq_true rfl, Nat.le_of_ble_eq_true rfl⟩) (fun r_1 hw_1 => ?_)
  subst hw_1
  refine lv_if_eq (tgt := 40) hx hb dX4_addRuin_7 (by decide) (fun c_2 => ?_) (fun c_2 => ?_)
  · skip
    replace c_2 := (zz_eq0 (by first | omega | (have := zin_le vw (nI 1) (nI 20); have := zin_le vi (nI 0) (nI 12); have := zin_le vg (nI 0) (nI 5); have := zin_le vp (nI 0) (nI 9); omega))).mp c_2
    obtain ⟨sa3, hstr3⟩ := hV.1.1
    exact vx_throwS (own := RX4) (cls := "java/lang/IllegalArgumentException") (text := "walls, ivy, ghosts or price out of bounds") (names := ["java/lang/RuntimeException", "java/lang/Exception"]) (ic := 27) hx hb hlt hown rfl (by decide +kernel) (hts (.classLink RX4 23 "java/lang/IllegalArgumentException") (List.mem_of_getElem? (i := 1) rfl)) (hts (.initialized "java/lang/IllegalArgumentException") (List.mem_of_getElem? (i := 2) rfl)) hstr3 (vx_hat (B := zBiae) (fun w h => hts w (by first | exact List.mem_cons_of_mem _ (List.mem_append_right _ h) | exact List.mem_cons_of_mem _ (List.mem_append_left _ (List.mem_append_right _ h)) | exact List.mem_cons_of_mem _ (List.mem_append_left _ (List.mem_append_left _ (List.mem_append_right _ h))))) (by decide +kernel) (zVm.iae hV)) (by decide +kernel) hZ.1 hZ.2 hS (hl.1.trans hml.symm) dX4_addRuin_40 dX4_addRuin_43 dX4_addRuin_44 dX4_addRuin_46 dX4_addRuin_49 (fun x hx => (hnt x hx).elim) (Nat.le_of_ble_eq_true rfl) (Nat.le_of_ble_eq_true rfl) (Nat.le_of_ble_eq_true rfl) (Nat.le_of_ble_eq_true rfl) hlocks (fun t hvm hsz9 hk9 => ⟨(), trivial, rfl, hsz9, fun q h1 _ => hk9 q h1⟩) (fun _ h => nomatch h) (Nat.le_refl _) (Nat.le_refl _)
  · skip
    replace c_2 := mt (zz_eq0 (by first | omega | (have := zin_le vw (nI 1) (nI 20); have := zin_le vi (nI 0) (nI 12); have := zin_le vg (nI 0) (nI 5); have := zin_le vp (nI 0) (nI 9); omega))).mpr c_2
    refine lv_iload_n hx hb dX4_addRuin_10 rfl (lv_at hl 2 rfl) ?_
    refine lv_iconst (v := nI 0) hx hb dX4_addRuin_11 (by decide) ?_
    refine lv_bipush (v := nI 12) hx hb dX4_addRuin_12 (by decide) ?_
    refine vp_callSi (W.runS (As := [.int vi,.int (nI 0),.int (nI 12)]) (rest := []) ⟨hx, hb, hml, hown, hts⟩ (c_X4_isWithin l dC dI cA vi (nI 0) (nI 12) ) (va_cwS 3 hts gX4_addRuin_X4_isWithin rfl rfl rfl (by decide +kernel) ⟨Nat.le_of_ble_eq_true rfl, Nat.le_of_ble_eq_true rfl⟩) ⟨fun _ _ _ _ q => q, fun U hU hW => ⟨rfl, trivial⟩⟩ rfl rfl hl.1 rfl (lv_room (Nat.le_of_ble_eq_true rfl)) dX4_addRuin_14 ⟨Nat.le_of_ble_eq_true rfl, Nat.le_of_ble_eq_true rfl⟩) (fun r_4 hw_4 => ?_)
    subst hw_4
    refine lv_if_eq (tgt := 40) hx hb dX4_addRuin_17 (by decide) (fun c_5 => ?_) (fun c_5 => ?_)
    · skip
      replace c_5 := (zz_eq0 (by first | omega | (have := zin_le vw (nI 1) (nI 20); have := zin_le vi (nI 0) (nI 12); have := zin_le vg (nI 0) (nI 5); have := zin_le vp (nI 0) (nI 9); omega))).mp c_5
      obtain ⟨sa6, hstr6⟩ := hV.1.1
      exact vx_throwS (own := RX4) (cls := "java/lang/IllegalArgumentException") (text := "walls, ivy, ghosts or price out of bounds") (names := ["java/lang/RuntimeException", "java/lang/Exception"]) (ic := 27) hx hb hlt hown rfl (by decide +kernel) (hts (.classLink RX4 23 "java/lang/IllegalArgumentException") (List.mem_of_getElem? (i := 1) rfl)) (hts (.initialized "java/lang/IllegalArgumentException") (List.mem_of_getElem? (i := 2) rfl)) hstr6 (vx_hat (B := zBiae) (fun w h => hts w (by first | exact List.mem_cons_of_mem _ (List.mem_append_right _ h) | exact List.mem_cons_of_mem _ (List.mem_append_left _ (List.mem_append_right _ h)) | exact List.mem_cons_of_mem _ (List.mem_append_left _ (List.mem_append_left _ (List.mem_append_right _ h))))) (by decide +kernel) (zVm.iae hV)) (by decide +kernel) hZ.1 hZ.2 hS (hl.1.trans hml.symm) dX4_addRuin_40 dX4_addRuin_43 dX4_addRuin_44 dX4_addRuin_46 dX4_addRuin_49 (fun x hx => (hnt x hx).elim) (Nat.le_of_ble_eq_true rfl) (Nat.le_of_ble_eq_true rfl) (Nat.le_of_ble_eq_true rfl) (Nat.le_of_ble_eq_true rfl) hlocks (fun t hvm hsz9 hk9 => ⟨(), trivial, rfl, hsz9, fun q h1 _ => hk9 q h1⟩) (fun _ h => nomatch h) (Nat.le_refl _) (Nat.le_refl _)
    · skip
      replace c_5 := mt (zz_eq0 (by first | omega | (have := zin_le vw (nI 1) (nI 20); have := zin_le vi (nI 0) (nI 12); have := zin_le vg (nI 0) (nI 5); have := zin_le vp (nI 0) (nI 9); omega))).mpr c_5
      refine lv_iload_n hx hb dX4_addRuin_20 rfl (lv_at hl 3 rfl) ?_
      refine lv_iconst (v := nI 0) hx hb dX4_addRuin_21 (by decide) ?_
      refine lv_iconst (v := nI 5) hx hb dX4_addRuin_22 (by decide) ?_
      refine vp_callSi (W.runS (As := [.int vg,.int (nI 0),.int (nI 5)]) (rest := []) ⟨hx, hb, hml, hown, hts⟩ (c_X4_isWithin l dC dI cA vg (nI 0) (nI 5) ) (va_cwS 3 hts gX4_addRuin_X4_isWithin rfl rfl rfl (by decide +kernel) ⟨Nat.le_of_ble_eq_true rfl, Nat.le_of_ble_eq_true rfl⟩) ⟨fun _ _ _ _ q => q, fun U hU hW => ⟨rfl, trivial⟩⟩ rfl rfl hl.1 rfl (lv_room (Nat.le_of_ble_eq_true rfl)) dX4_addRuin_23 ⟨Nat.le_of_ble_eq_true rfl, Nat.le_of_ble_eq_true rfl⟩) (fun r_7 hw_7 => ?_)
      subst hw_7
      refine lv_if_eq (tgt := 40) hx hb dX4_addRuin_26 (by decide) (fun c_8 => ?_) (fun c_8 => ?_)
      · skip
        replace c_8 := (zz_eq0 (by first | omega | (have := zin_le vw (nI 1) (nI 20); have := zin_le vi (nI 0) (nI 12); have := zin_le vg (nI 0) (nI 5); have := zin_le vp (nI 0) (nI 9); omega))).mp c_8
        obtain ⟨sa9, hstr9⟩ := hV.1.1
        exact vx_throwS (own := RX4) (cls := "java/lang/IllegalArgumentException") (text := "walls, ivy, ghosts or price out of bounds") (names := ["java/lang/RuntimeException", "java/lang/Exception"]) (ic := 27) hx hb hlt hown rfl (by decide +kernel) (hts (.classLink RX4 23 "java/lang/IllegalArgumentException") (List.mem_of_getElem? (i := 1) rfl)) (hts (.initialized "java/lang/IllegalArgumentException") (List.mem_of_getElem? (i := 2) rfl)) hstr9 (vx_hat (B := zBiae) (fun w h => hts w (by first | exact List.mem_cons_of_mem _ (List.mem_append_right _ h) | exact List.mem_cons_of_mem _ (List.mem_append_left _ (List.mem_append_right _ h)) | exact List.mem_cons_of_mem _ (List.mem_append_left _ (List.mem_append_left _ (List.mem_append_right _ h))))) (by decide +kernel) (zVm.iae hV)) (by decide +kernel) hZ.1 hZ.2 hS (hl.1.trans hml.symm) dX4_addRuin_40 dX4_addRuin_43 dX4_addRuin_44 dX4_addRuin_46 dX4_addRuin_49 (fun x hx => (hnt x hx).elim) (Nat.le_of_ble_eq_true rfl) (Nat.le_of_ble_eq_true rfl) (Nat.le_of_ble_eq_true rfl) (Nat.le_of_ble_eq_true rfl) hlocks (fun t hvm hsz9 hk9 => ⟨(), trivial, rfl, hsz9, fun q h1 _ => hk9 q h1⟩) (fun _ h => nomatch h) (Nat.le_refl _) (Nat.le_refl _)
      · skip
        replace c_8 := mt (zz_eq0 (by first | omega | (have := zin_le vw (nI 1) (nI 20); have := zin_le vi (nI 0) (nI 12); have := zin_le vg (nI 0) (nI 5); have := zin_le vp (nI 0) (nI 9); omega))).mpr c_8
        refine lv_iload hx hb dX4_addRuin_29 (lv_at hl 4 rfl) ?_
        refine lv_iconst (v := nI 0) hx hb dX4_addRuin_31 (by decide) ?_
        refine lv_bipush (v := nI 9) hx hb dX4_addRuin_32 (by decide) ?_
        refine vp_callSi (W.runS (As := [.int vp,.int (nI 0),.int (nI 9)]) (rest := []) ⟨hx, hb, hml, hown, hts⟩ (c_X4_isWithin l dC dI cA vp (nI 0) (nI 9) ) (va_cwS 3 hts gX4_addRuin_X4_isWithin rfl rfl rfl (by decide +kernel) ⟨Nat.le_of_ble_eq_true rfl, Nat.le_of_ble_eq_true rfl⟩) ⟨fun _ _ _ _ q => q, fun U hU hW => ⟨rfl, trivial⟩⟩ rfl rfl hl.1 rfl (lv_room (Nat.le_of_ble_eq_true rfl)) dX4_addRuin_34 ⟨Nat.le_of_ble_eq_true rfl, Nat.le_of_ble_eq_true rfl⟩) (fun r_10 hw_10 => ?_)
        subst hw_10
        refine lv_if_ne (tgt := 50) hx hb dX4_addRuin_37 (by decide) (fun c_11 => ?_) (fun c_11 => ?_)
        · skip
          replace c_11 := mt (zz_eq0 (by first | omega | (have := zin_le vw (nI 1) (nI 20); have := zin_le vi (nI 0) (nI 12); have := zin_le vg (nI 0) (nI 5); have := zin_le vp (nI 0) (nI 9); omega))).mpr c_11
          exfalso; omega
        · skip
          replace c_11 := (zz_eq0 (by first | omega | (have := zin_le vw (nI 1) (nI 20); have := zin_le vi (nI 0) (nI 12); have := zin_le vg (nI 0) (nI 5); have := zin_le vp (nI 0) (nI 9); omega))).mp c_11
          obtain ⟨sa12, hstr12⟩ := hV.1.1
          exact vx_throwS (own := RX4) (cls := "java/lang/IllegalArgumentException") (text := "walls, ivy, ghosts or price out of bounds") (names := ["java/lang/RuntimeException", "java/lang/Exception"]) (ic := 27) hx hb hlt hown rfl (by decide +kernel) (hts (.classLink RX4 23 "java/lang/IllegalArgumentException") (List.mem_of_getElem? (i := 1) rfl)) (hts (.initialized "java/lang/IllegalArgumentException") (List.mem_of_getElem? (i := 2) rfl)) hstr12 (vx_hat (B := zBiae) (fun w h => hts w (by first | exact List.mem_cons_of_mem _ (List.mem_append_right _ h) | exact List.mem_cons_of_mem _ (List.mem_append_left _ (List.mem_append_right _ h)) | exact List.mem_cons_of_mem _ (List.mem_append_left _ (List.mem_append_left _ (List.mem_append_right _ h))))) (by decide +kernel) (zVm.iae hV)) (by decide +kernel) hZ.1 hZ.2 hS (hl.1.trans hml.symm) dX4_addRuin_40 dX4_addRuin_43 dX4_addRuin_44 dX4_addRuin_46 dX4_addRuin_49 (fun x hx => (hnt x hx).elim) (Nat.le_of_ble_eq_true rfl) (Nat.le_of_ble_eq_true rfl) (Nat.le_of_ble_eq_true rfl) (Nat.le_of_ble_eq_true rfl) hlocks (fun t hvm hsz9 hk9 => ⟨(), trivial, rfl, hsz9, fun q h1 _ => hk9 q h1⟩) (fun _ h => nomatch h) (Nat.le_refl _) (Nat.le_refl _)
set_option maxHeartbeats 4000000 in
set_option maxRecDepth 100000 in
theorem x_X4_addRuin2 (l : Launch) (dC : Nat → ClassId) (dI : Nat → Nat → Nat) (cA : ClassId) (xo : Nat) (pk_ : Nat) (pk : Nat) (h : Nat) (a0 : Nat) (a1 : Nat) (a2 : Nat) (a3 : Nat) (a4 : Nat) (a5 : Nat) (kk : Nat) (c0 : Nat) (c1 : Nat) (c2 : Nat) (c3 : Nat) (z : ZS) (me : Nat → Int32) (rk : Nat → Int32) (pw : Nat) (pi : Nat) (pg : Nat) (pp : Nat) (hlt : l.stackTraces = false) (sz : Nat) (hz : zok z) (hdz : zdy z ≤ 40000) (hn9 : zn z = 10) (w1 : 1 ≤ pw) (w2 : pw ≤ 20) (i2 : pi ≤ 12) (g2 : pg ≤ 5) (p2 : pp ≤ 9) : vx_Met l yX4_addRuin wsX4_addRuin ({ frames := 6, cells := 1, slots := 6, locals := 90 } : Room) (va_Pc [.ref xo, .int (nI pw), .int (nI pi), .int (nI pg), .int (nI pp)] (fun U => U.heap.size = sz ∧ va_P (dC, dI) vwCl [(xo, .inr (3, [.ref pk, .ref pk_])), (pk, .inr (0, [.ref h, .ref kk, .int (nI (zdy z)), .int (nI (zgu z)), .int (zpu z)])), (h, .inr (1, [.ref a0, .ref a1, .ref a2, .ref a3, .ref a4, .ref a5, .int (nI (zn z))])), (a0, .inl (cA, 10, .inl (fun j9 => nI ((zwa z) j9)))), (a1, .inl (cA, 10, .inl (fun j9 => nI ((ziv z) j9)))), (a2, .inl (cA, 10, .inl (fun j9 => nI ((zgh z) j9)))), (a3, .inl (cA, 10, .inl (fun j9 => nI ((zpr z) j9)))), (a4, .inl (cA, 10, .inl me)), (a5, .inl (cA, 10, .inl rk)), (kk, .inr (2, [.ref c0, .ref c1, .ref c2, .ref c3, .int (nI (ztn z))])), (c0, .inl (cA, 30, .inl (fun j9 => nI ((ztr z) j9)))), (c1, .inl (cA, 30, .inl (fun j9 => nI ((ztd z) j9)))), (c2, .inl (cA, 30, .inl (fun j9 => nI ((ztp z) j9)))), (c3, .inl (cA, 30, .inl (fun j9 => nI ((ztf z) j9))))] U.heap ∧ va_K (dC, dI) vwCl [(cA, .int)] U ∧ zVm U ∧ zSt (fun q => sz ≤ q) U)) (va_Qi (fun (_ : Int32) (_ : Unit) => False) (fun _ _ => True) (fun q => sz ≤ q)) (vx_X (fun _ : Unit => True) (fun E _ _ => E = "java/lang/IllegalStateException") (fun q => sz ≤ q)) 1 6 (fun q => sz ≤ q) := by
  refine vx_ofW (cc := cX4_addRuin) (maxL := 5) (ret := (some .int)) (by decide) rfl ?_
  intro p e s m args below meth c s₁ B hml hnt hv
  obtain ⟨hargs, hsz, hP, hK, hV, hZ⟩ := hv
  have hx := B.exec
  have hb := B.bytes
  have hr := B.returns
  have hts := atoms_spec (ws := wsX4_addRuin) B.pre
  have hown : s.vm.findClass RX4 = some m.cls := findClass_of_methodNamed B.named
  have hlocks := B.notSynchronized
  subst hsz
  have hS : va_S (fun q => s.heap.size ≤ q) s.heap s.heap [] := va_S.rf
  have hl := lv_entry ([.ref xo, .int (nI pw), .int (nI pi), .int (nI pg), .int (nI pp)]) (n := 5) (Nat.le_of_ble_eq_true rfl)
  rw [hargs, lg_entry_eq, ← hargs]
  generalize (lg_sl ([.ref xo, .int (nI pw), .int (nI pi), .int (nI pg), .int (nI pp)]) ++ List.replicate (5 - (lg_sl ([.ref xo, .int (nI pw), .int (nI pi), .int (nI pg), .int (nI pp)])).length) Slot.unset).toArray = ls at hl ⊢
  have hl : lv_has ls 5 [(0, .ref xo), (1, .int (nI pw)), (2, .int (nI pi)), (3, .int (nI pg)), (4, .int (nI pp))] := hl
  obtain ⟨o1, o2, o3, o4, o5, o6, o7, o8, o9, o10, o11⟩ := id hz
  refine lv_iload_n hx hb dX4_addRuin_0 rfl (lv_at hl 1 rfl) ?_
  refine lv_iconst (v := nI 1) hx hb dX4_addRuin_1 (by decide) ?_
  refine lv_bipush (v := nI 20) hx hb dX4_addRuin_2 (by decide) ?_
  refine vp_callSi (W.runS (As := [.int (nI pw),.int (nI 1),.int (nI 20)]) (rest := []) ⟨hx, hb, hml, hown, hts⟩ (c_X4_isWithin l dC dI cA (nI pw) (nI 1) (nI 20) ) (va_cwS 3 hts gX4_addRuin_X4_isWithin rfl rfl rfl (by decide +kernel) ⟨Nat.le_of_ble_eq_true rfl, Nat.le_of_ble_eq_true rfl⟩) ⟨fun _ _ _ _ q => q, fun U hU hW => ⟨rfl, trivial⟩⟩ rfl rfl hl.1 rfl (lv_room (Nat.le_of_ble_eq_true rfl)) dX4_addRuin_4 ⟨Nat.le_of_ble_eq_true rfl, Nat.le_of_ble_eq_true rfl⟩) (fun r_1 hw_1 => ?_)
  subst hw_1
  refine zz_top (congrArg nI (zin_in w1 w2 (by decide))) ?_
  refine lv_if_eq (tgt := 40) hx hb dX4_addRuin_7 (by decide) (fun c_2 => ?_) (fun c_2 => ?_)
  · skip
    replace c_2 := (zz_eq0 (by omega)).mp c_2
    exfalso; omega
  · skip
    replace c_2 := mt (zz_eq0 (by omega)).mpr c_2
    refine lv_iload_n hx hb dX4_addRuin_10 rfl (lv_at hl 2 rfl) ?_
    refine lv_iconst (v := nI 0) hx hb dX4_addRuin_11 (by decide) ?_
    refine lv_bipush (v := nI 12) hx hb dX4_addRuin_12 (by decide) ?_
    refine vp_callSi (W.runS (As := [.int (nI pi),.int (nI 0),.int (nI 12)]) (rest := []) ⟨hx, hb, hml, hown, hts⟩ (c_X4_isWithin l dC dI cA (nI pi) (nI 0) (nI 12) ) (va_cwS 3 hts gX4_addRuin_X4_isWithin rfl rfl rfl (by decide +kernel) ⟨Nat.le_of_ble_eq_true rfl, Nat.le_of_ble_eq_true rfl⟩) ⟨fun _ _ _ _ q => q, fun U hU hW => ⟨rfl, trivial⟩⟩ rfl rfl hl.1 rfl (lv_room (Nat.le_of_ble_eq_true rfl)) dX4_addRuin_14 ⟨Nat.le_of_ble_eq_true rfl, Nat.le_of_ble_eq_true rfl⟩) (fun r_3 hw_3 => ?_)
    subst hw_3
    refine zz_top (congrArg nI (zin_in (Nat.zero_le _) i2 (by decide))) ?_
    refine lv_if_eq (tgt := 40) hx hb dX4_addRuin_17 (by decide) (fun c_4 => ?_) (fun c_4 => ?_)
    · skip
      replace c_4 := (zz_eq0 (by omega)).mp c_4
      exfalso; omega
    · skip
      replace c_4 := mt (zz_eq0 (by omega)).mpr c_4
      refine lv_iload_n hx hb dX4_addRuin_20 rfl (lv_at hl 3 rfl) ?_
      refine lv_iconst (v := nI 0) hx hb dX4_addRuin_21 (by decide) ?_
      refine lv_iconst (v := nI 5) hx hb dX4_addRuin_22 (by decide) ?_
      refine vp_callSi (W.runS (As := [.int (nI pg),.int (nI 0),.int (nI 5)]) (rest := []) ⟨hx, hb, hml, hown, hts⟩ (c_X4_isWithin l dC dI cA (nI pg) (nI 0) (nI 5) ) (va_cwS 3 hts gX4_addRuin_X4_isWithin rfl rfl rfl (by decide +kernel) ⟨Nat.le_of_ble_eq_true rfl, Nat.le_of_ble_eq_true rfl⟩) ⟨fun _ _ _ _ q => q, fun U hU hW => ⟨rfl, trivial⟩⟩ rfl rfl hl.1 rfl (lv_room (Nat.le_of_ble_eq_true rfl)) dX4_addRuin_23 ⟨Nat.le_of_ble_eq_true rfl, Nat.le_of_ble_eq_true rfl⟩) (fun r_5 hw_5 => ?_)
      subst hw_5
      refine zz_top (congrArg nI (zin_in (Nat.zero_le _) g2 (by decide))) ?_
      refine lv_if_eq (tgt := 40) hx hb dX4_addRuin_26 (by decide) (fun c_6 => ?_) (fun c_6 => ?_)
      · skip
        replace c_6 := (zz_eq0 (by omega)).mp c_6
        exfalso; omega
      · skip
        replace c_6 := mt (zz_eq0 (by omega)).mpr c_6
        refine lv_iload hx hb dX4_addRuin_29 (lv_at hl 4 rfl) ?_
        refine lv_iconst (v := nI 0) hx hb dX4_addRuin_31 (by decide) ?_
        refine lv_bipush (v := nI 9) hx hb dX4_addRuin_32 (by decide) ?_
        refine vp_callSi (W.runS (As := [.int (nI pp),.int (nI 0),.int (nI 9)]) (rest := []) ⟨hx, hb, hml, hown, hts⟩ (c_X4_isWithin l dC dI cA (nI pp) (nI 0) (nI 9) ) (va_cwS 3 hts gX4_addRuin_X4_isWithin rfl rfl rfl (by decide +kernel) ⟨Nat.le_of_ble_eq_true rfl, Nat.le_of_ble_eq_true rfl⟩) ⟨fun _ _ _ _ q => q, fun U hU hW => ⟨rfl, trivial⟩⟩ rfl rfl hl.1 rfl (lv_room (Nat.le_of_ble_eq_true rfl)) dX4_addRuin_34 ⟨Nat.le_of_ble_eq_true rfl, Nat.le_of_ble_eq_true rfl⟩) (fun r_7 hw_7 => ?_)
        subst hw_7
        refine zz_top (congrArg nI (zin_in (Nat.zero_le _) p2 (by decide))) ?_
        refine lv_if_ne (tgt := 50) hx hb dX4_addRuin_37 (by decide) (fun c_8 => ?_) (fun c_8 => ?_)
        · skip
          replace c_8 := mt (zz_eq0 (by omega)).mpr c_8
          refine lv_aload_n hx hb dX4_addRuin_50 rfl (lv_at hl 0 rfl) ?_
          refine va_get (D := (dC, dI)) (ci := 3) (v := .ref pk) (C := RX4) (T := TX4) (N := 2) hx hb hts i_X4_addRuin_X4 hown hK hP 0 rfl rfl 0 (by decide) (hts (.fieldLink RX4 10 "RuinViews" "now" "LRuinViews$Park;") (List.mem_of_getElem? (i := 5) rfl)) (fun _ h9 => h9) rfl dX4_addRuin_51 ?_
          refine va_get (D := (dC, dI)) (ci := 0) (v := .ref h) (C := RX1) (T := TX1) (N := 5) hx hb hts i_X4_addRuin_X1 hown hK hP 1 rfl rfl 0 (by decide) (hts (.fieldLink RX4 30 "RuinViews$Park" "ruins" "LRuinViews$Ruins;") (List.mem_of_getElem? (i := 6) rfl)) (fun _ h9 => h9) rfl dX4_addRuin_54 ?_
          refine va_get (D := (dC, dI)) (ci := 1) (v := .int (nI (zn z))) (C := RX2) (T := TX2) (N := 7) hx hb hts i_X4_addRuin_X2 hown hK hP 2 rfl rfl 6 (by decide) (hts (.fieldLink RX4 34 "RuinViews$Ruins" "count" "I") (List.mem_of_getElem? (i := 7) rfl)) (fun _ h9 => h9) rfl dX4_addRuin_57 ?_
          refine lv_bipush (v := nI 10) hx hb dX4_addRuin_60 (by decide) ?_
          refine lv_icmp_lt (tgt := 75) hx hb dX4_addRuin_62 (by decide) (fun c_9 => ?_) (fun c_9 => ?_)
          · skip
            replace c_9 := (nI_ltI (by omega) (by omega)).mp c_9
            exfalso; omega
          · skip
            replace c_9 := mt (nI_ltI (by omega) (by omega)).mpr c_9
            obtain ⟨sa10, hstr10⟩ := hV.1.2.1
            exact vx_throwS (own := RX4) (cls := "java/lang/IllegalStateException") (text := "there are 10 ruins") (names := ["java/lang/RuntimeException", "java/lang/Exception"]) (ic := 44) hx hb hlt hown rfl (by decide +kernel) (hts (.classLink RX4 40 "java/lang/IllegalStateException") (List.mem_of_getElem? (i := 3) rfl)) (hts (.initialized "java/lang/IllegalStateException") (List.mem_of_getElem? (i := 4) rfl)) hstr10 (vx_hat (B := zBise) (fun w h => hts w (by first | exact List.mem_cons_of_mem _ (List.mem_append_right _ h) | exact List.mem_cons_of_mem _ (List.mem_append_left _ (List.mem_append_right _ h)) | exact List.mem_cons_of_mem _ (List.mem_append_left _ (List.mem_append_left _ (List.mem_append_right _ h))))) (by decide +kernel) (zVm.ise hV)) (by decide +kernel) hZ.1 hZ.2 hS (hl.1.trans hml.symm) dX4_addRuin_65 dX4_addRuin_68 dX4_addRuin_69 dX4_addRuin_71 dX4_addRuin_74 (fun x hx => (hnt x hx).elim) (Nat.le_of_ble_eq_true rfl) (Nat.le_of_ble_eq_true rfl) (Nat.le_of_ble_eq_true rfl) (Nat.le_of_ble_eq_true rfl) hlocks (fun t hvm hsz9 hk9 => ⟨(), trivial, rfl, hsz9, fun q h1 _ => hk9 q h1⟩) (fun _ h => nomatch h) (Nat.le_refl _) (Nat.le_refl _)
        · skip
          replace c_8 := (zz_eq0 (by omega)).mp c_8
          exfalso; omega
