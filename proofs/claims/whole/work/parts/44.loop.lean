theorem zz_iadd5 (i : Nat) : nI (5 * i) + Int32.ofInt 5 = nI (5 * (i + 1)) := by
  show nI (5 * i) + nI 5 = _
  rw [nI_add]
  congr 1
theorem zz_end {i L : Nat} (hL : L ≤ 2560) (hi : 5 * i ≤ L) : nI L - 5 < nI (5 * i) ↔ ¬ 5 * i + 5 ≤ L := by
  by_cases h : 5 ≤ L
  · rw [show nI L - 5 = nI (L - 5) from pk_sub h, nI_ltI (by omega) (by omega)]
    omega
  · refine ⟨fun _ => by omega, fun _ => ?_⟩
    have hi0 : i = 0 := by omega
    subst hi0
    have e : L = 0 ∨ L = 1 ∨ L = 2 ∨ L = 3 ∨ L = 4 := by omega
    rcases e with rfl | rfl | rfl | rfl | rfl <;> decide
set_option maxHeartbeats 4000000 in
set_option maxRecDepth 100000 in
theorem law_inc {p : Program} {l : Launch} {e : Env} {s : State} {m : MethodId} {below : List Frame} {meth : Method} {c : Code} {dC : Nat → ClassId} {dI : Nat → Nat → Nat} {cA cL : ClassId} {b L : Nat} {xs : Nat → Int32} {xo pk_ pk h a0 a1 a2 a3 a4 a5 kk c0 c1 c2 c3 h_ b0 b1 b2 b3 b4 b5 kk_ d0 d1 d2 d3 mo e0 e1 e2 e3 e4 e5 ou : Nat} (hlt : l.stackTraces = false) (C0 : lw_At p s m meth c b L xs) (i : Nat) (kz : LWs p l e s m below meth c dC dI cA cL b xo pk_ pk h a0 a1 a2 a3 a4 a5 kk c0 c1 c2 c3 h_ b0 b1 b2 b3 b4 b5 kk_ d0 d1 d2 d3 mo e0 e1 e2 e3 e4 e5 ou (i + 1) (i + 1) 23) : LWs p l e s m below meth c dC dI cA cL b xo pk_ pk h a0 a1 a2 a3 a4 a5 kk c0 c1 c2 c3 h_ b0 b1 b2 b3 b4 b5 kk_ d0 d1 d2 d3 mo e0 e1 e2 e3 e4 e5 ou i (i + 1) 1796 := by
  obtain ⟨hx, hb, hr, hml, hown, hts0, hX, hbl, hlocks, hgv⟩ := id C0
  intro z me rk dy_ gu_ pu_ n_ wa_ iv_ gh_ pr_ me_ rk_ tn_ tr_ td_ tp_ tf_ th kp fo hz hdz hq0 H locs hP hD hS ls hl
  refine lv_iinc (v := nI (5 * (i + 1))) (lv' := [(4, .int (nI (5 * (i + 1)))), (0, .ref b), (1, .ref xo), (2, .ref mo), (3, .ref ou)]) hx hb dL_law_1796 hl (k := 4) rfl (zz_iadd5 i) (by decide) rfl (fun ls hl => ?_)
  refine lv_goto (tgt := 23) hx hb dL_law_1799 (by decide) ?_
  have hl := lv_sub (l' := [(0, .ref b), (1, .ref xo), (2, .ref mo), (3, .ref ou), (4, .int (nI (5 * (i + 1))))]) hl [1, 2, 3, 4, 0] rfl
  exact kz z me rk dy_ gu_ pu_ n_ wa_ iv_ gh_ pr_ me_ rk_ tn_ tr_ td_ tp_ tf_ th kp fo hz hdz hq0 H locs hP hD hS ls hl
set_option maxHeartbeats 8000000 in
set_option maxRecDepth 100000 in
theorem law_head {p : Program} {l : Launch} {e : Env} {s : State} {m : MethodId} {below : List Frame} {meth : Method} {c : Code} {dC : Nat → ClassId} {dI : Nat → Nat → Nat} {cA cL : ClassId} {b L : Nat} {xs : Nat → Int32} {xo pk_ pk h a0 a1 a2 a3 a4 a5 kk c0 c1 c2 c3 h_ b0 b1 b2 b3 b4 b5 kk_ d0 d1 d2 d3 mo e0 e1 e2 e3 e4 e5 ou : Nat} (hlt : l.stackTraces = false) (C0 : lw_At p s m meth c b L xs) (hL : L ≤ 2560) (hK2 : va_K (dC, dI) vwCl [(cA, .int), (cL, .long)] s) (hV : zVm s) (hZ : zSt (zA s) s) (i : Nat) (hi5 : 5 * i ≤ L) (kz0 : 5 * i + 5 ≤ L → LWs p l e s m below meth c dC dI cA cL b xo pk_ pk h a0 a1 a2 a3 a4 a5 kk c0 c1 c2 c3 h_ b0 b1 b2 b3 b4 b5 kk_ d0 d1 d2 d3 mo e0 e1 e2 e3 e4 e5 ou (i + 1) (i + 1) 23) : LWs p l e s m below meth c dC dI cA cL b xo pk_ pk h a0 a1 a2 a3 a4 a5 kk c0 c1 c2 c3 h_ b0 b1 b2 b3 b4 b5 kk_ d0 d1 d2 d3 mo e0 e1 e2 e3 e4 e5 ou i i 23 := by
  obtain ⟨hx, hb, hr, hml, hown, hts0, hX, hbl, hlocks, hgv⟩ := id C0
  have hA : ∀ q : Nat, s.heap.size ≤ q → zA s q := fun _ h => h
  have hbA : ¬ zA s b := Nat.not_le.mpr hbl
  intro z me rk dy_ gu_ pu_ n_ wa_ iv_ gh_ pr_ me_ rk_ tn_ tr_ td_ tp_ tf_ th kp fo hz hdz hq0 H locs hP hD hS ls hl
  refine lv_iload hx hb dL_law_23 (lv_at hl 4 rfl) ?_
  refine lv_aload_n hx hb dL_law_25 rfl (lv_at hl 0 rfl) ?_
  refine va_slen hx hb hX hbl hbA hS dL_law_26 ?_
  refine lv_iconst (v := nI 5) hx hb dL_law_27 (by decide) ?_
  refine lv_isub hx hb dL_law_28 ?_
  refine lv_icmp_gt (tgt := 1802) hx hb dL_law_29 (by decide) (fun cz => ?_) (fun cz => ?_)
  · replace cz := (zz_end hL hi5).mp cz
    refine lv_iconst (v := 1) hx hb dL_law_1802 (by decide) ?_
    refine va_forget (fun q hq => hS.2.2 q hq) ?_
    refine W.widen (k := 601024) (n := 7293034) (by omega) (by omega) ?_
    refine W.base ?_
    exact lw_ret (Drawn.sameBut.refl s.drawn lw_cs) hx hb hr hlocks dL_law_1803
  · have hi : 5 * i + 5 ≤ L := Decidable.byContradiction (mt (zz_end hL hi5).mpr cz)
    have kz := law_inc hlt C0 i (kz0 hi)
    refine lv_aload_n hx hb dL_law_32 rfl (lv_at hl 0 rfl) ?_
    refine lv_iload hx hb dL_law_33 (lv_at hl 4 rfl) ?_
    refine va_sld hx hb hX hbl hbA hS (vp_in_nI (by omega) (by omega)) dL_law_35 ?_
    refine lv_bipush (v := 63) hx hb dL_law_36 (by decide) ?_
    refine lv_iand hx hb dL_law_38 ?_
    obtain ⟨j, hj, ej⟩ := pk_andE (xs (nI (5 * i)).toNatClampNeg) (m := 63) 6 (by decide)
    refine zz_top ej ?_
    have hj64 : j < 64 := hj
    have ti : (nI j).toInt = (j : Int) := nI_toInt (by omega)
    by_cases h34 : j < 34
    · have hc : j = 0 ∨ j = 1 ∨ j = 2 ∨ j = 3 ∨ j = 4 ∨ j = 5 ∨ j = 6 ∨ j = 7 ∨ j = 8 ∨ j = 9 ∨ j = 10 ∨ j = 11 ∨ j = 12 ∨ j = 13 ∨ j = 14 ∨ j = 15 ∨ j = 16 ∨ j = 17 ∨ j = 18 ∨ j = 19 ∨ j = 20 ∨ j = 21 ∨ j = 22 ∨ j = 23 ∨ j = 24 ∨ j = 25 ∨ j = 26 ∨ j = 27 ∨ j = 28 ∨ j = 29 ∨ j = 30 ∨ j = 31 ∨ j = 32 ∨ j = 33 := by omega
      rcases hc with rfl | rfl | rfl | rfl | rfl | rfl | rfl | rfl | rfl | rfl | rfl | rfl | rfl | rfl | rfl | rfl | rfl | rfl | rfl | rfl | rfl | rfl | rfl | rfl | rfl | rfl | rfl | rfl | rfl | rfl | rfl | rfl | rfl | rfl
      · refine lv_tableIn (off := 149) (tgt := 188) hx hb dL_law_39 (by rw [ti]; omega) (by rw [ti]; omega) (by rw [ti]; rfl) (by decide) ?_
        exact lc_0 hlt C0 hL hK2 hV hZ i hi kz z me rk dy_ gu_ pu_ n_ wa_ iv_ gh_ pr_ me_ rk_ tn_ tr_ td_ tp_ tf_ th kp fo hz hdz hq0 H locs hP hD hS ls hl
      · refine lv_tableIn (off := 241) (tgt := 280) hx hb dL_law_39 (by rw [ti]; omega) (by rw [ti]; omega) (by rw [ti]; rfl) (by decide) ?_
        exact lc_1 hlt C0 hL hK2 hV hZ i hi kz z me rk dy_ gu_ pu_ n_ wa_ iv_ gh_ pr_ me_ rk_ tn_ tr_ td_ tp_ tf_ th kp fo hz hdz hq0 H locs hP hD hS ls hl
      · refine lv_tableIn (off := 309) (tgt := 348) hx hb dL_law_39 (by rw [ti]; omega) (by rw [ti]; omega) (by rw [ti]; rfl) (by decide) ?_
        exact lc_2 hlt C0 hL hK2 hV hZ i hi kz z me rk dy_ gu_ pu_ n_ wa_ iv_ gh_ pr_ me_ rk_ tn_ tr_ td_ tp_ tf_ th kp fo hz hdz hq0 H locs hP hD hS ls hl
      · refine lv_tableIn (off := 365) (tgt := 404) hx hb dL_law_39 (by rw [ti]; omega) (by rw [ti]; omega) (by rw [ti]; rfl) (by decide) ?_
        exact lc_3 hlt C0 hL hK2 hV hZ i hi kz z me rk dy_ gu_ pu_ n_ wa_ iv_ gh_ pr_ me_ rk_ tn_ tr_ td_ tp_ tf_ th kp fo hz hdz hq0 H locs hP hD hS ls hl
      · refine lv_tableIn (off := 433) (tgt := 472) hx hb dL_law_39 (by rw [ti]; omega) (by rw [ti]; omega) (by rw [ti]; rfl) (by decide) ?_
        exact lc_4 hlt C0 hL hK2 hV hZ i hi kz z me rk dy_ gu_ pu_ n_ wa_ iv_ gh_ pr_ me_ rk_ tn_ tr_ td_ tp_ tf_ th kp fo hz hdz hq0 H locs hP hD hS ls hl
      · refine lv_tableIn (off := 489) (tgt := 528) hx hb dL_law_39 (by rw [ti]; omega) (by rw [ti]; omega) (by rw [ti]; rfl) (by decide) ?_
        exact lc_5 hlt C0 hL hK2 hV hZ i hi kz z me rk dy_ gu_ pu_ n_ wa_ iv_ gh_ pr_ me_ rk_ tn_ tr_ td_ tp_ tf_ th kp fo hz hdz hq0 H locs hP hD hS ls hl
      · refine lv_tableIn (off := 557) (tgt := 596) hx hb dL_law_39 (by rw [ti]; omega) (by rw [ti]; omega) (by rw [ti]; rfl) (by decide) ?_
        exact lc_6 hlt C0 hL hK2 hV hZ i hi kz z me rk dy_ gu_ pu_ n_ wa_ iv_ gh_ pr_ me_ rk_ tn_ tr_ td_ tp_ tf_ th kp fo hz hdz hq0 H locs hP hD hS ls hl
      · refine lv_tableIn (off := 613) (tgt := 652) hx hb dL_law_39 (by rw [ti]; omega) (by rw [ti]; omega) (by rw [ti]; rfl) (by decide) ?_
        exact lc_7 hlt C0 hL hK2 hV hZ i hi kz z me rk dy_ gu_ pu_ n_ wa_ iv_ gh_ pr_ me_ rk_ tn_ tr_ td_ tp_ tf_ th kp fo hz hdz hq0 H locs hP hD hS ls hl
      · refine lv_tableIn (off := 626) (tgt := 665) hx hb dL_law_39 (by rw [ti]; omega) (by rw [ti]; omega) (by rw [ti]; rfl) (by decide) ?_
        exact lc_8 hlt C0 hL hK2 hV hZ i hi kz z me rk dy_ gu_ pu_ n_ wa_ iv_ gh_ pr_ me_ rk_ tn_ tr_ td_ tp_ tf_ th kp fo hz hdz hq0 H locs hP hD hS ls hl
      · refine lv_tableIn (off := 639) (tgt := 678) hx hb dL_law_39 (by rw [ti]; omega) (by rw [ti]; omega) (by rw [ti]; rfl) (by decide) ?_
        exact lc_9 hlt C0 hL hK2 hV hZ i hi kz z me rk dy_ gu_ pu_ n_ wa_ iv_ gh_ pr_ me_ rk_ tn_ tr_ td_ tp_ tf_ th kp fo hz hdz hq0 H locs hP hD hS ls hl
      · refine lv_tableIn (off := 652) (tgt := 691) hx hb dL_law_39 (by rw [ti]; omega) (by rw [ti]; omega) (by rw [ti]; rfl) (by decide) ?_
        exact lc_10 hlt C0 hL hK2 hV hZ i hi kz z me rk dy_ gu_ pu_ n_ wa_ iv_ gh_ pr_ me_ rk_ tn_ tr_ td_ tp_ tf_ th kp fo hz hdz hq0 H locs hP hD hS ls hl
      · refine lv_tableIn (off := 665) (tgt := 704) hx hb dL_law_39 (by rw [ti]; omega) (by rw [ti]; omega) (by rw [ti]; rfl) (by decide) ?_
        exact lc_11 hlt C0 hL hK2 hV hZ i hi kz z me rk dy_ gu_ pu_ n_ wa_ iv_ gh_ pr_ me_ rk_ tn_ tr_ td_ tp_ tf_ th kp fo hz hdz hq0 H locs hP hD hS ls hl
      · refine lv_tableIn (off := 678) (tgt := 717) hx hb dL_law_39 (by rw [ti]; omega) (by rw [ti]; omega) (by rw [ti]; rfl) (by decide) ?_
        exact lc_12 hlt C0 hL hK2 hV hZ i hi kz z me rk dy_ gu_ pu_ n_ wa_ iv_ gh_ pr_ me_ rk_ tn_ tr_ td_ tp_ tf_ th kp fo hz hdz hq0 H locs hP hD hS ls hl
      · refine lv_tableIn (off := 691) (tgt := 730) hx hb dL_law_39 (by rw [ti]; omega) (by rw [ti]; omega) (by rw [ti]; rfl) (by decide) ?_
        exact lc_13 hlt C0 hL hK2 hV hZ i hi kz z me rk dy_ gu_ pu_ n_ wa_ iv_ gh_ pr_ me_ rk_ tn_ tr_ td_ tp_ tf_ th kp fo hz hdz hq0 H locs hP hD hS ls hl
      · refine lv_tableIn (off := 704) (tgt := 743) hx hb dL_law_39 (by rw [ti]; omega) (by rw [ti]; omega) (by rw [ti]; rfl) (by decide) ?_
        exact lc_14 hlt C0 hL hK2 hV hZ i hi kz z me rk dy_ gu_ pu_ n_ wa_ iv_ gh_ pr_ me_ rk_ tn_ tr_ td_ tp_ tf_ th kp fo hz hdz hq0 H locs hP hD hS ls hl
      · refine lv_tableIn (off := 760) (tgt := 799) hx hb dL_law_39 (by rw [ti]; omega) (by rw [ti]; omega) (by rw [ti]; rfl) (by decide) ?_
        exact lc_15 hlt C0 hL hK2 hV hZ i hi kz z me rk dy_ gu_ pu_ n_ wa_ iv_ gh_ pr_ me_ rk_ tn_ tr_ td_ tp_ tf_ th kp fo hz hdz hq0 H locs hP hD hS ls hl
      · refine lv_tableIn (off := 816) (tgt := 855) hx hb dL_law_39 (by rw [ti]; omega) (by rw [ti]; omega) (by rw [ti]; rfl) (by decide) ?_
        exact lc_16 hlt C0 hL hK2 hV hZ i hi kz z me rk dy_ gu_ pu_ n_ wa_ iv_ gh_ pr_ me_ rk_ tn_ tr_ td_ tp_ tf_ th kp fo hz hdz hq0 H locs hP hD hS ls hl
      · refine lv_tableIn (off := 872) (tgt := 911) hx hb dL_law_39 (by rw [ti]; omega) (by rw [ti]; omega) (by rw [ti]; rfl) (by decide) ?_
        exact lc_17 hlt C0 hL hK2 hV hZ i hi kz z me rk dy_ gu_ pu_ n_ wa_ iv_ gh_ pr_ me_ rk_ tn_ tr_ td_ tp_ tf_ th kp fo hz hdz hq0 H locs hP hD hS ls hl
      · refine lv_tableIn (off := 928) (tgt := 967) hx hb dL_law_39 (by rw [ti]; omega) (by rw [ti]; omega) (by rw [ti]; rfl) (by decide) ?_
        exact lc_18 hlt C0 hL hK2 hV hZ i hi kz z me rk dy_ gu_ pu_ n_ wa_ iv_ gh_ pr_ me_ rk_ tn_ tr_ td_ tp_ tf_ th kp fo hz hdz hq0 H locs hP hD hS ls hl
      · refine lv_tableIn (off := 991) (tgt := 1030) hx hb dL_law_39 (by rw [ti]; omega) (by rw [ti]; omega) (by rw [ti]; rfl) (by decide) ?_
        exact lc_19 hlt C0 hL hK2 hV hZ i hi kz z me rk dy_ gu_ pu_ n_ wa_ iv_ gh_ pr_ me_ rk_ tn_ tr_ td_ tp_ tf_ th kp fo hz hdz hq0 H locs hP hD hS ls hl
      · refine lv_tableIn (off := 1047) (tgt := 1086) hx hb dL_law_39 (by rw [ti]; omega) (by rw [ti]; omega) (by rw [ti]; rfl) (by decide) ?_
        exact lc_20 hlt C0 hL hK2 hV hZ i hi kz z me rk dy_ gu_ pu_ n_ wa_ iv_ gh_ pr_ me_ rk_ tn_ tr_ td_ tp_ tf_ th kp fo hz hdz hq0 H locs hP hD hS ls hl
      · refine lv_tableIn (off := 1103) (tgt := 1142) hx hb dL_law_39 (by rw [ti]; omega) (by rw [ti]; omega) (by rw [ti]; rfl) (by decide) ?_
        exact lc_21 hlt C0 hL hK2 hV hZ i hi kz z me rk dy_ gu_ pu_ n_ wa_ iv_ gh_ pr_ me_ rk_ tn_ tr_ td_ tp_ tf_ th kp fo hz hdz hq0 H locs hP hD hS ls hl
      · refine lv_tableIn (off := 1159) (tgt := 1198) hx hb dL_law_39 (by rw [ti]; omega) (by rw [ti]; omega) (by rw [ti]; rfl) (by decide) ?_
        exact lc_22 hlt C0 hL hK2 hV hZ i hi kz z me rk dy_ gu_ pu_ n_ wa_ iv_ gh_ pr_ me_ rk_ tn_ tr_ td_ tp_ tf_ th kp fo hz hdz hq0 H locs hP hD hS ls hl
      · refine lv_tableIn (off := 1215) (tgt := 1254) hx hb dL_law_39 (by rw [ti]; omega) (by rw [ti]; omega) (by rw [ti]; rfl) (by decide) ?_
        exact lc_23 hlt C0 hL hK2 hV hZ i hi kz z me rk dy_ gu_ pu_ n_ wa_ iv_ gh_ pr_ me_ rk_ tn_ tr_ td_ tp_ tf_ th kp fo hz hdz hq0 H locs hP hD hS ls hl
      · refine lv_tableIn (off := 1228) (tgt := 1267) hx hb dL_law_39 (by rw [ti]; omega) (by rw [ti]; omega) (by rw [ti]; rfl) (by decide) ?_
        exact lc_24 hlt C0 hL hK2 hV hZ i hi kz z me rk dy_ gu_ pu_ n_ wa_ iv_ gh_ pr_ me_ rk_ tn_ tr_ td_ tp_ tf_ th kp fo hz hdz hq0 H locs hP hD hS ls hl
      · refine lv_tableIn (off := 1284) (tgt := 1323) hx hb dL_law_39 (by rw [ti]; omega) (by rw [ti]; omega) (by rw [ti]; rfl) (by decide) ?_
        exact lc_25 hlt C0 hL hK2 hV hZ i hi kz z me rk dy_ gu_ pu_ n_ wa_ iv_ gh_ pr_ me_ rk_ tn_ tr_ td_ tp_ tf_ th kp fo hz hdz hq0 H locs hP hD hS ls hl
      · refine lv_tableIn (off := 1347) (tgt := 1386) hx hb dL_law_39 (by rw [ti]; omega) (by rw [ti]; omega) (by rw [ti]; rfl) (by decide) ?_
        exact lc_26 hlt C0 hL hK2 hV hZ i hi kz z me rk dy_ gu_ pu_ n_ wa_ iv_ gh_ pr_ me_ rk_ tn_ tr_ td_ tp_ tf_ th kp fo hz hdz hq0 H locs hP hD hS ls hl
      · refine lv_tableIn (off := 1410) (tgt := 1449) hx hb dL_law_39 (by rw [ti]; omega) (by rw [ti]; omega) (by rw [ti]; rfl) (by decide) ?_
        exact lc_27 hlt C0 hL hK2 hV hZ i hi kz z me rk dy_ gu_ pu_ n_ wa_ iv_ gh_ pr_ me_ rk_ tn_ tr_ td_ tp_ tf_ th kp fo hz hdz hq0 H locs hP hD hS ls hl
      · refine lv_tableIn (off := 1478) (tgt := 1517) hx hb dL_law_39 (by rw [ti]; omega) (by rw [ti]; omega) (by rw [ti]; rfl) (by decide) ?_
        exact lc_28 hlt C0 hL hK2 hV hZ i hi kz z me rk dy_ gu_ pu_ n_ wa_ iv_ gh_ pr_ me_ rk_ tn_ tr_ td_ tp_ tf_ th kp fo hz hdz hq0 H locs hP hD hS ls hl
      · refine lv_tableIn (off := 1534) (tgt := 1573) hx hb dL_law_39 (by rw [ti]; omega) (by rw [ti]; omega) (by rw [ti]; rfl) (by decide) ?_
        exact lc_29 hlt C0 hL hK2 hV hZ i hi kz z me rk dy_ gu_ pu_ n_ wa_ iv_ gh_ pr_ me_ rk_ tn_ tr_ td_ tp_ tf_ th kp fo hz hdz hq0 H locs hP hD hS ls hl
      · refine lv_tableIn (off := 1590) (tgt := 1629) hx hb dL_law_39 (by rw [ti]; omega) (by rw [ti]; omega) (by rw [ti]; rfl) (by decide) ?_
        exact lc_30 hlt C0 hL hK2 hV hZ i hi kz z me rk dy_ gu_ pu_ n_ wa_ iv_ gh_ pr_ me_ rk_ tn_ tr_ td_ tp_ tf_ th kp fo hz hdz hq0 H locs hP hD hS ls hl
      · refine lv_tableIn (off := 1646) (tgt := 1685) hx hb dL_law_39 (by rw [ti]; omega) (by rw [ti]; omega) (by rw [ti]; rfl) (by decide) ?_
        exact lc_31 hlt C0 hL hK2 hV hZ i hi kz z me rk dy_ gu_ pu_ n_ wa_ iv_ gh_ pr_ me_ rk_ tn_ tr_ td_ tp_ tf_ th kp fo hz hdz hq0 H locs hP hD hS ls hl
      · refine lv_tableIn (off := 1702) (tgt := 1741) hx hb dL_law_39 (by rw [ti]; omega) (by rw [ti]; omega) (by rw [ti]; rfl) (by decide) ?_
        exact lc_32 hlt C0 hL hK2 hV hZ i hi kz z me rk dy_ gu_ pu_ n_ wa_ iv_ gh_ pr_ me_ rk_ tn_ tr_ td_ tp_ tf_ th kp fo hz hdz hq0 H locs hP hD hS ls hl
      · refine lv_tableIn (off := 1743) (tgt := 1782) hx hb dL_law_39 (by rw [ti]; omega) (by rw [ti]; omega) (by rw [ti]; rfl) (by decide) ?_
        exact lc_33 hlt C0 hL hK2 hV hZ i hi kz z me rk dy_ gu_ pu_ n_ wa_ iv_ gh_ pr_ me_ rk_ tn_ tr_ td_ tp_ tf_ th kp fo hz hdz hq0 H locs hP hD hS ls hl
    · refine lv_tableOut (tgt := 1796) hx hb dL_law_39 (by rw [ti]; omega) (by decide) ?_
      refine W.widen (k := 60 + 12 * (i + 1)) (n := 700 + 90 * (i + 1)) (by omega) (by omega) ?_
      exact kz z me rk dy_ gu_ pu_ n_ wa_ iv_ gh_ pr_ me_ rk_ tn_ tr_ td_ tp_ tf_ th kp fo hz (by omega) hq0 H locs hP hD hS ls hl
theorem law_loop {p : Program} {l : Launch} {e : Env} {s : State} {m : MethodId} {below : List Frame} {meth : Method} {c : Code} {dC : Nat → ClassId} {dI : Nat → Nat → Nat} {cA cL : ClassId} {b L : Nat} {xs : Nat → Int32} {xo pk_ pk h a0 a1 a2 a3 a4 a5 kk c0 c1 c2 c3 h_ b0 b1 b2 b3 b4 b5 kk_ d0 d1 d2 d3 mo e0 e1 e2 e3 e4 e5 ou : Nat} (hlt : l.stackTraces = false) (C0 : lw_At p s m meth c b L xs) (hL : L ≤ 2560) (hK2 : va_K (dC, dI) vwCl [(cA, .int), (cL, .long)] s) (hV : zVm s) (hZ : zSt (zA s) s) : ∀ (n i : Nat), 5 * i ≤ L → L ≤ 5 * i + n → LWs p l e s m below meth c dC dI cA cL b xo pk_ pk h a0 a1 a2 a3 a4 a5 kk c0 c1 c2 c3 h_ b0 b1 b2 b3 b4 b5 kk_ d0 d1 d2 d3 mo e0 e1 e2 e3 e4 e5 ou i i 23
  | 0, i, h1, h2 => law_head hlt C0 hL hK2 hV hZ i h1 (fun h => by omega)
  | n + 1, i, h1, h2 => law_head hlt C0 hL hK2 hV hZ i h1 (fun h => law_loop hlt C0 hL hK2 hV hZ n (i + 1) (by omega) (by omega))
