set_option maxHeartbeats 4000000 in
set_option maxRecDepth 100000 in
theorem c_L_act (l : Launch) (dC : Nat → ClassId) (dI : Nat → Nat → Nat) (cA : ClassId) (cB : ClassId) (mo : Nat) (rr : Nat) (tt : Nat) (ra : Nat → Nat) (ta : Nat → Nat) (z : ZS) (xo : Nat) (pk_ : Nat) (pk : Nat) (h : Nat) (a0 : Nat) (a1 : Nat) (a2 : Nat) (a3 : Nat) (a4 : Nat) (a5 : Nat) (kk : Nat) (c0 : Nat) (c1 : Nat) (c2 : Nat) (c3 : Nat) (me : Nat → Int32) (rk : Nat → Int32) (x : Int32) (sz : Nat) (hz : zok z) (hv : zinv z) (hdz : zdy z ≤ 30000) : Met l yL_act wsL_act ({ frames := 8, cells := 240, slots := 2160, locals := 155 } : Room) (va_Pc [.ref xo, .ref mo, .int x] (fun U => U.heap.size = sz ∧ va_P (dC, dI) vwCl ([(mo, .inr (4, [.int (nI (zdy z)), .int (nI (zgu z)), .int (zpu z), .ref rr, .ref tt])), (rr, .inl (cB, zn z, .inr (.inr (.inr (.inr (zrf (zn z) ra)))))), (tt, .inl (cB, ztn z, .inr (.inr (.inr (.inr (zrf (ztn z) ta)))))), (xo, .inr (3, [.ref pk, .ref pk_])), (pk, .inr (0, [.ref h, .ref kk, .int (nI (zdy z)), .int (nI (zgu z)), .int (zpu z)])), (h, .inr (1, [.ref a0, .ref a1, .ref a2, .ref a3, .ref a4, .ref a5, .int (nI (zn z))])), (a0, .inl (cA, 10, .inl (fun j9 => nI ((zwa z) j9)))), (a1, .inl (cA, 10, .inl (fun j9 => nI ((ziv z) j9)))), (a2, .inl (cA, 10, .inl (fun j9 => nI ((zgh z) j9)))), (a3, .inl (cA, 10, .inl (fun j9 => nI ((zpr z) j9)))), (a4, .inl (cA, 10, .inl me)), (a5, .inl (cA, 10, .inl rk)), (kk, .inr (2, [.ref c0, .ref c1, .ref c2, .ref c3, .int (nI (ztn z))])), (c0, .inl (cA, 30, .inl (fun j9 => nI ((ztr z) j9)))), (c1, .inl (cA, 30, .inl (fun j9 => nI ((ztd z) j9)))), (c2, .inl (cA, 30, .inl (fun j9 => nI ((ztp z) j9)))), (c3, .inl (cA, 30, .inl (fun j9 => nI ((ztf z) j9))))] ++ (zpl cA ra (zrow (zwa z) (ziv z) (zgh z) (zpr z)) (zn z) ++ (zpl cA ta (zrow (ztr z) (ztd z) (ztp z) (ztf z)) (ztn z)))) U.heap ∧ va_K (dC, dI) vwCl [(cA, .int), (cB, .array .int)] U ∧ va_D (fun _ => True) ([(mo, .inr (4, [.int (nI (zdy z)), .int (nI (zgu z)), .int (zpu z), .ref rr, .ref tt])), (rr, .inl (cB, zn z, .inr (.inr (.inr (.inr (zrf (zn z) ra)))))), (tt, .inl (cB, ztn z, .inr (.inr (.inr (.inr (zrf (ztn z) ta)))))), (xo, .inr (3, [.ref pk, .ref pk_])), (pk, .inr (0, [.ref h, .ref kk, .int (nI (zdy z)), .int (nI (zgu z)), .int (zpu z)])), (h, .inr (1, [.ref a0, .ref a1, .ref a2, .ref a3, .ref a4, .ref a5, .int (nI (zn z))])), (a0, .inl (cA, 10, .inl (fun j9 => nI ((zwa z) j9)))), (a1, .inl (cA, 10, .inl (fun j9 => nI ((ziv z) j9)))), (a2, .inl (cA, 10, .inl (fun j9 => nI ((zgh z) j9)))), (a3, .inl (cA, 10, .inl (fun j9 => nI ((zpr z) j9)))), (a4, .inl (cA, 10, .inl me)), (a5, .inl (cA, 10, .inl rk)), (kk, .inr (2, [.ref c0, .ref c1, .ref c2, .ref c3, .int (nI (ztn z))])), (c0, .inl (cA, 30, .inl (fun j9 => nI ((ztr z) j9)))), (c1, .inl (cA, 30, .inl (fun j9 => nI ((ztd z) j9)))), (c2, .inl (cA, 30, .inl (fun j9 => nI ((ztp z) j9)))), (c3, .inl (cA, 30, .inl (fun j9 => nI ((ztf z) j9))))] ++ (zpl cA ra (zrow (zwa z) (ziv z) (zgh z) (zpr z)) (zn z) ++ (zpl cA ta (zrow (ztr z) (ztd z) (ztp z) (ztf z)) (ztn z)))) ∧ zNest U)) (va_Qi (fun (y9 : Int32) (_ : Unit) => y9 = nI 1) (fun (_ : Unit) t => ∃ (z1 : ZS) (rr1 : Nat) (tt1 : Nat) (ra1 : Nat → Nat) (ta1 : Nat → Nat) (me1 : Nat → Int32) (rk1 : Nat → Int32) , (zok z1) ∧ (zinv z1) ∧ (zdy z1 ≤ zdy z + 60) ∧ va_P (dC, dI) vwCl ([(mo, .inr (4, [.int (nI (zdy z1)), .int (nI (zgu z1)), .int (zpu z1), .ref rr1, .ref tt1])), (rr1, .inl (cB, zn z1, .inr (.inr (.inr (.inr (zrf (zn z1) ra1)))))), (tt1, .inl (cB, ztn z1, .inr (.inr (.inr (.inr (zrf (ztn z1) ta1)))))), (xo, .inr (3, [.ref pk, .ref pk_])), (pk, .inr (0, [.ref h, .ref kk, .int (nI (zdy z1)), .int (nI (zgu z1)), .int (zpu z1)])), (h, .inr (1, [.ref a0, .ref a1, .ref a2, .ref a3, .ref a4, .ref a5, .int (nI (zn z1))])), (a0, .inl (cA, 10, .inl (fun j9 => nI ((zwa z1) j9)))), (a1, .inl (cA, 10, .inl (fun j9 => nI ((ziv z1) j9)))), (a2, .inl (cA, 10, .inl (fun j9 => nI ((zgh z1) j9)))), (a3, .inl (cA, 10, .inl (fun j9 => nI ((zpr z1) j9)))), (a4, .inl (cA, 10, .inl me1)), (a5, .inl (cA, 10, .inl rk1)), (kk, .inr (2, [.ref c0, .ref c1, .ref c2, .ref c3, .int (nI (ztn z1))])), (c0, .inl (cA, 30, .inl (fun j9 => nI ((ztr z1) j9)))), (c1, .inl (cA, 30, .inl (fun j9 => nI ((ztd z1) j9)))), (c2, .inl (cA, 30, .inl (fun j9 => nI ((ztp z1) j9)))), (c3, .inl (cA, 30, .inl (fun j9 => nI ((ztf z1) j9))))] ++ (zpl cA ra1 (zrow (zwa z1) (ziv z1) (zgh z1) (zpr z1)) (zn z1) ++ (zpl cA ta1 (zrow (ztr z1) (ztd z1) (ztp z1) (ztf z1)) (ztn z1)))) t.heap ∧ va_D (va_A ([(mo, .inr (4, [.int (nI (zdy z)), .int (nI (zgu z)), .int (zpu z), .ref rr, .ref tt])), (rr, .inl (cB, zn z, .inr (.inr (.inr (.inr (zrf (zn z) ra)))))), (tt, .inl (cB, ztn z, .inr (.inr (.inr (.inr (zrf (ztn z) ta)))))), (xo, .inr (3, [.ref pk, .ref pk_])), (pk, .inr (0, [.ref h, .ref kk, .int (nI (zdy z)), .int (nI (zgu z)), .int (zpu z)])), (h, .inr (1, [.ref a0, .ref a1, .ref a2, .ref a3, .ref a4, .ref a5, .int (nI (zn z))])), (a0, .inl (cA, 10, .inl (fun j9 => nI ((zwa z) j9)))), (a1, .inl (cA, 10, .inl (fun j9 => nI ((ziv z) j9)))), (a2, .inl (cA, 10, .inl (fun j9 => nI ((zgh z) j9)))), (a3, .inl (cA, 10, .inl (fun j9 => nI ((zpr z) j9)))), (a4, .inl (cA, 10, .inl me)), (a5, .inl (cA, 10, .inl rk)), (kk, .inr (2, [.ref c0, .ref c1, .ref c2, .ref c3, .int (nI (ztn z))])), (c0, .inl (cA, 30, .inl (fun j9 => nI ((ztr z) j9)))), (c1, .inl (cA, 30, .inl (fun j9 => nI ((ztd z) j9)))), (c2, .inl (cA, 30, .inl (fun j9 => nI ((ztp z) j9)))), (c3, .inl (cA, 30, .inl (fun j9 => nI ((ztf z) j9))))] ++ (zpl cA ra (zrow (zwa z) (ziv z) (zgh z) (zpr z)) (zn z) ++ (zpl cA ta (zrow (ztr z) (ztd z) (ztp z) (ztf z)) (ztn z)))) sz) ([(mo, .inr (4, [.int (nI (zdy z1)), .int (nI (zgu z1)), .int (zpu z1), .ref rr1, .ref tt1])), (rr1, .inl (cB, zn z1, .inr (.inr (.inr (.inr (zrf (zn z1) ra1)))))), (tt1, .inl (cB, ztn z1, .inr (.inr (.inr (.inr (zrf (ztn z1) ta1)))))), (xo, .inr (3, [.ref pk, .ref pk_])), (pk, .inr (0, [.ref h, .ref kk, .int (nI (zdy z1)), .int (nI (zgu z1)), .int (zpu z1)])), (h, .inr (1, [.ref a0, .ref a1, .ref a2, .ref a3, .ref a4, .ref a5, .int (nI (zn z1))])), (a0, .inl (cA, 10, .inl (fun j9 => nI ((zwa z1) j9)))), (a1, .inl (cA, 10, .inl (fun j9 => nI ((ziv z1) j9)))), (a2, .inl (cA, 10, .inl (fun j9 => nI ((zgh z1) j9)))), (a3, .inl (cA, 10, .inl (fun j9 => nI ((zpr z1) j9)))), (a4, .inl (cA, 10, .inl me1)), (a5, .inl (cA, 10, .inl rk1)), (kk, .inr (2, [.ref c0, .ref c1, .ref c2, .ref c3, .int (nI (ztn z1))])), (c0, .inl (cA, 30, .inl (fun j9 => nI ((ztr z1) j9)))), (c1, .inl (cA, 30, .inl (fun j9 => nI ((ztd z1) j9)))), (c2, .inl (cA, 30, .inl (fun j9 => nI ((ztp z1) j9)))), (c3, .inl (cA, 30, .inl (fun j9 => nI ((ztf z1) j9))))] ++ (zpl cA ra1 (zrow (zwa z1) (ziv z1) (zgh z1) (zpr z1)) (zn z1) ++ (zpl cA ta1 (zrow (ztr z1) (ztd z1) (ztp z1) (ztf z1)) (ztn z1))))) (va_A ([(mo, .inr (4, [.int (nI (zdy z)), .int (nI (zgu z)), .int (zpu z), .ref rr, .ref tt])), (rr, .inl (cB, zn z, .inr (.inr (.inr (.inr (zrf (zn z) ra)))))), (tt, .inl (cB, ztn z, .inr (.inr (.inr (.inr (zrf (ztn z) ta)))))), (xo, .inr (3, [.ref pk, .ref pk_])), (pk, .inr (0, [.ref h, .ref kk, .int (nI (zdy z)), .int (nI (zgu z)), .int (zpu z)])), (h, .inr (1, [.ref a0, .ref a1, .ref a2, .ref a3, .ref a4, .ref a5, .int (nI (zn z))])), (a0, .inl (cA, 10, .inl (fun j9 => nI ((zwa z) j9)))), (a1, .inl (cA, 10, .inl (fun j9 => nI ((ziv z) j9)))), (a2, .inl (cA, 10, .inl (fun j9 => nI ((zgh z) j9)))), (a3, .inl (cA, 10, .inl (fun j9 => nI ((zpr z) j9)))), (a4, .inl (cA, 10, .inl me)), (a5, .inl (cA, 10, .inl rk)), (kk, .inr (2, [.ref c0, .ref c1, .ref c2, .ref c3, .int (nI (ztn z))])), (c0, .inl (cA, 30, .inl (fun j9 => nI ((ztr z) j9)))), (c1, .inl (cA, 30, .inl (fun j9 => nI ((ztd z) j9)))), (c2, .inl (cA, 30, .inl (fun j9 => nI ((ztp z) j9)))), (c3, .inl (cA, 30, .inl (fun j9 => nI ((ztf z) j9))))] ++ (zpl cA ra (zrow (zwa z) (ziv z) (zgh z) (zpr z)) (zn z) ++ (zpl cA ta (zrow (ztr z) (ztd z) (ztp z) (ztf z)) (ztn z)))) sz)) 240 2160 (va_A ([(mo, .inr (4, [.int (nI (zdy z)), .int (nI (zgu z)), .int (zpu z), .ref rr, .ref tt])), (rr, .inl (cB, zn z, .inr (.inr (.inr (.inr (zrf (zn z) ra)))))), (tt, .inl (cB, ztn z, .inr (.inr (.inr (.inr (zrf (ztn z) ta)))))), (xo, .inr (3, [.ref pk, .ref pk_])), (pk, .inr (0, [.ref h, .ref kk, .int (nI (zdy z)), .int (nI (zgu z)), .int (zpu z)])), (h, .inr (1, [.ref a0, .ref a1, .ref a2, .ref a3, .ref a4, .ref a5, .int (nI (zn z))])), (a0, .inl (cA, 10, .inl (fun j9 => nI ((zwa z) j9)))), (a1, .inl (cA, 10, .inl (fun j9 => nI ((ziv z) j9)))), (a2, .inl (cA, 10, .inl (fun j9 => nI ((zgh z) j9)))), (a3, .inl (cA, 10, .inl (fun j9 => nI ((zpr z) j9)))), (a4, .inl (cA, 10, .inl me)), (a5, .inl (cA, 10, .inl rk)), (kk, .inr (2, [.ref c0, .ref c1, .ref c2, .ref c3, .int (nI (ztn z))])), (c0, .inl (cA, 30, .inl (fun j9 => nI ((ztr z) j9)))), (c1, .inl (cA, 30, .inl (fun j9 => nI ((ztd z) j9)))), (c2, .inl (cA, 30, .inl (fun j9 => nI ((ztp z) j9)))), (c3, .inl (cA, 30, .inl (fun j9 => nI ((ztf z) j9))))] ++ (zpl cA ra (zrow (zwa z) (ziv z) (zgh z) (zpr z)) (zn z) ++ (zpl cA ta (zrow (ztr z) (ztd z) (ztp z) (ztf z)) (ztn z)))) sz) := by
  refine Met.ofW (cc := cL_act) (maxL := 13) (ret := (some .boolean)) (by decide) rfl ?_
  intro p e s m args below meth c s₁ B hml hv
  obtain ⟨hargs, hsz, hP, hK, hD0, hN⟩ := hv
  have hK2 := hK
  have hKi := hK2.sub (tys' := [(cA, .int)]) [0] rfl
  have hx := B.exec
  have hb := B.bytes
  have hr := B.returns
  have hts := atoms_spec (ws := wsL_act) B.pre
  have hown : s.vm.findClass RL = some m.cls := findClass_of_methodNamed B.named
  have hlocks := B.notSynchronized
  subst hsz
  have hD := hD0.self (sz := s.heap.size)
  generalize hAe : va_A ([(mo, .inr (4, [.int (nI (zdy z)), .int (nI (zgu z)), .int (zpu z), .ref rr, .ref tt])), (rr, .inl (cB, zn z, .inr (.inr (.inr (.inr (zrf (zn z) ra)))))), (tt, .inl (cB, ztn z, .inr (.inr (.inr (.inr (zrf (ztn z) ta)))))), (xo, .inr (3, [.ref pk, .ref pk_])), (pk, .inr (0, [.ref h, .ref kk, .int (nI (zdy z)), .int (nI (zgu z)), .int (zpu z)])), (h, .inr (1, [.ref a0, .ref a1, .ref a2, .ref a3, .ref a4, .ref a5, .int (nI (zn z))])), (a0, .inl (cA, 10, .inl (fun j9 => nI ((zwa z) j9)))), (a1, .inl (cA, 10, .inl (fun j9 => nI ((ziv z) j9)))), (a2, .inl (cA, 10, .inl (fun j9 => nI ((zgh z) j9)))), (a3, .inl (cA, 10, .inl (fun j9 => nI ((zpr z) j9)))), (a4, .inl (cA, 10, .inl me)), (a5, .inl (cA, 10, .inl rk)), (kk, .inr (2, [.ref c0, .ref c1, .ref c2, .ref c3, .int (nI (ztn z))])), (c0, .inl (cA, 30, .inl (fun j9 => nI ((ztr z) j9)))), (c1, .inl (cA, 30, .inl (fun j9 => nI ((ztd z) j9)))), (c2, .inl (cA, 30, .inl (fun j9 => nI ((ztp z) j9)))), (c3, .inl (cA, 30, .inl (fun j9 => nI ((ztf z) j9))))] ++ (zpl cA ra (zrow (zwa z) (ziv z) (zgh z) (zpr z)) (zn z) ++ (zpl cA ta (zrow (ztr z) (ztd z) (ztp z) (ztf z)) (ztn z)))) s.heap.size = A at hD ⊢
  have hA : ∀ q : Nat, s.heap.size ≤ q → A q := fun q h => by rw [← hAe]; exact Or.inr h
  have hS : va_S A s.heap s.heap [] := va_S.rf
  have hP : va_P (dC, dI) vwCl ([(mo, .inr (4, [.int (nI (zdy z)), .int (nI (zgu z)), .int (zpu z), .ref rr, .ref tt])), (rr, .inl (cB, zn z, .inr (.inr (.inr (.inr (zrf (zn z) ra)))))), (tt, .inl (cB, ztn z, .inr (.inr (.inr (.inr (zrf (ztn z) ta)))))), (xo, .inr (3, [.ref pk, .ref pk_])), (pk, .inr (0, [.ref h, .ref kk, .int (nI (zdy z)), .int (nI (zgu z)), .int (zpu z)])), (h, .inr (1, [.ref a0, .ref a1, .ref a2, .ref a3, .ref a4, .ref a5, .int (nI (zn z))])), (a0, .inl (cA, 10, .inl (fun j9 => nI ((zwa z) j9)))), (a1, .inl (cA, 10, .inl (fun j9 => nI ((ziv z) j9)))), (a2, .inl (cA, 10, .inl (fun j9 => nI ((zgh z) j9)))), (a3, .inl (cA, 10, .inl (fun j9 => nI ((zpr z) j9)))), (a4, .inl (cA, 10, .inl me)), (a5, .inl (cA, 10, .inl rk)), (kk, .inr (2, [.ref c0, .ref c1, .ref c2, .ref c3, .int (nI (ztn z))])), (c0, .inl (cA, 30, .inl (fun j9 => nI ((ztr z) j9)))), (c1, .inl (cA, 30, .inl (fun j9 => nI ((ztd z) j9)))), (c2, .inl (cA, 30, .inl (fun j9 => nI ((ztp z) j9)))), (c3, .inl (cA, 30, .inl (fun j9 => nI ((ztf z) j9))))] ++ (zpl cA ra (zrow (zwa z) (ziv z) (zgh z) (zpr z)) (zn z) ++ (zpl cA ta (zrow (ztr z) (ztd z) (ztp z) (ztf z)) (ztn z)))) s.heap := hP
  have hl := lv_entry ([.ref xo, .ref mo, .int x]) (n := 13) (Nat.le_of_ble_eq_true rfl)
  rw [hargs, lg_entry_eq, ← hargs]
  generalize (lg_sl ([.ref xo, .ref mo, .int x]) ++ List.replicate (13 - (lg_sl ([.ref xo, .ref mo, .int x])).length) Slot.unset).toArray = ls at hl ⊢
  have hl : lv_has ls 13 [(0, .ref xo), (1, .ref mo), (2, .int x)] := hl
  have hA := hA
  obtain ⟨o1, o2, o3, o4, o5, o6, o7, o8, o9, o10, o11⟩ := id hz
  refine lv_aload_n hx hb dL_act_0 rfl (lv_at hl 1 rfl) ?_
  refine va_get (D := (dC, dI)) (ci := 4) (v := .ref rr) (C := RX5) (T := TX5) (N := 5) hx hb hts i_L_act_X5 hown hK hP 0 rfl rfl 3 (by decide) (hts (.fieldLink RL 9 "RuinViewsLaw$Sim" "ruins" "[[I") (List.mem_of_getElem? (i := 1) rfl)) (fun _ h9 => h9) rfl dL_act_1 ?_
  refine va_alen hx hb hK hP 1 1 rfl rfl (v := nI (zn z)) rfl dL_act_4 ?_
  refine lv_istore_n (lv' := [(3, .int (nI (zn z))), (0, .ref xo), (1, .ref mo), (2, .int x)]) hx hb dL_act_5 rfl hl (by decide) rfl (fun ls hl => ?_)
  refine lv_iload_n hx hb dL_act_6 rfl (lv_at hl 3 rfl) ?_
  refine lv_bipush (v := nI 9) hx hb dL_act_7 (by decide) ?_
  refine lv_ishr hx hb dL_act_9 ?_
  refine lv_bipush (v := nI 18) hx hb dL_act_10 (by decide) ?_
  refine vp_callSi (W.runS (As := [.int (x >>> ((nI 9) &&& 31)),.int (nI 18)]) (rest := []) ⟨hx, hb, hml, hown, hts⟩ (c_L_below l dC dI cA (x >>> ((nI 9) &&& 31)) 18 (by first | assumption | omega) (by first | assumption | omega)) (va_cwS 2 hts gL_act_L_below rfl rfl rfl (by decide +kernel) ⟨Nat.le_of_ble_eq_true rfl, Nat.le_of_ble_eq_true rfl⟩) ⟨fun _ _ _ _ q => q, fun U hU hW => ⟨rfl, trivial⟩⟩ rfl rfl hl.1 rfl (lv_room (Nat.le_of_ble_eq_true rfl)) dL_act_12 ⟨Nat.le_of_ble_eq_true rfl, Nat.le_of_ble_eq_true rfl⟩) (fun r_1 hw_1 => ?_)
  subst hw_1
  obtain ⟨so, hb_so, eb_so⟩ : ∃ j9, j9 < 18 ∧ zbl (x >>> ((nI 9) &&& 31)) 18 = j9 := ⟨_, zbl_lt _ (by omega), rfl⟩
  refine zz_top (congrArg nI eb_so) ?_
  refine lv_istore (lv' := [(4, .int (nI so)), (3, .int (nI (zn z))), (0, .ref xo), (1, .ref mo), (2, .int x)]) hx hb dL_act_15 hl (by decide) rfl (fun ls hl => ?_)
  have lp_27 := act_27 l dC dI cA cB mo rr tt ra ta z xo pk_ pk h a0 a1 a2 a3 a4 a5 kk c0 c1 c2 c3 me rk x (p := p) (e := e) (s := s) (m := m) (args := args) (below := below) (meth := meth) (c := c) (A := A) hx hb hr hml hown hts hlocks hK hN hA hz hv hdz so
  refine lv_iload_n hx hb dL_act_17 rfl (lv_at hl 1 rfl) ?_
  refine lv_if_eq (tgt := 27) hx hb dL_act_18 (by decide) (fun c_2 => ?_) (fun c_2 => ?_)
  · skip
    replace c_2 := (zz_eq0 (by omega)).mp c_2
    have hl := lv_sub (l' := [(0, .ref xo), (1, .ref mo), (2, .int x), (3, .int (nI (zn z))), (4, .int (nI so))]) hl [2, 3, 4, 1, 0] rfl
    refine W.widen (k := 0) (n := 0) (by omega) (by omega) ?_
    exact lp_27    _ _ hP hD hS _ hl
  · skip
    replace c_2 := mt (zz_eq0 (by omega)).mpr c_2
    refine lv_iload hx hb dL_act_21 (lv_at hl 0 rfl) ?_
    refine lv_iconst (v := nI 2) hx hb dL_act_23 (by decide) ?_
    refine lv_icmp_ge (tgt := 142) hx hb dL_act_24 (by decide) (fun c_3 => ?_) (fun c_3 => ?_)
    · skip
      replace c_3 := (nI_leI (by omega) (by omega)).mp c_3
      refine lv_iload_n hx hb dL_act_142 rfl (lv_at hl 4 rfl) ?_
      refine lv_iconst (v := nI 1) hx hb dL_act_143 (by decide) ?_
      refine lv_ishr hx hb dL_act_144 ?_
      refine lv_iload_n hx hb dL_act_145 rfl (lv_at hl 1 rfl) ?_
      refine vp_callSi (W.runS (As := [.int (x >>> ((nI 1) &&& 31)),.int (nI (zn z))]) (rest := []) ⟨hx, hb, hml, hown, hts⟩ (c_L_below l dC dI cA (x >>> ((nI 1) &&& 31)) (zn z) (by first | assumption | omega) (by first | assumption | omega)) (va_cwS 2 hts gL_act_L_below rfl rfl rfl (by decide +kernel) ⟨Nat.le_of_ble_eq_true rfl, Nat.le_of_ble_eq_true rfl⟩) ⟨fun _ _ _ _ q => q, fun U hU hW => ⟨rfl, trivial⟩⟩ rfl rfl hl.1 rfl (lv_room (Nat.le_of_ble_eq_true rfl)) dL_act_146 ⟨Nat.le_of_ble_eq_true rfl, Nat.le_of_ble_eq_true rfl⟩) (fun r_4 hw_4 => ?_)
      subst hw_4
      obtain ⟨r9, hb_r9, eb_r9⟩ : ∃ j9, j9 < (zn z) ∧ zbl (x >>> ((nI 1) &&& 31)) (zn z) = j9 := ⟨_, zbl_lt _ (by omega), rfl⟩
      refine zz_top (congrArg nI eb_r9) ?_
      refine lv_istore (lv' := [(5, .int (nI r9)), (4, .int (nI so)), (3, .int (nI (zn z))), (0, .ref xo), (1, .ref mo), (2, .int x)]) hx hb dL_act_149 hl (by decide) rfl (fun ls hl => ?_)
      refine lv_aload_n hx hb dL_act_151 rfl (lv_at hl 4 rfl) ?_
      refine va_get (D := (dC, dI)) (ci := 4) (v := .ref rr) (C := RX5) (T := TX5) (N := 5) hx hb hts i_L_act_X5 hown hK hP 0 rfl rfl 3 (by decide) (hts (.fieldLink RL 9 "RuinViewsLaw$Sim" "ruins" "[[I") (List.mem_of_getElem? (i := 1) rfl)) (fun _ h9 => h9) rfl dL_act_152 ?_
      refine lv_iload hx hb dL_act_155 (lv_at hl 0 rfl) ?_
      refine zz_aald hx hb hK hP 1 (f := zrf (zn z) ra) rfl rfl (j := r9) (v := ra r9) (by omega) (by omega) (zrf_g (by omega)) dL_act_157 ?_
      have hw9 := o4 r9
      have hi9 := o5 r9
      have hp9 := o7 r9
      refine lv_astore (lv' := [(6, .ref (ra r9)), (5, .int (nI r9)), (4, .int (nI so)), (3, .int (nI (zn z))), (0, .ref xo), (1, .ref mo), (2, .int x)]) hx hb dL_act_158 hl (by decide) rfl (fun ls hl => ?_)
      have lp_216 := act_216 l dC dI cA cB mo rr tt ra ta z xo pk_ pk h a0 a1 a2 a3 a4 a5 kk c0 c1 c2 c3 me rk x (p := p) (e := e) (s := s) (m := m) (args := args) (below := below) (meth := meth) (c := c) (A := A) hx hb hr hml hown hts hlocks hK hN hA hz hv hdz so r9 hb_r9
      have lp_264 := act_264 l dC dI cA cB mo rr tt ra ta z xo pk_ pk h a0 a1 a2 a3 a4 a5 kk c0 c1 c2 c3 me rk x (p := p) (e := e) (s := s) (m := m) (args := args) (below := below) (meth := meth) (c := c) (A := A) hx hb hr hml hown hts hlocks hK hN hA hz hv hdz so r9 hb_r9
      have lp_327 := act_327 l dC dI cA cB mo rr tt ra ta z xo pk_ pk h a0 a1 a2 a3 a4 a5 kk c0 c1 c2 c3 me rk x (p := p) (e := e) (s := s) (m := m) (args := args) (below := below) (meth := meth) (c := c) (A := A) hx hb hr hml hown hts hlocks hK hN hA hz hv hdz so r9 hb_r9
      have lp_366 := act_366 l dC dI cA cB mo rr tt ra ta z xo pk_ pk h a0 a1 a2 a3 a4 a5 kk c0 c1 c2 c3 me rk x (p := p) (e := e) (s := s) (m := m) (args := args) (below := below) (meth := meth) (c := c) (A := A) hx hb hr hml hown hts hlocks hK hN hA hz hv hdz so r9 hb_r9
      have lp_403 := act_403 l dC dI cA cB mo rr tt ra ta z xo pk_ pk h a0 a1 a2 a3 a4 a5 kk c0 c1 c2 c3 me rk x (p := p) (e := e) (s := s) (m := m) (args := args) (below := below) (meth := meth) (c := c) (A := A) hx hb hr hml hown hts hlocks hK hN hA hz hv hdz so r9 hb_r9
      have lp_521 := act_521 l dC dI cA cB mo rr tt ra ta z xo pk_ pk h a0 a1 a2 a3 a4 a5 kk c0 c1 c2 c3 me rk x (p := p) (e := e) (s := s) (m := m) (args := args) (below := below) (meth := meth) (c := c) (A := A) hx hb hr hml hown hts hlocks hK hN hA hz hv hdz so r9 hb_r9
      refine lv_iload hx hb dL_act_160 (lv_at hl 2 rfl) ?_
      have ti : (nI so).toInt = (so : Int) := nI_toInt (by omega)
      by_cases hk_5 : so = 2 ∨ so = 3
      · skip
        refine lv_tableIn (off := 54) (tgt := 216) hx hb dL_act_162 (by rw [ti]; omega) (by rw [ti]; omega) (by rw [ti]; rcases hk_5 with hk_5 | hk_5 <;> rw [hk_5] <;> rfl) (by decide) ?_
        have hl := lv_sub (l' := [(0, .ref xo), (1, .ref mo), (2, .int x), (3, .int (nI (zn z))), (4, .int (nI so)), (5, .int (nI r9)), (6, .ref (ra r9))]) hl [4, 5, 6, 3, 2, 1, 0] rfl
        refine W.widen (k := 0) (n := 0) (by omega) (by omega) ?_
        exact lp_216    _ _ hP hD hS _ hl
      · skip
        by_cases hk_6 : so = 4 ∨ so = 5
        · skip
          refine lv_tableIn (off := 102) (tgt := 264) hx hb dL_act_162 (by rw [ti]; omega) (by rw [ti]; omega) (by rw [ti]; rcases hk_6 with hk_6 | hk_6 <;> rw [hk_6] <;> rfl) (by decide) ?_
          have hl := lv_sub (l' := [(0, .ref xo), (1, .ref mo), (2, .int x), (3, .int (nI (zn z))), (4, .int (nI so)), (5, .int (nI r9)), (6, .ref (ra r9))]) hl [4, 5, 6, 3, 2, 1, 0] rfl
          refine W.widen (k := 0) (n := 0) (by omega) (by omega) ?_
          exact lp_264    _ _ hP hD hS _ hl
        · skip
          by_cases hk_7 : so = 6 ∨ so = 7
          · skip
            refine lv_tableIn (off := 165) (tgt := 327) hx hb dL_act_162 (by rw [ti]; omega) (by rw [ti]; omega) (by rw [ti]; rcases hk_7 with hk_7 | hk_7 <;> rw [hk_7] <;> rfl) (by decide) ?_
            have hl := lv_sub (l' := [(0, .ref xo), (1, .ref mo), (2, .int x), (3, .int (nI (zn z))), (4, .int (nI so)), (5, .int (nI r9)), (6, .ref (ra r9))]) hl [4, 5, 6, 3, 2, 1, 0] rfl
            refine W.widen (k := 0) (n := 0) (by omega) (by omega) ?_
            exact lp_327    _ _ hP hD hS _ hl
          · skip
            by_cases hk_8 : so = 8
            · skip
              refine lv_tableIn (off := 204) (tgt := 366) hx hb dL_act_162 (by rw [ti]; omega) (by rw [ti]; omega) (by rw [ti]; rw [hk_8]; rfl) (by decide) ?_
              have hl := lv_sub (l' := [(0, .ref xo), (1, .ref mo), (2, .int x), (3, .int (nI (zn z))), (4, .int (nI so)), (5, .int (nI r9)), (6, .ref (ra r9))]) hl [4, 5, 6, 3, 2, 1, 0] rfl
              refine W.widen (k := 0) (n := 0) (by omega) (by omega) ?_
              exact lp_366    _ _ hP hD hS _ hl
            · skip
              by_cases hk_9 : so = 9 ∨ so = 10 ∨ so = 11
              · skip
                refine lv_tableIn (off := 241) (tgt := 403) hx hb dL_act_162 (by rw [ti]; omega) (by rw [ti]; omega) (by rw [ti]; rcases hk_9 with hk_9 | hk_9 | hk_9 <;> rw [hk_9] <;> rfl) (by decide) ?_
                have hl := lv_sub (l' := [(0, .ref xo), (1, .ref mo), (2, .int x), (3, .int (nI (zn z))), (4, .int (nI so)), (5, .int (nI r9)), (6, .ref (ra r9))]) hl [4, 5, 6, 3, 2, 1, 0] rfl
                refine W.widen (k := 0) (n := 0) (by omega) (by omega) ?_
                exact lp_403    _ _ hP hD hS _ hl
              · skip
                refine lv_tableOut (tgt := 521) hx hb dL_act_162 (by rw [ti]; omega) (by decide) ?_
                have hl := lv_sub (l' := [(0, .ref xo), (1, .ref mo), (2, .int x), (3, .int (nI (zn z))), (4, .int (nI so)), (5, .int (nI r9)), (6, .ref (ra r9))]) hl [4, 5, 6, 3, 2, 1, 0] rfl
                refine W.widen (k := 0) (n := 0) (by omega) (by omega) ?_
                exact lp_521    _ _ hP hD hS _ hl
    · skip
      replace c_3 := mt (nI_leI (by omega) (by omega)).mpr c_3
      have hl := lv_sub (l' := [(0, .ref xo), (1, .ref mo), (2, .int x), (3, .int (nI (zn z))), (4, .int (nI so))]) hl [2, 3, 4, 1, 0] rfl
      refine W.widen (k := 0) (n := 0) (by omega) (by omega) ?_
      exact lp_27    _ _ hP hD hS _ hl
