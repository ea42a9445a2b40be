set_option maxHeartbeats 8000000 in
set_option maxRecDepth 100000 in
theorem law_s7 {p : Program} {l : Launch} {e : Env} {s : State} {m : MethodId} {below : List Frame} {meth : Method} {c : Code} {dC : Nat → ClassId} {dI : Nat → Nat → Nat} {cA cB : ClassId} {b L : Nat} {xs : Nat → Int32} {xo pk_ pk h a0 a1 a2 a3 a4 a5 kk c0 c1 c2 c3 mo : Nat} (C0 : lw_At p s m meth c b L xs) (hL : L ≤ 260) (hK : va_K (dC, dI) vwCl [(cA, .int), (cB, .array .int)] s) (hN : zNest s) (i : Nat) (hi32 : i < 32) (lp_22 : (∀ (z : ZS) (rr : Nat) (tt : Nat) (ra : Nat → Nat) (ta : Nat → Nat) (me : Nat → Int32) (rk : Nat → Int32) , (zok z) → (zinv z) → (zdy z ≤ 3400 + 61 * (i + 1)) → ∀ (H : Heap) (locs : List Loc), va_P (dC, dI) vwCl ([(mo, .inr (4, [.int (nI (zdy z)), .int (nI (zgu z)), .int (zpu z), .ref rr, .ref tt])), (rr, .inl (cB, zn z, .inr (.inr (.inr (.inr (zrf (zn z) ra)))))), (tt, .inl (cB, ztn z, .inr (.inr (.inr (.inr (zrf (ztn z) ta)))))), (xo, .inr (3, [.ref pk, .ref pk_])), (pk, .inr (0, [.ref h, .ref kk, .int (nI (zdy z)), .int (nI (zgu z)), .int (zpu z)])), (h, .inr (1, [.ref a0, .ref a1, .ref a2, .ref a3, .ref a4, .ref a5, .int (nI (zn z))])), (a0, .inl (cA, 10, .inl (fun j9 => nI ((zwa z) j9)))), (a1, .inl (cA, 10, .inl (fun j9 => nI ((ziv z) j9)))), (a2, .inl (cA, 10, .inl (fun j9 => nI ((zgh z) j9)))), (a3, .inl (cA, 10, .inl (fun j9 => nI ((zpr z) j9)))), (a4, .inl (cA, 10, .inl me)), (a5, .inl (cA, 10, .inl rk)), (kk, .inr (2, [.ref c0, .ref c1, .ref c2, .ref c3, .int (nI (ztn z))])), (c0, .inl (cA, 30, .inl (fun j9 => nI ((ztr z) j9)))), (c1, .inl (cA, 30, .inl (fun j9 => nI ((ztd z) j9)))), (c2, .inl (cA, 30, .inl (fun j9 => nI ((ztp z) j9)))), (c3, .inl (cA, 30, .inl (fun j9 => nI ((ztf z) j9))))] ++ (zpl cA ra (zrow (zwa z) (ziv z) (zgh z) (zpr z)) (zn z) ++ (zpl cA ta (zrow (ztr z) (ztd z) (ztp z) (ztf z)) (ztn z)))) H → va_D (zA s) ([(mo, .inr (4, [.int (nI (zdy z)), .int (nI (zgu z)), .int (zpu z), .ref rr, .ref tt])), (rr, .inl (cB, zn z, .inr (.inr (.inr (.inr (zrf (zn z) ra)))))), (tt, .inl (cB, ztn z, .inr (.inr (.inr (.inr (zrf (ztn z) ta)))))), (xo, .inr (3, [.ref pk, .ref pk_])), (pk, .inr (0, [.ref h, .ref kk, .int (nI (zdy z)), .int (nI (zgu z)), .int (zpu z)])), (h, .inr (1, [.ref a0, .ref a1, .ref a2, .ref a3, .ref a4, .ref a5, .int (nI (zn z))])), (a0, .inl (cA, 10, .inl (fun j9 => nI ((zwa z) j9)))), (a1, .inl (cA, 10, .inl (fun j9 => nI ((ziv z) j9)))), (a2, .inl (cA, 10, .inl (fun j9 => nI ((zgh z) j9)))), (a3, .inl (cA, 10, .inl (fun j9 => nI ((zpr z) j9)))), (a4, .inl (cA, 10, .inl me)), (a5, .inl (cA, 10, .inl rk)), (kk, .inr (2, [.ref c0, .ref c1, .ref c2, .ref c3, .int (nI (ztn z))])), (c0, .inl (cA, 30, .inl (fun j9 => nI ((ztr z) j9)))), (c1, .inl (cA, 30, .inl (fun j9 => nI ((ztd z) j9)))), (c2, .inl (cA, 30, .inl (fun j9 => nI ((ztp z) j9)))), (c3, .inl (cA, 30, .inl (fun j9 => nI ((ztf z) j9))))] ++ (zpl cA ra (zrow (zwa z) (ziv z) (zgh z) (zpr z)) (zn z) ++ (zpl cA ta (zrow (ztr z) (ztd z) (ztp z) (ztf z)) (ztn z)))) → va_S (zA s) s.heap H locs → ∀ (ls : Array Slot), lv_has ls 23 [(0, .ref b), (1, .ref xo), (2, .ref mo), (3, .int (nI (i + 1)))] → W p l e room_1 s m #[Value.ref b] below meth c H locs (13300 + 300 * (i + 1)) (120000 + 2400 * (i + 1)) (lw_Z below #[Value.ref b] s) (F0 m 22 ls []))) : ∀ (z : ZS) (rr : Nat) (tt : Nat) (ra : Nat → Nat) (ta : Nat → Nat) (me : Nat → Int32) (rk : Nat → Int32) (wr : Nat) (wf : Nat → Nat) , (zok z) → (zinv z) → (zdy z ≤ 3460 + 61 * i) → ∀ (H : Heap) (locs : List Loc), va_P (dC, dI) vwCl ([(mo, .inr (4, [.int (nI (zdy (zd1 z))), .int (nI (zgu (zd1 z))), .int (zpu (zd1 z)), .ref rr, .ref tt])), (rr, .inl (cB, zn (zd1 z), .inr (.inr (.inr (.inr (zrf (zn (zd1 z)) ra)))))), (tt, .inl (cB, ztn (zd1 z), .inr (.inr (.inr (.inr (zrf (ztn (zd1 z)) ta)))))), (xo, .inr (3, [.ref pk, .ref pk_])), (pk, .inr (0, [.ref h, .ref kk, .int (nI (zdy (zd1 z))), .int (nI (zgu (zd1 z))), .int (zpu (zd1 z))])), (h, .inr (1, [.ref a0, .ref a1, .ref a2, .ref a3, .ref a4, .ref a5, .int (nI (zn (zd1 z)))])), (a0, .inl (cA, 10, .inl (fun j9 => nI ((zwa (zd1 z)) j9)))), (a1, .inl (cA, 10, .inl (fun j9 => nI ((ziv (zd1 z)) j9)))), (a2, .inl (cA, 10, .inl (fun j9 => nI ((zgh (zd1 z)) j9)))), (a3, .inl (cA, 10, .inl (fun j9 => nI ((zpr (zd1 z)) j9)))), (a4, .inl (cA, 10, .inl me)), (a5, .inl (cA, 10, .inl rk)), (kk, .inr (2, [.ref c0, .ref c1, .ref c2, .ref c3, .int (nI (ztn (zd1 z)))])), (c0, .inl (cA, 30, .inl (fun j9 => nI ((ztr (zd1 z)) j9)))), (c1, .inl (cA, 30, .inl (fun j9 => nI ((ztd (zd1 z)) j9)))), (c2, .inl (cA, 30, .inl (fun j9 => nI ((ztp (zd1 z)) j9)))), (c3, .inl (cA, 30, .inl (fun j9 => nI ((ztf (zd1 z)) j9)))), (wr, .inl (cB, zn z, .inr (.inr (.inr (.inr (zrf (zn z) wf))))))] ++ (zpl cA ra (zrow (zwa (zd1 z)) (ziv (zd1 z)) (zgh (zd1 z)) (zpr (zd1 z))) (zn (zd1 z)) ++ (zpl cA ta (zrow (ztr (zd1 z)) (ztd (zd1 z)) (ztp (zd1 z)) (ztf (zd1 z))) (ztn (zd1 z)) ++ (zpl cA wf (zroi (zwa z) (ziv z) (zgh z) (zrk z)) (zn z))))) H → va_D (zA s) ([(mo, .inr (4, [.int (nI (zdy (zd1 z))), .int (nI (zgu (zd1 z))), .int (zpu (zd1 z)), .ref rr, .ref tt])), (rr, .inl (cB, zn (zd1 z), .inr (.inr (.inr (.inr (zrf (zn (zd1 z)) ra)))))), (tt, .inl (cB, ztn (zd1 z), .inr (.inr (.inr (.inr (zrf (ztn (zd1 z)) ta)))))), (xo, .inr (3, [.ref pk, .ref pk_])), (pk, .inr (0, [.ref h, .ref kk, .int (nI (zdy (zd1 z))), .int (nI (zgu (zd1 z))), .int (zpu (zd1 z))])), (h, .inr (1, [.ref a0, .ref a1, .ref a2, .ref a3, .ref a4, .ref a5, .int (nI (zn (zd1 z)))])), (a0, .inl (cA, 10, .inl (fun j9 => nI ((zwa (zd1 z)) j9)))), (a1, .inl (cA, 10, .inl (fun j9 => nI ((ziv (zd1 z)) j9)))), (a2, .inl (cA, 10, .inl (fun j9 => nI ((zgh (zd1 z)) j9)))), (a3, .inl (cA, 10, .inl (fun j9 => nI ((zpr (zd1 z)) j9)))), (a4, .inl (cA, 10, .inl me)), (a5, .inl (cA, 10, .inl rk)), (kk, .inr (2, [.ref c0, .ref c1, .ref c2, .ref c3, .int (nI (ztn (zd1 z)))])), (c0, .inl (cA, 30, .inl (fun j9 => nI ((ztr (zd1 z)) j9)))), (c1, .inl (cA, 30, .inl (fun j9 => nI ((ztd (zd1 z)) j9)))), (c2, .inl (cA, 30, .inl (fun j9 => nI ((ztp (zd1 z)) j9)))), (c3, .inl (cA, 30, .inl (fun j9 => nI ((ztf (zd1 z)) j9)))), (wr, .inl (cB, zn z, .inr (.inr (.inr (.inr (zrf (zn z) wf))))))] ++ (zpl cA ra (zrow (zwa (zd1 z)) (ziv (zd1 z)) (zgh (zd1 z)) (zpr (zd1 z))) (zn (zd1 z)) ++ (zpl cA ta (zrow (ztr (zd1 z)) (ztd (zd1 z)) (ztp (zd1 z)) (ztf (zd1 z))) (ztn (zd1 z)) ++ (zpl cA wf (zroi (zwa z) (ziv z) (zgh z) (zrk z)) (zn z))))) → va_S (zA s) s.heap H locs → ∀ (ls : Array Slot), lv_has ls 23 [(0, .ref b), (1, .ref xo), (2, .ref mo), (3, .int (nI i)), (5, .int (nI (zn z))), (11, .ref wr), (13, .int (nI (zdy z))), (14, .int (nI (zb (zdy z))))] → W p l e room_1 s m #[Value.ref b] below meth c H locs (13556 + 300 * i) (122276 + 2400 * i) (lw_Z below #[Value.ref b] s) (F0 m 917 ls []) := by
  obtain ⟨hx, hb, hr, hml, hown, hts0, hX, hbl, hlocks, hgv⟩ := id C0
  have hts := fun w h => hts0 w (wsL_law_in w h)
  have hKi := hK.sub (tys' := [(cA, .int)]) [0] rfl
  have hK2 := hK
  have hA : ∀ q : Nat, s.heap.size ≤ q → zA s q := fun _ h => h
  have hbA : ¬ zA s b := Nat.not_le.mpr hbl
  intro z rr tt ra ta me rk wr wf hz hv hdz H locs hP hD hS ls hl
  obtain ⟨o1, o2, o3, o4, o5, o6, o7, o8, o9, o10, o11⟩ := id hz
  have ho1 := zd1_ok hz
  have hv1 := zinv_d1 hv
  have hdy1 : zdy (zd1 z) = zdy z + 1 := rfl
  have hn1 : zn (zd1 z) = zn z := rfl
  refine lv_iconst (v := nI 0) hx hb dL_law_917 (by decide) ?_
  refine lv_istore (lv' := [(18, .int (nI 0)), (0, .ref b), (1, .ref xo), (2, .ref mo), (3, .int (nI i)), (5, .int (nI (zn z))), (11, .ref wr), (13, .int (nI (zdy z))), (14, .int (nI (zb (zdy z))))]) hx hb dL_law_918 hl (by decide) rfl (fun ls hl => ?_)
  have lp_920 : ∀ (f9 : Nat) (r : Nat) , (zn z - r) < f9 → (r ≤ zn z) → ∀ (H : Heap) (locs : List Loc), va_P (dC, dI) vwCl ([(mo, .inr (4, [.int (nI (zdy (zd1 z))), .int (nI (zgu (zd1 z))), .int (zpu (zd1 z)), .ref rr, .ref tt])), (rr, .inl (cB, zn (zd1 z), .inr (.inr (.inr (.inr (zrf (zn (zd1 z)) ra)))))), (tt, .inl (cB, ztn (zd1 z), .inr (.inr (.inr (.inr (zrf (ztn (zd1 z)) ta)))))), (xo, .inr (3, [.ref pk, .ref pk_])), (pk, .inr (0, [.ref h, .ref kk, .int (nI (zdy (zd1 z))), .int (nI (zgu (zd1 z))), .int (zpu (zd1 z))])), (h, .inr (1, [.ref a0, .ref a1, .ref a2, .ref a3, .ref a4, .ref a5, .int (nI (zn (zd1 z)))])), (a0, .inl (cA, 10, .inl (fun j9 => nI ((zwa (zd1 z)) j9)))), (a1, .inl (cA, 10, .inl (fun j9 => nI ((ziv (zd1 z)) j9)))), (a2, .inl (cA, 10, .inl (fun j9 => nI ((zgh (zd1 z)) j9)))), (a3, .inl (cA, 10, .inl (fun j9 => nI ((zpr (zd1 z)) j9)))), (a4, .inl (cA, 10, .inl me)), (a5, .inl (cA, 10, .inl rk)), (kk, .inr (2, [.ref c0, .ref c1, .ref c2, .ref c3, .int (nI (ztn (zd1 z)))])), (c0, .inl (cA, 30, .inl (fun j9 => nI ((ztr (zd1 z)) j9)))), (c1, .inl (cA, 30, .inl (fun j9 => nI ((ztd (zd1 z)) j9)))), (c2, .inl (cA, 30, .inl (fun j9 => nI ((ztp (zd1 z)) j9)))), (c3, .inl (cA, 30, .inl (fun j9 => nI ((ztf (zd1 z)) j9)))), (wr, .inl (cB, zn z, .inr (.inr (.inr (.inr (zrf (zn z) wf))))))] ++ (zpl cA ra (zrow (zwa (zd1 z)) (ziv (zd1 z)) (zgh (zd1 z)) (zpr (zd1 z))) (zn (zd1 z)) ++ (zpl cA ta (zrow (ztr (zd1 z)) (ztd (zd1 z)) (ztp (zd1 z)) (ztf (zd1 z))) (ztn (zd1 z)) ++ (zpl cA wf (zroi (zwa z) (ziv z) (zgh z) (zrk z)) (zn z))))) H → va_D (zA s) ([(mo, .inr (4, [.int (nI (zdy (zd1 z))), .int (nI (zgu (zd1 z))), .int (zpu (zd1 z)), .ref rr, .ref tt])), (rr, .inl (cB, zn (zd1 z), .inr (.inr (.inr (.inr (zrf (zn (zd1 z)) ra)))))), (tt, .inl (cB, ztn (zd1 z), .inr (.inr (.inr (.inr (zrf (ztn (zd1 z)) ta)))))), (xo, .inr (3, [.ref pk, .ref pk_])), (pk, .inr (0, [.ref h, .ref kk, .int (nI (zdy (zd1 z))), .int (nI (zgu (zd1 z))), .int (zpu (zd1 z))])), (h, .inr (1, [.ref a0, .ref a1, .ref a2, .ref a3, .ref a4, .ref a5, .int (nI (zn (zd1 z)))])), (a0, .inl (cA, 10, .inl (fun j9 => nI ((zwa (zd1 z)) j9)))), (a1, .inl (cA, 10, .inl (fun j9 => nI ((ziv (zd1 z)) j9)))), (a2, .inl (cA, 10, .inl (fun j9 => nI ((zgh (zd1 z)) j9)))), (a3, .inl (cA, 10, .inl (fun j9 => nI ((zpr (zd1 z)) j9)))), (a4, .inl (cA, 10, .inl me)), (a5, .inl (cA, 10, .inl rk)), (kk, .inr (2, [.ref c0, .ref c1, .ref c2, .ref c3, .int (nI (ztn (zd1 z)))])), (c0, .inl (cA, 30, .inl (fun j9 => nI ((ztr (zd1 z)) j9)))), (c1, .inl (cA, 30, .inl (fun j9 => nI ((ztd (zd1 z)) j9)))), (c2, .inl (cA, 30, .inl (fun j9 => nI ((ztp (zd1 z)) j9)))), (c3, .inl (cA, 30, .inl (fun j9 => nI ((ztf (zd1 z)) j9)))), (wr, .inl (cB, zn z, .inr (.inr (.inr (.inr (zrf (zn z) wf))))))] ++ (zpl cA ra (zrow (zwa (zd1 z)) (ziv (zd1 z)) (zgh (zd1 z)) (zpr (zd1 z))) (zn (zd1 z)) ++ (zpl cA ta (zrow (ztr (zd1 z)) (ztd (zd1 z)) (ztp (zd1 z)) (ztf (zd1 z))) (ztn (zd1 z)) ++ (zpl cA wf (zroi (zwa z) (ziv z) (zgh z) (zrk z)) (zn z))))) → va_S (zA s) s.heap H locs → ∀ (ls : Array Slot), lv_has ls 23 [(0, .ref b), (1, .ref xo), (2, .ref mo), (3, .int (nI i)), (5, .int (nI (zn z))), (11, .ref wr), (13, .int (nI (zdy z))), (14, .int (nI (zb (zdy z)))), (18, .int (nI r))] → W p l e room_1 s m #[Value.ref b] below meth c H locs (13556 + 300 * i) (122276 + 2400 * i) (lw_Z below #[Value.ref b] s) (F0 m 920 ls []) := by
    intro f9
    induction f9 with
    | zero => intro r hm9; exact absurd hm9 (Nat.not_lt_zero _)
    | succ f9 ih_920 =>
      intro r hm9 hr9 H locs hP hD hS ls hl
      refine lv_iload hx hb dL_law_920 (lv_at hl 8 rfl) ?_
      refine lv_iload hx hb dL_law_922 (lv_at hl 4 rfl) ?_
      refine lv_icmp_ge (tgt := 1188) hx hb dL_law_924 (by decide) (fun c_1 => ?_) (fun c_1 => ?_)
      · skip
        replace c_1 := (nI_leI (by first | omega | (split <;> omega)) (by first | omega | (split <;> omega))).mp c_1
        have hP9 : va_P (dC, dI) vwCl (([(mo, .inr (4, [.int (nI (zdy (zd1 z))), .int (nI (zgu (zd1 z))), .int (zpu (zd1 z)), .ref rr, .ref tt])), (rr, .inl (cB, zn (zd1 z), .inr (.inr (.inr (.inr (zrf (zn (zd1 z)) ra)))))), (tt, .inl (cB, ztn (zd1 z), .inr (.inr (.inr (.inr (zrf (ztn (zd1 z)) ta)))))), (xo, .inr (3, [.ref pk, .ref pk_])), (pk, .inr (0, [.ref h, .ref kk, .int (nI (zdy (zd1 z))), .int (nI (zgu (zd1 z))), .int (zpu (zd1 z))])), (h, .inr (1, [.ref a0, .ref a1, .ref a2, .ref a3, .ref a4, .ref a5, .int (nI (zn (zd1 z)))])), (a0, .inl (cA, 10, .inl (fun j9 => nI ((zwa (zd1 z)) j9)))), (a1, .inl (cA, 10, .inl (fun j9 => nI ((ziv (zd1 z)) j9)))), (a2, .inl (cA, 10, .inl (fun j9 => nI ((zgh (zd1 z)) j9)))), (a3, .inl (cA, 10, .inl (fun j9 => nI ((zpr (zd1 z)) j9)))), (a4, .inl (cA, 10, .inl me)), (a5, .inl (cA, 10, .inl rk)), (kk, .inr (2, [.ref c0, .ref c1, .ref c2, .ref c3, .int (nI (ztn (zd1 z)))])), (c0, .inl (cA, 30, .inl (fun j9 => nI ((ztr (zd1 z)) j9)))), (c1, .inl (cA, 30, .inl (fun j9 => nI ((ztd (zd1 z)) j9)))), (c2, .inl (cA, 30, .inl (fun j9 => nI ((ztp (zd1 z)) j9)))), (c3, .inl (cA, 30, .inl (fun j9 => nI ((ztf (zd1 z)) j9)))), (wr, .inl (cB, zn z, .inr (.inr (.inr (.inr (zrf (zn z) wf))))))] ++ (zpl cA ra (zrow (zwa (zd1 z)) (ziv (zd1 z)) (zgh (zd1 z)) (zpr (zd1 z))) (zn (zd1 z)) ++ (zpl cA ta (zrow (ztr (zd1 z)) (ztd (zd1 z)) (ztp (zd1 z)) (ztf (zd1 z))) (ztn (zd1 z))))) ++ (zpl cA wf (zroi (zwa z) (ziv z) (zgh z) (zrk z)) (zn z))) H := by simpa only [List.append_assoc] using hP
        have hD9 : va_D (zA s) (([(mo, .inr (4, [.int (nI (zdy (zd1 z))), .int (nI (zgu (zd1 z))), .int (zpu (zd1 z)), .ref rr, .ref tt])), (rr, .inl (cB, zn (zd1 z), .inr (.inr (.inr (.inr (zrf (zn (zd1 z)) ra)))))), (tt, .inl (cB, ztn (zd1 z), .inr (.inr (.inr (.inr (zrf (ztn (zd1 z)) ta)))))), (xo, .inr (3, [.ref pk, .ref pk_])), (pk, .inr (0, [.ref h, .ref kk, .int (nI (zdy (zd1 z))), .int (nI (zgu (zd1 z))), .int (zpu (zd1 z))])), (h, .inr (1, [.ref a0, .ref a1, .ref a2, .ref a3, .ref a4, .ref a5, .int (nI (zn (zd1 z)))])), (a0, .inl (cA, 10, .inl (fun j9 => nI ((zwa (zd1 z)) j9)))), (a1, .inl (cA, 10, .inl (fun j9 => nI ((ziv (zd1 z)) j9)))), (a2, .inl (cA, 10, .inl (fun j9 => nI ((zgh (zd1 z)) j9)))), (a3, .inl (cA, 10, .inl (fun j9 => nI ((zpr (zd1 z)) j9)))), (a4, .inl (cA, 10, .inl me)), (a5, .inl (cA, 10, .inl rk)), (kk, .inr (2, [.ref c0, .ref c1, .ref c2, .ref c3, .int (nI (ztn (zd1 z)))])), (c0, .inl (cA, 30, .inl (fun j9 => nI ((ztr (zd1 z)) j9)))), (c1, .inl (cA, 30, .inl (fun j9 => nI ((ztd (zd1 z)) j9)))), (c2, .inl (cA, 30, .inl (fun j9 => nI ((ztp (zd1 z)) j9)))), (c3, .inl (cA, 30, .inl (fun j9 => nI ((ztf (zd1 z)) j9)))), (wr, .inl (cB, zn z, .inr (.inr (.inr (.inr (zrf (zn z) wf))))))] ++ (zpl cA ra (zrow (zwa (zd1 z)) (ziv (zd1 z)) (zgh (zd1 z)) (zpr (zd1 z))) (zn (zd1 z)) ++ (zpl cA ta (zrow (ztr (zd1 z)) (ztd (zd1 z)) (ztp (zd1 z)) (ztf (zd1 z))) (ztn (zd1 z))))) ++ (zpl cA wf (zroi (zwa z) (ziv z) (zgh z) (zrk z)) (zn z))) := by simpa only [List.append_assoc] using hD
        have hP : va_P (dC, dI) vwCl ([(mo, .inr (4, [.int (nI (zdy (zd1 z))), .int (nI (zgu (zd1 z))), .int (zpu (zd1 z)), .ref rr, .ref tt])), (rr, .inl (cB, zn (zd1 z), .inr (.inr (.inr (.inr (zrf (zn (zd1 z)) ra)))))), (tt, .inl (cB, ztn (zd1 z), .inr (.inr (.inr (.inr (zrf (ztn (zd1 z)) ta)))))), (xo, .inr (3, [.ref pk, .ref pk_])), (pk, .inr (0, [.ref h, .ref kk, .int (nI (zdy (zd1 z))), .int (nI (zgu (zd1 z))), .int (zpu (zd1 z))])), (h, .inr (1, [.ref a0, .ref a1, .ref a2, .ref a3, .ref a4, .ref a5, .int (nI (zn (zd1 z)))])), (a0, .inl (cA, 10, .inl (fun j9 => nI ((zwa (zd1 z)) j9)))), (a1, .inl (cA, 10, .inl (fun j9 => nI ((ziv (zd1 z)) j9)))), (a2, .inl (cA, 10, .inl (fun j9 => nI ((zgh (zd1 z)) j9)))), (a3, .inl (cA, 10, .inl (fun j9 => nI ((zpr (zd1 z)) j9)))), (a4, .inl (cA, 10, .inl me)), (a5, .inl (cA, 10, .inl rk)), (kk, .inr (2, [.ref c0, .ref c1, .ref c2, .ref c3, .int (nI (ztn (zd1 z)))])), (c0, .inl (cA, 30, .inl (fun j9 => nI ((ztr (zd1 z)) j9)))), (c1, .inl (cA, 30, .inl (fun j9 => nI ((ztd (zd1 z)) j9)))), (c2, .inl (cA, 30, .inl (fun j9 => nI ((ztp (zd1 z)) j9)))), (c3, .inl (cA, 30, .inl (fun j9 => nI ((ztf (zd1 z)) j9)))), (wr, .inl (cB, zn z, .inr (.inr (.inr (.inr (zrf (zn z) wf))))))] ++ (zpl cA ra (zrow (zwa (zd1 z)) (ziv (zd1 z)) (zgh (zd1 z)) (zpr (zd1 z))) (zn (zd1 z)) ++ (zpl cA ta (zrow (ztr (zd1 z)) (ztd (zd1 z)) (ztp (zd1 z)) (ztf (zd1 z))) (ztn (zd1 z))))) H := hP9.pre
        have hD : va_D (zA s) ([(mo, .inr (4, [.int (nI (zdy (zd1 z))), .int (nI (zgu (zd1 z))), .int (zpu (zd1 z)), .ref rr, .ref tt])), (rr, .inl (cB, zn (zd1 z), .inr (.inr (.inr (.inr (zrf (zn (zd1 z)) ra)))))), (tt, .inl (cB, ztn (zd1 z), .inr (.inr (.inr (.inr (zrf (ztn (zd1 z)) ta)))))), (xo, .inr (3, [.ref pk, .ref pk_])), (pk, .inr (0, [.ref h, .ref kk, .int (nI (zdy (zd1 z))), .int (nI (zgu (zd1 z))), .int (zpu (zd1 z))])), (h, .inr (1, [.ref a0, .ref a1, .ref a2, .ref a3, .ref a4, .ref a5, .int (nI (zn (zd1 z)))])), (a0, .inl (cA, 10, .inl (fun j9 => nI ((zwa (zd1 z)) j9)))), (a1, .inl (cA, 10, .inl (fun j9 => nI ((ziv (zd1 z)) j9)))), (a2, .inl (cA, 10, .inl (fun j9 => nI ((zgh (zd1 z)) j9)))), (a3, .inl (cA, 10, .inl (fun j9 => nI ((zpr (zd1 z)) j9)))), (a4, .inl (cA, 10, .inl me)), (a5, .inl (cA, 10, .inl rk)), (kk, .inr (2, [.ref c0, .ref c1, .ref c2, .ref c3, .int (nI (ztn (zd1 z)))])), (c0, .inl (cA, 30, .inl (fun j9 => nI ((ztr (zd1 z)) j9)))), (c1, .inl (cA, 30, .inl (fun j9 => nI ((ztd (zd1 z)) j9)))), (c2, .inl (cA, 30, .inl (fun j9 => nI ((ztp (zd1 z)) j9)))), (c3, .inl (cA, 30, .inl (fun j9 => nI ((ztf (zd1 z)) j9)))), (wr, .inl (cB, zn z, .inr (.inr (.inr (.inr (zrf (zn z) wf))))))] ++ (zpl cA ra (zrow (zwa (zd1 z)) (ziv (zd1 z)) (zgh (zd1 z)) (zpr (zd1 z))) (zn (zd1 z)) ++ (zpl cA ta (zrow (ztr (zd1 z)) (ztd (zd1 z)) (ztp (zd1 z)) (ztf (zd1 z))) (ztn (zd1 z))))) := hD9.pre
        refine lv_iinc (v := nI (i + 1)) (lv' := [(3, .int (nI (i + 1))), (0, .ref b), (1, .ref xo), (2, .ref mo), (5, .int (nI (zn z))), (11, .ref wr), (13, .int (nI (zdy z))), (14, .int (nI (zb (zdy z)))), (18, .int (nI r))]) hx hb dL_law_1188 hl (k := 3) rfl (nI_1 _) (by decide) rfl (fun ls hl => ?_)
        refine lv_goto (tgt := 22) hx hb dL_law_1191 (by decide) ?_
        have hl := lv_sub (l' := [(0, .ref b), (1, .ref xo), (2, .ref mo), (3, .int (nI (i + 1)))]) hl [1, 2, 3, 0] rfl
        have hP := hP.part (cx := [(mo, .inr (4, [.int (nI (zdy (zd1 z))), .int (nI (zgu (zd1 z))), .int (zpu (zd1 z)), .ref rr, .ref tt])), (rr, .inl (cB, zn (zd1 z), .inr (.inr (.inr (.inr (zrf (zn (zd1 z)) ra)))))), (tt, .inl (cB, ztn (zd1 z), .inr (.inr (.inr (.inr (zrf (ztn (zd1 z)) ta)))))), (xo, .inr (3, [.ref pk, .ref pk_])), (pk, .inr (0, [.ref h, .ref kk, .int (nI (zdy (zd1 z))), .int (nI (zgu (zd1 z))), .int (zpu (zd1 z))])), (h, .inr (1, [.ref a0, .ref a1, .ref a2, .ref a3, .ref a4, .ref a5, .int (nI (zn (zd1 z)))])), (a0, .inl (cA, 10, .inl (fun j9 => nI ((zwa (zd1 z)) j9)))), (a1, .inl (cA, 10, .inl (fun j9 => nI ((ziv (zd1 z)) j9)))), (a2, .inl (cA, 10, .inl (fun j9 => nI ((zgh (zd1 z)) j9)))), (a3, .inl (cA, 10, .inl (fun j9 => nI ((zpr (zd1 z)) j9)))), (a4, .inl (cA, 10, .inl me)), (a5, .inl (cA, 10, .inl rk)), (kk, .inr (2, [.ref c0, .ref c1, .ref c2, .ref c3, .int (nI (ztn (zd1 z)))])), (c0, .inl (cA, 30, .inl (fun j9 => nI ((ztr (zd1 z)) j9)))), (c1, .inl (cA, 30, .inl (fun j9 => nI ((ztd (zd1 z)) j9)))), (c2, .inl (cA, 30, .inl (fun j9 => nI ((ztp (zd1 z)) j9)))), (c3, .inl (cA, 30, .inl (fun j9 => nI ((ztf (zd1 z)) j9))))]) (pl := zpl cA ra (zrow (zwa (zd1 z)) (ziv (zd1 z)) (zgh (zd1 z)) (zpr (zd1 z))) (zn (zd1 z)) ++ (zpl cA ta (zrow (ztr (zd1 z)) (ztd (zd1 z)) (ztp (zd1 z)) (ztf (zd1 z))) (ztn (zd1 z)))) [0, 1, 2, 3, 4, 5, 6, 7, 8, 9, 10, 11, 12, 13, 14, 15, 16] rfl
        have hD := hD.part (cx := [(mo, .inr (4, [.int (nI (zdy (zd1 z))), .int (nI (zgu (zd1 z))), .int (zpu (zd1 z)), .ref rr, .ref tt])), (rr, .inl (cB, zn (zd1 z), .inr (.inr (.inr (.inr (zrf (zn (zd1 z)) ra)))))), (tt, .inl (cB, ztn (zd1 z), .inr (.inr (.inr (.inr (zrf (ztn (zd1 z)) ta)))))), (xo, .inr (3, [.ref pk, .ref pk_])), (pk, .inr (0, [.ref h, .ref kk, .int (nI (zdy (zd1 z))), .int (nI (zgu (zd1 z))), .int (zpu (zd1 z))])), (h, .inr (1, [.ref a0, .ref a1, .ref a2, .ref a3, .ref a4, .ref a5, .int (nI (zn (zd1 z)))])), (a0, .inl (cA, 10, .inl (fun j9 => nI ((zwa (zd1 z)) j9)))), (a1, .inl (cA, 10, .inl (fun j9 => nI ((ziv (zd1 z)) j9)))), (a2, .inl (cA, 10, .inl (fun j9 => nI ((zgh (zd1 z)) j9)))), (a3, .inl (cA, 10, .inl (fun j9 => nI ((zpr (zd1 z)) j9)))), (a4, .inl (cA, 10, .inl me)), (a5, .inl (cA, 10, .inl rk)), (kk, .inr (2, [.ref c0, .ref c1, .ref c2, .ref c3, .int (nI (ztn (zd1 z)))])), (c0, .inl (cA, 30, .inl (fun j9 => nI ((ztr (zd1 z)) j9)))), (c1, .inl (cA, 30, .inl (fun j9 => nI ((ztd (zd1 z)) j9)))), (c2, .inl (cA, 30, .inl (fun j9 => nI ((ztp (zd1 z)) j9)))), (c3, .inl (cA, 30, .inl (fun j9 => nI ((ztf (zd1 z)) j9))))]) (pl := zpl cA ra (zrow (zwa (zd1 z)) (ziv (zd1 z)) (zgh (zd1 z)) (zpr (zd1 z))) (zn (zd1 z)) ++ (zpl cA ta (zrow (ztr (zd1 z)) (ztd (zd1 z)) (ztp (zd1 z)) (ztf (zd1 z))) (ztn (zd1 z)))) [0, 1, 2, 3, 4, 5, 6, 7, 8, 9, 10, 11, 12, 13, 14, 15, 16] (by decide) rfl
        refine W.widen (k := 13300 + 300 * (i + 1)) (n := 120000 + 2400 * (i + 1)) (by omega) (by omega) ?_
        exact lp_22 (zd1 z) rr tt ra ta me rk  (by first | assumption | omega) (by first | assumption | omega) (by first | assumption | omega) _ _ hP hD hS _ hl
      · skip
        replace c_1 := mt (nI_leI (by first | omega | (split <;> omega)) (by first | omega | (split <;> omega))).mpr c_1
        have h1 := zl_iv (z := z) (r := r) (by omega)
        have h2 := zl_wa (z := z) (r := r) (by omega)
        have h3 := zl_gh (z := z) (r := r) (by omega)
        have hw9 := o4 r
        have hi9 := o5 r
        have hg9 := o6 r
        have hw8 := ho1.2.2.2.1 r
        have hi8 := ho1.2.2.2.2.1 r
        have hg8 := ho1.2.2.2.2.2.1 r
        have hz4 := zb_le (zdy z)
        have lp_1155 : (zgh (zd1 z) r = zgh z r) → ∀ (H : Heap) (locs : List Loc), va_P (dC, dI) vwCl ([(mo, .inr (4, [.int (nI (zdy (zd1 z))), .int (nI (zgu (zd1 z))), .int (zpu (zd1 z)), .ref rr, .ref tt])), (rr, .inl (cB, zn (zd1 z), .inr (.inr (.inr (.inr (zrf (zn (zd1 z)) ra)))))), (tt, .inl (cB, ztn (zd1 z), .inr (.inr (.inr (.inr (zrf (ztn (zd1 z)) ta)))))), (xo, .inr (3, [.ref pk, .ref pk_])), (pk, .inr (0, [.ref h, .ref kk, .int (nI (zdy (zd1 z))), .int (nI (zgu (zd1 z))), .int (zpu (zd1 z))])), (h, .inr (1, [.ref a0, .ref a1, .ref a2, .ref a3, .ref a4, .ref a5, .int (nI (zn (zd1 z)))])), (a0, .inl (cA, 10, .inl (fun j9 => nI ((zwa (zd1 z)) j9)))), (a1, .inl (cA, 10, .inl (fun j9 => nI ((ziv (zd1 z)) j9)))), (a2, .inl (cA, 10, .inl (fun j9 => nI ((zgh (zd1 z)) j9)))), (a3, .inl (cA, 10, .inl (fun j9 => nI ((zpr (zd1 z)) j9)))), (a4, .inl (cA, 10, .inl me)), (a5, .inl (cA, 10, .inl rk)), (kk, .inr (2, [.ref c0, .ref c1, .ref c2, .ref c3, .int (nI (ztn (zd1 z)))])), (c0, .inl (cA, 30, .inl (fun j9 => nI ((ztr (zd1 z)) j9)))), (c1, .inl (cA, 30, .inl (fun j9 => nI ((ztd (zd1 z)) j9)))), (c2, .inl (cA, 30, .inl (fun j9 => nI ((ztp (zd1 z)) j9)))), (c3, .inl (cA, 30, .inl (fun j9 => nI ((ztf (zd1 z)) j9)))), (wr, .inl (cB, zn z, .inr (.inr (.inr (.inr (zrf (zn z) wf))))))] ++ (zpl cA ra (zrow (zwa (zd1 z)) (ziv (zd1 z)) (zgh (zd1 z)) (zpr (zd1 z))) (zn (zd1 z)) ++ (zpl cA ta (zrow (ztr (zd1 z)) (ztd (zd1 z)) (ztp (zd1 z)) (ztf (zd1 z))) (ztn (zd1 z)) ++ (zpl cA wf (zroi (zwa z) (ziv z) (zgh z) (zrk z)) (zn z))))) H → va_D (zA s) ([(mo, .inr (4, [.int (nI (zdy (zd1 z))), .int (nI (zgu (zd1 z))), .int (zpu (zd1 z)), .ref rr, .ref tt])), (rr, .inl (cB, zn (zd1 z), .inr (.inr (.inr (.inr (zrf (zn (zd1 z)) ra)))))), (tt, .inl (cB, ztn (zd1 z), .inr (.inr (.inr (.inr (zrf (ztn (zd1 z)) ta)))))), (xo, .inr (3, [.ref pk, .ref pk_])), (pk, .inr (0, [.ref h, .ref kk, .int (nI (zdy (zd1 z))), .int (nI (zgu (zd1 z))), .int (zpu (zd1 z))])), (h, .inr (1, [.ref a0, .ref a1, .ref a2, .ref a3, .ref a4, .ref a5, .int (nI (zn (zd1 z)))])), (a0, .inl (cA, 10, .inl (fun j9 => nI ((zwa (zd1 z)) j9)))), (a1, .inl (cA, 10, .inl (fun j9 => nI ((ziv (zd1 z)) j9)))), (a2, .inl (cA, 10, .inl (fun j9 => nI ((zgh (zd1 z)) j9)))), (a3, .inl (cA, 10, .inl (fun j9 => nI ((zpr (zd1 z)) j9)))), (a4, .inl (cA, 10, .inl me)), (a5, .inl (cA, 10, .inl rk)), (kk, .inr (2, [.ref c0, .ref c1, .ref c2, .ref c3, .int (nI (ztn (zd1 z)))])), (c0, .inl (cA, 30, .inl (fun j9 => nI ((ztr (zd1 z)) j9)))), (c1, .inl (cA, 30, .inl (fun j9 => nI ((ztd (zd1 z)) j9)))), (c2, .inl (cA, 30, .inl (fun j9 => nI ((ztp (zd1 z)) j9)))), (c3, .inl (cA, 30, .inl (fun j9 => nI ((ztf (zd1 z)) j9)))), (wr, .inl (cB, zn z, .inr (.inr (.inr (.inr (zrf (zn z) wf))))))] ++ (zpl cA ra (zrow (zwa (zd1 z)) (ziv (zd1 z)) (zgh (zd1 z)) (zpr (zd1 z))) (zn (zd1 z)) ++ (zpl cA ta (zrow (ztr (zd1 z)) (ztd (zd1 z)) (ztp (zd1 z)) (ztf (zd1 z))) (ztn (zd1 z)) ++ (zpl cA wf (zroi (zwa z) (ziv z) (zgh z) (zrk z)) (zn z))))) → va_S (zA s) s.heap H locs → ∀ (ls : Array Slot), lv_has ls 23 [(0, .ref b), (1, .ref xo), (2, .ref mo), (3, .int (nI i)), (5, .int (nI (zn z))), (11, .ref wr), (13, .int (nI (zdy z))), (14, .int (nI (zb (zdy z)))), (18, .int (nI r)), (19, .int (nI (zwa (zd1 z) r))), (20, .int (nI (ziv (zd1 z) r))), (22, .int (nI 0))] → W p l e room_1 s m #[Value.ref b] below meth c H locs (13556 + 300 * i) (122276 + 2400 * i) (lw_Z below #[Value.ref b] s) (F0 m 1155 ls []) := by
          intro  hE H locs hP hD hS ls hl
          refine lv_iload hx hb dL_law_1155 (lv_at hl 7 rfl) ?_
          refine lv_if_ne (tgt := 1182) hx hb dL_law_1157 (by decide) (fun c_2 => ?_) (fun c_2 => ?_)
          · skip
            replace c_2 := mt (zz_eq0 (by first | omega | (split <;> omega))).mpr c_2
            refine lv_iinc (v := nI (r + 1)) (lv' := [(18, .int (nI (r + 1))), (0, .ref b), (1, .ref xo), (2, .ref mo), (3, .int (nI i)), (5, .int (nI (zn z))), (11, .ref wr), (13, .int (nI (zdy z))), (14, .int (nI (zb (zdy z)))), (19, .int (nI (zwa (zd1 z) r))), (20, .int (nI (ziv (zd1 z) r))), (22, .int (nI 0))]) hx hb dL_law_1182 hl (k := 8) rfl (nI_1 _) (by decide) rfl (fun ls hl => ?_)
            refine lv_goto (tgt := 920) hx hb dL_law_1185 (by decide) ?_
            have hl := lv_sub (l' := [(0, .ref b), (1, .ref xo), (2, .ref mo), (3, .int (nI i)), (5, .int (nI (zn z))), (11, .ref wr), (13, .int (nI (zdy z))), (14, .int (nI (zb (zdy z)))), (18, .int (nI (r + 1)))]) hl [1, 2, 3, 4, 5, 6, 7, 8, 0] rfl
            refine W.widen (k := 13556 + 300 * i) (n := 122276 + 2400 * i) (by omega) (by omega) ?_
            exact ih_920 (r + 1) (by omega) (by first | assumption | omega) _ _ hP hD hS _ hl
          · skip
            replace c_2 := (zz_eq0 (by first | omega | (split <;> omega))).mp c_2
            refine lv_aload hx hb dL_law_1160 (lv_at hl 5 rfl) ?_
            refine lv_iload hx hb dL_law_1162 (lv_at hl 8 rfl) ?_
            refine zz_aald hx hb hK hP 17 (f := zrf (zn z) wf) rfl rfl (j := r) (v := wf r) (by omega) (by omega) (zrf_g (by omega)) dL_law_1164 ?_
            refine lv_iconst (v := nI 2) hx hb dL_law_1165 (by decide) ?_
            refine zp_ld hx hb hK hP (([(mo, .inr (4, [.int (nI (zdy (zd1 z))), .int (nI (zgu (zd1 z))), .int (zpu (zd1 z)), .ref rr, .ref tt])), (rr, .inl (cB, zn (zd1 z), .inr (.inr (.inr (.inr (zrf (zn (zd1 z)) ra)))))), (tt, .inl (cB, ztn (zd1 z), .inr (.inr (.inr (.inr (zrf (ztn (zd1 z)) ta)))))), (xo, .inr (3, [.ref pk, .ref pk_])), (pk, .inr (0, [.ref h, .ref kk, .int (nI (zdy (zd1 z))), .int (nI (zgu (zd1 z))), .int (zpu (zd1 z))])), (h, .inr (1, [.ref a0, .ref a1, .ref a2, .ref a3, .ref a4, .ref a5, .int (nI (zn (zd1 z)))])), (a0, .inl (cA, 10, .inl (fun j9 => nI ((zwa (zd1 z)) j9)))), (a1, .inl (cA, 10, .inl (fun j9 => nI ((ziv (zd1 z)) j9)))), (a2, .inl (cA, 10, .inl (fun j9 => nI ((zgh (zd1 z)) j9)))), (a3, .inl (cA, 10, .inl (fun j9 => nI ((zpr (zd1 z)) j9)))), (a4, .inl (cA, 10, .inl me)), (a5, .inl (cA, 10, .inl rk)), (kk, .inr (2, [.ref c0, .ref c1, .ref c2, .ref c3, .int (nI (ztn (zd1 z)))])), (c0, .inl (cA, 30, .inl (fun j9 => nI ((ztr (zd1 z)) j9)))), (c1, .inl (cA, 30, .inl (fun j9 => nI ((ztd (zd1 z)) j9)))), (c2, .inl (cA, 30, .inl (fun j9 => nI ((ztp (zd1 z)) j9)))), (c3, .inl (cA, 30, .inl (fun j9 => nI ((ztf (zd1 z)) j9)))), (wr, .inl (cB, zn z, .inr (.inr (.inr (.inr (zrf (zn z) wf))))))] ++ (zpl cA ra (zrow (zwa (zd1 z)) (ziv (zd1 z)) (zgh (zd1 z)) (zpr (zd1 z))) (zn (zd1 z)) ++ (zpl cA ta (zrow (ztr (zd1 z)) (ztd (zd1 z)) (ztp (zd1 z)) (ztf (zd1 z))) (ztn (zd1 z))))) : va_W) ([] : va_W) (ra := wf) (F := zroi (zwa z) (ziv z) (zgh z) (zrk z)) (n := (zn z)) (r := r) (k := 2) (v := nI ((zgh z) r)) (by simp only [List.append_assoc, List.append_nil]) rfl (by omega) (by decide) rfl dL_law_1166 ?_
            refine lv_if_le (tgt := 1182) hx hb dL_law_1167 (by decide) (fun c_3 => ?_) (fun c_3 => ?_)
            · skip
              replace c_3 := (zz_lez (by first | omega | (split <;> omega))).mp c_3
              refine lv_iinc (v := nI (r + 1)) (lv' := [(18, .int (nI (r + 1))), (0, .ref b), (1, .ref xo), (2, .ref mo), (3, .int (nI i)), (5, .int (nI (zn z))), (11, .ref wr), (13, .int (nI (zdy z))), (14, .int (nI (zb (zdy z)))), (19, .int (nI (zwa (zd1 z) r))), (20, .int (nI (ziv (zd1 z) r))), (22, .int (nI 0))]) hx hb dL_law_1182 hl (k := 8) rfl (nI_1 _) (by decide) rfl (fun ls hl => ?_)
              refine lv_goto (tgt := 920) hx hb dL_law_1185 (by decide) ?_
              have hl := lv_sub (l' := [(0, .ref b), (1, .ref xo), (2, .ref mo), (3, .int (nI i)), (5, .int (nI (zn z))), (11, .ref wr), (13, .int (nI (zdy z))), (14, .int (nI (zb (zdy z)))), (18, .int (nI (r + 1)))]) hl [1, 2, 3, 4, 5, 6, 7, 8, 0] rfl
              refine W.widen (k := 13556 + 300 * i) (n := 122276 + 2400 * i) (by omega) (by omega) ?_
              exact ih_920 (r + 1) (by omega) (by first | assumption | omega) _ _ hP hD hS _ hl
            · skip
              replace c_3 := mt (zz_lez (by first | omega | (split <;> omega))).mpr c_3
              refine lv_iload hx hb dL_law_1170 (lv_at hl 10 rfl) ?_
              refine lv_if_eq (tgt := 1180) hx hb dL_law_1172 (by decide) (fun c_4 => ?_) (fun c_4 => ?_)
              · skip
                replace c_4 := (zz_eq0 (by first | omega | (split <;> omega))).mp c_4
                exfalso; omega
              · skip
                replace c_4 := mt (zz_eq0 (by first | omega | (split <;> omega))).mpr c_4
                refine lv_iload hx hb dL_law_1175 (lv_at hl 9 rfl) ?_
                refine lv_if_ne (tgt := 1182) hx hb dL_law_1177 (by decide) (fun c_5 => ?_) (fun c_5 => ?_)
                · skip
                  replace c_5 := mt (zz_eq0 (by first | omega | (split <;> omega))).mpr c_5
                  refine lv_iinc (v := nI (r + 1)) (lv' := [(18, .int (nI (r + 1))), (0, .ref b), (1, .ref xo), (2, .ref mo), (3, .int (nI i)), (5, .int (nI (zn z))), (11, .ref wr), (13, .int (nI (zdy z))), (14, .int (nI (zb (zdy z)))), (19, .int (nI (zwa (zd1 z) r))), (20, .int (nI (ziv (zd1 z) r))), (22, .int (nI 0))]) hx hb dL_law_1182 hl (k := 8) rfl (nI_1 _) (by decide) rfl (fun ls hl => ?_)
                  refine lv_goto (tgt := 920) hx hb dL_law_1185 (by decide) ?_
                  have hl := lv_sub (l' := [(0, .ref b), (1, .ref xo), (2, .ref mo), (3, .int (nI i)), (5, .int (nI (zn z))), (11, .ref wr), (13, .int (nI (zdy z))), (14, .int (nI (zb (zdy z)))), (18, .int (nI (r + 1)))]) hl [1, 2, 3, 4, 5, 6, 7, 8, 0] rfl
                  refine W.widen (k := 13556 + 300 * i) (n := 122276 + 2400 * i) (by omega) (by omega) ?_
                  exact ih_920 (r + 1) (by omega) (by first | assumption | omega) _ _ hP hD hS _ hl
                · skip
                  replace c_5 := (zz_eq0 (by first | omega | (split <;> omega))).mp c_5
                  exfalso; omega
        have lp_1034 : ∀ (H : Heap) (locs : List Loc), va_P (dC, dI) vwCl ([(mo, .inr (4, [.int (nI (zdy (zd1 z))), .int (nI (zgu (zd1 z))), .int (zpu (zd1 z)), .ref rr, .ref tt])), (rr, .inl (cB, zn (zd1 z), .inr (.inr (.inr (.inr (zrf (zn (zd1 z)) ra)))))), (tt, .inl (cB, ztn (zd1 z), .inr (.inr (.inr (.inr (zrf (ztn (zd1 z)) ta)))))), (xo, .inr (3, [.ref pk, .ref pk_])), (pk, .inr (0, [.ref h, .ref kk, .int (nI (zdy (zd1 z))), .int (nI (zgu (zd1 z))), .int (zpu (zd1 z))])), (h, .inr (1, [.ref a0, .ref a1, .ref a2, .ref a3, .ref a4, .ref a5, .int (nI (zn (zd1 z)))])), (a0, .inl (cA, 10, .inl (fun j9 => nI ((zwa (zd1 z)) j9)))), (a1, .inl (cA, 10, .inl (fun j9 => nI ((ziv (zd1 z)) j9)))), (a2, .inl (cA, 10, .inl (fun j9 => nI ((zgh (zd1 z)) j9)))), (a3, .inl (cA, 10, .inl (fun j9 => nI ((zpr (zd1 z)) j9)))), (a4, .inl (cA, 10, .inl me)), (a5, .inl (cA, 10, .inl rk)), (kk, .inr (2, [.ref c0, .ref c1, .ref c2, .ref c3, .int (nI (ztn (zd1 z)))])), (c0, .inl (cA, 30, .inl (fun j9 => nI ((ztr (zd1 z)) j9)))), (c1, .inl (cA, 30, .inl (fun j9 => nI ((ztd (zd1 z)) j9)))), (c2, .inl (cA, 30, .inl (fun j9 => nI ((ztp (zd1 z)) j9)))), (c3, .inl (cA, 30, .inl (fun j9 => nI ((ztf (zd1 z)) j9)))), (wr, .inl (cB, zn z, .inr (.inr (.inr (.inr (zrf (zn z) wf))))))] ++ (zpl cA ra (zrow (zwa (zd1 z)) (ziv (zd1 z)) (zgh (zd1 z)) (zpr (zd1 z))) (zn (zd1 z)) ++ (zpl cA ta (zrow (ztr (zd1 z)) (ztd (zd1 z)) (ztp (zd1 z)) (ztf (zd1 z))) (ztn (zd1 z)) ++ (zpl cA wf (zroi (zwa z) (ziv z) (zgh z) (zrk z)) (zn z))))) H → va_D (zA s) ([(mo, .inr (4, [.int (nI (zdy (zd1 z))), .int (nI (zgu (zd1 z))), .int (zpu (zd1 z)), .ref rr, .ref tt])), (rr, .inl (cB, zn (zd1 z), .inr (.inr (.inr (.inr (zrf (zn (zd1 z)) ra)))))), (tt, .inl (cB, ztn (zd1 z), .inr (.inr (.inr (.inr (zrf (ztn (zd1 z)) ta)))))), (xo, .inr (3, [.ref pk, .ref pk_])), (pk, .inr (0, [.ref h, .ref kk, .int (nI (zdy (zd1 z))), .int (nI (zgu (zd1 z))), .int (zpu (zd1 z))])), (h, .inr (1, [.ref a0, .ref a1, .ref a2, .ref a3, .ref a4, .ref a5, .int (nI (zn (zd1 z)))])), (a0, .inl (cA, 10, .inl (fun j9 => nI ((zwa (zd1 z)) j9)))), (a1, .inl (cA, 10, .inl (fun j9 => nI ((ziv (zd1 z)) j9)))), (a2, .inl (cA, 10, .inl (fun j9 => nI ((zgh (zd1 z)) j9)))), (a3, .inl (cA, 10, .inl (fun j9 => nI ((zpr (zd1 z)) j9)))), (a4, .inl (cA, 10, .inl me)), (a5, .inl (cA, 10, .inl rk)), (kk, .inr (2, [.ref c0, .ref c1, .ref c2, .ref c3, .int (nI (ztn (zd1 z)))])), (c0, .inl (cA, 30, .inl (fun j9 => nI ((ztr (zd1 z)) j9)))), (c1, .inl (cA, 30, .inl (fun j9 => nI ((ztd (zd1 z)) j9)))), (c2, .inl (cA, 30, .inl (fun j9 => nI ((ztp (zd1 z)) j9)))), (c3, .inl (cA, 30, .inl (fun j9 => nI ((ztf (zd1 z)) j9)))), (wr, .inl (cB, zn z, .inr (.inr (.inr (.inr (zrf (zn z) wf))))))] ++ (zpl cA ra (zrow (zwa (zd1 z)) (ziv (zd1 z)) (zgh (zd1 z)) (zpr (zd1 z))) (zn (zd1 z)) ++ (zpl cA ta (zrow (ztr (zd1 z)) (ztd (zd1 z)) (ztp (zd1 z)) (ztf (zd1 z))) (ztn (zd1 z)) ++ (zpl cA wf (zroi (zwa z) (ziv z) (zgh z) (zrk z)) (zn z))))) → va_S (zA s) s.heap H locs → ∀ (ls : Array Slot), lv_has ls 23 [(0, .ref b), (1, .ref xo), (2, .ref mo), (3, .int (nI i)), (5, .int (nI (zn z))), (11, .ref wr), (13, .int (nI (zdy z))), (14, .int (nI (zb (zdy z)))), (18, .int (nI r)), (19, .int (nI (zwa (zd1 z) r))), (20, .int (nI (ziv (zd1 z) r)))] → W p l e room_1 s m #[Value.ref b] below meth c H locs (13556 + 300 * i) (122276 + 2400 * i) (lw_Z below #[Value.ref b] s) (F0 m 1034 ls []) := by
          intro   H locs hP hD hS ls hl
          refine lv_aload_n hx hb dL_law_1034 rfl (lv_at hl 1 rfl) ?_
          refine lv_iload hx hb dL_law_1035 (lv_at hl 8 rfl) ?_
          have hPc := hP.sub (ws' := [(xo, .inr (3, [.ref pk, .ref pk_])), (pk, .inr (0, [.ref h, .ref kk, .int (nI (zdy (zd1 z))), .int (nI (zgu (zd1 z))), .int (zpu (zd1 z))])), (h, .inr (1, [.ref a0, .ref a1, .ref a2, .ref a3, .ref a4, .ref a5, .int (nI (zn (zd1 z)))])), (a0, .inl (cA, 10, .inl (fun j9 => nI ((zwa (zd1 z)) j9)))), (a1, .inl (cA, 10, .inl (fun j9 => nI ((ziv (zd1 z)) j9)))), (a2, .inl (cA, 10, .inl (fun j9 => nI ((zgh (zd1 z)) j9)))), (a3, .inl (cA, 10, .inl (fun j9 => nI ((zpr (zd1 z)) j9)))), (a4, .inl (cA, 10, .inl me)), (a5, .inl (cA, 10, .inl rk)), (kk, .inr (2, [.ref c0, .ref c1, .ref c2, .ref c3, .int (nI (ztn (zd1 z)))])), (c0, .inl (cA, 30, .inl (fun j9 => nI ((ztr (zd1 z)) j9)))), (c1, .inl (cA, 30, .inl (fun j9 => nI ((ztd (zd1 z)) j9)))), (c2, .inl (cA, 30, .inl (fun j9 => nI ((ztp (zd1 z)) j9)))), (c3, .inl (cA, 30, .inl (fun j9 => nI ((ztf (zd1 z)) j9))))]) [3, 4, 5, 6, 7, 8, 9, 10, 11, 12, 13, 14, 15, 16] rfl
          refine vp_callSi (W.runV (As := [.int (nI r)]) (rest := []) ⟨hx, hb, hml, hown, hts⟩ (c_X4_ghostsOf l dC dI cA xo pk_ pk h a0 a1 a2 a3 a4 a5 kk c0 c1 c2 c3 (zd1 z) me rk r (by exact ho1) (by first | assumption | omega) (by first | assumption | omega)) (cwV 1 hts gL_law_X4_ghostsOf rfl rfl rfl (by decide +kernel) ⟨Nat.le_of_ble_eq_true rfl, Nat.le_of_ble_eq_true rfl⟩) ⟨fun a U g mk q => by obtain ⟨q0, qP, qK⟩ := q; exact ⟨q0, qP, va_K.moved (u := U) (U := U.calling g mk a) (Vm.Alike.refl U.vm) qK⟩, va_recv hK hP (ci := 3) (q0 := 3) rfl rfl, fun U hU hW => ⟨rfl, by rw [hU]; exact hPc, va_K.moved hW.alike hKi⟩⟩ rfl rfl hl.1 rfl (lv_room (Nat.le_of_ble_eq_true rfl)) dL_law_1037 ⟨by show (13556 + 300 * i) + 0 ≤ 753896; omega, by show (122276 + 2400 * i) + 0 ≤ 6839935; omega⟩) (fun r_6 hw_6 => ?_)
          subst hw_6
          refine lv_aload hx hb dL_law_1040 (lv_at hl 5 rfl) ?_
          refine lv_iload hx hb dL_law_1042 (lv_at hl 8 rfl) ?_
          refine zz_aald hx hb hK hP 17 (f := zrf (zn z) wf) rfl rfl (j := r) (v := wf r) (by omega) (by omega) (zrf_g (by omega)) dL_law_1044 ?_
          refine lv_iconst (v := nI 2) hx hb dL_law_1045 (by decide) ?_
          refine zp_ld hx hb hK hP (([(mo, .inr (4, [.int (nI (zdy (zd1 z))), .int (nI (zgu (zd1 z))), .int (zpu (zd1 z)), .ref rr, .ref tt])), (rr, .inl (cB, zn (zd1 z), .inr (.inr (.inr (.inr (zrf (zn (zd1 z)) ra)))))), (tt, .inl (cB, ztn (zd1 z), .inr (.inr (.inr (.inr (zrf (ztn (zd1 z)) ta)))))), (xo, .inr (3, [.ref pk, .ref pk_])), (pk, .inr (0, [.ref h, .ref kk, .int (nI (zdy (zd1 z))), .int (nI (zgu (zd1 z))), .int (zpu (zd1 z))])), (h, .inr (1, [.ref a0, .ref a1, .ref a2, .ref a3, .ref a4, .ref a5, .int (nI (zn (zd1 z)))])), (a0, .inl (cA, 10, .inl (fun j9 => nI ((zwa (zd1 z)) j9)))), (a1, .inl (cA, 10, .inl (fun j9 => nI ((ziv (zd1 z)) j9)))), (a2, .inl (cA, 10, .inl (fun j9 => nI ((zgh (zd1 z)) j9)))), (a3, .inl (cA, 10, .inl (fun j9 => nI ((zpr (zd1 z)) j9)))), (a4, .inl (cA, 10, .inl me)), (a5, .inl (cA, 10, .inl rk)), (kk, .inr (2, [.ref c0, .ref c1, .ref c2, .ref c3, .int (nI (ztn (zd1 z)))])), (c0, .inl (cA, 30, .inl (fun j9 => nI ((ztr (zd1 z)) j9)))), (c1, .inl (cA, 30, .inl (fun j9 => nI ((ztd (zd1 z)) j9)))), (c2, .inl (cA, 30, .inl (fun j9 => nI ((ztp (zd1 z)) j9)))), (c3, .inl (cA, 30, .inl (fun j9 => nI ((ztf (zd1 z)) j9)))), (wr, .inl (cB, zn z, .inr (.inr (.inr (.inr (zrf (zn z) wf))))))] ++ (zpl cA ra (zrow (zwa (zd1 z)) (ziv (zd1 z)) (zgh (zd1 z)) (zpr (zd1 z))) (zn (zd1 z)) ++ (zpl cA ta (zrow (ztr (zd1 z)) (ztd (zd1 z)) (ztp (zd1 z)) (ztf (zd1 z))) (ztn (zd1 z))))) : va_W) ([] : va_W) (ra := wf) (F := zroi (zwa z) (ziv z) (zgh z) (zrk z)) (n := (zn z)) (r := r) (k := 2) (v := nI ((zgh z) r)) (by simp only [List.append_assoc, List.append_nil]) rfl (by omega) (by decide) rfl dL_law_1046 ?_
          by_cases hE : zgh (zd1 z) r = zgh z r
          · skip
            refine lv_isub hx hb dL_law_1047 ?_
            refine zz_top (zz_g0 hE) ?_
            refine lv_istore (lv' := [(22, .int (nI 0)), (0, .ref b), (1, .ref xo), (2, .ref mo), (3, .int (nI i)), (5, .int (nI (zn z))), (11, .ref wr), (13, .int (nI (zdy z))), (14, .int (nI (zb (zdy z)))), (18, .int (nI r)), (19, .int (nI (zwa (zd1 z) r))), (20, .int (nI (ziv (zd1 z) r)))]) hx hb dL_law_1048 hl (by decide) rfl (fun ls hl => ?_)
            refine lv_iload hx hb dL_law_1050 (lv_at hl 0 rfl) ?_
            refine lv_if_le (tgt := 1086) hx hb dL_law_1052 (by decide) (fun c_7 => ?_) (fun c_7 => ?_)
            · skip
              refine lv_iload hx hb dL_law_1086 (lv_at hl 0 rfl) ?_
              refine lv_if_ge (tgt := 1114) hx hb dL_law_1088 (by decide) (fun c_8 => ?_) (fun c_8 => ?_)
              · skip
                refine lv_iload hx hb dL_law_1114 (lv_at hl 0 rfl) ?_
                refine lv_if_ne (tgt := 1182) hx hb dL_law_1116 (by decide) (fun c_9 => ?_) (fun c_9 => ?_)
                · skip
                  exact absurd c_9 (by decide)
                · skip
                  refine lv_iload hx hb dL_law_1119 (lv_at hl 8 rfl) ?_
                  refine lv_iconst (v := nI 4) hx hb dL_law_1121 (by decide) ?_
                  refine lv_icmp_ne (tgt := 1155) hx hb dL_law_1122 (by decide) (fun c_10 => ?_) (fun c_10 => ?_)
                  · skip
                    replace c_10 := mt (nI_eq (by first | omega | (split <;> omega)) (by first | omega | (split <;> omega))).mpr c_10
                    have hl := lv_sub (l' := [(0, .ref b), (1, .ref xo), (2, .ref mo), (3, .int (nI i)), (5, .int (nI (zn z))), (11, .ref wr), (13, .int (nI (zdy z))), (14, .int (nI (zb (zdy z)))), (18, .int (nI r)), (19, .int (nI (zwa (zd1 z) r))), (20, .int (nI (ziv (zd1 z) r))), (22, .int (nI 0))]) hl [1, 2, 3, 4, 5, 6, 7, 8, 9, 10, 11, 0] rfl
                    refine W.widen (k := 13556 + 300 * i) (n := 122276 + 2400 * i) (by omega) (by omega) ?_
                    exact lp_1155   (by first | assumption | omega) _ _ hP hD hS _ hl
                  · skip
                    replace c_10 := (nI_eq (by first | omega | (split <;> omega)) (by first | omega | (split <;> omega))).mp c_10
                    refine lv_iload hx hb dL_law_1125 (lv_at hl 10 rfl) ?_
                    refine lv_if_le (tgt := 1155) hx hb dL_law_1127 (by decide) (fun c_11 => ?_) (fun c_11 => ?_)
                    · skip
                      replace c_11 := (zz_lez (by first | omega | (split <;> omega))).mp c_11
                      have hl := lv_sub (l' := [(0, .ref b), (1, .ref xo), (2, .ref mo), (3, .int (nI i)), (5, .int (nI (zn z))), (11, .ref wr), (13, .int (nI (zdy z))), (14, .int (nI (zb (zdy z)))), (18, .int (nI r)), (19, .int (nI (zwa (zd1 z) r))), (20, .int (nI (ziv (zd1 z) r))), (22, .int (nI 0))]) hl [1, 2, 3, 4, 5, 6, 7, 8, 9, 10, 11, 0] rfl
                      refine W.widen (k := 13556 + 300 * i) (n := 122276 + 2400 * i) (by omega) (by omega) ?_
                      exact lp_1155   (by first | assumption | omega) _ _ hP hD hS _ hl
                    · skip
                      replace c_11 := mt (zz_lez (by first | omega | (split <;> omega))).mpr c_11
                      refine lv_iload hx hb dL_law_1130 (lv_at hl 11 rfl) ?_
                      refine lv_bipush (v := nI 6) hx hb dL_law_1132 (by decide) ?_
                      refine lv_icmp_le (tgt := 1155) hx hb dL_law_1134 (by decide) (fun c_12 => ?_) (fun c_12 => ?_)
                      · skip
                        replace c_12 := (nI_leI (by first | omega | (split <;> omega)) (by first | omega | (split <;> omega))).mp c_12
                        have hl := lv_sub (l' := [(0, .ref b), (1, .ref xo), (2, .ref mo), (3, .int (nI i)), (5, .int (nI (zn z))), (11, .ref wr), (13, .int (nI (zdy z))), (14, .int (nI (zb (zdy z)))), (18, .int (nI r)), (19, .int (nI (zwa (zd1 z) r))), (20, .int (nI (ziv (zd1 z) r))), (22, .int (nI 0))]) hl [1, 2, 3, 4, 5, 6, 7, 8, 9, 10, 11, 0] rfl
                        refine W.widen (k := 13556 + 300 * i) (n := 122276 + 2400 * i) (by omega) (by omega) ?_
                        exact lp_1155   (by first | assumption | omega) _ _ hP hD hS _ hl
                      · skip
                        replace c_12 := mt (nI_leI (by first | omega | (split <;> omega)) (by first | omega | (split <;> omega))).mpr c_12
                        refine lv_iload hx hb dL_law_1137 (lv_at hl 11 rfl) ?_
                        refine lv_bipush (v := nI 10) hx hb dL_law_1139 (by decide) ?_
                        refine lv_icmp_ge (tgt := 1155) hx hb dL_law_1141 (by decide) (fun c_13 => ?_) (fun c_13 => ?_)
                        · skip
                          replace c_13 := (nI_leI (by first | omega | (split <;> omega)) (by first | omega | (split <;> omega))).mp c_13
                          have hl := lv_sub (l' := [(0, .ref b), (1, .ref xo), (2, .ref mo), (3, .int (nI i)), (5, .int (nI (zn z))), (11, .ref wr), (13, .int (nI (zdy z))), (14, .int (nI (zb (zdy z)))), (18, .int (nI r)), (19, .int (nI (zwa (zd1 z) r))), (20, .int (nI (ziv (zd1 z) r))), (22, .int (nI 0))]) hl [1, 2, 3, 4, 5, 6, 7, 8, 9, 10, 11, 0] rfl
                          refine W.widen (k := 13556 + 300 * i) (n := 122276 + 2400 * i) (by omega) (by omega) ?_
                          exact lp_1155   (by first | assumption | omega) _ _ hP hD hS _ hl
                        · skip
                          replace c_13 := mt (nI_leI (by first | omega | (split <;> omega)) (by first | omega | (split <;> omega))).mpr c_13
                          refine lv_aload hx hb dL_law_1144 (lv_at hl 6 rfl) ?_
                          refine lv_iload hx hb dL_law_1146 (lv_at hl 9 rfl) ?_
                          refine zz_aald hx hb hK hP 17 (f := zrf (zn z) wf) rfl rfl (j := r) (v := wf r) (by omega) (by omega) (zrf_g (by omega)) dL_law_1148 ?_
                          refine lv_iconst (v := nI 2) hx hb dL_law_1149 (by decide) ?_
                          refine zp_ld hx hb hK hP (([(mo, .inr (4, [.int (nI (zdy (zd1 z))), .int (nI (zgu (zd1 z))), .int (zpu (zd1 z)), .ref rr, .ref tt])), (rr, .inl (cB, zn (zd1 z), .inr (.inr (.inr (.inr (zrf (zn (zd1 z)) ra)))))), (tt, .inl (cB, ztn (zd1 z), .inr (.inr (.inr (.inr (zrf (ztn (zd1 z)) ta)))))), (xo, .inr (3, [.ref pk, .ref pk_])), (pk, .inr (0, [.ref h, .ref kk, .int (nI (zdy (zd1 z))), .int (nI (zgu (zd1 z))), .int (zpu (zd1 z))])), (h, .inr (1, [.ref a0, .ref a1, .ref a2, .ref a3, .ref a4, .ref a5, .int (nI (zn (zd1 z)))])), (a0, .inl (cA, 10, .inl (fun j9 => nI ((zwa (zd1 z)) j9)))), (a1, .inl (cA, 10, .inl (fun j9 => nI ((ziv (zd1 z)) j9)))), (a2, .inl (cA, 10, .inl (fun j9 => nI ((zgh (zd1 z)) j9)))), (a3, .inl (cA, 10, .inl (fun j9 => nI ((zpr (zd1 z)) j9)))), (a4, .inl (cA, 10, .inl me)), (a5, .inl (cA, 10, .inl rk)), (kk, .inr (2, [.ref c0, .ref c1, .ref c2, .ref c3, .int (nI (ztn (zd1 z)))])), (c0, .inl (cA, 30, .inl (fun j9 => nI ((ztr (zd1 z)) j9)))), (c1, .inl (cA, 30, .inl (fun j9 => nI ((ztd (zd1 z)) j9)))), (c2, .inl (cA, 30, .inl (fun j9 => nI ((ztp (zd1 z)) j9)))), (c3, .inl (cA, 30, .inl (fun j9 => nI ((ztf (zd1 z)) j9)))), (wr, .inl (cB, zn z, .inr (.inr (.inr (.inr (zrf (zn z) wf))))))] ++ (zpl cA ra (zrow (zwa (zd1 z)) (ziv (zd1 z)) (zgh (zd1 z)) (zpr (zd1 z))) (zn (zd1 z)) ++ (zpl cA ta (zrow (ztr (zd1 z)) (ztd (zd1 z)) (ztp (zd1 z)) (ztf (zd1 z))) (ztn (zd1 z))))) : va_W) ([] : va_W) (ra := wf) (F := zroi (zwa z) (ziv z) (zgh z) (zrk z)) (n := (zn z)) (r := r) (k := 2) (v := nI ((zgh z) r)) (by simp only [List.append_assoc, List.append_nil]) rfl (by omega) (by decide) rfl dL_law_1150 ?_
                          refine lv_iconst (v := nI 5) hx hb dL_law_1151 (by decide) ?_
                          refine lv_icmp_lt (tgt := 1180) hx hb dL_law_1152 (by decide) (fun c_14 => ?_) (fun c_14 => ?_)
                          · skip
                            replace c_14 := (nI_ltI (by first | omega | (split <;> omega)) (by first | omega | (split <;> omega))).mp c_14
                            exfalso; omega
                          · skip
                            replace c_14 := mt (nI_ltI (by first | omega | (split <;> omega)) (by first | omega | (split <;> omega))).mpr c_14
                            have hl := lv_sub (l' := [(0, .ref b), (1, .ref xo), (2, .ref mo), (3, .int (nI i)), (5, .int (nI (zn z))), (11, .ref wr), (13, .int (nI (zdy z))), (14, .int (nI (zb (zdy z)))), (18, .int (nI r)), (19, .int (nI (zwa (zd1 z) r))), (20, .int (nI (ziv (zd1 z) r))), (22, .int (nI 0))]) hl [1, 2, 3, 4, 5, 6, 7, 8, 9, 10, 11, 0] rfl
                            refine W.widen (k := 13556 + 300 * i) (n := 122276 + 2400 * i) (by omega) (by omega) ?_
                            exact lp_1155   (by first | assumption | omega) _ _ hP hD hS _ hl
              · skip
                exact absurd c_8 (by decide)
            · skip
              exact absurd c_7 (by decide)
          · skip
            by_cases hG : zgh (zd1 z) r = zgh z r + 1
            · skip
              refine lv_isub hx hb dL_law_1047 ?_
              refine zz_top (zz_g1 hG) ?_
              refine lv_istore (lv' := [(22, .int (nI 1)), (0, .ref b), (1, .ref xo), (2, .ref mo), (3, .int (nI i)), (5, .int (nI (zn z))), (11, .ref wr), (13, .int (nI (zdy z))), (14, .int (nI (zb (zdy z)))), (18, .int (nI r)), (19, .int (nI (zwa (zd1 z) r))), (20, .int (nI (ziv (zd1 z) r)))]) hx hb dL_law_1048 hl (by decide) rfl (fun ls hl => ?_)
              refine lv_iload hx hb dL_law_1050 (lv_at hl 0 rfl) ?_
              refine lv_if_le (tgt := 1086) hx hb dL_law_1052 (by decide) (fun c_15 => ?_) (fun c_15 => ?_)
              · skip
                replace c_15 := (zz_lez (by first | omega | (split <;> omega))).mp c_15
                exact absurd c_15 (by decide)
              · skip
                replace c_15 := mt (zz_lez (by first | omega | (split <;> omega))).mpr c_15
                refine lv_iload hx hb dL_law_1055 (lv_at hl 0 rfl) ?_
                refine lv_iconst (v := nI 1) hx hb dL_law_1057 (by decide) ?_
                refine lv_icmp_gt (tgt := 1112) hx hb dL_law_1058 (by decide) (fun c_16 => ?_) (fun c_16 => ?_)
                · skip
                  exact absurd c_16 (by decide)
                · skip
                  refine lv_iload hx hb dL_law_1061 (lv_at hl 8 rfl) ?_
                  refine lv_iconst (v := nI 4) hx hb dL_law_1063 (by decide) ?_
                  refine lv_icmp_ne (tgt := 1112) hx hb dL_law_1064 (by decide) (fun c_17 => ?_) (fun c_17 => ?_)
                  · skip
                    replace c_17 := mt (nI_eq (by first | omega | (split <;> omega)) (by first | omega | (split <;> omega))).mpr c_17
                    exfalso; omega
                  · skip
                    replace c_17 := (nI_eq (by first | omega | (split <;> omega)) (by first | omega | (split <;> omega))).mp c_17
                    refine lv_iload hx hb dL_law_1067 (lv_at hl 10 rfl) ?_
                    refine lv_if_eq (tgt := 1112) hx hb dL_law_1069 (by decide) (fun c_18 => ?_) (fun c_18 => ?_)
                    · skip
                      replace c_18 := (zz_eq0 (by first | omega | (split <;> omega))).mp c_18
                      exfalso; omega
                    · skip
                      replace c_18 := mt (zz_eq0 (by first | omega | (split <;> omega))).mpr c_18
                      refine lv_iload hx hb dL_law_1072 (lv_at hl 11 rfl) ?_
                      refine lv_bipush (v := nI 7) hx hb dL_law_1074 (by decide) ?_
                      refine lv_icmp_lt (tgt := 1112) hx hb dL_law_1076 (by decide) (fun c_19 => ?_) (fun c_19 => ?_)
                      · skip
                        replace c_19 := (nI_ltI (by first | omega | (split <;> omega)) (by first | omega | (split <;> omega))).mp c_19
                        exfalso; omega
                      · skip
                        replace c_19 := mt (nI_ltI (by first | omega | (split <;> omega)) (by first | omega | (split <;> omega))).mpr c_19
                        refine lv_iload hx hb dL_law_1079 (lv_at hl 11 rfl) ?_
                        refine lv_bipush (v := nI 9) hx hb dL_law_1081 (by decide) ?_
                        refine lv_icmp_gt (tgt := 1112) hx hb dL_law_1083 (by decide) (fun c_20 => ?_) (fun c_20 => ?_)
                        · skip
                          replace c_20 := (nI_ltI (by first | omega | (split <;> omega)) (by first | omega | (split <;> omega))).mp c_20
                          exfalso; omega
                        · skip
                          replace c_20 := mt (nI_ltI (by first | omega | (split <;> omega)) (by first | omega | (split <;> omega))).mpr c_20
                          refine lv_iload hx hb dL_law_1086 (lv_at hl 0 rfl) ?_
                          refine lv_if_ge (tgt := 1114) hx hb dL_law_1088 (by decide) (fun c_21 => ?_) (fun c_21 => ?_)
                          · skip
                            replace c_21 := True.intro
                            refine lv_iload hx hb dL_law_1114 (lv_at hl 0 rfl) ?_
                            refine lv_if_ne (tgt := 1182) hx hb dL_law_1116 (by decide) (fun c_22 => ?_) (fun c_22 => ?_)
                            · skip
                              replace c_22 := mt (zz_eq0 (by first | omega | (split <;> omega))).mpr c_22
                              refine lv_iinc (v := nI (r + 1)) (lv' := [(18, .int (nI (r + 1))), (22, .int (nI 1)), (0, .ref b), (1, .ref xo), (2, .ref mo), (3, .int (nI i)), (5, .int (nI (zn z))), (11, .ref wr), (13, .int (nI (zdy z))), (14, .int (nI (zb (zdy z)))), (19, .int (nI (zwa (zd1 z) r))), (20, .int (nI (ziv (zd1 z) r)))]) hx hb dL_law_1182 hl (k := 9) rfl (nI_1 _) (by decide) rfl (fun ls hl => ?_)
                              refine lv_goto (tgt := 920) hx hb dL_law_1185 (by decide) ?_
                              have hl := lv_sub (l' := [(0, .ref b), (1, .ref xo), (2, .ref mo), (3, .int (nI i)), (5, .int (nI (zn z))), (11, .ref wr), (13, .int (nI (zdy z))), (14, .int (nI (zb (zdy z)))), (18, .int (nI (r + 1)))]) hl [2, 3, 4, 5, 6, 7, 8, 9, 0] rfl
                              refine W.widen (k := 13556 + 300 * i) (n := 122276 + 2400 * i) (by omega) (by omega) ?_
                              exact ih_920 (r + 1) (by omega) (by first | assumption | omega) _ _ hP hD hS _ hl
                            · skip
                              replace c_22 := (zz_eq0 (by first | omega | (split <;> omega))).mp c_22
                              exact absurd c_22 (by decide)
                          · skip
                            replace c_21 := (c_21 (zz_ge0 (by first | omega | (split <;> omega))) : False)
                            exact absurd c_21 (by decide)
            · skip
              refine lv_isub hx hb dL_law_1047 ?_
              refine zz_top (zz_gm (by omega) (by omega)) ?_
              refine lv_istore (lv' := [(22, .int (-1)), (0, .ref b), (1, .ref xo), (2, .ref mo), (3, .int (nI i)), (5, .int (nI (zn z))), (11, .ref wr), (13, .int (nI (zdy z))), (14, .int (nI (zb (zdy z)))), (18, .int (nI r)), (19, .int (nI (zwa (zd1 z) r))), (20, .int (nI (ziv (zd1 z) r)))]) hx hb dL_law_1048 hl (by decide) rfl (fun ls hl => ?_)
              refine lv_iload hx hb dL_law_1050 (lv_at hl 0 rfl) ?_
              refine lv_if_le (tgt := 1086) hx hb dL_law_1052 (by decide) (fun c_23 => ?_) (fun c_23 => ?_)
              · skip
                refine lv_iload hx hb dL_law_1086 (lv_at hl 0 rfl) ?_
                refine lv_if_ge (tgt := 1114) hx hb dL_law_1088 (by decide) (fun c_24 => ?_) (fun c_24 => ?_)
                · skip
                  exact absurd c_24 (by decide)
                · skip
                  refine lv_iload hx hb dL_law_1091 (lv_at hl 0 rfl) ?_
                  refine lv_iconst (v := (-1)) hx hb dL_law_1093 (by decide) ?_
                  refine lv_icmp_lt (tgt := 1112) hx hb dL_law_1094 (by decide) (fun c_25 => ?_) (fun c_25 => ?_)
                  · skip
                    exact absurd c_25 (by decide)
                  · skip
                    refine lv_iload hx hb dL_law_1097 (lv_at hl 8 rfl) ?_
                    refine lv_if_ne (tgt := 1112) hx hb dL_law_1099 (by decide) (fun c_26 => ?_) (fun c_26 => ?_)
                    · skip
                      replace c_26 := mt (zz_eq0 (by first | omega | (split <;> omega))).mpr c_26
                      exfalso; omega
                    · skip
                      replace c_26 := (zz_eq0 (by first | omega | (split <;> omega))).mp c_26
                      refine lv_iload hx hb dL_law_1102 (lv_at hl 10 rfl) ?_
                      refine lv_if_le (tgt := 1114) hx hb dL_law_1104 (by decide) (fun c_27 => ?_) (fun c_27 => ?_)
                      · skip
                        replace c_27 := (zz_lez (by first | omega | (split <;> omega))).mp c_27
                        refine lv_iload hx hb dL_law_1114 (lv_at hl 0 rfl) ?_
                        refine lv_if_ne (tgt := 1182) hx hb dL_law_1116 (by decide) (fun c_28 => ?_) (fun c_28 => ?_)
                        · skip
                          refine lv_iinc (v := nI (r + 1)) (lv' := [(18, .int (nI (r + 1))), (22, .int (-1)), (0, .ref b), (1, .ref xo), (2, .ref mo), (3, .int (nI i)), (5, .int (nI (zn z))), (11, .ref wr), (13, .int (nI (zdy z))), (14, .int (nI (zb (zdy z)))), (19, .int (nI (zwa (zd1 z) r))), (20, .int (nI (ziv (zd1 z) r)))]) hx hb dL_law_1182 hl (k := 9) rfl (nI_1 _) (by decide) rfl (fun ls hl => ?_)
                          refine lv_goto (tgt := 920) hx hb dL_law_1185 (by decide) ?_
                          have hl := lv_sub (l' := [(0, .ref b), (1, .ref xo), (2, .ref mo), (3, .int (nI i)), (5, .int (nI (zn z))), (11, .ref wr), (13, .int (nI (zdy z))), (14, .int (nI (zb (zdy z)))), (18, .int (nI (r + 1)))]) hl [2, 3, 4, 5, 6, 7, 8, 9, 0] rfl
                          refine W.widen (k := 13556 + 300 * i) (n := 122276 + 2400 * i) (by omega) (by omega) ?_
                          exact ih_920 (r + 1) (by omega) (by first | assumption | omega) _ _ hP hD hS _ hl
                        · skip
                          exact absurd c_28 (by decide)
                      · skip
                        replace c_27 := mt (zz_lez (by first | omega | (split <;> omega))).mpr c_27
                        refine lv_iload hx hb dL_law_1107 (lv_at hl 11 rfl) ?_
                        refine lv_if_le (tgt := 1114) hx hb dL_law_1109 (by decide) (fun c_29 => ?_) (fun c_29 => ?_)
                        · skip
                          replace c_29 := (zz_lez (by first | omega | (split <;> omega))).mp c_29
                          refine lv_iload hx hb dL_law_1114 (lv_at hl 0 rfl) ?_
                          refine lv_if_ne (tgt := 1182) hx hb dL_law_1116 (by decide) (fun c_30 => ?_) (fun c_30 => ?_)
                          · skip
                            refine lv_iinc (v := nI (r + 1)) (lv' := [(18, .int (nI (r + 1))), (22, .int (-1)), (0, .ref b), (1, .ref xo), (2, .ref mo), (3, .int (nI i)), (5, .int (nI (zn z))), (11, .ref wr), (13, .int (nI (zdy z))), (14, .int (nI (zb (zdy z)))), (19, .int (nI (zwa (zd1 z) r))), (20, .int (nI (ziv (zd1 z) r)))]) hx hb dL_law_1182 hl (k := 9) rfl (nI_1 _) (by decide) rfl (fun ls hl => ?_)
                            refine lv_goto (tgt := 920) hx hb dL_law_1185 (by decide) ?_
                            have hl := lv_sub (l' := [(0, .ref b), (1, .ref xo), (2, .ref mo), (3, .int (nI i)), (5, .int (nI (zn z))), (11, .ref wr), (13, .int (nI (zdy z))), (14, .int (nI (zb (zdy z)))), (18, .int (nI (r + 1)))]) hl [2, 3, 4, 5, 6, 7, 8, 9, 0] rfl
                            refine W.widen (k := 13556 + 300 * i) (n := 122276 + 2400 * i) (by omega) (by omega) ?_
                            exact ih_920 (r + 1) (by omega) (by first | assumption | omega) _ _ hP hD hS _ hl
                          · skip
                            exact absurd c_30 (by decide)
                        · skip
                          replace c_29 := mt (zz_lez (by first | omega | (split <;> omega))).mpr c_29
                          exfalso; omega
              · skip
                exact absurd c_23 (by decide)
        refine lv_aload_n hx hb dL_law_927 rfl (lv_at hl 1 rfl) ?_
        refine lv_iload hx hb dL_law_928 (lv_at hl 8 rfl) ?_
        have hPc := hP.sub (ws' := [(xo, .inr (3, [.ref pk, .ref pk_])), (pk, .inr (0, [.ref h, .ref kk, .int (nI (zdy (zd1 z))), .int (nI (zgu (zd1 z))), .int (zpu (zd1 z))])), (h, .inr (1, [.ref a0, .ref a1, .ref a2, .ref a3, .ref a4, .ref a5, .int (nI (zn (zd1 z)))])), (a0, .inl (cA, 10, .inl (fun j9 => nI ((zwa (zd1 z)) j9)))), (a1, .inl (cA, 10, .inl (fun j9 => nI ((ziv (zd1 z)) j9)))), (a2, .inl (cA, 10, .inl (fun j9 => nI ((zgh (zd1 z)) j9)))), (a3, .inl (cA, 10, .inl (fun j9 => nI ((zpr (zd1 z)) j9)))), (a4, .inl (cA, 10, .inl me)), (a5, .inl (cA, 10, .inl rk)), (kk, .inr (2, [.ref c0, .ref c1, .ref c2, .ref c3, .int (nI (ztn (zd1 z)))])), (c0, .inl (cA, 30, .inl (fun j9 => nI ((ztr (zd1 z)) j9)))), (c1, .inl (cA, 30, .inl (fun j9 => nI ((ztd (zd1 z)) j9)))), (c2, .inl (cA, 30, .inl (fun j9 => nI ((ztp (zd1 z)) j9)))), (c3, .inl (cA, 30, .inl (fun j9 => nI ((ztf (zd1 z)) j9))))]) [3, 4, 5, 6, 7, 8, 9, 10, 11, 12, 13, 14, 15, 16] rfl
        refine vp_callSi (W.runV (As := [.int (nI r)]) (rest := []) ⟨hx, hb, hml, hown, hts⟩ (c_X4_wallsOf l dC dI cA xo pk_ pk h a0 a1 a2 a3 a4 a5 kk c0 c1 c2 c3 (zd1 z) me rk r (by exact ho1) (by first | assumption | omega) (by first | assumption | omega)) (cwV 1 hts gL_law_X4_wallsOf rfl rfl rfl (by decide +kernel) ⟨Nat.le_of_ble_eq_true rfl, Nat.le_of_ble_eq_true rfl⟩) ⟨fun a U g mk q => by obtain ⟨q0, qP, qK⟩ := q; exact ⟨q0, qP, va_K.moved (u := U) (U := U.calling g mk a) (Vm.Alike.refl U.vm) qK⟩, va_recv hK hP (ci := 3) (q0 := 3) rfl rfl, fun U hU hW => ⟨rfl, by rw [hU]; exact hPc, va_K.moved hW.alike hKi⟩⟩ rfl rfl hl.1 rfl (lv_room (Nat.le_of_ble_eq_true rfl)) dL_law_930 ⟨by show (13556 + 300 * i) + 0 ≤ 753896; omega, by show (122276 + 2400 * i) + 0 ≤ 6839935; omega⟩) (fun r_31 hw_31 => ?_)
        subst hw_31
        refine lv_istore (lv' := [(19, .int (nI (zwa (zd1 z) r))), (0, .ref b), (1, .ref xo), (2, .ref mo), (3, .int (nI i)), (5, .int (nI (zn z))), (11, .ref wr), (13, .int (nI (zdy z))), (14, .int (nI (zb (zdy z)))), (18, .int (nI r))]) hx hb dL_law_933 hl (by decide) rfl (fun ls hl => ?_)
        refine lv_aload_n hx hb dL_law_935 rfl (lv_at hl 2 rfl) ?_
        refine lv_iload hx hb dL_law_936 (lv_at hl 9 rfl) ?_
        have hPc := hP.sub (ws' := [(xo, .inr (3, [.ref pk, .ref pk_])), (pk, .inr (0, [.ref h, .ref kk, .int (nI (zdy (zd1 z))), .int (nI (zgu (zd1 z))), .int (zpu (zd1 z))])), (h, .inr (1, [.ref a0, .ref a1, .ref a2, .ref a3, .ref a4, .ref a5, .int (nI (zn (zd1 z)))])), (a0, .inl (cA, 10, .inl (fun j9 => nI ((zwa (zd1 z)) j9)))), (a1, .inl (cA, 10, .inl (fun j9 => nI ((ziv (zd1 z)) j9)))), (a2, .inl (cA, 10, .inl (fun j9 => nI ((zgh (zd1 z)) j9)))), (a3, .inl (cA, 10, .inl (fun j9 => nI ((zpr (zd1 z)) j9)))), (a4, .inl (cA, 10, .inl me)), (a5, .inl (cA, 10, .inl rk)), (kk, .inr (2, [.ref c0, .ref c1, .ref c2, .ref c3, .int (nI (ztn (zd1 z)))])), (c0, .inl (cA, 30, .inl (fun j9 => nI ((ztr (zd1 z)) j9)))), (c1, .inl (cA, 30, .inl (fun j9 => nI ((ztd (zd1 z)) j9)))), (c2, .inl (cA, 30, .inl (fun j9 => nI ((ztp (zd1 z)) j9)))), (c3, .inl (cA, 30, .inl (fun j9 => nI ((ztf (zd1 z)) j9))))]) [3, 4, 5, 6, 7, 8, 9, 10, 11, 12, 13, 14, 15, 16] rfl
        refine vp_callSi (W.runV (As := [.int (nI r)]) (rest := []) ⟨hx, hb, hml, hown, hts⟩ (c_X4_ivyOf l dC dI cA xo pk_ pk h a0 a1 a2 a3 a4 a5 kk c0 c1 c2 c3 (zd1 z) me rk r (by exact ho1) (by first | assumption | omega) (by first | assumption | omega)) (cwV 1 hts gL_law_X4_ivyOf rfl rfl rfl (by decide +kernel) ⟨Nat.le_of_ble_eq_true rfl, Nat.le_of_ble_eq_true rfl⟩) ⟨fun a U g mk q => by obtain ⟨q0, qP, qK⟩ := q; exact ⟨q0, qP, va_K.moved (u := U) (U := U.calling g mk a) (Vm.Alike.refl U.vm) qK⟩, va_recv hK hP (ci := 3) (q0 := 3) rfl rfl, fun U hU hW => ⟨rfl, by rw [hU]; exact hPc, va_K.moved hW.alike hKi⟩⟩ rfl rfl hl.1 rfl (lv_room (Nat.le_of_ble_eq_true rfl)) dL_law_938 ⟨by show (13556 + 300 * i) + 0 ≤ 753896; omega, by show (122276 + 2400 * i) + 0 ≤ 6839935; omega⟩) (fun r_32 hw_32 => ?_)
        subst hw_32
        refine lv_istore (lv' := [(20, .int (nI (ziv (zd1 z) r))), (19, .int (nI (zwa (zd1 z) r))), (0, .ref b), (1, .ref xo), (2, .ref mo), (3, .int (nI i)), (5, .int (nI (zn z))), (11, .ref wr), (13, .int (nI (zdy z))), (14, .int (nI (zb (zdy z)))), (18, .int (nI r))]) hx hb dL_law_941 hl (by decide) rfl (fun ls hl => ?_)
        by_cases hst : zwa z r = 0
        · skip
          refine lv_aload hx hb dL_law_943 (lv_at hl 7 rfl) ?_
          refine lv_iload hx hb dL_law_945 (lv_at hl 10 rfl) ?_
          refine zz_aald hx hb hK hP 17 (f := zrf (zn z) wf) rfl rfl (j := r) (v := wf r) (by omega) (by omega) (zrf_g (by omega)) dL_law_947 ?_
          refine lv_iconst (v := nI 0) hx hb dL_law_948 (by decide) ?_
          refine zp_ld hx hb hK hP (([(mo, .inr (4, [.int (nI (zdy (zd1 z))), .int (nI (zgu (zd1 z))), .int (zpu (zd1 z)), .ref rr, .ref tt])), (rr, .inl (cB, zn (zd1 z), .inr (.inr (.inr (.inr (zrf (zn (zd1 z)) ra)))))), (tt, .inl (cB, ztn (zd1 z), .inr (.inr (.inr (.inr (zrf (ztn (zd1 z)) ta)))))), (xo, .inr (3, [.ref pk, .ref pk_])), (pk, .inr (0, [.ref h, .ref kk, .int (nI (zdy (zd1 z))), .int (nI (zgu (zd1 z))), .int (zpu (zd1 z))])), (h, .inr (1, [.ref a0, .ref a1, .ref a2, .ref a3, .ref a4, .ref a5, .int (nI (zn (zd1 z)))])), (a0, .inl (cA, 10, .inl (fun j9 => nI ((zwa (zd1 z)) j9)))), (a1, .inl (cA, 10, .inl (fun j9 => nI ((ziv (zd1 z)) j9)))), (a2, .inl (cA, 10, .inl (fun j9 => nI ((zgh (zd1 z)) j9)))), (a3, .inl (cA, 10, .inl (fun j9 => nI ((zpr (zd1 z)) j9)))), (a4, .inl (cA, 10, .inl me)), (a5, .inl (cA, 10, .inl rk)), (kk, .inr (2, [.ref c0, .ref c1, .ref c2, .ref c3, .int (nI (ztn (zd1 z)))])), (c0, .inl (cA, 30, .inl (fun j9 => nI ((ztr (zd1 z)) j9)))), (c1, .inl (cA, 30, .inl (fun j9 => nI ((ztd (zd1 z)) j9)))), (c2, .inl (cA, 30, .inl (fun j9 => nI ((ztp (zd1 z)) j9)))), (c3, .inl (cA, 30, .inl (fun j9 => nI ((ztf (zd1 z)) j9)))), (wr, .inl (cB, zn z, .inr (.inr (.inr (.inr (zrf (zn z) wf))))))] ++ (zpl cA ra (zrow (zwa (zd1 z)) (ziv (zd1 z)) (zgh (zd1 z)) (zpr (zd1 z))) (zn (zd1 z)) ++ (zpl cA ta (zrow (ztr (zd1 z)) (ztd (zd1 z)) (ztp (zd1 z)) (ztf (zd1 z))) (ztn (zd1 z))))) : va_W) ([] : va_W) (ra := wf) (F := zroi (zwa z) (ziv z) (zgh z) (zrk z)) (n := (zn z)) (r := r) (k := 0) (v := nI ((zwa z) r)) (by simp only [List.append_assoc, List.append_nil]) rfl (by omega) (by decide) rfl dL_law_949 ?_
          refine lv_if_le (tgt := 957) hx hb dL_law_950 (by decide) (fun c_33 => ?_) (fun c_33 => ?_)
          · skip
            replace c_33 := (zz_lez (by first | omega | (split <;> omega))).mp c_33
            refine lv_iconst (v := nI 0) hx hb dL_law_957 (by decide) ?_
            refine lv_istore (lv' := [(21, .int (nI 0)), (20, .int (nI (ziv (zd1 z) r))), (19, .int (nI (zwa (zd1 z) r))), (0, .ref b), (1, .ref xo), (2, .ref mo), (3, .int (nI i)), (5, .int (nI (zn z))), (11, .ref wr), (13, .int (nI (zdy z))), (14, .int (nI (zb (zdy z)))), (18, .int (nI r))]) hx hb dL_law_958 hl (by decide) rfl (fun ls hl => ?_)
            refine lv_iload hx hb dL_law_960 (lv_at hl 1 rfl) ?_
            refine lv_iload hx hb dL_law_962 (lv_at hl 0 rfl) ?_
            refine lv_if_eq (tgt := 992) hx hb dL_law_964 (by decide) (fun c_34 => ?_) (fun c_34 => ?_)
            · skip
              refine lv_aload hx hb dL_law_992 (lv_at hl 8 rfl) ?_
              refine lv_iload hx hb dL_law_994 (lv_at hl 11 rfl) ?_
              refine zz_aald hx hb hK hP 17 (f := zrf (zn z) wf) rfl rfl (j := r) (v := wf r) (by omega) (by omega) (zrf_g (by omega)) dL_law_996 ?_
              refine lv_iconst (v := nI 1) hx hb dL_law_997 (by decide) ?_
              refine zp_ld hx hb hK hP (([(mo, .inr (4, [.int (nI (zdy (zd1 z))), .int (nI (zgu (zd1 z))), .int (zpu (zd1 z)), .ref rr, .ref tt])), (rr, .inl (cB, zn (zd1 z), .inr (.inr (.inr (.inr (zrf (zn (zd1 z)) ra)))))), (tt, .inl (cB, ztn (zd1 z), .inr (.inr (.inr (.inr (zrf (ztn (zd1 z)) ta)))))), (xo, .inr (3, [.ref pk, .ref pk_])), (pk, .inr (0, [.ref h, .ref kk, .int (nI (zdy (zd1 z))), .int (nI (zgu (zd1 z))), .int (zpu (zd1 z))])), (h, .inr (1, [.ref a0, .ref a1, .ref a2, .ref a3, .ref a4, .ref a5, .int (nI (zn (zd1 z)))])), (a0, .inl (cA, 10, .inl (fun j9 => nI ((zwa (zd1 z)) j9)))), (a1, .inl (cA, 10, .inl (fun j9 => nI ((ziv (zd1 z)) j9)))), (a2, .inl (cA, 10, .inl (fun j9 => nI ((zgh (zd1 z)) j9)))), (a3, .inl (cA, 10, .inl (fun j9 => nI ((zpr (zd1 z)) j9)))), (a4, .inl (cA, 10, .inl me)), (a5, .inl (cA, 10, .inl rk)), (kk, .inr (2, [.ref c0, .ref c1, .ref c2, .ref c3, .int (nI (ztn (zd1 z)))])), (c0, .inl (cA, 30, .inl (fun j9 => nI ((ztr (zd1 z)) j9)))), (c1, .inl (cA, 30, .inl (fun j9 => nI ((ztd (zd1 z)) j9)))), (c2, .inl (cA, 30, .inl (fun j9 => nI ((ztp (zd1 z)) j9)))), (c3, .inl (cA, 30, .inl (fun j9 => nI ((ztf (zd1 z)) j9)))), (wr, .inl (cB, zn z, .inr (.inr (.inr (.inr (zrf (zn z) wf))))))] ++ (zpl cA ra (zrow (zwa (zd1 z)) (ziv (zd1 z)) (zgh (zd1 z)) (zpr (zd1 z))) (zn (zd1 z)) ++ (zpl cA ta (zrow (ztr (zd1 z)) (ztd (zd1 z)) (ztp (zd1 z)) (ztf (zd1 z))) (ztn (zd1 z))))) : va_W) ([] : va_W) (ra := wf) (F := zroi (zwa z) (ziv z) (zgh z) (zrk z)) (n := (zn z)) (r := r) (k := 1) (v := nI ((ziv z) r)) (by simp only [List.append_assoc, List.append_nil]) rfl (by omega) (by decide) rfl dL_law_998 ?_
              refine lv_icmp_ne (tgt := 1032) hx hb dL_law_999 (by decide) (fun c_35 => ?_) (fun c_35 => ?_)
              · skip
                replace c_35 := mt (nI_eq (by first | omega | (split <;> omega)) (by first | omega | (split <;> omega))).mpr c_35
                exfalso; omega
              · skip
                replace c_35 := (nI_eq (by first | omega | (split <;> omega)) (by first | omega | (split <;> omega))).mp c_35
                refine lv_iload hx hb dL_law_1002 (lv_at hl 2 rfl) ?_
                refine lv_aload hx hb dL_law_1004 (lv_at hl 8 rfl) ?_
                refine lv_iload hx hb dL_law_1006 (lv_at hl 11 rfl) ?_
                refine zz_aald hx hb hK hP 17 (f := zrf (zn z) wf) rfl rfl (j := r) (v := wf r) (by omega) (by omega) (zrf_g (by omega)) dL_law_1008 ?_
                refine lv_iconst (v := nI 0) hx hb dL_law_1009 (by decide) ?_
                refine zp_ld hx hb hK hP (([(mo, .inr (4, [.int (nI (zdy (zd1 z))), .int (nI (zgu (zd1 z))), .int (zpu (zd1 z)), .ref rr, .ref tt])), (rr, .inl (cB, zn (zd1 z), .inr (.inr (.inr (.inr (zrf (zn (zd1 z)) ra)))))), (tt, .inl (cB, ztn (zd1 z), .inr (.inr (.inr (.inr (zrf (ztn (zd1 z)) ta)))))), (xo, .inr (3, [.ref pk, .ref pk_])), (pk, .inr (0, [.ref h, .ref kk, .int (nI (zdy (zd1 z))), .int (nI (zgu (zd1 z))), .int (zpu (zd1 z))])), (h, .inr (1, [.ref a0, .ref a1, .ref a2, .ref a3, .ref a4, .ref a5, .int (nI (zn (zd1 z)))])), (a0, .inl (cA, 10, .inl (fun j9 => nI ((zwa (zd1 z)) j9)))), (a1, .inl (cA, 10, .inl (fun j9 => nI ((ziv (zd1 z)) j9)))), (a2, .inl (cA, 10, .inl (fun j9 => nI ((zgh (zd1 z)) j9)))), (a3, .inl (cA, 10, .inl (fun j9 => nI ((zpr (zd1 z)) j9)))), (a4, .inl (cA, 10, .inl me)), (a5, .inl (cA, 10, .inl rk)), (kk, .inr (2, [.ref c0, .ref c1, .ref c2, .ref c3, .int (nI (ztn (zd1 z)))])), (c0, .inl (cA, 30, .inl (fun j9 => nI ((ztr (zd1 z)) j9)))), (c1, .inl (cA, 30, .inl (fun j9 => nI ((ztd (zd1 z)) j9)))), (c2, .inl (cA, 30, .inl (fun j9 => nI ((ztp (zd1 z)) j9)))), (c3, .inl (cA, 30, .inl (fun j9 => nI ((ztf (zd1 z)) j9)))), (wr, .inl (cB, zn z, .inr (.inr (.inr (.inr (zrf (zn z) wf))))))] ++ (zpl cA ra (zrow (zwa (zd1 z)) (ziv (zd1 z)) (zgh (zd1 z)) (zpr (zd1 z))) (zn (zd1 z)) ++ (zpl cA ta (zrow (ztr (zd1 z)) (ztd (zd1 z)) (ztp (zd1 z)) (ztf (zd1 z))) (ztn (zd1 z))))) : va_W) ([] : va_W) (ra := wf) (F := zroi (zwa z) (ziv z) (zgh z) (zrk z)) (n := (zn z)) (r := r) (k := 0) (v := nI ((zwa z) r)) (by simp only [List.append_assoc, List.append_nil]) rfl (by omega) (by decide) rfl dL_law_1010 ?_
                refine lv_iload hx hb dL_law_1011 (lv_at hl 0 rfl) ?_
                refine lv_if_eq (tgt := 1027) hx hb dL_law_1013 (by decide) (fun c_36 => ?_) (fun c_36 => ?_)
                · skip
                  refine lv_iconst (v := nI 0) hx hb dL_law_1027 (by decide) ?_
                  refine lv_isub hx hb dL_law_1028 ?_
                  refine zz_top (pk_sub (by first | omega | (split <;> omega))) ?_
                  refine lv_icmp_eq (tgt := 1034) hx hb dL_law_1029 (by decide) (fun c_37 => ?_) (fun c_37 => ?_)
                  · skip
                    replace c_37 := (nI_eq (by first | omega | (split <;> omega)) (by first | omega | (split <;> omega))).mp c_37
                    have hl := lv_sub (l' := [(0, .ref b), (1, .ref xo), (2, .ref mo), (3, .int (nI i)), (5, .int (nI (zn z))), (11, .ref wr), (13, .int (nI (zdy z))), (14, .int (nI (zb (zdy z)))), (18, .int (nI r)), (19, .int (nI (zwa (zd1 z) r))), (20, .int (nI (ziv (zd1 z) r)))]) hl [3, 4, 5, 6, 7, 8, 9, 10, 11, 2, 1] rfl
                    refine W.widen (k := 13556 + 300 * i) (n := 122276 + 2400 * i) (by omega) (by omega) ?_
                    exact lp_1034    _ _ hP hD hS _ hl
                  · skip
                    replace c_37 := mt (nI_eq (by first | omega | (split <;> omega)) (by first | omega | (split <;> omega))).mpr c_37
                    exfalso; omega
                · skip
                  exact absurd c_36 (by decide)
            · skip
              exact absurd c_34 (by decide)
          · skip
            replace c_33 := mt (zz_lez (by first | omega | (split <;> omega))).mpr c_33
            exfalso; omega
        · skip
          refine lv_aload hx hb dL_law_943 (lv_at hl 7 rfl) ?_
          refine lv_iload hx hb dL_law_945 (lv_at hl 10 rfl) ?_
          refine zz_aald hx hb hK hP 17 (f := zrf (zn z) wf) rfl rfl (j := r) (v := wf r) (by omega) (by omega) (zrf_g (by omega)) dL_law_947 ?_
          refine lv_iconst (v := nI 0) hx hb dL_law_948 (by decide) ?_
          refine zp_ld hx hb hK hP (([(mo, .inr (4, [.int (nI (zdy (zd1 z))), .int (nI (zgu (zd1 z))), .int (zpu (zd1 z)), .ref rr, .ref tt])), (rr, .inl (cB, zn (zd1 z), .inr (.inr (.inr (.inr (zrf (zn (zd1 z)) ra)))))), (tt, .inl (cB, ztn (zd1 z), .inr (.inr (.inr (.inr (zrf (ztn (zd1 z)) ta)))))), (xo, .inr (3, [.ref pk, .ref pk_])), (pk, .inr (0, [.ref h, .ref kk, .int (nI (zdy (zd1 z))), .int (nI (zgu (zd1 z))), .int (zpu (zd1 z))])), (h, .inr (1, [.ref a0, .ref a1, .ref a2, .ref a3, .ref a4, .ref a5, .int (nI (zn (zd1 z)))])), (a0, .inl (cA, 10, .inl (fun j9 => nI ((zwa (zd1 z)) j9)))), (a1, .inl (cA, 10, .inl (fun j9 => nI ((ziv (zd1 z)) j9)))), (a2, .inl (cA, 10, .inl (fun j9 => nI ((zgh (zd1 z)) j9)))), (a3, .inl (cA, 10, .inl (fun j9 => nI ((zpr (zd1 z)) j9)))), (a4, .inl (cA, 10, .inl me)), (a5, .inl (cA, 10, .inl rk)), (kk, .inr (2, [.ref c0, .ref c1, .ref c2, .ref c3, .int (nI (ztn (zd1 z)))])), (c0, .inl (cA, 30, .inl (fun j9 => nI ((ztr (zd1 z)) j9)))), (c1, .inl (cA, 30, .inl (fun j9 => nI ((ztd (zd1 z)) j9)))), (c2, .inl (cA, 30, .inl (fun j9 => nI ((ztp (zd1 z)) j9)))), (c3, .inl (cA, 30, .inl (fun j9 => nI ((ztf (zd1 z)) j9)))), (wr, .inl (cB, zn z, .inr (.inr (.inr (.inr (zrf (zn z) wf))))))] ++ (zpl cA ra (zrow (zwa (zd1 z)) (ziv (zd1 z)) (zgh (zd1 z)) (zpr (zd1 z))) (zn (zd1 z)) ++ (zpl cA ta (zrow (ztr (zd1 z)) (ztd (zd1 z)) (ztp (zd1 z)) (ztf (zd1 z))) (ztn (zd1 z))))) : va_W) ([] : va_W) (ra := wf) (F := zroi (zwa z) (ziv z) (zgh z) (zrk z)) (n := (zn z)) (r := r) (k := 0) (v := nI ((zwa z) r)) (by simp only [List.append_assoc, List.append_nil]) rfl (by omega) (by decide) rfl dL_law_949 ?_
          refine lv_if_le (tgt := 957) hx hb dL_law_950 (by decide) (fun c_38 => ?_) (fun c_38 => ?_)
          · skip
            replace c_38 := (zz_lez (by first | omega | (split <;> omega))).mp c_38
            exfalso; omega
          · skip
            replace c_38 := mt (zz_lez (by first | omega | (split <;> omega))).mpr c_38
            refine lv_iconst (v := nI 1) hx hb dL_law_953 (by decide) ?_
            refine lv_goto (tgt := 958) hx hb dL_law_954 (by decide) ?_
            refine lv_istore (lv' := [(21, .int (nI 1)), (20, .int (nI (ziv (zd1 z) r))), (19, .int (nI (zwa (zd1 z) r))), (0, .ref b), (1, .ref xo), (2, .ref mo), (3, .int (nI i)), (5, .int (nI (zn z))), (11, .ref wr), (13, .int (nI (zdy z))), (14, .int (nI (zb (zdy z)))), (18, .int (nI r))]) hx hb dL_law_958 hl (by decide) rfl (fun ls hl => ?_)
            refine lv_iload hx hb dL_law_960 (lv_at hl 1 rfl) ?_
            refine lv_iload hx hb dL_law_962 (lv_at hl 0 rfl) ?_
            refine lv_if_eq (tgt := 992) hx hb dL_law_964 (by decide) (fun c_39 => ?_) (fun c_39 => ?_)
            · skip
              replace c_39 := (zz_eq0 (by first | omega | (split <;> omega))).mp c_39
              exact absurd c_39 (by decide)
            · skip
              replace c_39 := mt (zz_eq0 (by first | omega | (split <;> omega))).mpr c_39
              refine lv_iload hx hb dL_law_967 (lv_at hl 9 rfl) ?_
              refine lv_iconst (v := nI 3) hx hb dL_law_969 (by decide) ?_
              refine lv_irem hx hb dL_law_970 (by decide) ?_
              refine zz_top (pk_rem (by first | omega | (split <;> omega)) (by decide) (by decide)) ?_
              refine lv_iconst (v := nI 2) hx hb dL_law_971 (by decide) ?_
              refine lv_icmp_ne (tgt := 992) hx hb dL_law_972 (by decide) (fun c_40 => ?_) (fun c_40 => ?_)
              · skip
                replace c_40 := mt (nI_eq (by first | omega | (split <;> omega)) (by first | omega | (split <;> omega))).mpr c_40
                refine lv_aload hx hb dL_law_992 (lv_at hl 8 rfl) ?_
                refine lv_iload hx hb dL_law_994 (lv_at hl 11 rfl) ?_
                refine zz_aald hx hb hK hP 17 (f := zrf (zn z) wf) rfl rfl (j := r) (v := wf r) (by omega) (by omega) (zrf_g (by omega)) dL_law_996 ?_
                refine lv_iconst (v := nI 1) hx hb dL_law_997 (by decide) ?_
                refine zp_ld hx hb hK hP (([(mo, .inr (4, [.int (nI (zdy (zd1 z))), .int (nI (zgu (zd1 z))), .int (zpu (zd1 z)), .ref rr, .ref tt])), (rr, .inl (cB, zn (zd1 z), .inr (.inr (.inr (.inr (zrf (zn (zd1 z)) ra)))))), (tt, .inl (cB, ztn (zd1 z), .inr (.inr (.inr (.inr (zrf (ztn (zd1 z)) ta)))))), (xo, .inr (3, [.ref pk, .ref pk_])), (pk, .inr (0, [.ref h, .ref kk, .int (nI (zdy (zd1 z))), .int (nI (zgu (zd1 z))), .int (zpu (zd1 z))])), (h, .inr (1, [.ref a0, .ref a1, .ref a2, .ref a3, .ref a4, .ref a5, .int (nI (zn (zd1 z)))])), (a0, .inl (cA, 10, .inl (fun j9 => nI ((zwa (zd1 z)) j9)))), (a1, .inl (cA, 10, .inl (fun j9 => nI ((ziv (zd1 z)) j9)))), (a2, .inl (cA, 10, .inl (fun j9 => nI ((zgh (zd1 z)) j9)))), (a3, .inl (cA, 10, .inl (fun j9 => nI ((zpr (zd1 z)) j9)))), (a4, .inl (cA, 10, .inl me)), (a5, .inl (cA, 10, .inl rk)), (kk, .inr (2, [.ref c0, .ref c1, .ref c2, .ref c3, .int (nI (ztn (zd1 z)))])), (c0, .inl (cA, 30, .inl (fun j9 => nI ((ztr (zd1 z)) j9)))), (c1, .inl (cA, 30, .inl (fun j9 => nI ((ztd (zd1 z)) j9)))), (c2, .inl (cA, 30, .inl (fun j9 => nI ((ztp (zd1 z)) j9)))), (c3, .inl (cA, 30, .inl (fun j9 => nI ((ztf (zd1 z)) j9)))), (wr, .inl (cB, zn z, .inr (.inr (.inr (.inr (zrf (zn z) wf))))))] ++ (zpl cA ra (zrow (zwa (zd1 z)) (ziv (zd1 z)) (zgh (zd1 z)) (zpr (zd1 z))) (zn (zd1 z)) ++ (zpl cA ta (zrow (ztr (zd1 z)) (ztd (zd1 z)) (ztp (zd1 z)) (ztf (zd1 z))) (ztn (zd1 z))))) : va_W) ([] : va_W) (ra := wf) (F := zroi (zwa z) (ziv z) (zgh z) (zrk z)) (n := (zn z)) (r := r) (k := 1) (v := nI ((ziv z) r)) (by simp only [List.append_assoc, List.append_nil]) rfl (by omega) (by decide) rfl dL_law_998 ?_
                refine lv_icmp_ne (tgt := 1032) hx hb dL_law_999 (by decide) (fun c_41 => ?_) (fun c_41 => ?_)
                · skip
                  replace c_41 := mt (nI_eq (by first | omega | (split <;> omega)) (by first | omega | (split <;> omega))).mpr c_41
                  exfalso; omega
                · skip
                  replace c_41 := (nI_eq (by first | omega | (split <;> omega)) (by first | omega | (split <;> omega))).mp c_41
                  refine lv_iload hx hb dL_law_1002 (lv_at hl 2 rfl) ?_
                  refine lv_aload hx hb dL_law_1004 (lv_at hl 8 rfl) ?_
                  refine lv_iload hx hb dL_law_1006 (lv_at hl 11 rfl) ?_
                  refine zz_aald hx hb hK hP 17 (f := zrf (zn z) wf) rfl rfl (j := r) (v := wf r) (by omega) (by omega) (zrf_g (by omega)) dL_law_1008 ?_
                  refine lv_iconst (v := nI 0) hx hb dL_law_1009 (by decide) ?_
                  refine zp_ld hx hb hK hP (([(mo, .inr (4, [.int (nI (zdy (zd1 z))), .int (nI (zgu (zd1 z))), .int (zpu (zd1 z)), .ref rr, .ref tt])), (rr, .inl (cB, zn (zd1 z), .inr (.inr (.inr (.inr (zrf (zn (zd1 z)) ra)))))), (tt, .inl (cB, ztn (zd1 z), .inr (.inr (.inr (.inr (zrf (ztn (zd1 z)) ta)))))), (xo, .inr (3, [.ref pk, .ref pk_])), (pk, .inr (0, [.ref h, .ref kk, .int (nI (zdy (zd1 z))), .int (nI (zgu (zd1 z))), .int (zpu (zd1 z))])), (h, .inr (1, [.ref a0, .ref a1, .ref a2, .ref a3, .ref a4, .ref a5, .int (nI (zn (zd1 z)))])), (a0, .inl (cA, 10, .inl (fun j9 => nI ((zwa (zd1 z)) j9)))), (a1, .inl (cA, 10, .inl (fun j9 => nI ((ziv (zd1 z)) j9)))), (a2, .inl (cA, 10, .inl (fun j9 => nI ((zgh (zd1 z)) j9)))), (a3, .inl (cA, 10, .inl (fun j9 => nI ((zpr (zd1 z)) j9)))), (a4, .inl (cA, 10, .inl me)), (a5, .inl (cA, 10, .inl rk)), (kk, .inr (2, [.ref c0, .ref c1, .ref c2, .ref c3, .int (nI (ztn (zd1 z)))])), (c0, .inl (cA, 30, .inl (fun j9 => nI ((ztr (zd1 z)) j9)))), (c1, .inl (cA, 30, .inl (fun j9 => nI ((ztd (zd1 z)) j9)))), (c2, .inl (cA, 30, .inl (fun j9 => nI ((ztp (zd1 z)) j9)))), (c3, .inl (cA, 30, .inl (fun j9 => nI ((ztf (zd1 z)) j9)))), (wr, .inl (cB, zn z, .inr (.inr (.inr (.inr (zrf (zn z) wf))))))] ++ (zpl cA ra (zrow (zwa (zd1 z)) (ziv (zd1 z)) (zgh (zd1 z)) (zpr (zd1 z))) (zn (zd1 z)) ++ (zpl cA ta (zrow (ztr (zd1 z)) (ztd (zd1 z)) (ztp (zd1 z)) (ztf (zd1 z))) (ztn (zd1 z))))) : va_W) ([] : va_W) (ra := wf) (F := zroi (zwa z) (ziv z) (zgh z) (zrk z)) (n := (zn z)) (r := r) (k := 0) (v := nI ((zwa z) r)) (by simp only [List.append_assoc, List.append_nil]) rfl (by omega) (by decide) rfl dL_law_1010 ?_
                  refine lv_iload hx hb dL_law_1011 (lv_at hl 0 rfl) ?_
                  refine lv_if_eq (tgt := 1027) hx hb dL_law_1013 (by decide) (fun c_42 => ?_) (fun c_42 => ?_)
                  · skip
                    replace c_42 := (zz_eq0 (by first | omega | (split <;> omega))).mp c_42
                    exact absurd c_42 (by decide)
                  · skip
                    replace c_42 := mt (zz_eq0 (by first | omega | (split <;> omega))).mpr c_42
                    refine lv_iload hx hb dL_law_1016 (lv_at hl 1 rfl) ?_
                    refine lv_bipush (v := nI 9) hx hb dL_law_1018 (by decide) ?_
                    refine lv_icmp_le (tgt := 1027) hx hb dL_law_1020 (by decide) (fun c_43 => ?_) (fun c_43 => ?_)
                    · skip
                      replace c_43 := (nI_leI (by first | omega | (split <;> omega)) (by first | omega | (split <;> omega))).mp c_43
                      refine lv_iconst (v := nI 0) hx hb dL_law_1027 (by decide) ?_
                      refine lv_isub hx hb dL_law_1028 ?_
                      refine zz_top (pk_sub (by first | omega | (split <;> omega))) ?_
                      refine lv_icmp_eq (tgt := 1034) hx hb dL_law_1029 (by decide) (fun c_44 => ?_) (fun c_44 => ?_)
                      · skip
                        replace c_44 := (nI_eq (by first | omega | (split <;> omega)) (by first | omega | (split <;> omega))).mp c_44
                        have hl := lv_sub (l' := [(0, .ref b), (1, .ref xo), (2, .ref mo), (3, .int (nI i)), (5, .int (nI (zn z))), (11, .ref wr), (13, .int (nI (zdy z))), (14, .int (nI (zb (zdy z)))), (18, .int (nI r)), (19, .int (nI (zwa (zd1 z) r))), (20, .int (nI (ziv (zd1 z) r)))]) hl [3, 4, 5, 6, 7, 8, 9, 10, 11, 2, 1] rfl
                        refine W.widen (k := 13556 + 300 * i) (n := 122276 + 2400 * i) (by omega) (by omega) ?_
                        exact lp_1034    _ _ hP hD hS _ hl
                      · skip
                        replace c_44 := mt (nI_eq (by first | omega | (split <;> omega)) (by first | omega | (split <;> omega))).mpr c_44
                        exfalso; omega
                    · skip
                      replace c_43 := mt (nI_leI (by first | omega | (split <;> omega)) (by first | omega | (split <;> omega))).mpr c_43
                      refine lv_iconst (v := nI 1) hx hb dL_law_1023 (by decide) ?_
                      refine lv_goto (tgt := 1028) hx hb dL_law_1024 (by decide) ?_
                      refine lv_isub hx hb dL_law_1028 ?_
                      refine zz_top (pk_sub (by first | omega | (split <;> omega))) ?_
                      refine lv_icmp_eq (tgt := 1034) hx hb dL_law_1029 (by decide) (fun c_45 => ?_) (fun c_45 => ?_)
                      · skip
                        replace c_45 := (nI_eq (by first | omega | (split <;> omega)) (by first | omega | (split <;> omega))).mp c_45
                        have hl := lv_sub (l' := [(0, .ref b), (1, .ref xo), (2, .ref mo), (3, .int (nI i)), (5, .int (nI (zn z))), (11, .ref wr), (13, .int (nI (zdy z))), (14, .int (nI (zb (zdy z)))), (18, .int (nI r)), (19, .int (nI (zwa (zd1 z) r))), (20, .int (nI (ziv (zd1 z) r)))]) hl [3, 4, 5, 6, 7, 8, 9, 10, 11, 2, 1] rfl
                        refine W.widen (k := 13556 + 300 * i) (n := 122276 + 2400 * i) (by omega) (by omega) ?_
                        exact lp_1034    _ _ hP hD hS _ hl
                      · skip
                        replace c_45 := mt (nI_eq (by first | omega | (split <;> omega)) (by first | omega | (split <;> omega))).mpr c_45
                        exfalso; omega
              · skip
                replace c_40 := (nI_eq (by first | omega | (split <;> omega)) (by first | omega | (split <;> omega))).mp c_40
                refine lv_bipush (v := nI 12) hx hb dL_law_975 (by decide) ?_
                refine lv_aload hx hb dL_law_977 (lv_at hl 8 rfl) ?_
                refine lv_iload hx hb dL_law_979 (lv_at hl 11 rfl) ?_
                refine zz_aald hx hb hK hP 17 (f := zrf (zn z) wf) rfl rfl (j := r) (v := wf r) (by omega) (by omega) (zrf_g (by omega)) dL_law_981 ?_
                refine lv_iconst (v := nI 1) hx hb dL_law_982 (by decide) ?_
                refine zp_ld hx hb hK hP (([(mo, .inr (4, [.int (nI (zdy (zd1 z))), .int (nI (zgu (zd1 z))), .int (zpu (zd1 z)), .ref rr, .ref tt])), (rr, .inl (cB, zn (zd1 z), .inr (.inr (.inr (.inr (zrf (zn (zd1 z)) ra)))))), (tt, .inl (cB, ztn (zd1 z), .inr (.inr (.inr (.inr (zrf (ztn (zd1 z)) ta)))))), (xo, .inr (3, [.ref pk, .ref pk_])), (pk, .inr (0, [.ref h, .ref kk, .int (nI (zdy (zd1 z))), .int (nI (zgu (zd1 z))), .int (zpu (zd1 z))])), (h, .inr (1, [.ref a0, .ref a1, .ref a2, .ref a3, .ref a4, .ref a5, .int (nI (zn (zd1 z)))])), (a0, .inl (cA, 10, .inl (fun j9 => nI ((zwa (zd1 z)) j9)))), (a1, .inl (cA, 10, .inl (fun j9 => nI ((ziv (zd1 z)) j9)))), (a2, .inl (cA, 10, .inl (fun j9 => nI ((zgh (zd1 z)) j9)))), (a3, .inl (cA, 10, .inl (fun j9 => nI ((zpr (zd1 z)) j9)))), (a4, .inl (cA, 10, .inl me)), (a5, .inl (cA, 10, .inl rk)), (kk, .inr (2, [.ref c0, .ref c1, .ref c2, .ref c3, .int (nI (ztn (zd1 z)))])), (c0, .inl (cA, 30, .inl (fun j9 => nI ((ztr (zd1 z)) j9)))), (c1, .inl (cA, 30, .inl (fun j9 => nI ((ztd (zd1 z)) j9)))), (c2, .inl (cA, 30, .inl (fun j9 => nI ((ztp (zd1 z)) j9)))), (c3, .inl (cA, 30, .inl (fun j9 => nI ((ztf (zd1 z)) j9)))), (wr, .inl (cB, zn z, .inr (.inr (.inr (.inr (zrf (zn z) wf))))))] ++ (zpl cA ra (zrow (zwa (zd1 z)) (ziv (zd1 z)) (zgh (zd1 z)) (zpr (zd1 z))) (zn (zd1 z)) ++ (zpl cA ta (zrow (ztr (zd1 z)) (ztd (zd1 z)) (ztp (zd1 z)) (ztf (zd1 z))) (ztn (zd1 z))))) : va_W) ([] : va_W) (ra := wf) (F := zroi (zwa z) (ziv z) (zgh z) (zrk z)) (n := (zn z)) (r := r) (k := 1) (v := nI ((ziv z) r)) (by simp only [List.append_assoc, List.append_nil]) rfl (by omega) (by decide) rfl dL_law_983 ?_
                refine lv_iconst (v := nI 1) hx hb dL_law_984 (by decide) ?_
                refine lv_iadd hx hb dL_law_985 ?_
                refine zz_top (nI_add _ _) ?_
                refine va_mmin hx hb (by rw [hml]; exact hl.1.symm) hown (hts0 (.methodLink RL 131 Lib.Math.min.name) (by decide +kernel)) (hts0 (.static Lib.Math.min.name) (by decide +kernel)) (hts0 (.initialized "java/lang/Math") (by decide +kernel)) (hts0 (.code Lib.Math.min.name Lib.Math.min.code 2 (some .int)) (by decide +kernel)) (Nat.le_of_ble_eq_true rfl) (Nat.le_of_ble_eq_true rfl) (by show (13556 + 300 * i) ≤ 753896; omega) (by show (122276 + 2400 * i) ≤ 6839935; omega) dL_law_986 ?_
                refine zz_top (zz_min (by first | omega | (split <;> omega)) (by first | omega | (split <;> omega))) ?_
                refine lv_goto (tgt := 999) hx hb dL_law_989 (by decide) ?_
                refine lv_icmp_ne (tgt := 1032) hx hb dL_law_999 (by decide) (fun c_46 => ?_) (fun c_46 => ?_)
                · skip
                  replace c_46 := mt (nI_eq (by first | omega | (split <;> omega)) (by first | omega | (split <;> omega))).mpr c_46
                  exfalso; omega
                · skip
                  replace c_46 := (nI_eq (by first | omega | (split <;> omega)) (by first | omega | (split <;> omega))).mp c_46
                  refine lv_iload hx hb dL_law_1002 (lv_at hl 2 rfl) ?_
                  refine lv_aload hx hb dL_law_1004 (lv_at hl 8 rfl) ?_
                  refine lv_iload hx hb dL_law_1006 (lv_at hl 11 rfl) ?_
                  refine zz_aald hx hb hK hP 17 (f := zrf (zn z) wf) rfl rfl (j := r) (v := wf r) (by omega) (by omega) (zrf_g (by omega)) dL_law_1008 ?_
                  refine lv_iconst (v := nI 0) hx hb dL_law_1009 (by decide) ?_
                  refine zp_ld hx hb hK hP (([(mo, .inr (4, [.int (nI (zdy (zd1 z))), .int (nI (zgu (zd1 z))), .int (zpu (zd1 z)), .ref rr, .ref tt])), (rr, .inl (cB, zn (zd1 z), .inr (.inr (.inr (.inr (zrf (zn (zd1 z)) ra)))))), (tt, .inl (cB, ztn (zd1 z), .inr (.inr (.inr (.inr (zrf (ztn (zd1 z)) ta)))))), (xo, .inr (3, [.ref pk, .ref pk_])), (pk, .inr (0, [.ref h, .ref kk, .int (nI (zdy (zd1 z))), .int (nI (zgu (zd1 z))), .int (zpu (zd1 z))])), (h, .inr (1, [.ref a0, .ref a1, .ref a2, .ref a3, .ref a4, .ref a5, .int (nI (zn (zd1 z)))])), (a0, .inl (cA, 10, .inl (fun j9 => nI ((zwa (zd1 z)) j9)))), (a1, .inl (cA, 10, .inl (fun j9 => nI ((ziv (zd1 z)) j9)))), (a2, .inl (cA, 10, .inl (fun j9 => nI ((zgh (zd1 z)) j9)))), (a3, .inl (cA, 10, .inl (fun j9 => nI ((zpr (zd1 z)) j9)))), (a4, .inl (cA, 10, .inl me)), (a5, .inl (cA, 10, .inl rk)), (kk, .inr (2, [.ref c0, .ref c1, .ref c2, .ref c3, .int (nI (ztn (zd1 z)))])), (c0, .inl (cA, 30, .inl (fun j9 => nI ((ztr (zd1 z)) j9)))), (c1, .inl (cA, 30, .inl (fun j9 => nI ((ztd (zd1 z)) j9)))), (c2, .inl (cA, 30, .inl (fun j9 => nI ((ztp (zd1 z)) j9)))), (c3, .inl (cA, 30, .inl (fun j9 => nI ((ztf (zd1 z)) j9)))), (wr, .inl (cB, zn z, .inr (.inr (.inr (.inr (zrf (zn z) wf))))))] ++ (zpl cA ra (zrow (zwa (zd1 z)) (ziv (zd1 z)) (zgh (zd1 z)) (zpr (zd1 z))) (zn (zd1 z)) ++ (zpl cA ta (zrow (ztr (zd1 z)) (ztd (zd1 z)) (ztp (zd1 z)) (ztf (zd1 z))) (ztn (zd1 z))))) : va_W) ([] : va_W) (ra := wf) (F := zroi (zwa z) (ziv z) (zgh z) (zrk z)) (n := (zn z)) (r := r) (k := 0) (v := nI ((zwa z) r)) (by simp only [List.append_assoc, List.append_nil]) rfl (by omega) (by decide) rfl dL_law_1010 ?_
                  refine lv_iload hx hb dL_law_1011 (lv_at hl 0 rfl) ?_
                  refine lv_if_eq (tgt := 1027) hx hb dL_law_1013 (by decide) (fun c_47 => ?_) (fun c_47 => ?_)
                  · skip
                    replace c_47 := (zz_eq0 (by first | omega | (split <;> omega))).mp c_47
                    exact absurd c_47 (by decide)
                  · skip
                    replace c_47 := mt (zz_eq0 (by first | omega | (split <;> omega))).mpr c_47
                    refine lv_iload hx hb dL_law_1016 (lv_at hl 1 rfl) ?_
                    refine lv_bipush (v := nI 9) hx hb dL_law_1018 (by decide) ?_
                    refine lv_icmp_le (tgt := 1027) hx hb dL_law_1020 (by decide) (fun c_48 => ?_) (fun c_48 => ?_)
                    · skip
                      replace c_48 := (nI_leI (by first | omega | (split <;> omega)) (by first | omega | (split <;> omega))).mp c_48
                      refine lv_iconst (v := nI 0) hx hb dL_law_1027 (by decide) ?_
                      refine lv_isub hx hb dL_law_1028 ?_
                      refine zz_top (pk_sub (by first | omega | (split <;> omega))) ?_
                      refine lv_icmp_eq (tgt := 1034) hx hb dL_law_1029 (by decide) (fun c_49 => ?_) (fun c_49 => ?_)
                      · skip
                        replace c_49 := (nI_eq (by first | omega | (split <;> omega)) (by first | omega | (split <;> omega))).mp c_49
                        have hl := lv_sub (l' := [(0, .ref b), (1, .ref xo), (2, .ref mo), (3, .int (nI i)), (5, .int (nI (zn z))), (11, .ref wr), (13, .int (nI (zdy z))), (14, .int (nI (zb (zdy z)))), (18, .int (nI r)), (19, .int (nI (zwa (zd1 z) r))), (20, .int (nI (ziv (zd1 z) r)))]) hl [3, 4, 5, 6, 7, 8, 9, 10, 11, 2, 1] rfl
                        refine W.widen (k := 13556 + 300 * i) (n := 122276 + 2400 * i) (by omega) (by omega) ?_
                        exact lp_1034    _ _ hP hD hS _ hl
                      · skip
                        replace c_49 := mt (nI_eq (by first | omega | (split <;> omega)) (by first | omega | (split <;> omega))).mpr c_49
                        exfalso; omega
                    · skip
                      replace c_48 := mt (nI_leI (by first | omega | (split <;> omega)) (by first | omega | (split <;> omega))).mpr c_48
                      refine lv_iconst (v := nI 1) hx hb dL_law_1023 (by decide) ?_
                      refine lv_goto (tgt := 1028) hx hb dL_law_1024 (by decide) ?_
                      refine lv_isub hx hb dL_law_1028 ?_
                      refine zz_top (pk_sub (by first | omega | (split <;> omega))) ?_
                      refine lv_icmp_eq (tgt := 1034) hx hb dL_law_1029 (by decide) (fun c_50 => ?_) (fun c_50 => ?_)
                      · skip
                        replace c_50 := (nI_eq (by first | omega | (split <;> omega)) (by first | omega | (split <;> omega))).mp c_50
                        have hl := lv_sub (l' := [(0, .ref b), (1, .ref xo), (2, .ref mo), (3, .int (nI i)), (5, .int (nI (zn z))), (11, .ref wr), (13, .int (nI (zdy z))), (14, .int (nI (zb (zdy z)))), (18, .int (nI r)), (19, .int (nI (zwa (zd1 z) r))), (20, .int (nI (ziv (zd1 z) r)))]) hl [3, 4, 5, 6, 7, 8, 9, 10, 11, 2, 1] rfl
                        refine W.widen (k := 13556 + 300 * i) (n := 122276 + 2400 * i) (by omega) (by omega) ?_
                        exact lp_1034    _ _ hP hD hS _ hl
                      · skip
                        replace c_50 := mt (nI_eq (by first | omega | (split <;> omega)) (by first | omega | (split <;> omega))).mpr c_50
                        exfalso; omega
  have hl := lv_sub (l' := [(0, .ref b), (1, .ref xo), (2, .ref mo), (3, .int (nI i)), (5, .int (nI (zn z))), (11, .ref wr), (13, .int (nI (zdy z))), (14, .int (nI (zb (zdy z)))), (18, .int (nI 0))]) hl [1, 2, 3, 4, 5, 6, 7, 8, 0] rfl
  refine W.widen (k := 13556 + 300 * i) (n := 122276 + 2400 * i) (by omega) (by omega) ?_
  exact lp_920 _ 0 (Nat.lt_succ_self _) (by first | assumption | omega) _ _ hP hD hS _ hl
