theorem i_L_law_X1 : ∀ w ∈ u_ws RX1 TX1 5, w ∈ wsL_law := inlX1
theorem i_L_law_X2 : ∀ w ∈ u_ws RX2 TX2 7, w ∈ wsL_law := inlX2
theorem i_L_law_X3 : ∀ w ∈ u_ws RX3 TX3 5, w ∈ wsL_law := inlX3
theorem i_L_law_X4 : ∀ w ∈ u_ws RX4 TX4 2, w ∈ wsL_law := inlX4
theorem i_L_law_X5 : ∀ w ∈ u_ws RX5 TX5 10, w ∈ wsL_law := inlX5
set_option maxRecDepth 100000 in
theorem law_vm {p : Program} {s : State} {m : MethodId} {meth : Method} {c : Code} {b L : Nat} {xs : Nat → Int32} (C0 : lw_At p s m meth c b L xs) : zVm s ∧ zSt (zA s) s ∧ zNest s := by
  obtain ⟨-, -, -, -, -, hts0, -, -, -, hgv⟩ := C0
  have hq := flat_of_before _ hgv
  have S : ∀ (k : Nat) (tx : String), (Cond.stringRef RX4 k tx).before #[Value.ref b] s = true → (Cond.exactly (.string RX4 k) "java/lang/String").before #[Value.ref b] s = true → ∃ a, vk_R RX4 k tx a s := fun k tx h1 h2 => by
    obtain ⟨a, c, cA, kA, q1, -⟩ := Cond.exactly_spec h2
    exact ⟨a, vk_R.of h1 q1⟩
  refine ⟨⟨⟨S _ _ (hts0 _ (by decide +kernel)) (hq _ (by decide +kernel)), S _ _ (hts0 _ (by decide +kernel)) (hq _ (by decide +kernel)), S _ _ (hts0 _ (by decide +kernel)) (hq _ (by decide +kernel)), S _ _ (hts0 _ (by decide +kernel)) (hq _ (by decide +kernel)), S _ _ (hts0 _ (by decide +kernel)) (hq _ (by decide +kernel)), S _ _ (hts0 _ (by decide +kernel)) (hq _ (by decide +kernel)), S _ _ (hts0 _ (by decide +kernel)) (hq _ (by decide +kernel)), S _ _ (hts0 _ (by decide +kernel)) (hq _ (by decide +kernel)), S _ _ (hts0 _ (by decide +kernel)) (hq _ (by decide +kernel)), S _ _ (hts0 _ (by decide +kernel)) (hq _ (by decide +kernel)), S _ _ (hts0 _ (by decide +kernel)) (hq _ (by decide +kernel)), S _ _ (hts0 _ (by decide +kernel)) (hq _ (by decide +kernel))⟩, ⟨va_Nw.of rfl (hts0 _ (by decide +kernel)), va_Nw.of rfl (hts0 _ (by decide +kernel)), va_Nw.of rfl (hts0 _ (by decide +kernel)), va_Nw.of rfl (hts0 _ (by decide +kernel)), va_Nw.of rfl (hts0 _ (by decide +kernel)), va_Nw.of rfl (hts0 _ (by decide +kernel))⟩, ⟨va_Nc.of (hq _ (by decide +kernel)), va_Nc.of (hq _ (by decide +kernel)), va_Nc.of (hq _ (by decide +kernel)), va_Nc.of (hq _ (by decide +kernel)), va_Nc.of (hq _ (by decide +kernel)), va_Nc.of (hq _ (by decide +kernel))⟩⟩, ⟨vx_Zqof (hts0 _ (by decide +kernel)) (hts0 _ (by decide +kernel)) (hq _ (by decide +kernel)) (fun a h1 h2 => absurd h2 (Nat.not_le.mpr h1)), vx_Zqof (hts0 _ (by decide +kernel)) (hts0 _ (by decide +kernel)) (hq _ (by decide +kernel)) (fun a h1 h2 => absurd h2 (Nat.not_le.mpr h1))⟩, ⟨va_Nw.of rfl (hts0 _ (by decide +kernel)), va_Nw.of rfl (hts0 _ (by decide +kernel)), va_Nw.of rfl (hts0 _ (by decide +kernel))⟩⟩
theorem zArr {args : Array Value} {s : State} {ty : FieldType} (hty : ty = .int ∨ ty = .long) (h : (Cond.arrayClass ty).before args s = true) : ∃ cA, ArrOfT s cA ty ∧ va_RA s cA ty := by
  obtain ⟨c, k, comp, h1, h2, h3⟩ := Cond.arrayClass_spec h
  exact ⟨c, fun n z => ⟨fun k h => (by cases h), k, h2, comp, h3⟩, by rcases hty with rfl | rfl <;> exact h1⟩
set_option maxRecDepth 100000 in
theorem law_K {p : Program} {s : State} {m : MethodId} {meth : Method} {c : Code} {b L : Nat} {xs : Nat → Int32} (C0 : lw_At p s m meth c b L xs) : ∃ (dC : Nat → ClassId) (dI : Nat → Nat → Nat) (cA cL : ClassId), va_K (dC, dI) vwCl [(cA, .int), (cL, .long)] s := by
  obtain ⟨-, -, -, -, -, hts0, -, -, -, hgv⟩ := C0
  obtain ⟨c1, i1, k1⟩ := u_known hts0 (fun w h => wsL_law_in w (inlX1 w h)) (n := 5) (hts0 (.instantiable RX1 5) (by decide +kernel))
  obtain ⟨c2, i2, k2⟩ := u_known hts0 (fun w h => wsL_law_in w (inlX2 w h)) (n := 7) (hts0 (.instantiable RX2 7) (by decide +kernel))
  obtain ⟨c3, i3, k3⟩ := u_known hts0 (fun w h => wsL_law_in w (inlX3 w h)) (n := 5) (hts0 (.instantiable RX3 5) (by decide +kernel))
  obtain ⟨c4, i4, k4⟩ := u_known hts0 (fun w h => wsL_law_in w (inlX4 w h)) (n := 2) (hts0 (.instantiable RX4 2) (by decide +kernel))
  obtain ⟨c5, i5, k5⟩ := u_known hts0 (fun w h => wsL_law_in w (inlX5 w h)) (n := 10) (hts0 (.instantiable RX5 10) (by decide +kernel))
  obtain ⟨cA, a1⟩ := zArr (Or.inl rfl) (hts0 (.arrayClass .int) (by decide +kernel))
  obtain ⟨cL, a2⟩ := zArr (Or.inr rfl) (hts0 (.arrayClass .long) (by decide +kernel))
  refine ⟨fun k => [c1, c2, c3, c4, c5].getD k c1, fun k => [i1, i2, i3, i4, i5].getD k i1, cA, cL, ?_, ?_⟩
  · intro c q hq
    rcases c with _ | _ | _ | _ | _ | c
    · cases hq; exact k1
    · cases hq; exact k2
    · cases hq; exact k3
    · cases hq; exact k4
    · cases hq; exact k5
    · exact absurd hq (by simp)
  · intro k q hk
    rcases k with _ | _ | k
    · cases hk; exact a1
    · cases hk; exact a2
    · exact absurd hk (by simp)
def zst0 : ZS := zmk 0 12 (nI 0) 0 z0 z0 z0 z0 0 z0 z0 z0 z0
theorem zst0_ok : zok zst0 := ⟨by decide, by decide, by decide, fun _ => Nat.zero_le _, fun _ => Nat.zero_le _, fun _ => Nat.zero_le _, fun _ => Nat.zero_le _, fun t h => absurd h (Nat.not_lt_zero t), fun _ => Nat.zero_le _, fun _ => Nat.zero_le _, fun _ => Nat.zero_le _⟩
