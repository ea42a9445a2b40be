/-! The reference's row of numbers, and its rank. -/
def znw (dy : Nat) (pu : Int32) (wa iv gh tf : Nat → Nat) : Nat → Int32 := fun k => if k = 0 then nI dy else if k = 1 then pu else if k < 32 then (if (k - 2) % 3 = 0 then nI (wa ((k - 2) / 3)) else if (k - 2) % 3 = 1 then nI (iv ((k - 2) / 3)) else nI (gh ((k - 2) / 3))) else nI (tf (k - 32))
theorem znw_0 (dy : Nat) (pu : Int32) (wa iv gh tf : Nat → Nat) : znw dy pu wa iv gh tf 0 = nI dy := rfl
theorem znw_1 (dy : Nat) (pu : Int32) (wa iv gh tf : Nat → Nat) : znw dy pu wa iv gh tf 1 = pu := rfl
theorem znw_w (dy : Nat) (pu : Int32) (wa iv gh tf : Nat → Nat) {r : Nat} (h : r < 10) : znw dy pu wa iv gh tf ((2 + (3 * r)) + 0) = nI (wa r) := by
  unfold znw
  rw [if_neg (by omega), if_neg (by omega), if_pos (by omega), if_pos (by omega), show ((2 + (3 * r)) + 0 - 2) / 3 = r by omega]
theorem znw_i (dy : Nat) (pu : Int32) (wa iv gh tf : Nat → Nat) {r : Nat} (h : r < 10) : znw dy pu wa iv gh tf ((2 + (3 * r)) + 1) = nI (iv r) := by
  unfold znw
  rw [if_neg (by omega), if_neg (by omega), if_pos (by omega), if_neg (by omega), if_pos (by omega), show ((2 + (3 * r)) + 1 - 2) / 3 = r by omega]
theorem znw_g (dy : Nat) (pu : Int32) (wa iv gh tf : Nat → Nat) {r : Nat} (h : r < 10) : znw dy pu wa iv gh tf ((2 + (3 * r)) + 2) = nI (gh r) := by
  unfold znw
  rw [if_neg (by omega), if_neg (by omega), if_pos (by omega), if_neg (by omega), if_neg (by omega), show ((2 + (3 * r)) + 2 - 2) / 3 = r by omega]
theorem znw_t (dy : Nat) (pu : Int32) (wa iv gh tf : Nat → Nat) {t : Nat} (h : t < 30) : znw dy pu wa iv gh tf (32 + t) = nI (tf t) := by
  unfold znw
  rw [if_neg (by omega), if_neg (by omega), if_neg (by omega), show 32 + t - 32 = t by omega]
theorem znw_ud (dy : Nat) (pu : Int32) (wa iv gh tf : Nat → Nat) (x : Nat) : upd (znw dy pu wa iv gh tf) 0 (nI x) = znw x pu wa iv gh tf := by
  funext k
  by_cases h : k = 0
  · subst h; rw [pk_us, znw_0]
  · rw [pk_un h]; unfold znw; rw [if_neg h, if_neg h]
theorem znw_up (dy : Nat) (pu : Int32) (wa iv gh tf : Nat → Nat) (x : Int32) : upd (znw dy pu wa iv gh tf) 1 x = znw dy x wa iv gh tf := by
  funext k
  by_cases h : k = 1
  · subst h; rw [pk_us, znw_1]
  · rw [pk_un h]; unfold znw; rw [if_neg h, if_neg h]
theorem znw_uw (dy : Nat) (pu : Int32) (wa iv gh tf : Nat → Nat) {r : Nat} (x : Nat) (h : r < 10) : upd (znw dy pu wa iv gh tf) ((2 + (3 * r)) + 0) (nI x) = znw dy pu (zup wa r x) iv gh tf := by
  funext k
  by_cases q : k = (2 + (3 * r)) + 0
  · subst q; rw [pk_us, znw_w _ _ _ _ _ _ h, zup_s]
  · rw [pk_un q]
    unfold znw
    by_cases h0 : k = 0
    · rw [if_pos h0, if_pos h0]
    by_cases h1 : k = 1
    · rw [if_neg h0, if_neg h0, if_pos h1, if_pos h1]
    rw [if_neg h0, if_neg h0, if_neg h1, if_neg h1]
    by_cases h2 : k < 32
    · rw [if_pos h2, if_pos h2]
      by_cases h3 : (k - 2) % 3 = 0
      · rw [if_pos h3, if_pos h3, zup_n _ _ (by omega)]
      · rw [if_neg h3, if_neg h3]
    · rw [if_neg h2, if_neg h2]
theorem znw_ui (dy : Nat) (pu : Int32) (wa iv gh tf : Nat → Nat) {r : Nat} (x : Nat) (h : r < 10) : upd (znw dy pu wa iv gh tf) ((2 + (3 * r)) + 1) (nI x) = znw dy pu wa (zup iv r x) gh tf := by
  funext k
  by_cases q : k = (2 + (3 * r)) + 1
  · subst q; rw [pk_us, znw_i _ _ _ _ _ _ h, zup_s]
  · rw [pk_un q]
    unfold znw
    by_cases h0 : k = 0
    · rw [if_pos h0, if_pos h0]
    by_cases h1 : k = 1
    · rw [if_neg h0, if_neg h0, if_pos h1, if_pos h1]
    rw [if_neg h0, if_neg h0, if_neg h1, if_neg h1]
    by_cases h2 : k < 32
    · rw [if_pos h2, if_pos h2]
      by_cases h3 : (k - 2) % 3 = 0
      · rw [if_pos h3, if_pos h3]
      · rw [if_neg h3, if_neg h3]
        by_cases h4 : (k - 2) % 3 = 1
        · rw [if_pos h4, if_pos h4, zup_n _ _ (by omega)]
        · rw [if_neg h4, if_neg h4]
    · rw [if_neg h2, if_neg h2]
theorem znw_ug (dy : Nat) (pu : Int32) (wa iv gh tf : Nat → Nat) {r : Nat} (x : Nat) (h : r < 10) : upd (znw dy pu wa iv gh tf) ((2 + (3 * r)) + 2) (nI x) = znw dy pu wa iv (zup gh r x) tf := by
  funext k
  by_cases q : k = (2 + (3 * r)) + 2
  · subst q; rw [pk_us, znw_g _ _ _ _ _ _ h, zup_s]
  · rw [pk_un q]
    unfold znw
    by_cases h0 : k = 0
    · rw [if_pos h0, if_pos h0]
    by_cases h1 : k = 1
    · rw [if_neg h0, if_neg h0, if_pos h1, if_pos h1]
    rw [if_neg h0, if_neg h0, if_neg h1, if_neg h1]
    by_cases h2 : k < 32
    · rw [if_pos h2, if_pos h2]
      by_cases h3 : (k - 2) % 3 = 0
      · rw [if_pos h3, if_pos h3]
      · rw [if_neg h3, if_neg h3]
        by_cases h4 : (k - 2) % 3 = 1
        · rw [if_pos h4, if_pos h4]
        · rw [if_neg h4, if_neg h4, zup_n _ _ (by omega)]
    · rw [if_neg h2, if_neg h2]
theorem znw_ut (dy : Nat) (pu : Int32) (wa iv gh tf : Nat → Nat) {t : Nat} (x : Nat) (h : t < 30) : upd (znw dy pu wa iv gh tf) (32 + t) (nI x) = znw dy pu wa iv gh (zup tf t x) := by
  funext k
  by_cases q : k = 32 + t
  · subst q; rw [pk_us, znw_t _ _ _ _ _ _ h, zup_s]
  · rw [pk_un q]
    unfold znw
    by_cases h0 : k = 0
    · rw [if_pos h0, if_pos h0]
    by_cases h1 : k = 1
    · rw [if_neg h0, if_neg h0, if_pos h1, if_pos h1]
    rw [if_neg h0, if_neg h0, if_neg h1, if_neg h1]
    by_cases h2 : k < 32
    · rw [if_pos h2, if_pos h2]
    · rw [if_neg h2, if_neg h2, zup_n _ _ (by omega)]
theorem znw_cg {dy : Nat} {pu pu' : Int32} {wa iv gh tf wa' iv' gh' tf' : Nat → Nat} (h0 : pu = pu') (h1 : wa = wa') (h2 : iv = iv') (h3 : gh = gh') (h4 : tf = tf') : znw dy pu wa iv gh tf = znw dy pu' wa' iv' gh' tf' := by
  rw [h0, h1, h2, h3, h4]
def zin (v lo hi : Int32) : Nat := if v < lo then 0 else if hi < v then 0 else 1
theorem zin_has {x : Int32} {n : Nat} (hn : n < 2 ^ 30) : zin x (nI 0) (nI n - nI 1) = zhas x n := by
  unfold zin zhas
  rw [nI_0]
  by_cases h : x < 0
  · rw [if_pos h, if_pos h]
  · rw [if_neg h, if_neg h]
    have e : (nI n - nI 1).toInt = (n : Int) - 1 := pk_sub_toInt hn (by decide)
    have e2 : (nI n).toInt = (n : Int) := nI_toInt (by omega)
    by_cases q : nI n ≤ x
    · rw [if_pos q, if_pos]
      rw [Int32.lt_iff_toInt_lt, e]
      rw [Int32.le_iff_toInt_le, e2] at q
      omega
    · rw [if_neg q, if_neg]
      rw [Int32.lt_iff_toInt_lt, e]
      rw [Int32.le_iff_toInt_le, e2] at q
      omega
/-- is a ahead of b -/
def zah (va vb pa pb a b : Nat) : Nat := if va = vb then (if pa = pb then (if a < b then 1 else 0) else if pa < pb then 1 else 0) else if vb < va then 1 else 0
theorem zah_le (va vb pa pb a b : Nat) : zah va vb pa pb a b ≤ 1 := by unfold zah; (repeat' split) <;> omega
def zmc (wa iv gh pr : Nat → Nat) (b r : Nat) : Nat → Nat
  | 0 => 0
  | k + 1 => zmc wa iv gh pr b r k + (if k = r then 0 else if 0 < wa k then zah (zv (wa k) (iv k) (gh k) b) (zv (wa r) (iv r) (gh r) b) (pr k) (pr r) k r else 0)
theorem zah_me {wk ik gk pk wr ir gr pr b k r : Nat} (hk0 : 0 < wk) (hr0 : 0 < wr) (hk : k < 10) (hr : r < 10) (hne : k ≠ r) (h1 : wk ≤ 20) (h2 : wr ≤ 20) (h3 : gk ≤ 5) (h4 : gr ≤ 5) (h5 : pk ≤ 9) (h6 : pr ≤ 9) (hb : b ≤ 4) :
    zah (zv wk ik gk b) (zv wr ir gr b) pk pr k r = if zme wk ik gk pk k b ≤ zme wr ir gr pr r b then 0 else 1 := by
  have v1 := zv_le (i := ik) h1 h3 hb
  have v2 := zv_le (i := ir) h2 h4 hb
  have e1 : zme wk ik gk pk k b = nI ((zv wk ik gk b * 10 + (9 - pk)) * 10 + (9 - k)) := by unfold zme; exact if_neg (by omega)
  have e2 : zme wr ir gr pr r b = nI ((zv wr ir gr b * 10 + (9 - pr)) * 10 + (9 - r)) := by unfold zme; exact if_neg (by omega)
  rw [e1, e2]
  unfold zah
  generalize zv wk ik gk b = A at *
  generalize zv wr ir gr b = B at *
  by_cases q : (A * 10 + (9 - pk)) * 10 + (9 - k) ≤ (B * 10 + (9 - pr)) * 10 + (9 - r)
  · rw [if_pos ((nI_leI (by omega) (by omega)).mpr q)]
    (repeat' split) <;> omega
  · rw [if_neg (mt (nI_leI (by omega) (by omega)).mp q)]
    (repeat' split) <;> omega
theorem zmc_ab {wa iv gh pr : Nat → Nat} {b r : Nat} (hr0 : 0 < wa r) (hr : r < 10) (h1 : ∀ j, wa j ≤ 20) (h3 : ∀ j, gh j ≤ 5) (h5 : ∀ j, pr j ≤ 9) (hb : b ≤ 4) : ∀ n, n ≤ 10 → zmc wa iv gh pr b r n = zab (zmf wa iv gh pr b) (zmf wa iv gh pr b r) n
  | 0, _ => rfl
  | k + 1, hk => by
    have ih := zmc_ab (iv := iv) hr0 hr h1 h3 h5 hb k (by omega)
    show zmc wa iv gh pr b r k + (if k = r then 0 else if 0 < wa k then zah (zv (wa k) (iv k) (gh k) b) (zv (wa r) (iv r) (gh r) b) (pr k) (pr r) k r else 0) = (if zmf wa iv gh pr b k ≤ zmf wa iv gh pr b r then zab (zmf wa iv gh pr b) (zmf wa iv gh pr b r) k else zab (zmf wa iv gh pr b) (zmf wa iv gh pr b r) k + 1)
    rw [ih]
    by_cases e : k = r
    · subst e
      rw [if_pos rfl, if_pos (Int32.le_refl _)]; rfl
    · rw [if_neg e]
      by_cases w : 0 < wa k
      · rw [if_pos w, zah_me w hr0 (by omega) hr e (h1 k) (h1 r) (h3 k) (h3 r) (h5 k) (h5 r) hb]
        show _ + (if zmf wa iv gh pr b k ≤ zmf wa iv gh pr b r then 0 else 1) = _
        split <;> rfl
      · rw [if_neg w, if_pos]
        · rfl
        · show zme (wa k) (iv k) (gh k) (pr k) k b ≤ zme (wa r) (iv r) (gh r) (pr r) r b
          have v2 := zv_le (i := iv r) (h1 r) (h3 r) hb
          have p2 := h5 r
          unfold zme
          rw [if_pos (by omega), if_neg (by omega)]
          exact Int32.le_trans (show (-1 : Int32) ≤ 0 by decide) (zz_ge0 (by omega))
theorem zri_mc {n : Nat} {wa iv gh pr : Nat → Nat} {b r : Nat} (hn : n ≤ 10) (hr0 : 0 < wa r) (hr : r < 10) (h1 : ∀ j, wa j ≤ 20) (h3 : ∀ j, gh j ≤ 5) (h5 : ∀ j, pr j ≤ 9) (hb : b ≤ 4) : nI (zmc wa iv gh pr b r n) = zri n (zmf wa iv gh pr b) wa r := by
  unfold zri
  rw [if_neg (by omega), zmc_ab hr0 hr h1 h3 h5 hb n hn]
theorem zmc_le (wa iv gh pr : Nat → Nat) (b r : Nat) : ∀ n, zmc wa iv gh pr b r n ≤ n
  | 0 => Nat.le_refl 0
  | k + 1 => by
    have := zmc_le wa iv gh pr b r k
    have q := zah_le (zv (wa k) (iv k) (gh k) b) (zv (wa r) (iv r) (gh r) b) (pr k) (pr r) k r
    show zmc wa iv gh pr b r k + (if k = r then 0 else if 0 < wa k then _ else 0) ≤ _
    (repeat' split) <;> omega
theorem nI_nm1 {k : Nat} (hk : k < 2 ^ 31) : ¬ nI k = (-1) := by
  intro q
  have := zz_ge0 (a := k) hk
  rw [q] at this
  exact absurd this (by decide)
def zAh (b i : Nat) (wa iv gh : Nat → Nat) : Nat → Nat := fun j => if j < i then z_gb b (wa j) (iv j) (gh j) else gh j
theorem zAh_g (d n : Nat) (wa iv gh : Nat → Nat) : zAh (zb d) n (zAw d n wa iv) (zAi d n wa iv) gh = zAg d n wa iv gh := by
  funext j
  by_cases h : j < n
  · simp [zAh, zAg, zAw, zAi, h, z_gh]
  · simp [zAh, zAg, h]
theorem zp_0 (x : Int32) : x + nI 0 = x := by rw [nI_0, Int32.add_zero]
theorem zm_0 (x : Int32) : x - nI 0 = x := by rw [nI_0, Int32.sub_zero]
theorem zp_s (x : Int32) (a b : Nat) : x + nI (a + b) = x + nI a + nI b := by rw [← nI_add, Int32.add_assoc]
theorem zm_s (x : Int32) (a b : Nat) : x - nI (a + b) = x - nI a - nI b := by rw [← nI_add, Int32.sub_sub]
theorem zin_le (v lo hi : Int32) : zin v lo hi ≤ 1 := by unfold zin; (repeat' split) <;> omega
theorem zhas_le (x : Int32) (n : Nat) : zhas x n ≤ 1 := by unfold zhas; (repeat' split) <;> omega
theorem zz_nar {k : Nat} (h : k ≤ 1) : narrow .boolean (.int (nI k)) = .int (nI k) := by
  rcases (show k = 0 ∨ k = 1 by omega) with rfl | rfl <;> rfl
