/-! Ranks as a list, and sums by ranks (pure). -/
def zrn (z : ZS) (r : Nat) : Nat := zab (zF z) (zF z r) (zn z)
theorem zrk_n {z : ZS} {r : Nat} (h : ¬ zwa z r = 0) : zrk z r = nI (zrn z r) := by
  unfold zrk zri zrn
  rw [if_neg h]
theorem zrk_0 {z : ZS} {r : Nat} (h : zwa z r = 0) : zrk z r = (-1) := by
  unfold zrk zri
  rw [if_pos h]
theorem zrn_le (z : ZS) (r : Nat) : zrn z r ≤ zn z := zab_le _ _ _
theorem zrn_lt {z : ZS} (h : zok z) {r : Nat} (hr : r < zn z) (hw : ¬ zwa z r = 0) : zrn z r < zcnt (zwa z) (zn z) := by
  obtain ⟨o1, o2, o3, o4, o5, o6, o7, o8, o9, o10, o11⟩ := h
  have hb := zb_le (zdy z)
  have := zab_cnt (f := zF z) (wa := zwa z) (r := r) (fun j hj => zF_0 hj hw o4 o6 o7 hb) hw (zn z)
  rw [if_pos hr] at this
  unfold zrn
  omega
theorem zrn_strict {z : ZS} {r q : Nat} (hq : q < zn z) (h : zF z r < zF z q) : zrn z q < zrn z r := by
  have := zab_strict (f := zF z) h (zn z) hq
  unfold zrn
  omega
theorem zrn_anti {z : ZS} {r q : Nat} (h : zF z r ≤ zF z q) : zrn z q ≤ zrn z r := zab_anti h _
theorem zrn_inj {z : ZS} (h : zok z) {r q : Nat} (hr : r < zn z) (hq : q < zn z) (hw : ¬ zwa z r = 0) (e : zrn z r = zrn z q) : r = q := by
  obtain ⟨o1, o2, o3, o4, o5, o6, o7, o8, o9, o10, o11⟩ := h
  have hb := zb_le (zdy z)
  have h1 : zF z r = zF z q := by
    by_cases a : zF z r < zF z q
    · have := zrn_strict hq a; omega
    · by_cases b : zF z q < zF z r
      · have := zrn_strict hr b; omega
      · exact Int32.le_antisymm (Int32.not_lt.mp b) (Int32.not_lt.mp a)
  exact zF_inj (by omega) (by omega) hw o4 o6 o7 hb h1
theorem zfr_val {f : Nat → Int32} {x : Int32} : ∀ k i, (∃ j, i ≤ j ∧ j < i + k ∧ f j = x) → ∃ j, i ≤ j ∧ j < i + k ∧ f j = x ∧ zfr f x k i = nI j
  | 0, i, ⟨j, h1, h2, _⟩ => by omega
  | k + 1, i, ⟨j, h1, h2, h3⟩ => by
    show ∃ j, i ≤ j ∧ j < i + (k + 1) ∧ f j = x ∧ (if f i = x then nI i else zfr f x k (i + 1)) = nI j
    by_cases h : f i = x
    · exact ⟨i, Nat.le_refl i, by omega, h, if_pos h⟩
    · have hij : i + 1 ≤ j := by
        rcases Nat.lt_or_ge i j with q | q
        · exact q
        · exact absurd (by rw [show i = j by omega]; exact h3) h
      obtain ⟨j', a1, a2, a3, a4⟩ := zfr_val k (i + 1) ⟨j, hij, by omega, h3⟩
      exact ⟨j', by omega, by omega, a3, by rw [if_neg h]; exact a4⟩
/-- the ruin of a rank -/
def zat (z : ZS) (k : Nat) : Nat := (zfr (zrk z) (nI k) (zn z) 0).toNatClampNeg
theorem zat_p {z : ZS} (h : zok z) {k : Nat} (hk : k < zcnt (zwa z) (zn z)) : zat z k < zn z ∧ zrn z (zat z k) = k ∧ ¬ zwa z (zat z k) = 0 ∧ zfr (zrk z) (nI k) (zn z) 0 = nI (zat z k) := by
  obtain ⟨r, h1, h2⟩ := zrk_all h hk
  obtain ⟨j, a1, a2, a3, a4⟩ := zfr_val (f := zrk z) (x := nI k) (zn z) 0 ⟨r, by omega, by omega, h2⟩
  have hn : zn z ≤ 10 := h.1
  have hc := zcnt_le (zwa z) (zn z)
  have e : zat z k = j := by unfold zat; rw [a4, nI_clamp (by omega)]
  have hw : ¬ zwa z j = 0 := fun q => by
    rw [zrk_0 q] at a3
    exact nI_nm1 (by omega) a3.symm
  rw [e]
  refine ⟨by omega, ?_, hw, a4⟩
  rw [zrk_n hw] at a3
  have := zrn_le z j
  exact (nI_eq (by omega) (by omega)).mp a3
theorem zat_u {z : ZS} (h : zok z) {r k : Nat} (hr : r < zn z) (hw : ¬ zwa z r = 0) (e : zrn z r = k) : r = zat z k := by
  have hk : k < zcnt (zwa z) (zn z) := by rw [← e]; exact zrn_lt h hr hw
  obtain ⟨a1, a2, a3, a4⟩ := zat_p h hk
  exact zrn_inj h hr a1 hw (by rw [e, a2])
/-- what the law's reckoning ranks by -/
def zwt (z : ZS) (r : Nat) : Int32 := if zwa z r = 0 then (-1) else nI (1000 * zv (zwa z r) (ziv z r) (zgh z r) (zb (zdy z)) + 100 * (9 - zpr z r) + 10 - r)
theorem zwt_le {z : ZS} (h : zok z) {r q : Nat} (hr : r < zn z) (hq : q < zn z) (hwr : ¬ zwa z r = 0) (hwq : ¬ zwa z q = 0) (e : zwt z r ≤ zwt z q) : zF z r ≤ zF z q := by
  obtain ⟨o1, o2, o3, o4, o5, o6, o7, o8, o9, o10, o11⟩ := h
  have hb := zb_le (zdy z)
  have v1 := zv_le (i := ziv z r) (o4 r) (o6 r) hb
  have v2 := zv_le (i := ziv z q) (o4 q) (o6 q) hb
  have p1 := o7 r
  have p2 := o7 q
  unfold zwt at e
  rw [if_neg hwr, if_neg hwq, nI_leI (by omega) (by omega)] at e
  show zme (zwa z r) (ziv z r) (zgh z r) (zpr z r) r (zb (zdy z)) ≤ zme (zwa z q) (ziv z q) (zgh z q) (zpr z q) q (zb (zdy z))
  unfold zme
  rw [if_neg hwr, if_neg hwq, nI_leI (by omega) (by omega)]
  generalize zv (zwa z r) (ziv z r) (zgh z r) (zb (zdy z)) = A at *
  generalize zv (zwa z q) (ziv z q) (zgh z q) (zb (zdy z)) = B at *
  omega
theorem zwt_pos {z : ZS} (h : zok z) {r : Nat} (hr : r < zn z) (hw : ¬ zwa z r = 0) : (-1 : Int32) < zwt z r := by
  obtain ⟨o1, o2, o3, o4, o5, o6, o7, o8, o9, o10, o11⟩ := h
  have hb := zb_le (zdy z)
  have v1 := zv_le (i := ziv z r) (o4 r) (o6 r) hb
  unfold zwt
  rw [if_neg hw]
  exact Int32.lt_of_lt_of_le (show (-1 : Int32) < 0 by decide) (zz_ge0 (by omega))
/-- the row of worths, while it is filled; and behind k choices -/
def zwo (z : ZS) (i : Nat) : Nat → Int32 := fun j => if j < i then zwt z j else nI (z0 j)
def zwr (z : ZS) (k : Nat) : Nat → Int32 := fun j => if j < zn z then (if ¬ zwa z j = 0 ∧ k ≤ zrn z j then zwt z j else (-1)) else nI (z0 j)
theorem zwo_0 (z : ZS) : (fun j9 => nI (z0 j9)) = zwo z 0 := by
  funext j; simp [zwo]
theorem zwo_s {z : ZS} {i : Nat} {x : Int32} (hx : x = zwt z i) : upd (zwo z i) i x = zwo z (i + 1) := by
  subst hx
  funext j
  by_cases h : j = i
  · subst h; rw [pk_us]; simp [zwo]
  · rw [pk_un h]
    by_cases h2 : j < i
    · simp [zwo, h2, Nat.lt_succ_of_lt h2]
    · simp [zwo, h2, show ¬ j < i + 1 by omega]
theorem zwr_0 (z : ZS) : zwo z (zn z) = zwr z 0 := by
  funext j
  unfold zwo zwr
  by_cases h : j < zn z
  · rw [if_pos h, if_pos h]
    by_cases w : zwa z j = 0
    · rw [if_neg (by simp [w])]; unfold zwt; rw [if_pos w]
    · rw [if_pos ⟨w, Nat.zero_le _⟩]
  · rw [if_neg h, if_neg h]
def zbst (f : Nat → Int32) : Nat → Nat
  | 0 => 0
  | r + 1 => if f r ≤ f (zbst f r) then zbst f r else r
theorem zbst_1 (f : Nat → Int32) : zbst f 1 = 0 := by
  show (if f 0 ≤ f 0 then 0 else 0) = 0
  split <;> rfl
theorem zbst_s0 {f : Nat → Int32} {r : Nat} (h : f r ≤ f (zbst f r)) : zbst f r = zbst f (r + 1) := by
  show _ = (if f r ≤ f (zbst f r) then zbst f r else r)
  rw [if_pos h]
theorem zbst_s1 {f : Nat → Int32} {r : Nat} (h : ¬ f r ≤ f (zbst f r)) : r = zbst f (r + 1) := by
  show _ = (if f r ≤ f (zbst f r) then zbst f r else r)
  rw [if_neg h]
theorem zbst_lt (f : Nat → Int32) : ∀ n, 0 < n → zbst f n < n
  | 0, h => absurd h (Nat.lt_irrefl 0)
  | n + 1, _ => by
    show (if f n ≤ f (zbst f n) then zbst f n else n) < n + 1
    split
    · cases n with
      | zero => exact Nat.zero_lt_one
      | succ n => have := zbst_lt f (n + 1) (by omega); omega
    · omega
theorem zbst_max (f : Nat → Int32) : ∀ n j, j < n → f j ≤ f (zbst f n)
  | 0, j, h => absurd h (Nat.not_lt_zero j)
  | n + 1, j, h => by
    show f j ≤ f (if f n ≤ f (zbst f n) then zbst f n else n)
    by_cases q : f n ≤ f (zbst f n)
    · rw [if_pos q]
      by_cases e : j = n
      · subst e; exact q
      · exact zbst_max f n j (by omega)
    · rw [if_neg q]
      by_cases e : j = n
      · subst e; exact Int32.le_refl _
      · exact Int32.le_trans (zbst_max f n j (by omega)) (Int32.le_of_lt (Int32.not_le.mp q))
theorem zbst_at {z : ZS} (h : zok z) {k : Nat} (hk : k < zcnt (zwa z) (zn z)) : zbst (zwr z k) (zn z) = zat z k := by
  obtain ⟨a1, a2, a3, a4⟩ := zat_p h hk
  have hb := zbst_lt (zwr z k) (zn z) (by omega)
  have hm := zbst_max (zwr z k) (zn z) (zat z k) a1
  generalize zbst (zwr z k) (zn z) = b at hb hm ⊢
  have e1 : zwr z k (zat z k) = zwt z (zat z k) := by unfold zwr; rw [if_pos a1, if_pos ⟨a3, by omega⟩]
  have hp := zwt_pos h a1 a3
  rw [e1] at hm
  by_cases c : ¬ zwa z b = 0 ∧ k ≤ zrn z b
  · have e2 : zwr z k b = zwt z b := by unfold zwr; rw [if_pos hb, if_pos c]
    rw [e2] at hm
    have := zrn_anti (zwt_le h a1 hb a3 c.1 hm)
    exact zat_u h hb c.1 (by omega)
  · have e2 : zwr z k b = (-1) := by unfold zwr; rw [if_pos hb, if_neg c]
    rw [e2] at hm
    exact absurd (Int32.lt_of_lt_of_le hp hm) Int32.lt_irrefl
theorem zwr_s {z : ZS} (h : zok z) {k : Nat} (hk : k < zcnt (zwa z) (zn z)) : upd (zwr z k) (zat z k) (-1) = zwr z (k + 1) := by
  obtain ⟨a1, a2, a3, a4⟩ := zat_p h hk
  funext j
  by_cases e : j = zat z k
  · subst e
    rw [pk_us]
    unfold zwr
    rw [if_pos a1, if_neg (fun q => by omega)]
  · rw [pk_un e]
    unfold zwr
    by_cases hj : j < zn z
    · rw [if_pos hj, if_pos hj]
      by_cases c : ¬ zwa z j = 0 ∧ k ≤ zrn z j
      · have hne : ¬ zrn z j = k := fun q => e (zat_u h hj c.1 q)
        rw [if_pos c, if_pos ⟨c.1, by omega⟩]
      · rw [if_neg c, if_neg (fun q => c ⟨q.1, by omega⟩)]
    · rw [if_neg hj, if_neg hj]
def zrl (z : ZS) (k : Nat) : Nat → Nat := fun j => if j < k then zat z j else 0
theorem zrl_0 (z : ZS) : z0 = zrl z 0 := by
  funext j; simp [zrl, z0]
theorem zrl_s {z : ZS} {k x : Nat} (hx : x = zat z k) : zup (zrl z k) k x = zrl z (k + 1) := by
  subst hx
  funext j
  by_cases h : j = k
  · subst h; rw [zup_s]; simp [zrl]
  · rw [zup_n _ _ h]
    by_cases h2 : j < k
    · simp [zrl, h2, Nat.lt_succ_of_lt h2]
    · simp [zrl, h2, show ¬ j < k + 1 by omega]
theorem zrl_g {z : ZS} {k j : Nat} (h : j < k) : zrl z k j = zat z j := by simp [zrl, h]
/-- sums over ruins that stand and have a rank below K -/
def zsu (z : ZS) (g : Nat → Nat) (K : Nat) : Nat → Nat
  | 0 => 0
  | r + 1 => zsu z g K r + (if zwa z r = 0 then 0 else if zrn z r < K then g r else 0)
def zka (z : ZS) (g : Nat → Nat) : Nat → Nat
  | 0 => 0
  | k + 1 => zka z g k + g (zat z k)
def zst_ (z : ZS) (g : Nat → Nat) : Nat → Nat
  | 0 => 0
  | r + 1 => zst_ z g r + (if zwa z r = 0 then 0 else g r)
theorem zsu_0 (z : ZS) (g : Nat → Nat) : ∀ n, zsu z g 0 n = 0
  | 0 => rfl
  | n + 1 => by
    show zsu z g 0 n + _ = 0
    rw [zsu_0 z g n]
    simp
theorem zsu_s {z : ZS} (h : zok z) (g : Nat → Nat) {k : Nat} (hk : k < zcnt (zwa z) (zn z)) : ∀ m, m ≤ zn z → zsu z g (k + 1) m = zsu z g k m + (if zat z k < m then g (zat z k) else 0)
  | 0, _ => by simp [zsu]
  | m + 1, hm => by
    have ih := zsu_s h g hk m (by omega)
    obtain ⟨a1, a2, a3, a4⟩ := zat_p h hk
    show zsu z g (k + 1) m + _ = zsu z g k m + _ + _
    rw [ih]
    by_cases w : zwa z m = 0
    · have hne : ¬ zat z k = m := fun q => a3 (q ▸ w)
      rw [if_pos w, if_pos w]
      by_cases c : zat z k < m
      · rw [if_pos c, if_pos (by omega)]; omega
      · rw [if_neg c, if_neg (by omega)]
    · rw [if_neg w, if_neg w]
      by_cases e : zrn z m = k
      · have e2 := zat_u h (r := m) (by omega) w e
        rw [show (if zrn z m < k + 1 then g m else 0) = g m from if_pos (by omega), show (if zrn z m < k then g m else 0) = 0 from if_neg (by omega), show (if zat z k < m then g (zat z k) else 0) = 0 from if_neg (by omega), show (if zat z k < m + 1 then g (zat z k) else 0) = g (zat z k) from if_pos (by omega), ← e2]
      · have hne : ¬ zat z k = m := fun q => e (q ▸ a2)
        by_cases c : zat z k < m
        · rw [if_pos c, if_pos (show zat z k < m + 1 by omega)]
          by_cases d : zrn z m < k
          · rw [if_pos d, if_pos (by omega)]; omega
          · rw [if_neg d, if_neg (by omega)]; omega
        · rw [if_neg c, if_neg (show ¬ zat z k < m + 1 by omega)]
          by_cases d : zrn z m < k
          · rw [if_pos d, if_pos (by omega)]; omega
          · rw [if_neg d, if_neg (by omega)]
theorem zka_su {z : ZS} (h : zok z) (g : Nat → Nat) : ∀ k, k ≤ zcnt (zwa z) (zn z) → zka z g k = zsu z g k (zn z)
  | 0, _ => (zsu_0 z g _).symm
  | k + 1, hk => by
    have ih := zka_su h g k (by omega)
    have := zsu_s h g (k := k) (by omega) (zn z) (Nat.le_refl _)
    obtain ⟨a1, a2, a3, a4⟩ := zat_p h (k := k) (by omega)
    rw [if_pos a1] at this
    show zka z g k + g (zat z k) = _
    omega
theorem zsu_all {z : ZS} (h : zok z) (g : Nat → Nat) : ∀ m, m ≤ zn z → zsu z g (zcnt (zwa z) (zn z)) m = zst_ z g m
  | 0, _ => rfl
  | m + 1, hm => by
    have ih := zsu_all h g m (by omega)
    show zsu z g _ m + _ = zst_ z g m + _
    rw [ih]
    by_cases w : zwa z m = 0
    · rw [if_pos w, if_pos w]
    · have := zrn_lt h (r := m) (by omega) w
      rw [if_neg w, if_neg w, if_pos this]
theorem zka_all {z : ZS} (h : zok z) (g : Nat → Nat) : zka z g (zcnt (zwa z) (zn z)) = zst_ z g (zn z) := by
  rw [zka_su h g _ (Nat.le_refl _), zsu_all h g _ (Nat.le_refl _)]
/-- guests by ranks -/
theorem zgs_r {z : ZS} (h : zok z) {k : Nat} (hk : k < zcnt (zwa z) (zn z)) : zgs (zgu z) (zrk z (zat z k)) = (zhf (zgu z) k + 1) / 2 := by
  obtain ⟨a1, a2, a3, a4⟩ := zat_p h hk
  have hn : zn z ≤ 10 := h.1
  have hc := zcnt_le (zwa z) (zn z)
  rw [zrk_n a3, a2, zgs_n (by omega)]
  omega
theorem zgs_m1 (gu : Nat) : zgs gu (-1) = 0 := by
  unfold zgs
  rw [if_pos rfl]
theorem zts_st (z : ZS) : ∀ i, zts (zgu z) (zn z) (zF z) (zwa z) (zpr z) i = zst_ z (fun r => zgs (zgu z) (zrk z r) * zpr z r) i
  | 0 => rfl
  | i + 1 => by
    show zts (zgu z) (zn z) (zF z) (zwa z) (zpr z) i + zgs (zgu z) (zrk z i) * zpr z i = zst_ z _ i + _
    rw [zts_st z i]
    by_cases w : zwa z i = 0
    · rw [zrk_0 w, zgs_m1, if_pos w, Nat.zero_mul]
    · rw [if_neg w]
/-- what guests pay, by ranks -/
def zsk (z : ZS) : Nat → Nat
  | 0 => 0
  | k + 1 => zsk z k + (zhf (zgu z) k + 1) / 2 * zpr z (zat z k)
theorem zsk_ka {z : ZS} (h : zok z) : ∀ k, k ≤ zcnt (zwa z) (zn z) → zsk z k = zka z (fun r => zgs (zgu z) (zrk z r) * zpr z r) k
  | 0, _ => rfl
  | k + 1, hk => by
    show zsk z k + _ = zka z _ k + zgs (zgu z) (zrk z (zat z k)) * zpr z (zat z k)
    rw [zsk_ka h k (by omega), zgs_r h (by omega)]
theorem zsk_tk {z : ZS} (h : zok z) : zsk z (zcnt (zwa z) (zn z)) = ztk z := by
  rw [zsk_ka h _ (Nat.le_refl _), zka_all h]
  exact (zts_st z (zn z)).symm
theorem zhf_s (g k : Nat) : zhf g k - (zhf g k + 1) / 2 = zhf g (k + 1) := by
  show _ = zhf g k / 2
  omega
/-- all guests -/
def zgt (z : ZS) : Nat → Nat
  | 0 => 0
  | r + 1 => zgt z r + zgs (zgu z) (zrk z r)
theorem zgt_st (z : ZS) : ∀ i, zgt z i = zst_ z (fun r => zgs (zgu z) (zrk z r)) i
  | 0 => rfl
  | i + 1 => by
    show zgt z i + zgs (zgu z) (zrk z i) = zst_ z _ i + _
    rw [zgt_st z i]
    by_cases w : zwa z i = 0
    · rw [zrk_0 w, zgs_m1, if_pos w]
    · rw [if_neg w]
theorem zgt_ka {z : ZS} (h : zok z) : ∀ k, k ≤ zcnt (zwa z) (zn z) → zka z (fun r => zgs (zgu z) (zrk z r)) k + zhf (zgu z) k = zgu z
  | 0, _ => by show 0 + zgu z = _; omega
  | k + 1, hk => by
    have ih := zgt_ka h k (by omega)
    have e := zgs_r h (k := k) (by omega)
    have e2 := zhf_s (zgu z) k
    show zka z _ k + zgs (zgu z) (zrk z (zat z k)) + zhf (zgu z) (k + 1) = _
    omega
theorem zgt_le {z : ZS} (h : zok z) : zgt z (zn z) ≤ 40 := by
  rw [zgt_st, ← zka_all h]
  have := zgt_ka h _ (Nat.le_refl _)
  have := h.2.2.1
  omega
theorem zgt_mono (z : ZS) : ∀ i, zgt z i ≤ zgt z (i + 1) := fun i => Nat.le_add_right _ _
theorem zsv_st (z : ZS) (b : Nat) : ∀ i, zsv (zwa z) (ziv z) (zgh z) b i = zst_ z (fun r => zv (zwa z r) (ziv z r) (zgh z r) b) i
  | 0 => rfl
  | i + 1 => by
    show zsv (zwa z) (ziv z) (zgh z) b i + zv (zwa z i) (ziv z i) (zgh z i) b = zst_ z _ i + _
    rw [zsv_st z b i]
    by_cases w : zwa z i = 0
    · rw [if_pos w]; unfold zv; rw [if_pos w]
    · rw [if_neg w]
theorem zka_sv {z : ZS} (h : zok z) (b : Nat) : zka z (fun r => zv (zwa z r) (ziv z r) (zgh z r) b) (zcnt (zwa z) (zn z)) = zsv (zwa z) (ziv z) (zgh z) b (zn z) := by
  rw [zka_all h]
  exact (zsv_st z b _).symm
theorem zz_tel (a b c : Int32) : (a - c) + (b - a) = b - c := by
  rw [Int32.sub_eq_add_neg, Int32.sub_eq_add_neg, Int32.sub_eq_add_neg, show (a + -c) + (b + -a) = (b + -c) + (a + -a) by ac_rfl, Int32.add_right_neg, Int32.add_zero]
/-- ghosts behind the first of the two steps -/
def z_g4 (b w i g : Nat) : Nat := if b = 4 ∧ w ≠ 0 ∧ zg i = 3 ∧ g < 5 then g + 1 else g
