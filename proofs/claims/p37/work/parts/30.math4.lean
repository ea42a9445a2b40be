/-! What a call does to the machine, and what would be (pure). -/
theorem zin_in {k lo hi : Nat} (h1 : lo ≤ k) (h2 : k ≤ hi) (hh : hi < 2 ^ 31) : zin (nI k) (nI lo) (nI hi) = 1 := by
  unfold zin
  rw [if_neg (mt (nI_ltI (by omega) (by omega)).mp (by omega)), if_neg (mt (nI_ltI (by omega) (by omega)).mp (by omega))]
theorem zin_ex {x : Int32} {lo hi : Nat} (hlo : lo ≤ hi) (hh : hi < 2 ^ 31) (h : ¬ zin x (nI lo) (nI hi) = 0) : ∃ k, lo ≤ k ∧ k ≤ hi ∧ x = nI k := by
  unfold zin at h
  by_cases h1 : x < nI lo
  · rw [if_pos h1] at h; exact absurd rfl h
  · rw [if_neg h1] at h
    by_cases h2 : nI hi < x
    · rw [if_pos h2] at h; exact absurd rfl h
    · have h0 : ¬ x < 0 := fun q => h1 (Int32.lt_of_lt_of_le q (zz_ge0 (by omega)))
      obtain ⟨j, hj, rfl⟩ := nI_of h0
      exact ⟨j, by have := mt (nI_ltI hj (by omega)).mpr h1; omega, by have := mt (nI_ltI hh hj).mpr h2; omega, rfl⟩
theorem zhas_ex {x : Int32} {n : Nat} (hn : n < 2 ^ 31) (h : ¬ zhas x n = 0) : ∃ j, j < n ∧ x = nI j := by
  unfold zhas at h
  by_cases h1 : x < 0
  · rw [if_pos h1] at h; exact absurd rfl h
  · rw [if_neg h1] at h
    by_cases h2 : nI n ≤ x
    · rw [if_pos h2] at h; exact absurd rfl h
    · obtain ⟨j, hj, rfl⟩ := nI_of h1
      exact ⟨j, by have := mt (nI_leI hn hj).mpr h2; omega, rfl⟩
def zadd (z : ZS) (w i g p : Nat) : ZS := zmk (zdy z) (zgu z) (zpu z) (zn z + 1) (zup (zwa z) (zn z) w) (zup (ziv z) (zn z) i) (zup (zgh z) (zn z) g) (zup (zpr z) (zn z) p) (ztn z) (ztr z) (ztd z) (ztp z) (ztf z)
def zcut (z : ZS) (r k : Nat) : ZS := zmk (zdy z) (zgu z) (zpu z) (zn z) (zwa z) (zup (ziv z) r (ziv z r - k)) (zgh z) (zpr z) (ztn z) (ztr z) (ztd z) (ztp z) (ztf z)
def zprp (z : ZS) (r : Nat) : ZS := zmk (zdy z) (zgu z) (zpu z - nI 5) (zn z) (zup (zwa z) r (zwa z r + 1)) (ziv z) (zgh z) (zpr z) (ztn z) (ztr z) (ztd z) (ztp z) (ztf z)
def zset (z : ZS) (r k : Nat) : ZS := zmk (zdy z) (zgu z) (zpu z) (zn z) (zwa z) (ziv z) (zgh z) (zup (zpr z) r k) (ztn z) (ztr z) (ztd z) (ztp z) (ztf z)
def zgst (z : ZS) (k : Nat) : ZS := zmk (zdy z) k (zpu z) (zn z) (zwa z) (ziv z) (zgh z) (zpr z) (ztn z) (ztr z) (ztd z) (ztp z) (ztf z)
def zsel (z : ZS) (r d : Nat) : ZS := zmk (zdy z) (zgu z) (zpu z + nI (zpr z r)) (zn z) (zwa z) (ziv z) (zgh z) (zpr z) (ztn z + 1) (zup (ztr z) (ztn z) r) (zup (ztd z) (ztn z) (zdy z + d)) (zup (ztp z) (ztn z) (zpr z r)) (zup (ztf z) (ztn z) 0)
theorem zup_le {f : Nat → Nat} {k x b : Nat} (h : ∀ j, f j ≤ b) (hx : x ≤ b) : ∀ j, zup f k x j ≤ b := fun j => by
  unfold zup
  split
  · exact hx
  · exact h j
theorem zadd_ok {z : ZS} {w i g p : Nat} (h : zok z) (hn : zn z < 10) (hw : w ≤ 20) (hi : i ≤ 12) (hg : g ≤ 5) (hp : p ≤ 9) : zok (zadd z w i g p) := by
  obtain ⟨h1, h2, h3, h4, h5, h6, h7, h8, h9, h10, h11⟩ := h
  exact ⟨hn, h2, h3, zup_le h4 hw, zup_le h5 hi, zup_le h6 hg, zup_le h7 hp, fun t ht => Nat.lt_succ_of_lt (h8 t ht), h9, h10, h11⟩
theorem zcut_ok {z : ZS} {r k : Nat} (h : zok z) : zok (zcut z r k) := by
  obtain ⟨h1, h2, h3, h4, h5, h6, h7, h8, h9, h10, h11⟩ := h
  exact ⟨h1, h2, h3, h4, zup_le h5 (Nat.le_trans (Nat.sub_le _ _) (h5 r)), h6, h7, h8, h9, h10, h11⟩
theorem zprp_ok {z : ZS} {r : Nat} (h : zok z) (hw : zwa z r < 20) : zok (zprp z r) := by
  obtain ⟨h1, h2, h3, h4, h5, h6, h7, h8, h9, h10, h11⟩ := h
  exact ⟨h1, h2, h3, zup_le h4 hw, h5, h6, h7, h8, h9, h10, h11⟩
theorem zset_ok {z : ZS} {r k : Nat} (h : zok z) (hk : k ≤ 9) : zok (zset z r k) := by
  obtain ⟨h1, h2, h3, h4, h5, h6, h7, h8, h9, h10, h11⟩ := h
  exact ⟨h1, h2, h3, h4, h5, h6, zup_le h7 hk, h8, h9, h10, h11⟩
theorem zgst_ok {z : ZS} {k : Nat} (h : zok z) (hk : k ≤ 40) : zok (zgst z k) := by
  obtain ⟨h1, h2, h3, h4, h5, h6, h7, h8, h9, h10, h11⟩ := h
  exact ⟨h1, h2, hk, h4, h5, h6, h7, h8, h9, h10, h11⟩
theorem zsel_ok {z : ZS} {r d : Nat} (h : zok z) (hr : r < zn z) (ht : ztn z < 30) (hd : zdy z + d ≤ 50000) : zok (zsel z r d) := by
  obtain ⟨h1, h2, h3, h4, h5, h6, h7, h8, h9, h10, h11⟩ := h
  refine ⟨h1, ht, h3, h4, h5, h6, h7, fun t q => ?_, zup_le h9 hd, zup_le h10 (by omega), zup_le h11 (h7 r)⟩
  show zup (ztr z) (ztn z) r t < zn z
  unfold zup
  split
  · exact hr
  · exact h8 t (by have : t < ztn z + 1 := q; omega)
/-- the first day of a row of days for which P holds -/
def zsr (P : Nat → Bool) : Nat → Nat → Int32
  | 0, _ => (-1)
  | k + 1, i => if P i then nI i else zsr P k (i + 1)
theorem zsr_e {P : Nat → Bool} {n i : Nat} (h : n ≤ i) : zsr P (n - i) i = (-1) := by
  rw [Nat.sub_eq_zero_of_le h]; rfl
theorem zsr_s {P : Nat → Bool} {n i : Nat} (h : i < n) : zsr P (n - i) i = if P i then nI i else zsr P (n - (i + 1)) (i + 1) := by
  rw [show n - i = (n - (i + 1)) + 1 by omega]; rfl
theorem zds_n (z : ZS) : ∀ k, zn (zds z k) = zn z
  | 0 => rfl
  | k + 1 => zds_n z k
theorem zds_pr (z : ZS) : ∀ k, zpr (zds z k) = zpr z
  | 0 => rfl
  | k + 1 => zds_pr z k
theorem zds_wa (z : ZS) (k : Nat) : zwa (zds z (k + 1)) = zAw (zdy z + k) (zn z) (zwa (zds z k)) (ziv (zds z k)) := by
  show zAw (zdy (zds z k)) (zn (zds z k)) _ _ = _
  rw [zds_dy, zds_n]
theorem zds_iv (z : ZS) (k : Nat) : ziv (zds z (k + 1)) = zAi (zdy z + k) (zn z) (zwa (zds z k)) (ziv (zds z k)) := by
  show zAi (zdy (zds z k)) (zn (zds z k)) _ _ = _
  rw [zds_dy, zds_n]
theorem zds_gh (z : ZS) (k : Nat) : zgh (zds z (k + 1)) = zAg (zdy z + k) (zn z) (zwa (zds z k)) (ziv (zds z k)) (zgh (zds z k)) := by
  show zAg (zdy (zds z k)) (zn (zds z k)) _ _ _ = _
  rw [zds_dy, zds_n]
theorem zon_ds {z : ZS} {r : Nat} (h : r < zn z) : ∀ k, zon (zdy z) (zwa z r, ziv z r, zgh z r) k = (zwa (zds z k) r, ziv (zds z k) r, zgh (zds z k) r)
  | 0 => rfl
  | k + 1 => by
    show zs1 (zdy z + k) (zon (zdy z) (zwa z r, ziv z r, zgh z r) k) = _
    rw [zon_ds h k, zds_wa, zds_iv, zds_gh]
    simp [zs1, zAw, zAi, zAg, h]
def zPc (z : ZS) (r : Nat) : Nat → Bool := fun d => decide (zwa (zds z d) r = 0)
def zPf (z : ZS) (r : Nat) : Nat → Bool := fun d => decide (zrk (zds z d) r = 0)
theorem zfi {n : Nat} {F : Nat → Int32} {wa : Nat → Nat} {r : Nat} (hn : n ≤ 10) : (if wa r = 0 then 0 else if zab F (F r) n = 0 then 1 else 0) = if zri n F wa r = 0 then 1 else 0 := by
  unfold zri
  have h1 := zab_le F (F r) n
  by_cases h : wa r = 0
  · rw [if_pos h, if_pos h, if_neg (by decide)]
  · rw [if_neg h, if_neg h]
    by_cases q : zab F (F r) n = 0
    · rw [if_pos q, q]; rfl
    · rw [if_neg q, if_neg (mt (zz_eq0 (by omega)).mp q)]
def zW (z : ZS) (r c : Nat) : Nat := zwa (zds (zcut z r c) 40) r
def zV (z : ZS) (r c : Nat) : Nat := zv (zwa (zds (zcut z r c) 40) r) (ziv (zds (zcut z r c) 40) r) (zgh (zds (zcut z r c) 40) r) (zb (zdy z + 40))
/-- the best cut among the first ones: cut, walls, view -/
def zbc (z : ZS) (r : Nat) : Nat → Int32 × Int32 × Int32
  | 0 => (nI 0, (-1), (-1))
  | k + 1 => if (zbc z r k).2.1 < nI (zW z r k) ∨ (nI (zW z r k) = (zbc z r k).2.1 ∧ (zbc z r k).2.2 < nI (zV z r k)) then (nI k, nI (zW z r k), nI (zV z r k)) else zbc z r k
theorem zbc_1 {z : ZS} {r k : Nat} (h : (zbc z r k).2.1 < nI (zW z r k) ∨ (nI (zW z r k) = (zbc z r k).2.1 ∧ (zbc z r k).2.2 < nI (zV z r k))) : zbc z r (k + 1) = (nI k, nI (zW z r k), nI (zV z r k)) := by
  show (if _ then _ else _) = _
  rw [if_pos h]
theorem zbc_0 {z : ZS} {r k : Nat} (h : ¬ ((zbc z r k).2.1 < nI (zW z r k) ∨ (nI (zW z r k) = (zbc z r k).2.1 ∧ (zbc z r k).2.2 < nI (zV z r k)))) : zbc z r (k + 1) = zbc z r k := by
  show (if _ then _ else _) = _
  rw [if_neg h]
theorem zfr_congr {f g : Nat → Int32} {x : Int32} : ∀ k i, (∀ j, i ≤ j → j < i + k → f j = g j) → zfr f x k i = zfr g x k i
  | 0, _, _ => rfl
  | k + 1, i, h => by
    show (if f i = x then _ else _) = (if g i = x then _ else _)
    rw [h i (Nat.le_refl i) (by omega), zfr_congr k (i + 1) (fun j h1 h2 => h j (by omega) (by omega))]
theorem zfr_pos {f : Nat → Int32} {x : Int32} : ∀ k i, i + k ≤ 2 ^ 30 → (∃ j, i ≤ j ∧ j < i + k ∧ f j = x) → ¬ zfr f x k i = (-1)
  | 0, i, _, ⟨j, h1, h2, _⟩ => by omega
  | k + 1, i, hb, ⟨j, h1, h2, h3⟩ => by
    show ¬ (if f i = x then nI i else zfr f x k (i + 1)) = (-1)
    by_cases h : f i = x
    · rw [if_pos h]; exact nI_nm1 (by omega)
    · rw [if_neg h]
      refine zfr_pos k (i + 1) (by omega) ⟨j, ?_, by omega, h3⟩
      rcases Nat.lt_or_ge i j with q | q
      · exact q
      · exact absurd (by rw [show i = j by omega]; exact h3) h
theorem zfr_neg {f : Nat → Int32} {x : Int32} : ∀ k i, (∀ j, i ≤ j → j < i + k → ¬ f j = x) → zfr f x k i = (-1)
  | 0, _, _ => rfl
  | k + 1, i, h => by
    show (if f i = x then nI i else zfr f x k (i + 1)) = (-1)
    rw [if_neg (h i (Nat.le_refl i) (by omega))]
    exact zfr_neg k (i + 1) (fun j h1 h2 => h j (by omega) (by omega))
theorem zab_anti {f : Nat → Int32} {v w : Int32} (h : v ≤ w) : ∀ n, zab f w n ≤ zab f v n
  | 0 => Nat.le_refl 0
  | n + 1 => by
    have := zab_anti (f := f) h n
    by_cases a : f n ≤ v
    · rw [zab_s0 a, zab_s0 (Int32.le_trans a h)]; exact this
    · rw [zab_s1 a]
      by_cases b : f n ≤ w
      · rw [zab_s0 b]; omega
      · rw [zab_s1 b]; omega
theorem zab_strict {f : Nat → Int32} {v : Int32} {r : Nat} (h : v < f r) : ∀ n, r < n → zab f (f r) n + 1 ≤ zab f v n
  | 0, q => absurd q (Nat.not_lt_zero _)
  | n + 1, q => by
    have hle : v ≤ f r := Int32.le_of_lt h
    by_cases e : r = n
    · subst e
      have := zab_anti (f := f) hle r
      rw [zab_s0 (Int32.le_refl _), zab_s1 (Int32.not_le.mpr h)]; omega
    · have := zab_strict h n (by omega)
      by_cases a : f n ≤ v
      · rw [zab_s0 a, zab_s0 (Int32.le_trans a hle)]; exact this
      · rw [zab_s1 a]
        by_cases b : f n ≤ f r
        · rw [zab_s0 b]; omega
        · rw [zab_s1 b]; omega
theorem zab_cnt {f : Nat → Int32} {wa : Nat → Nat} {r : Nat} (h0 : ∀ j, wa j = 0 → f j ≤ f r) (hr : ¬ wa r = 0) : ∀ n, zab f (f r) n + (if r < n then 1 else 0) ≤ zcnt wa n
  | 0 => by simp [zab, zcnt]
  | n + 1 => by
    have ih := zab_cnt h0 hr n
    by_cases e : r = n
    · subst e
      rw [zab_s0 (Int32.le_refl _), zcnt_s1 (by omega), if_pos (by omega)]
      rw [if_neg (by omega)] at ih
      omega
    · have hh : (if r < n + 1 then 1 else 0) = (if r < n then 1 else 0) := by
        by_cases q : r < n
        · rw [if_pos q, if_pos (by omega)]
        · rw [if_neg q, if_neg (by omega)]
      rw [hh]
      by_cases a : f n ≤ f r
      · rw [zab_s0 a]
        by_cases w : wa n ≤ 0
        · rw [zcnt_s0 w]; exact ih
        · rw [zcnt_s1 w]; omega
      · rw [zab_s1 a]
        by_cases w : wa n ≤ 0
        · exact absurd (h0 n (by omega)) a
        · rw [zcnt_s1 w]; omega
theorem zab_c {f : Nat → Int32} {wa : Nat → Nat} {v : Int32} : ∀ n, (∀ j, j < n → wa j = 0 → f j ≤ v) → zab f v n ≤ zcnt wa n
  | 0, _ => Nat.le_refl 0
  | n + 1, h => by
    have ih := zab_c n (fun j hj => h j (by omega))
    by_cases a : f n ≤ v
    · rw [zab_s0 a]
      by_cases w : wa n ≤ 0
      · rw [zcnt_s0 w]; exact ih
      · rw [zcnt_s1 w]; omega
    · rw [zab_s1 a]
      by_cases w : wa n ≤ 0
      · exact absurd (h n (by omega) (by omega)) a
      · rw [zcnt_s1 w]; omega
theorem zab_all {f : Nat → Int32} {wa : Nat → Nat} : ∀ n, (∀ i j, i < n → j < n → ¬ wa i = 0 → f i = f j → i = j) → (∀ i j, i < n → j < n → wa i = 0 → ¬ wa j = 0 → f i ≤ f j) → ∀ q, q < zcnt wa n → ∃ r, r < n ∧ ¬ wa r = 0 ∧ zab f (f r) n = q
  | 0, _, _, q, h => absurd h (Nat.not_lt_zero _)
  | n + 1, hd, hz, q, h => by
    have ih := zab_all n (fun i j hi hj => hd i j (by omega) (by omega)) (fun i j hi hj => hz i j (by omega) (by omega))
    by_cases w : wa n ≤ 0
    · rw [zcnt_s0 w] at h
      obtain ⟨r, h1, h2, h3⟩ := ih q h
      exact ⟨r, by omega, h2, by rw [zab_s0 (hz n r (by omega) (by omega) (by omega) h2)]; exact h3⟩
    · rw [zcnt_s1 w] at h
      by_cases e : q = zab f (f n) n
      · exact ⟨n, by omega, by omega, by rw [zab_s0 (Int32.le_refl _), e]⟩
      · by_cases l : q < zab f (f n) n
        · obtain ⟨r, h1, h2, h3⟩ := ih q (by have := zab_c (f := f) (wa := wa) (v := f n) n (fun j hj h0 => hz j n (by omega) (by omega) h0 (by omega)); omega)
          refine ⟨r, by omega, h2, ?_⟩
          by_cases a : f n ≤ f r
          · rw [zab_s0 a]; exact h3
          · exact absurd (zab_anti (f := f) (Int32.le_of_lt (Int32.not_le.mp a)) n) (by omega)
        · obtain ⟨r, h1, h2, h3⟩ := ih (q - 1) (by omega)
          refine ⟨r, by omega, h2, ?_⟩
          by_cases a : f n ≤ f r
          · have hne : ¬ f n = f r := fun z => by have := hd n r (by omega) (by omega) (by omega) z; omega
            have hlt : f n < f r := Int32.lt_of_le_of_ne a hne
            have := zab_strict hlt n h1
            omega
          · rw [zab_s1 a]; omega
theorem zF_0 {wa iv gh pr : Nat → Nat} {b i j : Nat} (hi : wa i = 0) (hj : ¬ wa j = 0) (h1 : ∀ j, wa j ≤ 20) (h3 : ∀ j, gh j ≤ 5) (h5 : ∀ j, pr j ≤ 9) (hb : b ≤ 4) : zmf wa iv gh pr b i ≤ zmf wa iv gh pr b j := by
  have v2 := zv_le (i := iv j) (h1 j) (h3 j) hb
  have p2 := h5 j
  show zme (wa i) (iv i) (gh i) (pr i) i b ≤ zme (wa j) (iv j) (gh j) (pr j) j b
  unfold zme
  rw [if_pos hi, if_neg hj]
  exact Int32.le_trans (show (-1 : Int32) ≤ 0 by decide) (zz_ge0 (by omega))
theorem zF_inj {wa iv gh pr : Nat → Nat} {b i j : Nat} (hi9 : i < 10) (hj9 : j < 10) (hi : ¬ wa i = 0) (h1 : ∀ j, wa j ≤ 20) (h3 : ∀ j, gh j ≤ 5) (h5 : ∀ j, pr j ≤ 9) (hb : b ≤ 4) (h : zmf wa iv gh pr b i = zmf wa iv gh pr b j) : i = j := by
  have v1 := zv_le (i := iv i) (h1 i) (h3 i) hb
  have v2 := zv_le (i := iv j) (h1 j) (h3 j) hb
  have p1 := h5 i
  have p2 := h5 j
  have h' : zme (wa i) (iv i) (gh i) (pr i) i b = zme (wa j) (iv j) (gh j) (pr j) j b := h
  unfold zme at h'
  rw [if_neg hi] at h'
  by_cases hj : wa j = 0
  · rw [if_pos hj] at h'; exact absurd h' (nI_nm1 (by omega))
  · rw [if_neg hj] at h'
    have := (nI_eq (by omega) (by omega)).mp h'
    omega
/-- every rank below the number that stand is somebody's -/
theorem zrk_all {z : ZS} (h : zok z) {q : Nat} (hq : q < zcnt (zwa z) (zn z)) : ∃ r, r < zn z ∧ zrk z r = nI q := by
  obtain ⟨o1, o2, o3, o4, o5, o6, o7, o8, o9, o10, o11⟩ := h
  have hb := zb_le (zdy z)
  obtain ⟨r, h1, h2, h3⟩ := zab_all (f := zF z) (wa := zwa z) (zn z) (fun i j hi hj hw e => zF_inj (by omega) (by omega) hw o4 o6 o7 hb e) (fun i j hi hj h0 h1 => zF_0 h0 h1 o4 o6 o7 hb) q hq
  exact ⟨r, h1, by unfold zrk zri; rw [if_neg h2, h3]⟩
/-- and a rank is below that number -/
theorem zrk_lt {z : ZS} (h : zok z) {r : Nat} (hr : r < zn z) : zrk z r = (-1) ∨ ∃ q, q < zcnt (zwa z) (zn z) ∧ zrk z r = nI q := by
  obtain ⟨o1, o2, o3, o4, o5, o6, o7, o8, o9, o10, o11⟩ := h
  have hb := zb_le (zdy z)
  unfold zrk zri
  by_cases hw : zwa z r = 0
  · rw [if_pos hw]; exact Or.inl rfl
  · rw [if_neg hw]
    have := zab_cnt (f := zF z) (wa := zwa z) (r := r) (fun j hj => zF_0 hj hw o4 o6 o7 hb) hw (zn z)
    rw [if_pos hr] at this
    exact Or.inr ⟨_, by omega, rfl⟩
theorem zrks_k {z : ZS} {i : Nat} (me rk : Nat → Int32) (h : i < zn z) : zrks (zn z) (zn z) (zmes (zn z) (zwa z) (ziv z) (zgh z) (zpr z) (zb (zdy z)) me) (zwa z) rk i = zrk z i := zrks_ri _ _ _ _ _ _ _ h
/-- the digest -/
def zmx (d x : Int64) : Int64 := d * 31 + x
def zdr (z : ZS) (d : Int64) : Nat → Int64
  | 0 => d
  | r + 1 => zmx (zmx (zmx (zmx (zmx (zmx (zmx (zdr z d r) (nI (zwa z r)).toInt64) (nI (ziv z r)).toInt64) (nI (zgh z r)).toInt64) (nI (zpr z r)).toInt64) (nI (zv (zwa z r) (ziv z r) (zgh z r) (zb (zdy z)))).toInt64) (zrk z r).toInt64) (nI (zgs (zgu z) (zrk z r))).toInt64
def zdt (z : ZS) (d : Int64) : Nat → Int64
  | 0 => d
  | t + 1 => zmx (zmx (zmx (zdt z d t) (nI (ztd z t)).toInt64) (nI (if ztf z t = 0 then 1 else 0)).toInt64) (nI (if ztf z t = 2 then 1 else 0)).toInt64
def zd0 (z : ZS) : Int64 := zmx (zmx (zmx (zmx (zmx (zmx 2029 (nI (zdy z)).toInt64) (nI (zb (zdy z))).toInt64) (nI (zn z)).toInt64) (nI (zcnt (zwa z) (zn z))).toInt64) (zpu z).toInt64) (nI (ztn z)).toInt64
def zdg (z : ZS) : Int64 := zdt z (zdr z (zd0 z) (zn z)) (ztn z)
/-! Means and folds (pure). -/
theorem zds_tn (z : ZS) : ∀ k, ztn (zds z k) = ztn z
  | 0 => rfl
  | k + 1 => zds_tn z k
theorem zds_gu (z : ZS) : ∀ k, zgu (zds z k) = zgu z
  | 0 => rfl
  | k + 1 => zds_gu z k
theorem zds_tr (z : ZS) : ∀ k, ztr (zds z k) = ztr z
  | 0 => rfl
  | k + 1 => zds_tr z k
theorem zds_td (z : ZS) : ∀ k, ztd (zds z k) = ztd z
  | 0 => rfl
  | k + 1 => zds_td z k
theorem zds_tp (z : ZS) : ∀ k, ztp (zds z k) = ztp z
  | 0 => rfl
  | k + 1 => zds_tp z k
def zfo (F : Nat → Int32) (d : Int64) : Nat → Int64
  | 0 => d
  | i + 1 => zmx (zfo F d i) (F i).toInt64
def zmean (z : ZS) : UInt64 := if zcnt (zwa z) (zn z) = 0 then FP.dconst0 else FP.ddiv (FP.i2d (nI (zsv (zwa z) (ziv z) (zgh z) (zb (zdy z)) (zn z)))) (FP.i2d (nI (zcnt (zwa z) (zn z))))
set_option maxRecDepth 100000 in
theorem zfp1 : ∀ b, b < 10 → ∀ a, a < 691 → vf_n64 (FP.ddiv (FP.i2d (nI a)) (FP.i2d (nI (b + 1)))) := by
  unfold vf_n64
  decide +kernel
theorem zfp {z : ZS} (h : zok z) (h0 : ¬ zcnt (zwa z) (zn z) = 0) : vf_n64 (FP.ddiv (FP.i2d (nI (zsv (zwa z) (ziv z) (zgh z) (zb (zdy z)) (zn z)))) (FP.i2d (nI (zcnt (zwa z) (zn z))))) := by
  obtain ⟨o1, o2, o3, o4, o5, o6, o7, o8, o9, o10, o11⟩ := h
  have h1 := zcnt_le (zwa z) (zn z)
  have h2 := zsv_le (iv := ziv z) o4 o6 (zb_le (zdy z)) (zn z)
  have := zfp1 (zcnt (zwa z) (zn z) - 1) (by omega) (zsv (zwa z) (ziv z) (zgh z) (zb (zdy z)) (zn z)) (by omega)
  rw [show zcnt (zwa z) (zn z) - 1 + 1 = zcnt (zwa z) (zn z) by omega] at this
  exact this
theorem zbc_m0 {a b : Int32} {P : Prop} (h : a < b) : ¬ (b < a ∨ (a = b ∧ P)) := by
  intro q
  rcases q with q | ⟨q, _⟩
  · exact Int32.lt_irrefl (Int32.lt_trans h q)
  · subst q; exact Int32.lt_irrefl h
theorem zbc_m1 {a b : Int32} {P : Prop} (h1 : ¬ a < b) (h2 : ¬ a = b) : b < a ∨ (a = b ∧ P) := Or.inl (Int32.lt_of_le_of_ne (Int32.not_lt.mp h1) (Ne.symm h2))
theorem zbc_m2 {a b : Int32} {P : Prop} (h1 : a = b) (h2 : ¬ P) : ¬ (b < a ∨ (a = b ∧ P)) := by
  intro q
  rcases q with q | ⟨_, q⟩
  · subst h1; exact Int32.lt_irrefl q
  · exact h2 q
theorem znw_00 : znw 0 (nI 0) z0 z0 z0 z0 = fun j => nI (z0 j) := by
  funext k
  unfold znw z0
  (repeat' split) <;> rfl
