/-! The machine in numbers: ranks, guests, tickets, days (pure). -/
abbrev ZS : Type := Nat × Nat × Int32 × Nat × (Nat → Nat) × (Nat → Nat) × (Nat → Nat) × (Nat → Nat) × Nat × (Nat → Nat) × (Nat → Nat) × (Nat → Nat) × (Nat → Nat)
def zmk (dy gu : Nat) (pu : Int32) (n : Nat) (wa iv gh pr : Nat → Nat) (tn : Nat) (tr td tp tf : Nat → Nat) : ZS := (dy, gu, pu, n, wa, iv, gh, pr, tn, tr, td, tp, tf)
def zdy (z : ZS) : Nat := z.1
def zgu (z : ZS) : Nat := z.2.1
def zpu (z : ZS) : Int32 := z.2.2.1
def zn (z : ZS) : Nat := z.2.2.2.1
def zwa (z : ZS) : Nat → Nat := z.2.2.2.2.1
def ziv (z : ZS) : Nat → Nat := z.2.2.2.2.2.1
def zgh (z : ZS) : Nat → Nat := z.2.2.2.2.2.2.1
def zpr (z : ZS) : Nat → Nat := z.2.2.2.2.2.2.2.1
def ztn (z : ZS) : Nat := z.2.2.2.2.2.2.2.2.1
def ztr (z : ZS) : Nat → Nat := z.2.2.2.2.2.2.2.2.2.1
def ztd (z : ZS) : Nat → Nat := z.2.2.2.2.2.2.2.2.2.2.1
def ztp (z : ZS) : Nat → Nat := z.2.2.2.2.2.2.2.2.2.2.2.1
def ztf (z : ZS) : Nat → Nat := z.2.2.2.2.2.2.2.2.2.2.2.2
theorem zmk_eta (z : ZS) : zmk (zdy z) (zgu z) (zpu z) (zn z) (zwa z) (ziv z) (zgh z) (zpr z) (ztn z) (ztr z) (ztd z) (ztp z) (ztf z) = z := rfl
/-- the rank of a ruin: -1 where it has collapsed -/
def zri (n : Nat) (F : Nat → Int32) (wa : Nat → Nat) (r : Nat) : Int32 := if wa r = 0 then (-1) else nI (zab F (F r) n)
def zhf (g : Nat) : Nat → Nat
  | 0 => g
  | k + 1 => zhf g k / 2
/-- the guests that come to a rank -/
def zgs (gu : Nat) (x : Int32) : Nat := if x = (-1) then 0 else zhf gu x.toNatClampNeg - zhf gu x.toNatClampNeg / 2
def zts (gu n : Nat) (F : Nat → Int32) (wa pr : Nat → Nat) : Nat → Nat
  | 0 => 0
  | i + 1 => zts gu n F wa pr i + zgs gu (zri n F wa i) * pr i
def zft (d : Nat) (wa tr td tf : Nat → Nat) (t : Nat) : Nat := if tf t = 0 ∧ td t = d then (if 0 < wa (tr t) then 1 else 2) else tf t
def zfat (i d : Nat) (wa tr td tf : Nat → Nat) : Nat → Nat := fun t => if t < i then zft d wa tr td tf t else tf t
def zbak (d : Nat) (wa tr td tp tf : Nat → Nat) : Nat → Nat
  | 0 => 0
  | i + 1 => zbak d wa tr td tp tf i + (if tf i = 0 ∧ td i = d ∧ ¬ 0 < wa (tr i) then tp i else 0)
def zF (z : ZS) : Nat → Int32 := zmf (zwa z) (ziv z) (zgh z) (zpr z) (zb (zdy z))
def zrk (z : ZS) (r : Nat) : Int32 := zri (zn z) (zF z) (zwa z) r
def ztk (z : ZS) : Nat := zts (zgu z) (zn z) (zF z) (zwa z) (zpr z) (zn z)
def zd1 (z : ZS) : ZS := zmk (zdy z + 1) (zgu z) ((zpu z + nI (ztk z)) - nI (zbak (zdy z) (zwa z) (ztr z) (ztd z) (ztp z) (ztf z) (ztn z))) (zn z) (zAw (zdy z) (zn z) (zwa z) (ziv z)) (zAi (zdy z) (zn z) (zwa z) (ziv z)) (zAg (zdy z) (zn z) (zwa z) (ziv z) (zgh z)) (zpr z) (ztn z) (ztr z) (ztd z) (ztp z) (zfat (ztn z) (zdy z) (zwa z) (ztr z) (ztd z) (ztf z))
def zds (z : ZS) : Nat → ZS
  | 0 => z
  | k + 1 => zd1 (zds z k)
def zok (z : ZS) : Prop := zn z ≤ 10 ∧ ztn z ≤ 30 ∧ zgu z ≤ 40 ∧ (∀ j, zwa z j ≤ 20) ∧ (∀ j, ziv z j ≤ 12) ∧ (∀ j, zgh z j ≤ 5) ∧ (∀ j, zpr z j ≤ 9) ∧ (∀ t, t < ztn z → ztr z t < zn z) ∧ (∀ t, ztd z t ≤ 50000) ∧ (∀ t, ztf z t ≤ 2) ∧ (∀ t, ztp z t ≤ 9)
theorem zA_k {f g : Nat → Nat} {i : Nat} (hx : f i = g i) : (fun j => if j < i + 1 then g j else f j) = (fun j => if j < i then g j else f j) := by
  rw [zA_s (x := f i) hx]
  exact zup_eq _ (by simp)
theorem zAw_le {d i : Nat} {wa iv : Nat → Nat} {b : Nat} (h : ∀ j, wa j ≤ b) : ∀ j, zAw d i wa iv j ≤ b := fun j => by
  have h1 := h j
  have h2 := z_wa_le d (wa j) (iv j)
  unfold zAw
  split <;> omega
theorem zAi_le {d i : Nat} {wa iv : Nat → Nat} (h : ∀ j, iv j ≤ 12) : ∀ j, zAi d i wa iv j ≤ 12 := fun j => by
  have h1 := h j
  have h2 := z_iv_le (d := d) (w := wa j) (h j)
  unfold zAi
  split <;> omega
theorem zAg_le {d i : Nat} {wa iv gh : Nat → Nat} (h : ∀ j, gh j ≤ 5) : ∀ j, zAg d i wa iv gh j ≤ 5 := fun j => by
  have h1 := h j
  have h2 := z_gh_le (d := d) (w := wa j) (i := iv j) (h j)
  unfold zAg
  split <;> omega
theorem zfat_le {i d : Nat} {wa tr td tf : Nat → Nat} (h : ∀ t, tf t ≤ 2) : ∀ t, zfat i d wa tr td tf t ≤ 2 := fun t => by
  have h1 := h t
  unfold zfat zft
  (repeat' split) <;> omega
theorem zd1_ok {z : ZS} (h : zok z) : zok (zd1 z) := by
  obtain ⟨h1, h2, h3, h4, h5, h6, h7, h8, h9, h10, h11⟩ := h
  exact ⟨h1, h2, h3, zAw_le h4, zAi_le h5, zAg_le h6, h7, h8, h9, zfat_le h10, h11⟩
theorem zds_ok {z : ZS} (h : zok z) : ∀ k, zok (zds z k)
  | 0 => h
  | k + 1 => zd1_ok (zds_ok h k)
theorem zds_dy (z : ZS) : ∀ k, zdy (zds z k) = zdy z + k
  | 0 => rfl
  | k + 1 => by
    show zdy (zds z k) + 1 = _
    rw [zds_dy z k]; omega
theorem zri_c {n : Nat} (F : Nat → Int32) (wa : Nat → Nat) (r : Nat) (hn : n ≤ 10) : zri n F wa r = (-1) ∨ ∃ k, k ≤ 10 ∧ zri n F wa r = nI k := by
  unfold zri
  by_cases h : wa r = 0
  · rw [if_pos h]; exact Or.inl rfl
  · rw [if_neg h]; exact Or.inr ⟨_, Nat.le_trans (zab_le _ _ _) hn, rfl⟩
theorem zrks_ri {n i : Nat} (wa iv gh pr : Nat → Nat) (b : Nat) (me : Nat → Int32) (rk : Nat → Int32) (h : i < n) : zrks n n (zmes n wa iv gh pr b me) wa rk i = zri n (zmf wa iv gh pr b) wa i := by
  have e : ∀ j, j < n → zmes n wa iv gh pr b me j = zmf wa iv gh pr b j := fun j hj => by simp [zmes, hj]
  unfold zrks zri
  rw [if_pos h, e i h, zab_congr n e]
theorem zhf_le (g : Nat) : ∀ k, zhf g k ≤ g
  | 0 => Nat.le_refl g
  | k + 1 => by
    have := zhf_le g k
    show zhf g k / 2 ≤ g
    omega
theorem zgs_n {gu k : Nat} (hk : k ≤ 10) : zgs gu (nI k) = zhf gu k - zhf gu k / 2 := by
  unfold zgs
  rw [nI_clamp (by omega), if_neg]
  intro q
  have := zz_ge0 (a := k) (by omega)
  rw [q] at this
  exact absurd this (by decide)
