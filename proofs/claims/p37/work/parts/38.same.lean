/-! What both sides tell (pure). -/
def zvk (z : ZS) (k : Nat) : Nat := zka z (fun r => zv (zwa z r) (ziv z r) (zgh z r) (zb (zdy z))) k
theorem zvk_s (z : ZS) (k : Nat) : zvk z k + zv (zwa z (zat z k)) (ziv z (zat z k)) (zgh z (zat z k)) (zb (zdy z)) = zvk z (k + 1) := rfl
theorem zvk_all {z : ZS} (h : zok z) {k : Nat} (hk : k = zcnt (zwa z) (zn z)) : zvk z k = zsv (zwa z) (ziv z) (zgh z) (zb (zdy z)) (zn z) := by
  subst hk
  exact zka_sv h _
set_option maxRecDepth 100000 in
theorem zfc1 : ∀ b, b < 10 → ∀ a, a < 691 → Op.cmpValue (FP.dcmp (FP.ddiv (FP.i2d (nI a)) (FP.i2d (nI (b + 1)))) (FP.ddiv (FP.i2d (nI a)) (FP.i2d (nI (b + 1))))) .l = nI 0 := by
  decide +kernel
theorem zmean_c0 {z : ZS} (h0 : zcnt (zwa z) (zn z) = 0) : Op.cmpValue (FP.dcmp (zmean z) FP.dconst0) .l = nI 0 := by
  unfold zmean
  rw [if_pos h0]
  decide +kernel
theorem zmean_c1 {z : ZS} (h : zok z) (h0 : ¬ zcnt (zwa z) (zn z) = 0) : Op.cmpValue (FP.dcmp (zmean z) (FP.ddiv (FP.i2d (nI (zsv (zwa z) (ziv z) (zgh z) (zb (zdy z)) (zn z)))) (FP.i2d (nI (zcnt (zwa z) (zn z)))))) .l = nI 0 := by
  unfold zmean
  rw [if_neg h0]
  obtain ⟨o1, o2, o3, o4, o5, o6, o7, o8, o9, o10, o11⟩ := h
  have h1 := zcnt_le (zwa z) (zn z)
  have h2 := zsv_le (iv := ziv z) o4 o6 (zb_le (zdy z)) (zn z)
  have := zfc1 (zcnt (zwa z) (zn z) - 1) (by omega) (zsv (zwa z) (ziv z) (zgh z) (zb (zdy z)) (zn z)) (by omega)
  rw [show zcnt (zwa z) (zn z) - 1 + 1 = zcnt (zwa z) (zn z) by omega] at this
  exact this
/-- tickets: an open one is not of a day that is gone, others are -/
def zinv (z : ZS) : Prop := ∀ t, t < ztn z → (ztf z t = 0 → zdy z ≤ ztd z t) ∧ (¬ ztf z t = 0 → ztd z t < zdy z)
theorem zinv_sel {z : ZS} {r d : Nat} (h : zinv z) : zinv (zsel z r d) := fun t ht => by
  have ht' : t < ztn z + 1 := ht
  show (zup (ztf z) (ztn z) 0 t = 0 → zdy z ≤ zup (ztd z) (ztn z) (zdy z + d) t) ∧ (¬ zup (ztf z) (ztn z) 0 t = 0 → zup (ztd z) (ztn z) (zdy z + d) t < zdy z)
  by_cases e : t = ztn z
  · subst e
    rw [zup_s, zup_s]
    exact ⟨fun _ => Nat.le_add_right _ _, fun q => absurd rfl q⟩
  · rw [zup_n _ _ e, zup_n _ _ e]
    exact h t (by omega)
theorem zft_0 {z : ZS} {t : Nat} : zft (zdy z) (zwa z) (ztr z) (ztd z) (ztf z) t = 0 ↔ ztf z t = 0 ∧ ¬ ztd z t = zdy z := by
  unfold zft
  by_cases c : ztf z t = 0 ∧ ztd z t = zdy z
  · rw [if_pos c]
    refine ⟨fun q => ?_, fun q => absurd c.2 q.2⟩
    split at q <;> omega
  · rw [if_neg c]
    refine ⟨fun q => ⟨q, fun w => c ⟨q, w⟩⟩, fun q => q.1⟩
theorem zinv_d1 {z : ZS} (h : zinv z) : zinv (zd1 z) := fun t ht => by
  have ht' : t < ztn z := ht
  have e : ztf (zd1 z) t = zft (zdy z) (zwa z) (ztr z) (ztd z) (ztf z) t := by
    show zfat (ztn z) (zdy z) (zwa z) (ztr z) (ztd z) (ztf z) t = _
    unfold zfat
    rw [if_pos ht']
  have hh := h t ht'
  rw [e]
  show (_ → zdy z + 1 ≤ ztd z t) ∧ (_ → ztd z t < zdy z + 1)
  rw [zft_0]
  by_cases a : ztf z t = 0
  · have := hh.1 a
    exact ⟨fun q => by have := q.2; omega, fun q => by
      by_cases b : ztd z t = zdy z
      · omega
      · exact absurd ⟨a, b⟩ q⟩
  · have := hh.2 a
    exact ⟨fun q => absurd q.1 a, fun _ => by omega⟩
theorem zinv_ds {z : ZS} (h : zinv z) : ∀ k, zinv (zds z k)
  | 0 => h
  | k + 1 => zinv_d1 (zinv_ds h k)
