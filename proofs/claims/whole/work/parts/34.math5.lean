/-! Means and folds (pure). -/
theorem zds_tn (z : ZS) : ∀ k, ztn (zds z k) = ztn z
  | 0 => rfl
  | k + 1 => zds_tn z k
theorem zds_gu (z : ZS) : ∀ k, zgu (zds z k) = zgu z
  | 0 => rfl
  | k + 1 => zds_gu z k
theorem zds_tr (z : ZS) : ∀ k, ztr (zds z k) = ztr z
  | 0 => rfl
  | k + 1 => zds_tr z k
theorem zds_td (z : ZS) : ∀ k, ztd (zds z k) = ztd z
  | 0 => rfl
  | k + 1 => zds_td z k
theorem zds_tp (z : ZS) : ∀ k, ztp (zds z k) = ztp z
  | 0 => rfl
  | k + 1 => zds_tp z k
def zfo (F : Nat → Int32) (d : Int64) : Nat → Int64
  | 0 => d
  | i + 1 => zmx (zfo F d i) (F i).toInt64
def zmean (z : ZS) : UInt64 := if zcnt (zwa z) (zn z) = 0 then FP.dconst0 else FP.ddiv (FP.i2d (nI (zsv (zwa z) (ziv z) (zgh z) (zb (zdy z)) (zn z)))) (FP.i2d (nI (zcnt (zwa z) (zn z))))
set_option maxRecDepth 100000 in
theorem zfp1 : ∀ b, b < 10 → ∀ a, a < 691 → vf_n64 (FP.ddiv (FP.i2d (nI a)) (FP.i2d (nI (b + 1)))) := by
  unfold vf_n64
  decide +kernel
theorem zfp {z : ZS} (h : zok z) (h0 : ¬ zcnt (zwa z) (zn z) = 0) : vf_n64 (FP.ddiv (FP.i2d (nI (zsv (zwa z) (ziv z) (zgh z) (zb (zdy z)) (zn z)))) (FP.i2d (nI (zcnt (zwa z) (zn z))))) := by
  obtain ⟨o1, o2, o3, o4, o5, o6, o7, o8, o9, o10, o11⟩ := h
  have h1 := zcnt_le (zwa z) (zn z)
  have h2 := zsv_le (iv := ziv z) o4 o6 (zb_le (zdy z)) (zn z)
  have := zfp1 (zcnt (zwa z) (zn z) - 1) (by omega) (zsv (zwa z) (ziv z) (zgh z) (zb (zdy z)) (zn z)) (by omega)
  rw [show zcnt (zwa z) (zn z) - 1 + 1 = zcnt (zwa z) (zn z) by omega] at this
  exact this
theorem zbc_m0 {a b : Int32} {P : Prop} (h : a < b) : ¬ (b < a ∨ (a = b ∧ P)) := by
  intro q
  rcases q with q | ⟨q, _⟩
  · exact Int32.lt_irrefl (Int32.lt_trans h q)
  · subst q; exact Int32.lt_irrefl h
theorem zbc_m1 {a b : Int32} {P : Prop} (h1 : ¬ a < b) (h2 : ¬ a = b) : b < a ∨ (a = b ∧ P) := Or.inl (Int32.lt_of_le_of_ne (Int32.not_lt.mp h1) (Ne.symm h2))
theorem zbc_m2 {a b : Int32} {P : Prop} (h1 : a = b) (h2 : ¬ P) : ¬ (b < a ∨ (a = b ∧ P)) := by
  intro q
  rcases q with q | ⟨_, q⟩
  · subst h1; exact Int32.lt_irrefl q
  · exact h2 q
theorem znw_00 : znw 0 (nI 0) z0 z0 z0 z0 = fun j => nI (z0 j) := by
  funext k
  unfold znw z0
  (repeat' split) <;> rfl
