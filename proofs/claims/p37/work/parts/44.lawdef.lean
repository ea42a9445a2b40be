/-! THE CLAIM OUT OF ONE WALK OF THE LAW'S BODY. Your part is whole_start (and what it stands on); all else here is the same for every law, but numbers. -/
def R_law : String := "RuinViewsLaw"
def lw_P (b : Addr) (xs : List Int32) (args : Array Value) (s : State) : Prop := args = #[.ref b] ∧ s.IntsAt b xs ∧ xs.length ≤ 260 ∧ (Jvm.Cond.and given_1 narrow_1).before args s = true
/-- what a walk over the start with the record d0 says of its end, said of the start itself -/
theorem lw_closed {s t : State} {o : Outcome} {d0 : Drawn} {L : List Loc} {k n : Nat} (hd0 : s.drawn.sameBut d0 lw_cs) (hv : ∃ v, o = .returned v) (hW : (s.setDrawn d0).WarmedH t.vm) (hs : (s.setDrawn d0).sameButNew ({ t with vm := s.vm } : State) L k n) : State.butDraws s t lw_cs (fun t1 => Framed s o t1 L k n) := by
  have h2 : t.drawn = d0 := congrArg State.drawn hs.1
  refine ⟨⟨hv, hW, State.sameButNew.setDrawn hs s.drawn⟩, ?_, by decide⟩
  rw [h2]
  exact hd0
def lw_Q (_ : Array Value) (s : State) (o : Outcome) (t : State) : Prop := o = .returned (some (.int 1)) ∧ State.butDraws s t lw_cs (fun t1 => Framed s o t1 [] 753896 6839935)
def lw_Z (below : List Frame) (a : Array Value) (s : State) : State → Prop := fun t => ∃ o, t.status = .running ∧ Ended t below o ∧ lw_Q a s o t
/-- the law's own end, with 1 on the stack, nothing written that was there before, its room as the claim has it; d0: the record of draws at this point (at the entry s.drawn: begin with 'refine W.base ?_' and 'have hd0 := Drawn.sameBut.refl s.drawn lw_cs') -/
theorem lw_ret {p : Program} {l : Launch} {e : Env} {s : State} {m : MethodId} {below : List Frame} {meth : Method} {c : Code} {b : Nat} {d0 : Drawn} (hd0 : s.drawn.sameBut d0 lw_cs) (hx : p.tables.exec = Jvm.exec) (hb : c.code = code) (hr : meth.sig.returnType = ret) (hlocks : meth.locks = false) {pc : Nat} {H : Heap} {ls : Array Slot} (hdg : decode code pc = .ok (.ireturn, 1)) : W p l e room_1 (s.setDrawn d0) m #[Value.ref b] below meth c H [] 753896 6839935 (lw_Z below #[Value.ref b] s) (F0 m pc ls [.int 1]) := by
  intro T hT X
  obtain ⟨fs, hret, hrun, hended, hW, hframe⟩ := X.leave (v := some (.int 1)) (hlocks := hlocks) (fun h => by rw [hr] at h; cases h)
  have hmeth' : T.vm.method? m = some meth := X.method'
  refine ⟨T.setFrames fs, ?_, .returned (some (.int 1)), hrun, hended, rfl, lw_closed hd0 ⟨_, rfl⟩ hW hframe⟩
  jvm_step X.here [X.here.top, hx, hb, hdg, hmeth', hr, ret, narrow_b1]
  (try refine ⟨rfl, ?_⟩); (try refine ⟨rfl, ?_⟩)
  first | (intro acts; rw [hret _ acts rfl rfl rfl]) | rw [hret _ _ rfl rfl rfl]
  exact Steps.refl _
/-- what holds at the law's entry: the machine, the code, the tables' words (any of lw_tbl by 'hts w (by decide +kernel)'), the script of L ints xs at the cell b, what the Statement gives of the start (any of its parts by flat_of_before) -/
def lw_At (p : Program) (s : State) (m : MethodId) (meth : Method) (c : Code) (b L : Nat) (xs : Nat → Int32) : Prop :=
  p.tables.exec = Jvm.exec ∧ c.code = code ∧ meth.sig.returnType = ret ∧ c.maxLocals = 23 ∧ s.vm.findClass R_law = some m.cls ∧ (∀ w ∈ lw_tbl, w.before #[Value.ref b] s = true) ∧ va_X b L xs s s.heap ∧ b < s.heap.size ∧ meth.locks = false ∧ (Jvm.Cond.and given_1 narrow_1).before #[Value.ref b] s = true
/-! The law's own checks (pure). -/
theorem zat_view {z : ZS} (h : zok z) {k : Nat} (hk : k < zcnt (zwa z) (zn z)) (h0 : 0 < k) : zv (zwa z (zat z k)) (ziv z (zat z k)) (zgh z (zat z k)) (zb (zdy z)) ≤ zv (zwa z (zat z (k - 1))) (ziv z (zat z (k - 1))) (zgh z (zat z (k - 1))) (zb (zdy z)) := by
  obtain ⟨a1, a2, a3, a4⟩ := zat_p h hk
  obtain ⟨b1, b2, b3, b4⟩ := zat_p h (k := k - 1) (by omega)
  have hlt : ¬ zF z (zat z (k - 1)) ≤ zF z (zat z k) := fun q => by
    have := zrn_anti q
    omega
  obtain ⟨o1, o2, o3, o4, o5, o6, o7, o8, o9, o10, o11⟩ := h
  have hb := zb_le (zdy z)
  have v1 := zv_le (i := ziv z (zat z k)) (o4 (zat z k)) (o6 (zat z k)) hb
  have v2 := zv_le (i := ziv z (zat z (k - 1))) (o4 (zat z (k - 1))) (o6 (zat z (k - 1))) hb
  have p1 := o7 (zat z k)
  have p2 := o7 (zat z (k - 1))
  have e1 : zF z (zat z k) = nI ((zv (zwa z (zat z k)) (ziv z (zat z k)) (zgh z (zat z k)) (zb (zdy z)) * 10 + (9 - zpr z (zat z k))) * 10 + (9 - zat z k)) := by
    show zme _ _ _ _ _ _ = _
    unfold zme
    rw [if_neg a3]
  have e2 : zF z (zat z (k - 1)) = nI ((zv (zwa z (zat z (k - 1))) (ziv z (zat z (k - 1))) (zgh z (zat z (k - 1))) (zb (zdy z)) * 10 + (9 - zpr z (zat z (k - 1)))) * 10 + (9 - zat z (k - 1))) := by
    show zme _ _ _ _ _ _ = _
    unfold zme
    rw [if_neg b3]
  rw [e1, e2, nI_leI (by omega) (by omega)] at hlt
  omega
def zop (z : ZS) (t : Nat) : Nat → Nat := fun j => if j < t then (if ztf z j = 0 then 1 else 0) else 0
theorem zop_0 (z : ZS) : z0 = zop z 0 := by
  funext j; simp [zop, z0]
theorem zop_s {z : ZS} {t x : Nat} (hx : x = if ztf z t = 0 then 1 else 0) : zup (zop z t) t x = zop z (t + 1) := by
  subst hx
  funext j
  by_cases h : j = t
  · subst h; rw [zup_s]; simp [zop]
  · rw [zup_n _ _ h]
    by_cases h2 : j < t
    · simp [zop, h2, Nat.lt_succ_of_lt h2]
    · simp [zop, h2, show ¬ j < t + 1 by omega]
theorem zop_g {z : ZS} {n t : Nat} (h : t < n) : zop z n t = if ztf z t = 0 then 1 else 0 := by simp [zop, h]
theorem zz_ab (a b : Int32) : a + (b - a) = b := by
  rw [Int32.sub_eq_add_neg, show a + (b + -a) = b + (a + -a) by ac_rfl, Int32.add_right_neg, Int32.add_zero]
theorem zz_more (z : ZS) : zpu (zds z 1) - zpu z = nI (zts (zgu z) (zn z) (zF z) (zwa z) (zpr z) (zn z)) - nI (zbak (zdy z) (zwa z) (ztr z) (ztd z) (ztp z) (ztf z) (ztn z)) := by
  show ((zpu z + nI (ztk z)) - nI (zbak (zdy z) (zwa z) (ztr z) (ztd z) (ztp z) (ztf z) (ztn z))) - zpu z = nI (ztk z) - _
  rw [Int32.sub_eq_add_neg, Int32.sub_eq_add_neg, Int32.sub_eq_add_neg, show ∀ a b c : Int32, a + b + c + -a = b + c + (a + -a) from fun a b c => by ac_rfl, Int32.add_right_neg, Int32.add_zero]
theorem zd1_wa {z : ZS} {r : Nat} (h : r < zn z) : zwa (zd1 z) r = z_wa (zdy z) (zwa z r) (ziv z r) := by
  show zAw (zdy z) (zn z) (zwa z) (ziv z) r = _
  simp [zAw, h]
theorem zd1_iv {z : ZS} {r : Nat} (h : r < zn z) : ziv (zd1 z) r = z_iv (zdy z) (zwa z r) (ziv z r) := by
  show zAi (zdy z) (zn z) (zwa z) (ziv z) r = _
  simp [zAi, h]
theorem zd1_gh {z : ZS} {r : Nat} (h : r < zn z) : zgh (zd1 z) r = z_gb (zb (zdy z)) (zwa (zd1 z) r) (ziv (zd1 z) r) (zgh z r) := by
  rw [zd1_wa h, zd1_iv h]
  show zAg (zdy z) (zn z) (zwa z) (ziv z) (zgh z) r = _
  simp [zAg, h, z_gh]
theorem zd1_tf {z : ZS} {t : Nat} (h : t < ztn z) : ztf (zd1 z) t = zft (zdy z) (zwa z) (ztr z) (ztd z) (ztf z) t := by
  show zfat (ztn z) (zdy z) (zwa z) (ztr z) (ztd z) (ztf z) t = _
  simp [zfat, h]
/-- a day for one ruin, as alternatives -/
theorem zl_iv {z : ZS} {r : Nat} (h : r < zn z) : (0 < zwa z r ∧ zdy z % 3 = 2 ∧ ziv z r < 12 ∧ ziv (zd1 z) r = ziv z r + 1) ∨ (¬ (0 < zwa z r ∧ zdy z % 3 = 2 ∧ ziv z r < 12) ∧ ziv (zd1 z) r = ziv z r) := by
  rw [zd1_iv h]
  unfold z_iv
  split
  · rename_i q; exact Or.inl ⟨q.1, q.2.1, q.2.2, rfl⟩
  · rename_i q; exact Or.inr ⟨q, rfl⟩
theorem zl_wa {z : ZS} {r : Nat} (h : r < zn z) : (0 < zwa z r ∧ 10 ≤ ziv (zd1 z) r ∧ zwa (zd1 z) r = zwa z r - 1) ∨ (¬ (0 < zwa z r ∧ 10 ≤ ziv (zd1 z) r) ∧ zwa (zd1 z) r = zwa z r) := by
  rw [zd1_wa h, zd1_iv h]
  unfold z_wa
  split
  · rename_i q; exact Or.inl ⟨q.1, q.2, rfl⟩
  · rename_i q; exact Or.inr ⟨q, rfl⟩
theorem zl_g3 {i : Nat} : zg i = 3 ↔ 7 ≤ i ∧ i ≤ 9 := by
  unfold zg
  (repeat' split) <;> omega
theorem zl_g0 {i : Nat} : zg i = 0 ↔ i = 0 := by
  unfold zg
  (repeat' split) <;> omega
theorem zl_gh {z : ZS} {r : Nat} (h : r < zn z) : (zb (zdy z) = 4 ∧ 0 < zwa (zd1 z) r ∧ 7 ≤ ziv (zd1 z) r ∧ ziv (zd1 z) r ≤ 9 ∧ zgh z r < 5 ∧ zgh (zd1 z) r = zgh z r + 1) ∨ (zb (zdy z) = 4 ∧ ¬ (0 < zwa (zd1 z) r ∧ 7 ≤ ziv (zd1 z) r ∧ ziv (zd1 z) r ≤ 9 ∧ zgh z r < 5) ∧ zgh (zd1 z) r = zgh z r)
    ∨ (zb (zdy z) = 0 ∧ 0 < zgh z r ∧ (zwa (zd1 z) r = 0 ∨ ziv (zd1 z) r = 0) ∧ zgh (zd1 z) r + 1 = zgh z r) ∨ (zb (zdy z) = 0 ∧ ¬ (0 < zgh z r ∧ (zwa (zd1 z) r = 0 ∨ ziv (zd1 z) r = 0)) ∧ zgh (zd1 z) r = zgh z r) ∨ (¬ zb (zdy z) = 4 ∧ ¬ zb (zdy z) = 0 ∧ zgh (zd1 z) r = zgh z r) := by
  rw [zd1_gh h]
  generalize zwa (zd1 z) r = w
  generalize ziv (zd1 z) r = i
  have g3 := zl_g3 (i := i)
  have g0 := zl_g0 (i := i)
  unfold z_gb
  (repeat' split) <;> omega
theorem zb_min (d : Nat) : zb d = min (d % 8) (8 - d % 8) := by
  unfold zb
  have : d % 8 < 8 := Nat.mod_lt _ (by decide)
  split <;> omega
theorem zb_full (d : Nat) : zb d = 4 ↔ (12 - d % 8) % 8 = 0 := by
  unfold zb
  have : d % 8 < 8 := Nat.mod_lt _ (by decide)
  split <;> omega
theorem zv_0 {w i g b : Nat} (h : w = 0) : zv w i g b = 0 := by
  unfold zv
  rw [if_pos h]
theorem zv_1 {w i g b : Nat} (h : ¬ w = 0) : zv w i g b = 2 * w + 3 * zg i + g * b := by
  unfold zv
  rw [if_neg h]
theorem zz_g0 {a b : Nat} (h : a = b) : nI a - nI b = nI 0 := by
  subst h
  rw [nI_0]
  exact Int32.sub_self _
theorem zz_g1 {a b : Nat} (h : a = b + 1) : nI a - nI b = nI 1 := by
  subst h
  rw [pk_sub (by omega)]
  congr 1
  omega
theorem zz_gm {a b : Nat} (h : a + 1 = b) (_ : b < 2 ^ 31) : nI a - nI b = (-1) := by
  subst h
  rw [nI_succ, Int32.sub_eq_add_neg, Int32.neg_add, Int32.sub_eq_add_neg, ← Int32.add_assoc, Int32.add_right_neg, Int32.zero_add]
abbrev zA (s : State) : Nat → Prop := fun q => s.heap.size ≤ q
theorem i_L_law_X1 : ∀ w ∈ u_ws RX1 TX1 5, w ∈ wsL_law := inlX1
theorem i_L_law_X2 : ∀ w ∈ u_ws RX2 TX2 7, w ∈ wsL_law := inlX2
theorem i_L_law_X3 : ∀ w ∈ u_ws RX3 TX3 5, w ∈ wsL_law := inlX3
theorem i_L_law_X4 : ∀ w ∈ u_ws RX4 TX4 2, w ∈ wsL_law := inlX4
theorem i_L_law_X5 : ∀ w ∈ u_ws RX5 TX5 5, w ∈ wsL_law := inlX5
