/-! numbers: z_I, z_L the ints and longs of an integer -/
def z_I (z : Int) : Int32 := Int32.ofInt z
def z_L (z : Int) : Int64 := Int64.ofInt z
theorem z_min : Int32.minValue.toInt = -2147483648 := by decide
theorem z_max : Int32.maxValue.toInt = 2147483647 := by decide
theorem z_minL : Int64.minValue.toInt = -9223372036854775808 := by decide
theorem z_maxL : Int64.maxValue.toInt = 9223372036854775807 := by decide
theorem z_toInt {a : Int} (h : -2147483648 ≤ a ∧ a < 2147483648) : (z_I a).toInt = a := Int32.toInt_ofInt_of_le h.1 h.2
theorem z_toIntL {a : Int} (h : -9223372036854775808 ≤ a ∧ a < 9223372036854775808) : (z_L a).toInt = a := Int64.toInt_ofInt_of_le h.1 h.2
theorem z_of (x : Int32) : ∃ z : Int, (-2147483648 ≤ z ∧ z < 2147483648) ∧ x = z_I z := ⟨x.toInt, ⟨Int32.le_toInt x, Int32.toInt_lt x⟩, (Int32.ofInt_toInt x).symm⟩
theorem z_ofL (x : Int64) : ∃ z : Int, (-9223372036854775808 ≤ z ∧ z < 9223372036854775808) ∧ x = z_L z := ⟨x.toInt, ⟨Int64.le_toInt x, Int64.toInt_lt x⟩, (Int64.ofInt_toInt x).symm⟩
theorem z_lt {a b : Int} (ha : -2147483648 ≤ a ∧ a < 2147483648) (hb : -2147483648 ≤ b ∧ b < 2147483648) : z_I a < z_I b ↔ a < b := by rw [Int32.lt_iff_toInt_lt, z_toInt ha, z_toInt hb]
theorem z_le {a b : Int} (ha : -2147483648 ≤ a ∧ a < 2147483648) (hb : -2147483648 ≤ b ∧ b < 2147483648) : z_I a ≤ z_I b ↔ a ≤ b := by rw [Int32.le_iff_toInt_le, z_toInt ha, z_toInt hb]
theorem z_eq {a b : Int} (ha : -2147483648 ≤ a ∧ a < 2147483648) (hb : -2147483648 ≤ b ∧ b < 2147483648) : z_I a = z_I b ↔ a = b := by rw [← Int32.toInt_inj, z_toInt ha, z_toInt hb]
theorem z_ltL {a b : Int} (ha : -9223372036854775808 ≤ a ∧ a < 9223372036854775808) (hb : -9223372036854775808 ≤ b ∧ b < 9223372036854775808) : z_L a < z_L b ↔ a < b := by rw [Int64.lt_iff_toInt_lt, z_toIntL ha, z_toIntL hb]
theorem z_eqL {a b : Int} (ha : -9223372036854775808 ≤ a ∧ a < 9223372036854775808) (hb : -9223372036854775808 ≤ b ∧ b < 9223372036854775808) : z_L a = z_L b ↔ a = b := by rw [← Int64.toInt_inj, z_toIntL ha, z_toIntL hb]
theorem z_add (a b : Int) : z_I a + z_I b = z_I (a + b) := (Int32.ofInt_add a b).symm
theorem z_sub (a b : Int) : z_I a - z_I b = z_I (a - b) := (Int32.ofInt_sub a b).symm
theorem z_mul (a b : Int) : z_I a * z_I b = z_I (a * b) := (Int32.ofInt_mul a b).symm
theorem z_neg (a : Int) : -z_I a = z_I (-a) := Int32.neg_ofInt
theorem z_addL (a b : Int) : z_L a + z_L b = z_L (a + b) := (Int64.ofInt_add a b).symm
theorem z_subL (a b : Int) : z_L a - z_L b = z_L (a - b) := (Int64.ofInt_sub a b).symm
theorem z_mulL (a b : Int) : z_L a * z_L b = z_L (a * b) := (Int64.ofInt_mul a b).symm
theorem z_div {a b : Int} (ha : -2147483648 ≤ a ∧ a < 2147483648) (hb : -2147483648 ≤ b ∧ b < 2147483648) : z_I a / z_I b = z_I (a.tdiv b) := (Int32.ofInt_tdiv (by rw [z_min]; omega) (by rw [z_max]; omega) (by rw [z_min]; omega) (by rw [z_max]; omega)).symm
theorem z_divL {a b : Int} (ha : -9223372036854775808 ≤ a ∧ a < 9223372036854775808) (hb : -9223372036854775808 ≤ b ∧ b < 9223372036854775808) : z_L a / z_L b = z_L (a.tdiv b) := (Int64.ofInt_tdiv (by rw [z_minL]; omega) (by rw [z_maxL]; omega) (by rw [z_minL]; omega) (by rw [z_maxL]; omega)).symm
theorem z_rem {a b : Int} (ha : -2147483648 ≤ a ∧ a < 2147483648) (hb : -2147483648 ≤ b ∧ b < 2147483648) : z_I a - z_I a / z_I b * z_I b = z_I (a.tmod b) := by
  rw [z_div ha hb, z_mul, z_sub]
  congr 1
  have h : b * a.tdiv b + a.tmod b = a := Int.mul_tdiv_add_tmod a b
  have h2 : a.tdiv b * b = b * a.tdiv b := Int.mul_comm _ _
  omega
theorem z_remL {a b : Int} (ha : -9223372036854775808 ≤ a ∧ a < 9223372036854775808) (hb : -9223372036854775808 ≤ b ∧ b < 9223372036854775808) : z_L a - z_L a / z_L b * z_L b = z_L (a.tmod b) := by
  rw [z_divL ha hb, z_mulL, z_subL]
  congr 1
  have h : b * a.tdiv b + a.tmod b = a := Int.mul_tdiv_add_tmod a b
  have h2 : a.tdiv b * b = b * a.tdiv b := Int.mul_comm _ _
  omega
theorem z_tdiv {a b : Int} (h : 0 ≤ a) : a.tdiv b = a / b := Int.tdiv_eq_ediv_of_nonneg h
theorem z_tmod {a b : Int} (h : 0 ≤ a) : a.tmod b = a % b := Int.tmod_eq_emod_of_nonneg h
theorem z_ne0 {b : Int} (hb : -2147483648 ≤ b ∧ b < 2147483648) (h : b ≠ 0) : ¬ z_I b = 0 := fun q => h ((z_eq hb (by omega)).mp (q.trans rfl))
theorem z_ne0L {b : Int} (hb : -9223372036854775808 ≤ b ∧ b < 9223372036854775808) (h : b ≠ 0) : ¬ z_L b = 0 := fun q => h ((z_eqL hb (by omega)).mp (q.trans rfl))
theorem z_cl {a : Int} (h : 0 ≤ a ∧ a < 2147483648) : (z_I a).toNatClampNeg = a.toNat := by
  show (z_I a).toInt.toNat = _
  rw [z_toInt (by omega)]
theorem z_in {a : Int} {n : Nat} (h : 0 ≤ a ∧ a < n) (hn : n ≤ 1000000000) : vp_in (z_I a) n := by
  rw [vp_in_iff, z_toInt (by omega)]
  omega
theorem z_il {a : Int} (h : -2147483648 ≤ a ∧ a < 2147483648) : (z_I a).toInt64 = z_L a := Int32.toInt64_ofInt (by rw [z_min]; omega) (by rw [z_max]; omega)
theorem z_li (a : Int) : (z_L a).toInt32 = z_I a := Int64.toInt32_ofInt
/-- a truth value as an int -/
def z_b (c : Prop) [Decidable c] : Int32 := if c then z_I 1 else z_I 0
theorem z_b1 {c : Prop} [Decidable c] {α : Prop} {f : Int32 → Prop} (h : f (z_b c)) (hc : c) (k : f (z_I 1) → α) : α := k (by rw [z_b, if_pos hc] at h; exact h)
theorem z_bT {c : Prop} [Decidable c] (hc : c) : z_b c = z_I 1 := if_pos hc
theorem z_bF {c : Prop} [Decidable c] (hc : ¬ c) : z_b c = z_I 0 := if_neg hc
theorem z_b_01 (c : Prop) [Decidable c] : z_b c = 0 ∨ z_b c = 1 := by
  unfold z_b
  split
  · right; rfl
  · left; rfl
theorem z_b_0 {c : Prop} [Decidable c] : z_b c = 0 ↔ ¬ c := by
  unfold z_b
  split
  · rename_i h
    exact ⟨fun q => absurd q (by decide), fun q => absurd h q⟩
  · rename_i h
    exact ⟨fun _ => h, fun _ => rfl⟩
/-! runs by their end -/
section RW
variable {sL : Nat} {xs : Nat → Int32}
def am_bg (sL : Nat) (xs : Nat → Int32) (d : Nat) : Am_C := am_big am_pg am_NM sL xs d
def am_rw (sL : Nat) (xs : Nat → Int32) (d : Nat) (P : Am_p) (rt pc : Nat) (lv st : List Value) (M : Am_M) (Q : Option Value → Am_M → Prop) : Prop := ∃ n v M', am_run am_mt (am_bg sL xs d) sL xs (am_lk P) rt v M' n pc lv st M ∧ Q v M'
def am_bi (sL : Nat) (xs : Nat → Int32) (d j : Nat) (as : List Value) (M : Am_M) (Q : Int32 → Am_M → Prop) : Prop := ∃ x M', am_bg sL xs d j as M (some (.int x)) M' ∧ Q x M'
def am_bl (sL : Nat) (xs : Nat → Int32) (d j : Nat) (as : List Value) (M : Am_M) (Q : Int64 → Am_M → Prop) : Prop := ∃ x M', am_bg sL xs d j as M (some (.long x)) M' ∧ Q x M'
def am_bv (sL : Nat) (xs : Nat → Int32) (d j : Nat) (as : List Value) (M : Am_M) (Q : Am_M → Prop) : Prop := ∃ M', am_bg sL xs d j as M none M' ∧ Q M'
def am_pi (Q : Int32 → Am_M → Prop) : Option Value → Am_M → Prop := fun v M => ∃ x, v = some (.int x) ∧ Q x M
def am_pl (Q : Int64 → Am_M → Prop) : Option Value → Am_M → Prop := fun v M => ∃ x, v = some (.long x) ∧ Q x M
def am_pv (Q : Am_M → Prop) : Option Value → Am_M → Prop := fun v M => v = none ∧ Q M
theorem am_bi_of {d j nL rt : Nat} {as lv : List Value} {P : Am_p} {M : Am_M} {Q : Int32 → Am_M → Prop} (hj : j < am_NM) (hn : (am_mt j).2.2.2.1 = nL) (hl : (am_en as).length ≤ nL) (hP : am_pg j = P) (hr : am_rtc (am_mt j).2.2.2.2.1 = rt) (he : am_ent nL as = lv) (k : am_rw sL xs d P rt 0 lv [] M (am_pi Q)) : am_bi sL xs (d + 1) j as M Q := by
  subst hn hP hr he
  obtain ⟨n, v, M', h, x, rfl, hq⟩ := k
  exact ⟨x, M', ⟨hj, hl, n, h⟩, hq⟩
theorem am_bl_of {d j nL rt : Nat} {as lv : List Value} {P : Am_p} {M : Am_M} {Q : Int64 → Am_M → Prop} (hj : j < am_NM) (hn : (am_mt j).2.2.2.1 = nL) (hl : (am_en as).length ≤ nL) (hP : am_pg j = P) (hr : am_rtc (am_mt j).2.2.2.2.1 = rt) (he : am_ent nL as = lv) (k : am_rw sL xs d P rt 0 lv [] M (am_pl Q)) : am_bl sL xs (d + 1) j as M Q := by
  subst hn hP hr he
  obtain ⟨n, v, M', h, x, rfl, hq⟩ := k
  exact ⟨x, M', ⟨hj, hl, n, h⟩, hq⟩
theorem am_bv_of {d j nL rt : Nat} {as lv : List Value} {P : Am_p} {M : Am_M} {Q : Am_M → Prop} (hj : j < am_NM) (hn : (am_mt j).2.2.2.1 = nL) (hl : (am_en as).length ≤ nL) (hP : am_pg j = P) (hr : am_rtc (am_mt j).2.2.2.2.1 = rt) (he : am_ent nL as = lv) (k : am_rw sL xs d P rt 0 lv [] M (am_pv Q)) : am_bv sL xs (d + 1) j as M Q := by
  subst hn hP hr he
  obtain ⟨n, v, M', h, rfl, hq⟩ := k
  exact ⟨M', ⟨hj, hl, n, h⟩, hq⟩
variable {d rt pc pc' len : Nat} {P : Am_p} {lv r l : List Value} {M : Am_M} {Q : Option Value → Am_M → Prop}
theorem am_rw_go {st lv2 st2 : List Value} {M2 : Am_M} {i : Instr} {pc' : Nat} (h : am_lk P pc = some (i, len)) (hs : ∀ (v : Option Value) (M' : Am_M) (K : Nat → List Value → List Value → Am_M → Prop), K pc' lv2 st2 M2 → am_stp am_mt (am_bg sL xs d) sL xs rt v M' i (pc + len) lv st M K) (k : am_rw sL xs d P rt pc' lv2 st2 M2 Q) : am_rw sL xs d P rt pc lv st M Q := by
  obtain ⟨n, v, M', hr, hq⟩ := k
  refine ⟨n + 1, v, M', ?_, hq⟩
  unfold am_run
  rw [h]
  exact hs v M' _ hr
theorem am_rw_end {st : List Value} {i : Instr} {v : Option Value} (h : am_lk P pc = some (i, len)) (hs : ∀ (K : Nat → List Value → List Value → Am_M → Prop), am_stp am_mt (am_bg sL xs d) sL xs rt v M i (pc + len) lv st M K) (hq : Q v M) : am_rw sL xs d P rt pc lv st M Q := by
  refine ⟨1, v, M, ?_, hq⟩
  unfold am_run
  rw [h]
  exact hs _
theorem am_r_iconst {n : Int} (h : am_lk P pc = some (.iconst n, len)) (e : pc + len = pc') (k : am_rw sL xs d P rt pc' lv (.int (z_I n) :: r) M Q) : am_rw sL xs d P rt pc lv r M Q := by
  subst e
  exact am_rw_go h (fun v M' K hk => hk) k
theorem am_r_lconst {n : Nat} {z : Int} (h : am_lk P pc = some (.ldc2_w n, len)) (e : pc + len = pc') (hz : Int64.ofNat n = z_L z) (k : am_rw sL xs d P rt pc' lv (.long (z_L z) :: r) M Q) : am_rw sL xs d P rt pc lv r M Q := by
  subst e
  exact am_rw_go h (fun v M' K hk => by show K _ _ (.long (Int64.ofNat n) :: r) _; rw [hz]; exact hk) k
theorem am_r_iload0 {x : Int32} (h : am_lk P pc = some (.iload 0, len)) (e : pc + len = pc') (k : am_rw sL xs d P rt pc' (.int x :: l) (.int x :: r) M Q) : am_rw sL xs d P rt pc (.int x :: l) r M Q := by
  subst e
  exact am_rw_go h (fun v M' K hk => hk) k
theorem am_r_lload0 {x : Int64} (h : am_lk P pc = some (.lload 0, len)) (e : pc + len = pc') (k : am_rw sL xs d P rt pc' (.long x :: l) (.long x :: r) M Q) : am_rw sL xs d P rt pc (.long x :: l) r M Q := by
  subst e
  exact am_rw_go h (fun v M' K hk => hk) k
theorem am_r_aload0 {x : Nat} (h : am_lk P pc = some (.aload 0, len)) (e : pc + len = pc') (k : am_rw sL xs d P rt pc' (.ref x :: l) (.ref x :: r) M Q) : am_rw sL xs d P rt pc (.ref x :: l) r M Q := by
  subst e
  exact am_rw_go h (fun v M' K hk => hk) k
theorem am_r_iload1 {a0 : Value} {x : Int32} (h : am_lk P pc = some (.iload 1, len)) (e : pc + len = pc') (k : am_rw sL xs d P rt pc' (a0 :: .int x :: l) (.int x :: r) M Q) : am_rw sL xs d P rt pc (a0 :: .int x :: l) r M Q := by
  subst e
  exact am_rw_go h (fun v M' K hk => hk) k
theorem am_r_lload1 {a0 : Value} {x : Int64} (h : am_lk P pc = some (.lload 1, len)) (e : pc + len = pc') (k : am_rw sL xs d P rt pc' (a0 :: .long x :: l) (.long x :: r) M Q) : am_rw sL xs d P rt pc (a0 :: .long x :: l) r M Q := by
  subst e
  exact am_rw_go h (fun v M' K hk => hk) k
theorem am_r_aload1 {a0 : Value} {x : Nat} (h : am_lk P pc = some (.aload 1, len)) (e : pc + len = pc') (k : am_rw sL xs d P rt pc' (a0 :: .ref x :: l) (.ref x :: r) M Q) : am_rw sL xs d P rt pc (a0 :: .ref x :: l) r M Q := by
  subst e
  exact am_rw_go h (fun v M' K hk => hk) k
theorem am_r_iload2 {a0 a1 : Value} {x : Int32} (h : am_lk P pc = some (.iload 2, len)) (e : pc + len = pc') (k : am_rw sL xs d P rt pc' (a0 :: a1 :: .int x :: l) (.int x :: r) M Q) : am_rw sL xs d P rt pc (a0 :: a1 :: .int x :: l) r M Q := by
  subst e
  exact am_rw_go h (fun v M' K hk => hk) k
theorem am_r_lload2 {a0 a1 : Value} {x : Int64} (h : am_lk P pc = some (.lload 2, len)) (e : pc + len = pc') (k : am_rw sL xs d P rt pc' (a0 :: a1 :: .long x :: l) (.long x :: r) M Q) : am_rw sL xs d P rt pc (a0 :: a1 :: .long x :: l) r M Q := by
  subst e
  exact am_rw_go h (fun v M' K hk => hk) k
theorem am_r_aload2 {a0 a1 : Value} {x : Nat} (h : am_lk P pc = some (.aload 2, len)) (e : pc + len = pc') (k : am_rw sL xs d P rt pc' (a0 :: a1 :: .ref x :: l) (.ref x :: r) M Q) : am_rw sL xs d P rt pc (a0 :: a1 :: .ref x :: l) r M Q := by
  subst e
  exact am_rw_go h (fun v M' K hk => hk) k
theorem am_r_iload3 {a0 a1 a2 : Value} {x : Int32} (h : am_lk P pc = some (.iload 3, len)) (e : pc + len = pc') (k : am_rw sL xs d P rt pc' (a0 :: a1 :: a2 :: .int x :: l) (.int x :: r) M Q) : am_rw sL xs d P rt pc (a0 :: a1 :: a2 :: .int x :: l) r M Q := by
  subst e
  exact am_rw_go h (fun v M' K hk => hk) k
theorem am_r_lload3 {a0 a1 a2 : Value} {x : Int64} (h : am_lk P pc = some (.lload 3, len)) (e : pc + len = pc') (k : am_rw sL xs d P rt pc' (a0 :: a1 :: a2 :: .long x :: l) (.long x :: r) M Q) : am_rw sL xs d P rt pc (a0 :: a1 :: a2 :: .long x :: l) r M Q := by
  subst e
  exact am_rw_go h (fun v M' K hk => hk) k
theorem am_r_aload3 {a0 a1 a2 : Value} {x : Nat} (h : am_lk P pc = some (.aload 3, len)) (e : pc + len = pc') (k : am_rw sL xs d P rt pc' (a0 :: a1 :: a2 :: .ref x :: l) (.ref x :: r) M Q) : am_rw sL xs d P rt pc (a0 :: a1 :: a2 :: .ref x :: l) r M Q := by
  subst e
  exact am_rw_go h (fun v M' K hk => hk) k
theorem am_r_iload4 {a0 a1 a2 a3 : Value} {x : Int32} (h : am_lk P pc = some (.iload 4, len)) (e : pc + len = pc') (k : am_rw sL xs d P rt pc' (a0 :: a1 :: a2 :: a3 :: .int x :: l) (.int x :: r) M Q) : am_rw sL xs d P rt pc (a0 :: a1 :: a2 :: a3 :: .int x :: l) r M Q := by
  subst e
  exact am_rw_go h (fun v M' K hk => hk) k
theorem am_r_lload4 {a0 a1 a2 a3 : Value} {x : Int64} (h : am_lk P pc = some (.lload 4, len)) (e : pc + len = pc') (k : am_rw sL xs d P rt pc' (a0 :: a1 :: a2 :: a3 :: .long x :: l) (.long x :: r) M Q) : am_rw sL xs d P rt pc (a0 :: a1 :: a2 :: a3 :: .long x :: l) r M Q := by
  subst e
  exact am_rw_go h (fun v M' K hk => hk) k
theorem am_r_aload4 {a0 a1 a2 a3 : Value} {x : Nat} (h : am_lk P pc = some (.aload 4, len)) (e : pc + len = pc') (k : am_rw sL xs d P rt pc' (a0 :: a1 :: a2 :: a3 :: .ref x :: l) (.ref x :: r) M Q) : am_rw sL xs d P rt pc (a0 :: a1 :: a2 :: a3 :: .ref x :: l) r M Q := by
  subst e
  exact am_rw_go h (fun v M' K hk => hk) k
theorem am_r_iload5 {a0 a1 a2 a3 a4 : Value} {x : Int32} (h : am_lk P pc = some (.iload 5, len)) (e : pc + len = pc') (k : am_rw sL xs d P rt pc' (a0 :: a1 :: a2 :: a3 :: a4 :: .int x :: l) (.int x :: r) M Q) : am_rw sL xs d P rt pc (a0 :: a1 :: a2 :: a3 :: a4 :: .int x :: l) r M Q := by
  subst e
  exact am_rw_go h (fun v M' K hk => hk) k
theorem am_r_lload5 {a0 a1 a2 a3 a4 : Value} {x : Int64} (h : am_lk P pc = some (.lload 5, len)) (e : pc + len = pc') (k : am_rw sL xs d P rt pc' (a0 :: a1 :: a2 :: a3 :: a4 :: .long x :: l) (.long x :: r) M Q) : am_rw sL xs d P rt pc (a0 :: a1 :: a2 :: a3 :: a4 :: .long x :: l) r M Q := by
  subst e
  exact am_rw_go h (fun v M' K hk => hk) k
theorem am_r_aload5 {a0 a1 a2 a3 a4 : Value} {x : Nat} (h : am_lk P pc = some (.aload 5, len)) (e : pc + len = pc') (k : am_rw sL xs d P rt pc' (a0 :: a1 :: a2 :: a3 :: a4 :: .ref x :: l) (.ref x :: r) M Q) : am_rw sL xs d P rt pc (a0 :: a1 :: a2 :: a3 :: a4 :: .ref x :: l) r M Q := by
  subst e
  exact am_rw_go h (fun v M' K hk => hk) k
theorem am_r_iload6 {a0 a1 a2 a3 a4 a5 : Value} {x : Int32} (h : am_lk P pc = some (.iload 6, len)) (e : pc + len = pc') (k : am_rw sL xs d P rt pc' (a0 :: a1 :: a2 :: a3 :: a4 :: a5 :: .int x :: l) (.int x :: r) M Q) : am_rw sL xs d P rt pc (a0 :: a1 :: a2 :: a3 :: a4 :: a5 :: .int x :: l) r M Q := by
  subst e
  exact am_rw_go h (fun v M' K hk => hk) k
theorem am_r_lload6 {a0 a1 a2 a3 a4 a5 : Value} {x : Int64} (h : am_lk P pc = some (.lload 6, len)) (e : pc + len = pc') (k : am_rw sL xs d P rt pc' (a0 :: a1 :: a2 :: a3 :: a4 :: a5 :: .long x :: l) (.long x :: r) M Q) : am_rw sL xs d P rt pc (a0 :: a1 :: a2 :: a3 :: a4 :: a5 :: .long x :: l) r M Q := by
  subst e
  exact am_rw_go h (fun v M' K hk => hk) k
theorem am_r_aload6 {a0 a1 a2 a3 a4 a5 : Value} {x : Nat} (h : am_lk P pc = some (.aload 6, len)) (e : pc + len = pc') (k : am_rw sL xs d P rt pc' (a0 :: a1 :: a2 :: a3 :: a4 :: a5 :: .ref x :: l) (.ref x :: r) M Q) : am_rw sL xs d P rt pc (a0 :: a1 :: a2 :: a3 :: a4 :: a5 :: .ref x :: l) r M Q := by
  subst e
  exact am_rw_go h (fun v M' K hk => hk) k
theorem am_r_iload7 {a0 a1 a2 a3 a4 a5 a6 : Value} {x : Int32} (h : am_lk P pc = some (.iload 7, len)) (e : pc + len = pc') (k : am_rw sL xs d P rt pc' (a0 :: a1 :: a2 :: a3 :: a4 :: a5 :: a6 :: .int x :: l) (.int x :: r) M Q) : am_rw sL xs d P rt pc (a0 :: a1 :: a2 :: a3 :: a4 :: a5 :: a6 :: .int x :: l) r M Q := by
  subst e
  exact am_rw_go h (fun v M' K hk => hk) k
theorem am_r_lload7 {a0 a1 a2 a3 a4 a5 a6 : Value} {x : Int64} (h : am_lk P pc = some (.lload 7, len)) (e : pc + len = pc') (k : am_rw sL xs d P rt pc' (a0 :: a1 :: a2 :: a3 :: a4 :: a5 :: a6 :: .long x :: l) (.long x :: r) M Q) : am_rw sL xs d P rt pc (a0 :: a1 :: a2 :: a3 :: a4 :: a5 :: a6 :: .long x :: l) r M Q := by
  subst e
  exact am_rw_go h (fun v M' K hk => hk) k
theorem am_r_aload7 {a0 a1 a2 a3 a4 a5 a6 : Value} {x : Nat} (h : am_lk P pc = some (.aload 7, len)) (e : pc + len = pc') (k : am_rw sL xs d P rt pc' (a0 :: a1 :: a2 :: a3 :: a4 :: a5 :: a6 :: .ref x :: l) (.ref x :: r) M Q) : am_rw sL xs d P rt pc (a0 :: a1 :: a2 :: a3 :: a4 :: a5 :: a6 :: .ref x :: l) r M Q := by
  subst e
  exact am_rw_go h (fun v M' K hk => hk) k
theorem am_r_iload8 {a0 a1 a2 a3 a4 a5 a6 a7 : Value} {x : Int32} (h : am_lk P pc = some (.iload 8, len)) (e : pc + len = pc') (k : am_rw sL xs d P rt pc' (a0 :: a1 :: a2 :: a3 :: a4 :: a5 :: a6 :: a7 :: .int x :: l) (.int x :: r) M Q) : am_rw sL xs d P rt pc (a0 :: a1 :: a2 :: a3 :: a4 :: a5 :: a6 :: a7 :: .int x :: l) r M Q := by
  subst e
  exact am_rw_go h (fun v M' K hk => hk) k
theorem am_r_lload8 {a0 a1 a2 a3 a4 a5 a6 a7 : Value} {x : Int64} (h : am_lk P pc = some (.lload 8, len)) (e : pc + len = pc') (k : am_rw sL xs d P rt pc' (a0 :: a1 :: a2 :: a3 :: a4 :: a5 :: a6 :: a7 :: .long x :: l) (.long x :: r) M Q) : am_rw sL xs d P rt pc (a0 :: a1 :: a2 :: a3 :: a4 :: a5 :: a6 :: a7 :: .long x :: l) r M Q := by
  subst e
  exact am_rw_go h (fun v M' K hk => hk) k
theorem am_r_aload8 {a0 a1 a2 a3 a4 a5 a6 a7 : Value} {x : Nat} (h : am_lk P pc = some (.aload 8, len)) (e : pc + len = pc') (k : am_rw sL xs d P rt pc' (a0 :: a1 :: a2 :: a3 :: a4 :: a5 :: a6 :: a7 :: .ref x :: l) (.ref x :: r) M Q) : am_rw sL xs d P rt pc (a0 :: a1 :: a2 :: a3 :: a4 :: a5 :: a6 :: a7 :: .ref x :: l) r M Q := by
  subst e
  exact am_rw_go h (fun v M' K hk => hk) k
theorem am_r_iload9 {a0 a1 a2 a3 a4 a5 a6 a7 a8 : Value} {x : Int32} (h : am_lk P pc = some (.iload 9, len)) (e : pc + len = pc') (k : am_rw sL xs d P rt pc' (a0 :: a1 :: a2 :: a3 :: a4 :: a5 :: a6 :: a7 :: a8 :: .int x :: l) (.int x :: r) M Q) : am_rw sL xs d P rt pc (a0 :: a1 :: a2 :: a3 :: a4 :: a5 :: a6 :: a7 :: a8 :: .int x :: l) r M Q := by
  subst e
  exact am_rw_go h (fun v M' K hk => hk) k
theorem am_r_lload9 {a0 a1 a2 a3 a4 a5 a6 a7 a8 : Value} {x : Int64} (h : am_lk P pc = some (.lload 9, len)) (e : pc + len = pc') (k : am_rw sL xs d P rt pc' (a0 :: a1 :: a2 :: a3 :: a4 :: a5 :: a6 :: a7 :: a8 :: .long x :: l) (.long x :: r) M Q) : am_rw sL xs d P rt pc (a0 :: a1 :: a2 :: a3 :: a4 :: a5 :: a6 :: a7 :: a8 :: .long x :: l) r M Q := by
  subst e
  exact am_rw_go h (fun v M' K hk => hk) k
theorem am_r_aload9 {a0 a1 a2 a3 a4 a5 a6 a7 a8 : Value} {x : Nat} (h : am_lk P pc = some (.aload 9, len)) (e : pc + len = pc') (k : am_rw sL xs d P rt pc' (a0 :: a1 :: a2 :: a3 :: a4 :: a5 :: a6 :: a7 :: a8 :: .ref x :: l) (.ref x :: r) M Q) : am_rw sL xs d P rt pc (a0 :: a1 :: a2 :: a3 :: a4 :: a5 :: a6 :: a7 :: a8 :: .ref x :: l) r M Q := by
  subst e
  exact am_rw_go h (fun v M' K hk => hk) k
theorem am_r_iload10 {a0 a1 a2 a3 a4 a5 a6 a7 a8 a9 : Value} {x : Int32} (h : am_lk P pc = some (.iload 10, len)) (e : pc + len = pc') (k : am_rw sL xs d P rt pc' (a0 :: a1 :: a2 :: a3 :: a4 :: a5 :: a6 :: a7 :: a8 :: a9 :: .int x :: l) (.int x :: r) M Q) : am_rw sL xs d P rt pc (a0 :: a1 :: a2 :: a3 :: a4 :: a5 :: a6 :: a7 :: a8 :: a9 :: .int x :: l) r M Q := by
  subst e
  exact am_rw_go h (fun v M' K hk => hk) k
theorem am_r_lload10 {a0 a1 a2 a3 a4 a5 a6 a7 a8 a9 : Value} {x : Int64} (h : am_lk P pc = some (.lload 10, len)) (e : pc + len = pc') (k : am_rw sL xs d P rt pc' (a0 :: a1 :: a2 :: a3 :: a4 :: a5 :: a6 :: a7 :: a8 :: a9 :: .long x :: l) (.long x :: r) M Q) : am_rw sL xs d P rt pc (a0 :: a1 :: a2 :: a3 :: a4 :: a5 :: a6 :: a7 :: a8 :: a9 :: .long x :: l) r M Q := by
  subst e
  exact am_rw_go h (fun v M' K hk => hk) k
theorem am_r_aload10 {a0 a1 a2 a3 a4 a5 a6 a7 a8 a9 : Value} {x : Nat} (h : am_lk P pc = some (.aload 10, len)) (e : pc + len = pc') (k : am_rw sL xs d P rt pc' (a0 :: a1 :: a2 :: a3 :: a4 :: a5 :: a6 :: a7 :: a8 :: a9 :: .ref x :: l) (.ref x :: r) M Q) : am_rw sL xs d P rt pc (a0 :: a1 :: a2 :: a3 :: a4 :: a5 :: a6 :: a7 :: a8 :: a9 :: .ref x :: l) r M Q := by
  subst e
  exact am_rw_go h (fun v M' K hk => hk) k
theorem am_r_iload11 {a0 a1 a2 a3 a4 a5 a6 a7 a8 a9 a10 : Value} {x : Int32} (h : am_lk P pc = some (.iload 11, len)) (e : pc + len = pc') (k : am_rw sL xs d P rt pc' (a0 :: a1 :: a2 :: a3 :: a4 :: a5 :: a6 :: a7 :: a8 :: a9 :: a10 :: .int x :: l) (.int x :: r) M Q) : am_rw sL xs d P rt pc (a0 :: a1 :: a2 :: a3 :: a4 :: a5 :: a6 :: a7 :: a8 :: a9 :: a10 :: .int x :: l) r M Q := by
  subst e
  exact am_rw_go h (fun v M' K hk => hk) k
theorem am_r_lload11 {a0 a1 a2 a3 a4 a5 a6 a7 a8 a9 a10 : Value} {x : Int64} (h : am_lk P pc = some (.lload 11, len)) (e : pc + len = pc') (k : am_rw sL xs d P rt pc' (a0 :: a1 :: a2 :: a3 :: a4 :: a5 :: a6 :: a7 :: a8 :: a9 :: a10 :: .long x :: l) (.long x :: r) M Q) : am_rw sL xs d P rt pc (a0 :: a1 :: a2 :: a3 :: a4 :: a5 :: a6 :: a7 :: a8 :: a9 :: a10 :: .long x :: l) r M Q := by
  subst e
  exact am_rw_go h (fun v M' K hk => hk) k
theorem am_r_aload11 {a0 a1 a2 a3 a4 a5 a6 a7 a8 a9 a10 : Value} {x : Nat} (h : am_lk P pc = some (.aload 11, len)) (e : pc + len = pc') (k : am_rw sL xs d P rt pc' (a0 :: a1 :: a2 :: a3 :: a4 :: a5 :: a6 :: a7 :: a8 :: a9 :: a10 :: .ref x :: l) (.ref x :: r) M Q) : am_rw sL xs d P rt pc (a0 :: a1 :: a2 :: a3 :: a4 :: a5 :: a6 :: a7 :: a8 :: a9 :: a10 :: .ref x :: l) r M Q := by
  subst e
  exact am_rw_go h (fun v M' K hk => hk) k
theorem am_r_iload12 {a0 a1 a2 a3 a4 a5 a6 a7 a8 a9 a10 a11 : Value} {x : Int32} (h : am_lk P pc = some (.iload 12, len)) (e : pc + len = pc') (k : am_rw sL xs d P rt pc' (a0 :: a1 :: a2 :: a3 :: a4 :: a5 :: a6 :: a7 :: a8 :: a9 :: a10 :: a11 :: .int x :: l) (.int x :: r) M Q) : am_rw sL xs d P rt pc (a0 :: a1 :: a2 :: a3 :: a4 :: a5 :: a6 :: a7 :: a8 :: a9 :: a10 :: a11 :: .int x :: l) r M Q := by
  subst e
  exact am_rw_go h (fun v M' K hk => hk) k
theorem am_r_lload12 {a0 a1 a2 a3 a4 a5 a6 a7 a8 a9 a10 a11 : Value} {x : Int64} (h : am_lk P pc = some (.lload 12, len)) (e : pc + len = pc') (k : am_rw sL xs d P rt pc' (a0 :: a1 :: a2 :: a3 :: a4 :: a5 :: a6 :: a7 :: a8 :: a9 :: a10 :: a11 :: .long x :: l) (.long x :: r) M Q) : am_rw sL xs d P rt pc (a0 :: a1 :: a2 :: a3 :: a4 :: a5 :: a6 :: a7 :: a8 :: a9 :: a10 :: a11 :: .long x :: l) r M Q := by
  subst e
  exact am_rw_go h (fun v M' K hk => hk) k
theorem am_r_aload12 {a0 a1 a2 a3 a4 a5 a6 a7 a8 a9 a10 a11 : Value} {x : Nat} (h : am_lk P pc = some (.aload 12, len)) (e : pc + len = pc') (k : am_rw sL xs d P rt pc' (a0 :: a1 :: a2 :: a3 :: a4 :: a5 :: a6 :: a7 :: a8 :: a9 :: a10 :: a11 :: .ref x :: l) (.ref x :: r) M Q) : am_rw sL xs d P rt pc (a0 :: a1 :: a2 :: a3 :: a4 :: a5 :: a6 :: a7 :: a8 :: a9 :: a10 :: a11 :: .ref x :: l) r M Q := by
  subst e
  exact am_rw_go h (fun v M' K hk => hk) k
theorem am_r_iload13 {a0 a1 a2 a3 a4 a5 a6 a7 a8 a9 a10 a11 a12 : Value} {x : Int32} (h : am_lk P pc = some (.iload 13, len)) (e : pc + len = pc') (k : am_rw sL xs d P rt pc' (a0 :: a1 :: a2 :: a3 :: a4 :: a5 :: a6 :: a7 :: a8 :: a9 :: a10 :: a11 :: a12 :: .int x :: l) (.int x :: r) M Q) : am_rw sL xs d P rt pc (a0 :: a1 :: a2 :: a3 :: a4 :: a5 :: a6 :: a7 :: a8 :: a9 :: a10 :: a11 :: a12 :: .int x :: l) r M Q := by
  subst e
  exact am_rw_go h (fun v M' K hk => hk) k
theorem am_r_lload13 {a0 a1 a2 a3 a4 a5 a6 a7 a8 a9 a10 a11 a12 : Value} {x : Int64} (h : am_lk P pc = some (.lload 13, len)) (e : pc + len = pc') (k : am_rw sL xs d P rt pc' (a0 :: a1 :: a2 :: a3 :: a4 :: a5 :: a6 :: a7 :: a8 :: a9 :: a10 :: a11 :: a12 :: .long x :: l) (.long x :: r) M Q) : am_rw sL xs d P rt pc (a0 :: a1 :: a2 :: a3 :: a4 :: a5 :: a6 :: a7 :: a8 :: a9 :: a10 :: a11 :: a12 :: .long x :: l) r M Q := by
  subst e
  exact am_rw_go h (fun v M' K hk => hk) k
theorem am_r_aload13 {a0 a1 a2 a3 a4 a5 a6 a7 a8 a9 a10 a11 a12 : Value} {x : Nat} (h : am_lk P pc = some (.aload 13, len)) (e : pc + len = pc') (k : am_rw sL xs d P rt pc' (a0 :: a1 :: a2 :: a3 :: a4 :: a5 :: a6 :: a7 :: a8 :: a9 :: a10 :: a11 :: a12 :: .ref x :: l) (.ref x :: r) M Q) : am_rw sL xs d P rt pc (a0 :: a1 :: a2 :: a3 :: a4 :: a5 :: a6 :: a7 :: a8 :: a9 :: a10 :: a11 :: a12 :: .ref x :: l) r M Q := by
  subst e
  exact am_rw_go h (fun v M' K hk => hk) k
theorem am_st_ne {i : Nat} {v : Value} (hv : v.category = 1) : ∀ (l : List Value) (j : Nat), i < j → am_st i v j l = l
  | [], _, _ => rfl
  | u :: l, j, h => by
    have ih : am_st i v (j + 1) l = l := am_st_ne hv l (j + 1) (by omega)
    simp only [am_st, ih]
    rw [if_neg (by omega), if_neg (by rw [hv]; omega)]
theorem am_st_ne2 {i : Nat} {v : Value} : ∀ (l : List Value) (j : Nat), i + 1 < j → am_st i v j l = l
  | [], _, _ => rfl
  | u :: l, j, h => by
    have ih : am_st i v (j + 1) l = l := am_st_ne2 l (j + 1) (by omega)
    simp only [am_st, ih]
    rw [if_neg (by omega), if_neg (by omega)]
theorem am_ss_i0 {w : Value} {x : Int32} : am_st 0 (.int x) 0 (w :: l) = .int x :: l := by
  have e := am_st_ne (i := 0) (v := .int x) rfl l 1 (by omega)
  simp only [am_st]
  simp [e, show (Value.int x).category = 1 from rfl]
theorem am_r_istore0 {w : Value} {x : Int32} (h : am_lk P pc = some (.istore 0, len)) (e : pc + len = pc') (k : am_rw sL xs d P rt pc' (.int x :: l) r M Q) : am_rw sL xs d P rt pc (w :: l) (.int x :: r) M Q := by
  subst e
  exact am_rw_go h (fun v M' K hk => ⟨by simp, by rw [am_ss_i0]; exact hk⟩) k
theorem am_ss_a0 {w : Value} {x : Nat} : am_st 0 (.ref x) 0 (w :: l) = .ref x :: l := by
  have e := am_st_ne (i := 0) (v := .ref x) rfl l 1 (by omega)
  simp only [am_st]
  simp [e, show (Value.ref x).category = 1 from rfl]
theorem am_r_astore0 {w : Value} {x : Nat} (h : am_lk P pc = some (.astore 0, len)) (e : pc + len = pc') (k : am_rw sL xs d P rt pc' (.ref x :: l) r M Q) : am_rw sL xs d P rt pc (w :: l) (.ref x :: r) M Q := by
  subst e
  exact am_rw_go h (fun v M' K hk => ⟨by simp, by rw [am_ss_a0]; exact hk⟩) k
theorem am_ss_l0 {w w2 : Value} {x : Int64} : am_st 0 (.long x) 0 (w :: w2 :: l) = .long x :: .null :: l := by
  have e := am_st_ne2 (i := 0) (v := .long x) l 2 (by omega)
  simp only [am_st]
  simp [e, show (Value.long x).category = 2 from rfl]
theorem am_r_lstore0 {w w2 : Value} {x : Int64} (h : am_lk P pc = some (.lstore 0, len)) (e : pc + len = pc') (k : am_rw sL xs d P rt pc' (.long x :: .null :: l) r M Q) : am_rw sL xs d P rt pc (w :: w2 :: l) (.long x :: r) M Q := by
  subst e
  exact am_rw_go h (fun v M' K hk => ⟨by simp, by rw [am_ss_l0]; exact hk⟩) k
theorem am_r_iinc0R {x : Int32} {n : Int} (h : am_lk P pc = some (.iinc 0 n, len)) (e : pc + len = pc') (k : am_rw sL xs d P rt pc' (.int (x + z_I n) :: l) r M Q) : am_rw sL xs d P rt pc (.int x :: l) r M Q := by
  subst e
  exact am_rw_go h (fun v M' K hk => (by have e := am_ss_i0 (w := .int x) (x := x + z_I n) (l := l); exact (show K _ (am_st 0 (.int (x + z_I n)) 0 (.int x :: l)) r M by rw [e]; exact hk))) k
theorem am_r_iinc0 {a n : Int} (h : am_lk P pc = some (.iinc 0 n, len)) (e : pc + len = pc') (k : am_rw sL xs d P rt pc' (.int (z_I (a + n)) :: l) r M Q) : am_rw sL xs d P rt pc (.int (z_I a) :: l) r M Q := by
  subst e
  exact am_rw_go h (fun v M' K hk => (by have e := am_ss_i0 (w := .int (z_I a)) (x := z_I a + z_I n) (l := l); rw [z_add] at e; exact (show K _ (am_st 0 (.int (z_I a + z_I n)) 0 (.int (z_I a) :: l)) r M by rw [z_add, e]; exact hk))) k
theorem am_ss_i1 {a0 : Value} {w : Value} {x : Int32} (hc : a0.category = 1) : am_st 1 (.int x) 0 (a0 :: w :: l) = a0 :: .int x :: l := by
  have e := am_st_ne (i := 1) (v := .int x) rfl l 2 (by omega)
  simp only [am_st]
  simp [hc, e, show (Value.int x).category = 1 from rfl]
theorem am_r_istore1 {a0 : Value} {w : Value} {x : Int32} (h : am_lk P pc = some (.istore 1, len)) (e : pc + len = pc') (hc : a0.category = 1) (k : am_rw sL xs d P rt pc' (a0 :: .int x :: l) r M Q) : am_rw sL xs d P rt pc (a0 :: w :: l) (.int x :: r) M Q := by
  subst e
  exact am_rw_go h (fun v M' K hk => ⟨by simp, by rw [am_ss_i1 hc]; exact hk⟩) k
theorem am_ss_a1 {a0 : Value} {w : Value} {x : Nat} (hc : a0.category = 1) : am_st 1 (.ref x) 0 (a0 :: w :: l) = a0 :: .ref x :: l := by
  have e := am_st_ne (i := 1) (v := .ref x) rfl l 2 (by omega)
  simp only [am_st]
  simp [hc, e, show (Value.ref x).category = 1 from rfl]
theorem am_r_astore1 {a0 : Value} {w : Value} {x : Nat} (h : am_lk P pc = some (.astore 1, len)) (e : pc + len = pc') (hc : a0.category = 1) (k : am_rw sL xs d P rt pc' (a0 :: .ref x :: l) r M Q) : am_rw sL xs d P rt pc (a0 :: w :: l) (.ref x :: r) M Q := by
  subst e
  exact am_rw_go h (fun v M' K hk => ⟨by simp, by rw [am_ss_a1 hc]; exact hk⟩) k
theorem am_ss_l1 {a0 : Value} {w w2 : Value} {x : Int64} (hc : a0.category = 1) : am_st 1 (.long x) 0 (a0 :: w :: w2 :: l) = a0 :: .long x :: .null :: l := by
  have e := am_st_ne2 (i := 1) (v := .long x) l 3 (by omega)
  simp only [am_st]
  simp [hc, e, show (Value.long x).category = 2 from rfl]
theorem am_r_lstore1 {a0 : Value} {w w2 : Value} {x : Int64} (h : am_lk P pc = some (.lstore 1, len)) (e : pc + len = pc') (hc : a0.category = 1) (k : am_rw sL xs d P rt pc' (a0 :: .long x :: .null :: l) r M Q) : am_rw sL xs d P rt pc (a0 :: w :: w2 :: l) (.long x :: r) M Q := by
  subst e
  exact am_rw_go h (fun v M' K hk => ⟨by simp, by rw [am_ss_l1 hc]; exact hk⟩) k
theorem am_r_iinc1R {a0 : Value} {x : Int32} {n : Int} (h : am_lk P pc = some (.iinc 1 n, len)) (e : pc + len = pc') (hc : a0.category = 1) (k : am_rw sL xs d P rt pc' (a0 :: .int (x + z_I n) :: l) r M Q) : am_rw sL xs d P rt pc (a0 :: .int x :: l) r M Q := by
  subst e
  exact am_rw_go h (fun v M' K hk => (by have e := am_ss_i1 (a0 := a0) (w := .int x) (x := x + z_I n) (l := l) hc; exact (show K _ (am_st 1 (.int (x + z_I n)) 0 (a0 :: .int x :: l)) r M by rw [e]; exact hk))) k
theorem am_r_iinc1 {a0 : Value} {a n : Int} (h : am_lk P pc = some (.iinc 1 n, len)) (e : pc + len = pc') (hc : a0.category = 1) (k : am_rw sL xs d P rt pc' (a0 :: .int (z_I (a + n)) :: l) r M Q) : am_rw sL xs d P rt pc (a0 :: .int (z_I a) :: l) r M Q := by
  subst e
  exact am_rw_go h (fun v M' K hk => (by have e := am_ss_i1 (a0 := a0) (w := .int (z_I a)) (x := z_I a + z_I n) (l := l) hc; rw [z_add] at e; exact (show K _ (am_st 1 (.int (z_I a + z_I n)) 0 (a0 :: .int (z_I a) :: l)) r M by rw [z_add, e]; exact hk))) k
theorem am_ss_i2 {a0 a1 : Value} {w : Value} {x : Int32} (hc : a1.category = 1) : am_st 2 (.int x) 0 (a0 :: a1 :: w :: l) = a0 :: a1 :: .int x :: l := by
  have e := am_st_ne (i := 2) (v := .int x) rfl l 3 (by omega)
  simp only [am_st]
  simp [hc, e, show (Value.int x).category = 1 from rfl]
theorem am_r_istore2 {a0 a1 : Value} {w : Value} {x : Int32} (h : am_lk P pc = some (.istore 2, len)) (e : pc + len = pc') (hc : a1.category = 1) (k : am_rw sL xs d P rt pc' (a0 :: a1 :: .int x :: l) r M Q) : am_rw sL xs d P rt pc (a0 :: a1 :: w :: l) (.int x :: r) M Q := by
  subst e
  exact am_rw_go h (fun v M' K hk => ⟨by simp, by rw [am_ss_i2 hc]; exact hk⟩) k
theorem am_ss_a2 {a0 a1 : Value} {w : Value} {x : Nat} (hc : a1.category = 1) : am_st 2 (.ref x) 0 (a0 :: a1 :: w :: l) = a0 :: a1 :: .ref x :: l := by
  have e := am_st_ne (i := 2) (v := .ref x) rfl l 3 (by omega)
  simp only [am_st]
  simp [hc, e, show (Value.ref x).category = 1 from rfl]
theorem am_r_astore2 {a0 a1 : Value} {w : Value} {x : Nat} (h : am_lk P pc = some (.astore 2, len)) (e : pc + len = pc') (hc : a1.category = 1) (k : am_rw sL xs d P rt pc' (a0 :: a1 :: .ref x :: l) r M Q) : am_rw sL xs d P rt pc (a0 :: a1 :: w :: l) (.ref x :: r) M Q := by
  subst e
  exact am_rw_go h (fun v M' K hk => ⟨by simp, by rw [am_ss_a2 hc]; exact hk⟩) k
theorem am_ss_l2 {a0 a1 : Value} {w w2 : Value} {x : Int64} (hc : a1.category = 1) : am_st 2 (.long x) 0 (a0 :: a1 :: w :: w2 :: l) = a0 :: a1 :: .long x :: .null :: l := by
  have e := am_st_ne2 (i := 2) (v := .long x) l 4 (by omega)
  simp only [am_st]
  simp [hc, e, show (Value.long x).category = 2 from rfl]
theorem am_r_lstore2 {a0 a1 : Value} {w w2 : Value} {x : Int64} (h : am_lk P pc = some (.lstore 2, len)) (e : pc + len = pc') (hc : a1.category = 1) (k : am_rw sL xs d P rt pc' (a0 :: a1 :: .long x :: .null :: l) r M Q) : am_rw sL xs d P rt pc (a0 :: a1 :: w :: w2 :: l) (.long x :: r) M Q := by
  subst e
  exact am_rw_go h (fun v M' K hk => ⟨by simp, by rw [am_ss_l2 hc]; exact hk⟩) k
theorem am_r_iinc2R {a0 a1 : Value} {x : Int32} {n : Int} (h : am_lk P pc = some (.iinc 2 n, len)) (e : pc + len = pc') (hc : a1.category = 1) (k : am_rw sL xs d P rt pc' (a0 :: a1 :: .int (x + z_I n) :: l) r M Q) : am_rw sL xs d P rt pc (a0 :: a1 :: .int x :: l) r M Q := by
  subst e
  exact am_rw_go h (fun v M' K hk => (by have e := am_ss_i2 (a0 := a0) (a1 := a1) (w := .int x) (x := x + z_I n) (l := l) hc; exact (show K _ (am_st 2 (.int (x + z_I n)) 0 (a0 :: a1 :: .int x :: l)) r M by rw [e]; exact hk))) k
theorem am_r_iinc2 {a0 a1 : Value} {a n : Int} (h : am_lk P pc = some (.iinc 2 n, len)) (e : pc + len = pc') (hc : a1.category = 1) (k : am_rw sL xs d P rt pc' (a0 :: a1 :: .int (z_I (a + n)) :: l) r M Q) : am_rw sL xs d P rt pc (a0 :: a1 :: .int (z_I a) :: l) r M Q := by
  subst e
  exact am_rw_go h (fun v M' K hk => (by have e := am_ss_i2 (a0 := a0) (a1 := a1) (w := .int (z_I a)) (x := z_I a + z_I n) (l := l) hc; rw [z_add] at e; exact (show K _ (am_st 2 (.int (z_I a + z_I n)) 0 (a0 :: a1 :: .int (z_I a) :: l)) r M by rw [z_add, e]; exact hk))) k
theorem am_ss_i3 {a0 a1 a2 : Value} {w : Value} {x : Int32} (hc : a2.category = 1) : am_st 3 (.int x) 0 (a0 :: a1 :: a2 :: w :: l) = a0 :: a1 :: a2 :: .int x :: l := by
  have e := am_st_ne (i := 3) (v := .int x) rfl l 4 (by omega)
  simp only [am_st]
  simp [hc, e, show (Value.int x).category = 1 from rfl]
theorem am_r_istore3 {a0 a1 a2 : Value} {w : Value} {x : Int32} (h : am_lk P pc = some (.istore 3, len)) (e : pc + len = pc') (hc : a2.category = 1) (k : am_rw sL xs d P rt pc' (a0 :: a1 :: a2 :: .int x :: l) r M Q) : am_rw sL xs d P rt pc (a0 :: a1 :: a2 :: w :: l) (.int x :: r) M Q := by
  subst e
  exact am_rw_go h (fun v M' K hk => ⟨by simp, by rw [am_ss_i3 hc]; exact hk⟩) k
theorem am_ss_a3 {a0 a1 a2 : Value} {w : Value} {x : Nat} (hc : a2.category = 1) : am_st 3 (.ref x) 0 (a0 :: a1 :: a2 :: w :: l) = a0 :: a1 :: a2 :: .ref x :: l := by
  have e := am_st_ne (i := 3) (v := .ref x) rfl l 4 (by omega)
  simp only [am_st]
  simp [hc, e, show (Value.ref x).category = 1 from rfl]
theorem am_r_astore3 {a0 a1 a2 : Value} {w : Value} {x : Nat} (h : am_lk P pc = some (.astore 3, len)) (e : pc + len = pc') (hc : a2.category = 1) (k : am_rw sL xs d P rt pc' (a0 :: a1 :: a2 :: .ref x :: l) r M Q) : am_rw sL xs d P rt pc (a0 :: a1 :: a2 :: w :: l) (.ref x :: r) M Q := by
  subst e
  exact am_rw_go h (fun v M' K hk => ⟨by simp, by rw [am_ss_a3 hc]; exact hk⟩) k
theorem am_ss_l3 {a0 a1 a2 : Value} {w w2 : Value} {x : Int64} (hc : a2.category = 1) : am_st 3 (.long x) 0 (a0 :: a1 :: a2 :: w :: w2 :: l) = a0 :: a1 :: a2 :: .long x :: .null :: l := by
  have e := am_st_ne2 (i := 3) (v := .long x) l 5 (by omega)
  simp only [am_st]
  simp [hc, e, show (Value.long x).category = 2 from rfl]
theorem am_r_lstore3 {a0 a1 a2 : Value} {w w2 : Value} {x : Int64} (h : am_lk P pc = some (.lstore 3, len)) (e : pc + len = pc') (hc : a2.category = 1) (k : am_rw sL xs d P rt pc' (a0 :: a1 :: a2 :: .long x :: .null :: l) r M Q) : am_rw sL xs d P rt pc (a0 :: a1 :: a2 :: w :: w2 :: l) (.long x :: r) M Q := by
  subst e
  exact am_rw_go h (fun v M' K hk => ⟨by simp, by rw [am_ss_l3 hc]; exact hk⟩) k
theorem am_r_iinc3R {a0 a1 a2 : Value} {x : Int32} {n : Int} (h : am_lk P pc = some (.iinc 3 n, len)) (e : pc + len = pc') (hc : a2.category = 1) (k : am_rw sL xs d P rt pc' (a0 :: a1 :: a2 :: .int (x + z_I n) :: l) r M Q) : am_rw sL xs d P rt pc (a0 :: a1 :: a2 :: .int x :: l) r M Q := by
  subst e
  exact am_rw_go h (fun v M' K hk => (by have e := am_ss_i3 (a0 := a0) (a1 := a1) (a2 := a2) (w := .int x) (x := x + z_I n) (l := l) hc; exact (show K _ (am_st 3 (.int (x + z_I n)) 0 (a0 :: a1 :: a2 :: .int x :: l)) r M by rw [e]; exact hk))) k
theorem am_r_iinc3 {a0 a1 a2 : Value} {a n : Int} (h : am_lk P pc = some (.iinc 3 n, len)) (e : pc + len = pc') (hc : a2.category = 1) (k : am_rw sL xs d P rt pc' (a0 :: a1 :: a2 :: .int (z_I (a + n)) :: l) r M Q) : am_rw sL xs d P rt pc (a0 :: a1 :: a2 :: .int (z_I a) :: l) r M Q := by
  subst e
  exact am_rw_go h (fun v M' K hk => (by have e := am_ss_i3 (a0 := a0) (a1 := a1) (a2 := a2) (w := .int (z_I a)) (x := z_I a + z_I n) (l := l) hc; rw [z_add] at e; exact (show K _ (am_st 3 (.int (z_I a + z_I n)) 0 (a0 :: a1 :: a2 :: .int (z_I a) :: l)) r M by rw [z_add, e]; exact hk))) k
theorem am_ss_i4 {a0 a1 a2 a3 : Value} {w : Value} {x : Int32} (hc : a3.category = 1) : am_st 4 (.int x) 0 (a0 :: a1 :: a2 :: a3 :: w :: l) = a0 :: a1 :: a2 :: a3 :: .int x :: l := by
  have e := am_st_ne (i := 4) (v := .int x) rfl l 5 (by omega)
  simp only [am_st]
  simp [hc, e, show (Value.int x).category = 1 from rfl]
theorem am_r_istore4 {a0 a1 a2 a3 : Value} {w : Value} {x : Int32} (h : am_lk P pc = some (.istore 4, len)) (e : pc + len = pc') (hc : a3.category = 1) (k : am_rw sL xs d P rt pc' (a0 :: a1 :: a2 :: a3 :: .int x :: l) r M Q) : am_rw sL xs d P rt pc (a0 :: a1 :: a2 :: a3 :: w :: l) (.int x :: r) M Q := by
  subst e
  exact am_rw_go h (fun v M' K hk => ⟨by simp, by rw [am_ss_i4 hc]; exact hk⟩) k
theorem am_ss_a4 {a0 a1 a2 a3 : Value} {w : Value} {x : Nat} (hc : a3.category = 1) : am_st 4 (.ref x) 0 (a0 :: a1 :: a2 :: a3 :: w :: l) = a0 :: a1 :: a2 :: a3 :: .ref x :: l := by
  have e := am_st_ne (i := 4) (v := .ref x) rfl l 5 (by omega)
  simp only [am_st]
  simp [hc, e, show (Value.ref x).category = 1 from rfl]
theorem am_r_astore4 {a0 a1 a2 a3 : Value} {w : Value} {x : Nat} (h : am_lk P pc = some (.astore 4, len)) (e : pc + len = pc') (hc : a3.category = 1) (k : am_rw sL xs d P rt pc' (a0 :: a1 :: a2 :: a3 :: .ref x :: l) r M Q) : am_rw sL xs d P rt pc (a0 :: a1 :: a2 :: a3 :: w :: l) (.ref x :: r) M Q := by
  subst e
  exact am_rw_go h (fun v M' K hk => ⟨by simp, by rw [am_ss_a4 hc]; exact hk⟩) k
theorem am_ss_l4 {a0 a1 a2 a3 : Value} {w w2 : Value} {x : Int64} (hc : a3.category = 1) : am_st 4 (.long x) 0 (a0 :: a1 :: a2 :: a3 :: w :: w2 :: l) = a0 :: a1 :: a2 :: a3 :: .long x :: .null :: l := by
  have e := am_st_ne2 (i := 4) (v := .long x) l 6 (by omega)
  simp only [am_st]
  simp [hc, e, show (Value.long x).category = 2 from rfl]
theorem am_r_lstore4 {a0 a1 a2 a3 : Value} {w w2 : Value} {x : Int64} (h : am_lk P pc = some (.lstore 4, len)) (e : pc + len = pc') (hc : a3.category = 1) (k : am_rw sL xs d P rt pc' (a0 :: a1 :: a2 :: a3 :: .long x :: .null :: l) r M Q) : am_rw sL xs d P rt pc (a0 :: a1 :: a2 :: a3 :: w :: w2 :: l) (.long x :: r) M Q := by
  subst e
  exact am_rw_go h (fun v M' K hk => ⟨by simp, by rw [am_ss_l4 hc]; exact hk⟩) k
theorem am_r_iinc4R {a0 a1 a2 a3 : Value} {x : Int32} {n : Int} (h : am_lk P pc = some (.iinc 4 n, len)) (e : pc + len = pc') (hc : a3.category = 1) (k : am_rw sL xs d P rt pc' (a0 :: a1 :: a2 :: a3 :: .int (x + z_I n) :: l) r M Q) : am_rw sL xs d P rt pc (a0 :: a1 :: a2 :: a3 :: .int x :: l) r M Q := by
  subst e
  exact am_rw_go h (fun v M' K hk => (by have e := am_ss_i4 (a0 := a0) (a1 := a1) (a2 := a2) (a3 := a3) (w := .int x) (x := x + z_I n) (l := l) hc; exact (show K _ (am_st 4 (.int (x + z_I n)) 0 (a0 :: a1 :: a2 :: a3 :: .int x :: l)) r M by rw [e]; exact hk))) k
theorem am_r_iinc4 {a0 a1 a2 a3 : Value} {a n : Int} (h : am_lk P pc = some (.iinc 4 n, len)) (e : pc + len = pc') (hc : a3.category = 1) (k : am_rw sL xs d P rt pc' (a0 :: a1 :: a2 :: a3 :: .int (z_I (a + n)) :: l) r M Q) : am_rw sL xs d P rt pc (a0 :: a1 :: a2 :: a3 :: .int (z_I a) :: l) r M Q := by
  subst e
  exact am_rw_go h (fun v M' K hk => (by have e := am_ss_i4 (a0 := a0) (a1 := a1) (a2 := a2) (a3 := a3) (w := .int (z_I a)) (x := z_I a + z_I n) (l := l) hc; rw [z_add] at e; exact (show K _ (am_st 4 (.int (z_I a + z_I n)) 0 (a0 :: a1 :: a2 :: a3 :: .int (z_I a) :: l)) r M by rw [z_add, e]; exact hk))) k
theorem am_ss_i5 {a0 a1 a2 a3 a4 : Value} {w : Value} {x : Int32} (hc : a4.category = 1) : am_st 5 (.int x) 0 (a0 :: a1 :: a2 :: a3 :: a4 :: w :: l) = a0 :: a1 :: a2 :: a3 :: a4 :: .int x :: l := by
  have e := am_st_ne (i := 5) (v := .int x) rfl l 6 (by omega)
  simp only [am_st]
  simp [hc, e, show (Value.int x).category = 1 from rfl]
theorem am_r_istore5 {a0 a1 a2 a3 a4 : Value} {w : Value} {x : Int32} (h : am_lk P pc = some (.istore 5, len)) (e : pc + len = pc') (hc : a4.category = 1) (k : am_rw sL xs d P rt pc' (a0 :: a1 :: a2 :: a3 :: a4 :: .int x :: l) r M Q) : am_rw sL xs d P rt pc (a0 :: a1 :: a2 :: a3 :: a4 :: w :: l) (.int x :: r) M Q := by
  subst e
  exact am_rw_go h (fun v M' K hk => ⟨by simp, by rw [am_ss_i5 hc]; exact hk⟩) k
theorem am_ss_a5 {a0 a1 a2 a3 a4 : Value} {w : Value} {x : Nat} (hc : a4.category = 1) : am_st 5 (.ref x) 0 (a0 :: a1 :: a2 :: a3 :: a4 :: w :: l) = a0 :: a1 :: a2 :: a3 :: a4 :: .ref x :: l := by
  have e := am_st_ne (i := 5) (v := .ref x) rfl l 6 (by omega)
  simp only [am_st]
  simp [hc, e, show (Value.ref x).category = 1 from rfl]
theorem am_r_astore5 {a0 a1 a2 a3 a4 : Value} {w : Value} {x : Nat} (h : am_lk P pc = some (.astore 5, len)) (e : pc + len = pc') (hc : a4.category = 1) (k : am_rw sL xs d P rt pc' (a0 :: a1 :: a2 :: a3 :: a4 :: .ref x :: l) r M Q) : am_rw sL xs d P rt pc (a0 :: a1 :: a2 :: a3 :: a4 :: w :: l) (.ref x :: r) M Q := by
  subst e
  exact am_rw_go h (fun v M' K hk => ⟨by simp, by rw [am_ss_a5 hc]; exact hk⟩) k
theorem am_ss_l5 {a0 a1 a2 a3 a4 : Value} {w w2 : Value} {x : Int64} (hc : a4.category = 1) : am_st 5 (.long x) 0 (a0 :: a1 :: a2 :: a3 :: a4 :: w :: w2 :: l) = a0 :: a1 :: a2 :: a3 :: a4 :: .long x :: .null :: l := by
  have e := am_st_ne2 (i := 5) (v := .long x) l 7 (by omega)
  simp only [am_st]
  simp [hc, e, show (Value.long x).category = 2 from rfl]
theorem am_r_lstore5 {a0 a1 a2 a3 a4 : Value} {w w2 : Value} {x : Int64} (h : am_lk P pc = some (.lstore 5, len)) (e : pc + len = pc') (hc : a4.category = 1) (k : am_rw sL xs d P rt pc' (a0 :: a1 :: a2 :: a3 :: a4 :: .long x :: .null :: l) r M Q) : am_rw sL xs d P rt pc (a0 :: a1 :: a2 :: a3 :: a4 :: w :: w2 :: l) (.long x :: r) M Q := by
  subst e
  exact am_rw_go h (fun v M' K hk => ⟨by simp, by rw [am_ss_l5 hc]; exact hk⟩) k
theorem am_r_iinc5R {a0 a1 a2 a3 a4 : Value} {x : Int32} {n : Int} (h : am_lk P pc = some (.iinc 5 n, len)) (e : pc + len = pc') (hc : a4.category = 1) (k : am_rw sL xs d P rt pc' (a0 :: a1 :: a2 :: a3 :: a4 :: .int (x + z_I n) :: l) r M Q) : am_rw sL xs d P rt pc (a0 :: a1 :: a2 :: a3 :: a4 :: .int x :: l) r M Q := by
  subst e
  exact am_rw_go h (fun v M' K hk => (by have e := am_ss_i5 (a0 := a0) (a1 := a1) (a2 := a2) (a3 := a3) (a4 := a4) (w := .int x) (x := x + z_I n) (l := l) hc; exact (show K _ (am_st 5 (.int (x + z_I n)) 0 (a0 :: a1 :: a2 :: a3 :: a4 :: .int x :: l)) r M by rw [e]; exact hk))) k
theorem am_r_iinc5 {a0 a1 a2 a3 a4 : Value} {a n : Int} (h : am_lk P pc = some (.iinc 5 n, len)) (e : pc + len = pc') (hc : a4.category = 1) (k : am_rw sL xs d P rt pc' (a0 :: a1 :: a2 :: a3 :: a4 :: .int (z_I (a + n)) :: l) r M Q) : am_rw sL xs d P rt pc (a0 :: a1 :: a2 :: a3 :: a4 :: .int (z_I a) :: l) r M Q := by
  subst e
  exact am_rw_go h (fun v M' K hk => (by have e := am_ss_i5 (a0 := a0) (a1 := a1) (a2 := a2) (a3 := a3) (a4 := a4) (w := .int (z_I a)) (x := z_I a + z_I n) (l := l) hc; rw [z_add] at e; exact (show K _ (am_st 5 (.int (z_I a + z_I n)) 0 (a0 :: a1 :: a2 :: a3 :: a4 :: .int (z_I a) :: l)) r M by rw [z_add, e]; exact hk))) k
theorem am_ss_i6 {a0 a1 a2 a3 a4 a5 : Value} {w : Value} {x : Int32} (hc : a5.category = 1) : am_st 6 (.int x) 0 (a0 :: a1 :: a2 :: a3 :: a4 :: a5 :: w :: l) = a0 :: a1 :: a2 :: a3 :: a4 :: a5 :: .int x :: l := by
  have e := am_st_ne (i := 6) (v := .int x) rfl l 7 (by omega)
  simp only [am_st]
  simp [hc, e, show (Value.int x).category = 1 from rfl]
theorem am_r_istore6 {a0 a1 a2 a3 a4 a5 : Value} {w : Value} {x : Int32} (h : am_lk P pc = some (.istore 6, len)) (e : pc + len = pc') (hc : a5.category = 1) (k : am_rw sL xs d P rt pc' (a0 :: a1 :: a2 :: a3 :: a4 :: a5 :: .int x :: l) r M Q) : am_rw sL xs d P rt pc (a0 :: a1 :: a2 :: a3 :: a4 :: a5 :: w :: l) (.int x :: r) M Q := by
  subst e
  exact am_rw_go h (fun v M' K hk => ⟨by simp, by rw [am_ss_i6 hc]; exact hk⟩) k
theorem am_ss_a6 {a0 a1 a2 a3 a4 a5 : Value} {w : Value} {x : Nat} (hc : a5.category = 1) : am_st 6 (.ref x) 0 (a0 :: a1 :: a2 :: a3 :: a4 :: a5 :: w :: l) = a0 :: a1 :: a2 :: a3 :: a4 :: a5 :: .ref x :: l := by
  have e := am_st_ne (i := 6) (v := .ref x) rfl l 7 (by omega)
  simp only [am_st]
  simp [hc, e, show (Value.ref x).category = 1 from rfl]
theorem am_r_astore6 {a0 a1 a2 a3 a4 a5 : Value} {w : Value} {x : Nat} (h : am_lk P pc = some (.astore 6, len)) (e : pc + len = pc') (hc : a5.category = 1) (k : am_rw sL xs d P rt pc' (a0 :: a1 :: a2 :: a3 :: a4 :: a5 :: .ref x :: l) r M Q) : am_rw sL xs d P rt pc (a0 :: a1 :: a2 :: a3 :: a4 :: a5 :: w :: l) (.ref x :: r) M Q := by
  subst e
  exact am_rw_go h (fun v M' K hk => ⟨by simp, by rw [am_ss_a6 hc]; exact hk⟩) k
theorem am_ss_l6 {a0 a1 a2 a3 a4 a5 : Value} {w w2 : Value} {x : Int64} (hc : a5.category = 1) : am_st 6 (.long x) 0 (a0 :: a1 :: a2 :: a3 :: a4 :: a5 :: w :: w2 :: l) = a0 :: a1 :: a2 :: a3 :: a4 :: a5 :: .long x :: .null :: l := by
  have e := am_st_ne2 (i := 6) (v := .long x) l 8 (by omega)
  simp only [am_st]
  simp [hc, e, show (Value.long x).category = 2 from rfl]
theorem am_r_lstore6 {a0 a1 a2 a3 a4 a5 : Value} {w w2 : Value} {x : Int64} (h : am_lk P pc = some (.lstore 6, len)) (e : pc + len = pc') (hc : a5.category = 1) (k : am_rw sL xs d P rt pc' (a0 :: a1 :: a2 :: a3 :: a4 :: a5 :: .long x :: .null :: l) r M Q) : am_rw sL xs d P rt pc (a0 :: a1 :: a2 :: a3 :: a4 :: a5 :: w :: w2 :: l) (.long x :: r) M Q := by
  subst e
  exact am_rw_go h (fun v M' K hk => ⟨by simp, by rw [am_ss_l6 hc]; exact hk⟩) k
theorem am_r_iinc6R {a0 a1 a2 a3 a4 a5 : Value} {x : Int32} {n : Int} (h : am_lk P pc = some (.iinc 6 n, len)) (e : pc + len = pc') (hc : a5.category = 1) (k : am_rw sL xs d P rt pc' (a0 :: a1 :: a2 :: a3 :: a4 :: a5 :: .int (x + z_I n) :: l) r M Q) : am_rw sL xs d P rt pc (a0 :: a1 :: a2 :: a3 :: a4 :: a5 :: .int x :: l) r M Q := by
  subst e
  exact am_rw_go h (fun v M' K hk => (by have e := am_ss_i6 (a0 := a0) (a1 := a1) (a2 := a2) (a3 := a3) (a4 := a4) (a5 := a5) (w := .int x) (x := x + z_I n) (l := l) hc; exact (show K _ (am_st 6 (.int (x + z_I n)) 0 (a0 :: a1 :: a2 :: a3 :: a4 :: a5 :: .int x :: l)) r M by rw [e]; exact hk))) k
theorem am_r_iinc6 {a0 a1 a2 a3 a4 a5 : Value} {a n : Int} (h : am_lk P pc = some (.iinc 6 n, len)) (e : pc + len = pc') (hc : a5.category = 1) (k : am_rw sL xs d P rt pc' (a0 :: a1 :: a2 :: a3 :: a4 :: a5 :: .int (z_I (a + n)) :: l) r M Q) : am_rw sL xs d P rt pc (a0 :: a1 :: a2 :: a3 :: a4 :: a5 :: .int (z_I a) :: l) r M Q := by
  subst e
  exact am_rw_go h (fun v M' K hk => (by have e := am_ss_i6 (a0 := a0) (a1 := a1) (a2 := a2) (a3 := a3) (a4 := a4) (a5 := a5) (w := .int (z_I a)) (x := z_I a + z_I n) (l := l) hc; rw [z_add] at e; exact (show K _ (am_st 6 (.int (z_I a + z_I n)) 0 (a0 :: a1 :: a2 :: a3 :: a4 :: a5 :: .int (z_I a) :: l)) r M by rw [z_add, e]; exact hk))) k
theorem am_ss_i7 {a0 a1 a2 a3 a4 a5 a6 : Value} {w : Value} {x : Int32} (hc : a6.category = 1) : am_st 7 (.int x) 0 (a0 :: a1 :: a2 :: a3 :: a4 :: a5 :: a6 :: w :: l) = a0 :: a1 :: a2 :: a3 :: a4 :: a5 :: a6 :: .int x :: l := by
  have e := am_st_ne (i := 7) (v := .int x) rfl l 8 (by omega)
  simp only [am_st]
  simp [hc, e, show (Value.int x).category = 1 from rfl]
theorem am_r_istore7 {a0 a1 a2 a3 a4 a5 a6 : Value} {w : Value} {x : Int32} (h : am_lk P pc = some (.istore 7, len)) (e : pc + len = pc') (hc : a6.category = 1) (k : am_rw sL xs d P rt pc' (a0 :: a1 :: a2 :: a3 :: a4 :: a5 :: a6 :: .int x :: l) r M Q) : am_rw sL xs d P rt pc (a0 :: a1 :: a2 :: a3 :: a4 :: a5 :: a6 :: w :: l) (.int x :: r) M Q := by
  subst e
  exact am_rw_go h (fun v M' K hk => ⟨by simp, by rw [am_ss_i7 hc]; exact hk⟩) k
theorem am_ss_a7 {a0 a1 a2 a3 a4 a5 a6 : Value} {w : Value} {x : Nat} (hc : a6.category = 1) : am_st 7 (.ref x) 0 (a0 :: a1 :: a2 :: a3 :: a4 :: a5 :: a6 :: w :: l) = a0 :: a1 :: a2 :: a3 :: a4 :: a5 :: a6 :: .ref x :: l := by
  have e := am_st_ne (i := 7) (v := .ref x) rfl l 8 (by omega)
  simp only [am_st]
  simp [hc, e, show (Value.ref x).category = 1 from rfl]
theorem am_r_astore7 {a0 a1 a2 a3 a4 a5 a6 : Value} {w : Value} {x : Nat} (h : am_lk P pc = some (.astore 7, len)) (e : pc + len = pc') (hc : a6.category = 1) (k : am_rw sL xs d P rt pc' (a0 :: a1 :: a2 :: a3 :: a4 :: a5 :: a6 :: .ref x :: l) r M Q) : am_rw sL xs d P rt pc (a0 :: a1 :: a2 :: a3 :: a4 :: a5 :: a6 :: w :: l) (.ref x :: r) M Q := by
  subst e
  exact am_rw_go h (fun v M' K hk => ⟨by simp, by rw [am_ss_a7 hc]; exact hk⟩) k
theorem am_ss_l7 {a0 a1 a2 a3 a4 a5 a6 : Value} {w w2 : Value} {x : Int64} (hc : a6.category = 1) : am_st 7 (.long x) 0 (a0 :: a1 :: a2 :: a3 :: a4 :: a5 :: a6 :: w :: w2 :: l) = a0 :: a1 :: a2 :: a3 :: a4 :: a5 :: a6 :: .long x :: .null :: l := by
  have e := am_st_ne2 (i := 7) (v := .long x) l 9 (by omega)
  simp only [am_st]
  simp [hc, e, show (Value.long x).category = 2 from rfl]
theorem am_r_lstore7 {a0 a1 a2 a3 a4 a5 a6 : Value} {w w2 : Value} {x : Int64} (h : am_lk P pc = some (.lstore 7, len)) (e : pc + len = pc') (hc : a6.category = 1) (k : am_rw sL xs d P rt pc' (a0 :: a1 :: a2 :: a3 :: a4 :: a5 :: a6 :: .long x :: .null :: l) r M Q) : am_rw sL xs d P rt pc (a0 :: a1 :: a2 :: a3 :: a4 :: a5 :: a6 :: w :: w2 :: l) (.long x :: r) M Q := by
  subst e
  exact am_rw_go h (fun v M' K hk => ⟨by simp, by rw [am_ss_l7 hc]; exact hk⟩) k
theorem am_r_iinc7R {a0 a1 a2 a3 a4 a5 a6 : Value} {x : Int32} {n : Int} (h : am_lk P pc = some (.iinc 7 n, len)) (e : pc + len = pc') (hc : a6.category = 1) (k : am_rw sL xs d P rt pc' (a0 :: a1 :: a2 :: a3 :: a4 :: a5 :: a6 :: .int (x + z_I n) :: l) r M Q) : am_rw sL xs d P rt pc (a0 :: a1 :: a2 :: a3 :: a4 :: a5 :: a6 :: .int x :: l) r M Q := by
  subst e
  exact am_rw_go h (fun v M' K hk => (by have e := am_ss_i7 (a0 := a0) (a1 := a1) (a2 := a2) (a3 := a3) (a4 := a4) (a5 := a5) (a6 := a6) (w := .int x) (x := x + z_I n) (l := l) hc; exact (show K _ (am_st 7 (.int (x + z_I n)) 0 (a0 :: a1 :: a2 :: a3 :: a4 :: a5 :: a6 :: .int x :: l)) r M by rw [e]; exact hk))) k
theorem am_r_iinc7 {a0 a1 a2 a3 a4 a5 a6 : Value} {a n : Int} (h : am_lk P pc = some (.iinc 7 n, len)) (e : pc + len = pc') (hc : a6.category = 1) (k : am_rw sL xs d P rt pc' (a0 :: a1 :: a2 :: a3 :: a4 :: a5 :: a6 :: .int (z_I (a + n)) :: l) r M Q) : am_rw sL xs d P rt pc (a0 :: a1 :: a2 :: a3 :: a4 :: a5 :: a6 :: .int (z_I a) :: l) r M Q := by
  subst e
  exact am_rw_go h (fun v M' K hk => (by have e := am_ss_i7 (a0 := a0) (a1 := a1) (a2 := a2) (a3 := a3) (a4 := a4) (a5 := a5) (a6 := a6) (w := .int (z_I a)) (x := z_I a + z_I n) (l := l) hc; rw [z_add] at e; exact (show K _ (am_st 7 (.int (z_I a + z_I n)) 0 (a0 :: a1 :: a2 :: a3 :: a4 :: a5 :: a6 :: .int (z_I a) :: l)) r M by rw [z_add, e]; exact hk))) k
theorem am_ss_i8 {a0 a1 a2 a3 a4 a5 a6 a7 : Value} {w : Value} {x : Int32} (hc : a7.category = 1) : am_st 8 (.int x) 0 (a0 :: a1 :: a2 :: a3 :: a4 :: a5 :: a6 :: a7 :: w :: l) = a0 :: a1 :: a2 :: a3 :: a4 :: a5 :: a6 :: a7 :: .int x :: l := by
  have e := am_st_ne (i := 8) (v := .int x) rfl l 9 (by omega)
  simp only [am_st]
  simp [hc, e, show (Value.int x).category = 1 from rfl]
theorem am_r_istore8 {a0 a1 a2 a3 a4 a5 a6 a7 : Value} {w : Value} {x : Int32} (h : am_lk P pc = some (.istore 8, len)) (e : pc + len = pc') (hc : a7.category = 1) (k : am_rw sL xs d P rt pc' (a0 :: a1 :: a2 :: a3 :: a4 :: a5 :: a6 :: a7 :: .int x :: l) r M Q) : am_rw sL xs d P rt pc (a0 :: a1 :: a2 :: a3 :: a4 :: a5 :: a6 :: a7 :: w :: l) (.int x :: r) M Q := by
  subst e
  exact am_rw_go h (fun v M' K hk => ⟨by simp, by rw [am_ss_i8 hc]; exact hk⟩) k
theorem am_ss_a8 {a0 a1 a2 a3 a4 a5 a6 a7 : Value} {w : Value} {x : Nat} (hc : a7.category = 1) : am_st 8 (.ref x) 0 (a0 :: a1 :: a2 :: a3 :: a4 :: a5 :: a6 :: a7 :: w :: l) = a0 :: a1 :: a2 :: a3 :: a4 :: a5 :: a6 :: a7 :: .ref x :: l := by
  have e := am_st_ne (i := 8) (v := .ref x) rfl l 9 (by omega)
  simp only [am_st]
  simp [hc, e, show (Value.ref x).category = 1 from rfl]
theorem am_r_astore8 {a0 a1 a2 a3 a4 a5 a6 a7 : Value} {w : Value} {x : Nat} (h : am_lk P pc = some (.astore 8, len)) (e : pc + len = pc') (hc : a7.category = 1) (k : am_rw sL xs d P rt pc' (a0 :: a1 :: a2 :: a3 :: a4 :: a5 :: a6 :: a7 :: .ref x :: l) r M Q) : am_rw sL xs d P rt pc (a0 :: a1 :: a2 :: a3 :: a4 :: a5 :: a6 :: a7 :: w :: l) (.ref x :: r) M Q := by
  subst e
  exact am_rw_go h (fun v M' K hk => ⟨by simp, by rw [am_ss_a8 hc]; exact hk⟩) k
theorem am_ss_l8 {a0 a1 a2 a3 a4 a5 a6 a7 : Value} {w w2 : Value} {x : Int64} (hc : a7.category = 1) : am_st 8 (.long x) 0 (a0 :: a1 :: a2 :: a3 :: a4 :: a5 :: a6 :: a7 :: w :: w2 :: l) = a0 :: a1 :: a2 :: a3 :: a4 :: a5 :: a6 :: a7 :: .long x :: .null :: l := by
  have e := am_st_ne2 (i := 8) (v := .long x) l 10 (by omega)
  simp only [am_st]
  simp [hc, e, show (Value.long x).category = 2 from rfl]
theorem am_r_lstore8 {a0 a1 a2 a3 a4 a5 a6 a7 : Value} {w w2 : Value} {x : Int64} (h : am_lk P pc = some (.lstore 8, len)) (e : pc + len = pc') (hc : a7.category = 1) (k : am_rw sL xs d P rt pc' (a0 :: a1 :: a2 :: a3 :: a4 :: a5 :: a6 :: a7 :: .long x :: .null :: l) r M Q) : am_rw sL xs d P rt pc (a0 :: a1 :: a2 :: a3 :: a4 :: a5 :: a6 :: a7 :: w :: w2 :: l) (.long x :: r) M Q := by
  subst e
  exact am_rw_go h (fun v M' K hk => ⟨by simp, by rw [am_ss_l8 hc]; exact hk⟩) k
theorem am_r_iinc8R {a0 a1 a2 a3 a4 a5 a6 a7 : Value} {x : Int32} {n : Int} (h : am_lk P pc = some (.iinc 8 n, len)) (e : pc + len = pc') (hc : a7.category = 1) (k : am_rw sL xs d P rt pc' (a0 :: a1 :: a2 :: a3 :: a4 :: a5 :: a6 :: a7 :: .int (x + z_I n) :: l) r M Q) : am_rw sL xs d P rt pc (a0 :: a1 :: a2 :: a3 :: a4 :: a5 :: a6 :: a7 :: .int x :: l) r M Q := by
  subst e
  exact am_rw_go h (fun v M' K hk => (by have e := am_ss_i8 (a0 := a0) (a1 := a1) (a2 := a2) (a3 := a3) (a4 := a4) (a5 := a5) (a6 := a6) (a7 := a7) (w := .int x) (x := x + z_I n) (l := l) hc; exact (show K _ (am_st 8 (.int (x + z_I n)) 0 (a0 :: a1 :: a2 :: a3 :: a4 :: a5 :: a6 :: a7 :: .int x :: l)) r M by rw [e]; exact hk))) k
theorem am_r_iinc8 {a0 a1 a2 a3 a4 a5 a6 a7 : Value} {a n : Int} (h : am_lk P pc = some (.iinc 8 n, len)) (e : pc + len = pc') (hc : a7.category = 1) (k : am_rw sL xs d P rt pc' (a0 :: a1 :: a2 :: a3 :: a4 :: a5 :: a6 :: a7 :: .int (z_I (a + n)) :: l) r M Q) : am_rw sL xs d P rt pc (a0 :: a1 :: a2 :: a3 :: a4 :: a5 :: a6 :: a7 :: .int (z_I a) :: l) r M Q := by
  subst e
  exact am_rw_go h (fun v M' K hk => (by have e := am_ss_i8 (a0 := a0) (a1 := a1) (a2 := a2) (a3 := a3) (a4 := a4) (a5 := a5) (a6 := a6) (a7 := a7) (w := .int (z_I a)) (x := z_I a + z_I n) (l := l) hc; rw [z_add] at e; exact (show K _ (am_st 8 (.int (z_I a + z_I n)) 0 (a0 :: a1 :: a2 :: a3 :: a4 :: a5 :: a6 :: a7 :: .int (z_I a) :: l)) r M by rw [z_add, e]; exact hk))) k
theorem am_ss_i9 {a0 a1 a2 a3 a4 a5 a6 a7 a8 : Value} {w : Value} {x : Int32} (hc : a8.category = 1) : am_st 9 (.int x) 0 (a0 :: a1 :: a2 :: a3 :: a4 :: a5 :: a6 :: a7 :: a8 :: w :: l) = a0 :: a1 :: a2 :: a3 :: a4 :: a5 :: a6 :: a7 :: a8 :: .int x :: l := by
  have e := am_st_ne (i := 9) (v := .int x) rfl l 10 (by omega)
  simp only [am_st]
  simp [hc, e, show (Value.int x).category = 1 from rfl]
theorem am_r_istore9 {a0 a1 a2 a3 a4 a5 a6 a7 a8 : Value} {w : Value} {x : Int32} (h : am_lk P pc = some (.istore 9, len)) (e : pc + len = pc') (hc : a8.category = 1) (k : am_rw sL xs d P rt pc' (a0 :: a1 :: a2 :: a3 :: a4 :: a5 :: a6 :: a7 :: a8 :: .int x :: l) r M Q) : am_rw sL xs d P rt pc (a0 :: a1 :: a2 :: a3 :: a4 :: a5 :: a6 :: a7 :: a8 :: w :: l) (.int x :: r) M Q := by
  subst e
  exact am_rw_go h (fun v M' K hk => ⟨by simp, by rw [am_ss_i9 hc]; exact hk⟩) k
theorem am_ss_a9 {a0 a1 a2 a3 a4 a5 a6 a7 a8 : Value} {w : Value} {x : Nat} (hc : a8.category = 1) : am_st 9 (.ref x) 0 (a0 :: a1 :: a2 :: a3 :: a4 :: a5 :: a6 :: a7 :: a8 :: w :: l) = a0 :: a1 :: a2 :: a3 :: a4 :: a5 :: a6 :: a7 :: a8 :: .ref x :: l := by
  have e := am_st_ne (i := 9) (v := .ref x) rfl l 10 (by omega)
  simp only [am_st]
  simp [hc, e, show (Value.ref x).category = 1 from rfl]
theorem am_r_astore9 {a0 a1 a2 a3 a4 a5 a6 a7 a8 : Value} {w : Value} {x : Nat} (h : am_lk P pc = some (.astore 9, len)) (e : pc + len = pc') (hc : a8.category = 1) (k : am_rw sL xs d P rt pc' (a0 :: a1 :: a2 :: a3 :: a4 :: a5 :: a6 :: a7 :: a8 :: .ref x :: l) r M Q) : am_rw sL xs d P rt pc (a0 :: a1 :: a2 :: a3 :: a4 :: a5 :: a6 :: a7 :: a8 :: w :: l) (.ref x :: r) M Q := by
  subst e
  exact am_rw_go h (fun v M' K hk => ⟨by simp, by rw [am_ss_a9 hc]; exact hk⟩) k
theorem am_ss_l9 {a0 a1 a2 a3 a4 a5 a6 a7 a8 : Value} {w w2 : Value} {x : Int64} (hc : a8.category = 1) : am_st 9 (.long x) 0 (a0 :: a1 :: a2 :: a3 :: a4 :: a5 :: a6 :: a7 :: a8 :: w :: w2 :: l) = a0 :: a1 :: a2 :: a3 :: a4 :: a5 :: a6 :: a7 :: a8 :: .long x :: .null :: l := by
  have e := am_st_ne2 (i := 9) (v := .long x) l 11 (by omega)
  simp only [am_st]
  simp [hc, e, show (Value.long x).category = 2 from rfl]
theorem am_r_lstore9 {a0 a1 a2 a3 a4 a5 a6 a7 a8 : Value} {w w2 : Value} {x : Int64} (h : am_lk P pc = some (.lstore 9, len)) (e : pc + len = pc') (hc : a8.category = 1) (k : am_rw sL xs d P rt pc' (a0 :: a1 :: a2 :: a3 :: a4 :: a5 :: a6 :: a7 :: a8 :: .long x :: .null :: l) r M Q) : am_rw sL xs d P rt pc (a0 :: a1 :: a2 :: a3 :: a4 :: a5 :: a6 :: a7 :: a8 :: w :: w2 :: l) (.long x :: r) M Q := by
  subst e
  exact am_rw_go h (fun v M' K hk => ⟨by simp, by rw [am_ss_l9 hc]; exact hk⟩) k
theorem am_r_iinc9R {a0 a1 a2 a3 a4 a5 a6 a7 a8 : Value} {x : Int32} {n : Int} (h : am_lk P pc = some (.iinc 9 n, len)) (e : pc + len = pc') (hc : a8.category = 1) (k : am_rw sL xs d P rt pc' (a0 :: a1 :: a2 :: a3 :: a4 :: a5 :: a6 :: a7 :: a8 :: .int (x + z_I n) :: l) r M Q) : am_rw sL xs d P rt pc (a0 :: a1 :: a2 :: a3 :: a4 :: a5 :: a6 :: a7 :: a8 :: .int x :: l) r M Q := by
  subst e
  exact am_rw_go h (fun v M' K hk => (by have e := am_ss_i9 (a0 := a0) (a1 := a1) (a2 := a2) (a3 := a3) (a4 := a4) (a5 := a5) (a6 := a6) (a7 := a7) (a8 := a8) (w := .int x) (x := x + z_I n) (l := l) hc; exact (show K _ (am_st 9 (.int (x + z_I n)) 0 (a0 :: a1 :: a2 :: a3 :: a4 :: a5 :: a6 :: a7 :: a8 :: .int x :: l)) r M by rw [e]; exact hk))) k
theorem am_r_iinc9 {a0 a1 a2 a3 a4 a5 a6 a7 a8 : Value} {a n : Int} (h : am_lk P pc = some (.iinc 9 n, len)) (e : pc + len = pc') (hc : a8.category = 1) (k : am_rw sL xs d P rt pc' (a0 :: a1 :: a2 :: a3 :: a4 :: a5 :: a6 :: a7 :: a8 :: .int (z_I (a + n)) :: l) r M Q) : am_rw sL xs d P rt pc (a0 :: a1 :: a2 :: a3 :: a4 :: a5 :: a6 :: a7 :: a8 :: .int (z_I a) :: l) r M Q := by
  subst e
  exact am_rw_go h (fun v M' K hk => (by have e := am_ss_i9 (a0 := a0) (a1 := a1) (a2 := a2) (a3 := a3) (a4 := a4) (a5 := a5) (a6 := a6) (a7 := a7) (a8 := a8) (w := .int (z_I a)) (x := z_I a + z_I n) (l := l) hc; rw [z_add] at e; exact (show K _ (am_st 9 (.int (z_I a + z_I n)) 0 (a0 :: a1 :: a2 :: a3 :: a4 :: a5 :: a6 :: a7 :: a8 :: .int (z_I a) :: l)) r M by rw [z_add, e]; exact hk))) k
theorem am_ss_i10 {a0 a1 a2 a3 a4 a5 a6 a7 a8 a9 : Value} {w : Value} {x : Int32} (hc : a9.category = 1) : am_st 10 (.int x) 0 (a0 :: a1 :: a2 :: a3 :: a4 :: a5 :: a6 :: a7 :: a8 :: a9 :: w :: l) = a0 :: a1 :: a2 :: a3 :: a4 :: a5 :: a6 :: a7 :: a8 :: a9 :: .int x :: l := by
  have e := am_st_ne (i := 10) (v := .int x) rfl l 11 (by omega)
  simp only [am_st]
  simp [hc, e, show (Value.int x).category = 1 from rfl]
theorem am_r_istore10 {a0 a1 a2 a3 a4 a5 a6 a7 a8 a9 : Value} {w : Value} {x : Int32} (h : am_lk P pc = some (.istore 10, len)) (e : pc + len = pc') (hc : a9.category = 1) (k : am_rw sL xs d P rt pc' (a0 :: a1 :: a2 :: a3 :: a4 :: a5 :: a6 :: a7 :: a8 :: a9 :: .int x :: l) r M Q) : am_rw sL xs d P rt pc (a0 :: a1 :: a2 :: a3 :: a4 :: a5 :: a6 :: a7 :: a8 :: a9 :: w :: l) (.int x :: r) M Q := by
  subst e
  exact am_rw_go h (fun v M' K hk => ⟨by simp, by rw [am_ss_i10 hc]; exact hk⟩) k
theorem am_ss_a10 {a0 a1 a2 a3 a4 a5 a6 a7 a8 a9 : Value} {w : Value} {x : Nat} (hc : a9.category = 1) : am_st 10 (.ref x) 0 (a0 :: a1 :: a2 :: a3 :: a4 :: a5 :: a6 :: a7 :: a8 :: a9 :: w :: l) = a0 :: a1 :: a2 :: a3 :: a4 :: a5 :: a6 :: a7 :: a8 :: a9 :: .ref x :: l := by
  have e := am_st_ne (i := 10) (v := .ref x) rfl l 11 (by omega)
  simp only [am_st]
  simp [hc, e, show (Value.ref x).category = 1 from rfl]
theorem am_r_astore10 {a0 a1 a2 a3 a4 a5 a6 a7 a8 a9 : Value} {w : Value} {x : Nat} (h : am_lk P pc = some (.astore 10, len)) (e : pc + len = pc') (hc : a9.category = 1) (k : am_rw sL xs d P rt pc' (a0 :: a1 :: a2 :: a3 :: a4 :: a5 :: a6 :: a7 :: a8 :: a9 :: .ref x :: l) r M Q) : am_rw sL xs d P rt pc (a0 :: a1 :: a2 :: a3 :: a4 :: a5 :: a6 :: a7 :: a8 :: a9 :: w :: l) (.ref x :: r) M Q := by
  subst e
  exact am_rw_go h (fun v M' K hk => ⟨by simp, by rw [am_ss_a10 hc]; exact hk⟩) k
theorem am_ss_l10 {a0 a1 a2 a3 a4 a5 a6 a7 a8 a9 : Value} {w w2 : Value} {x : Int64} (hc : a9.category = 1) : am_st 10 (.long x) 0 (a0 :: a1 :: a2 :: a3 :: a4 :: a5 :: a6 :: a7 :: a8 :: a9 :: w :: w2 :: l) = a0 :: a1 :: a2 :: a3 :: a4 :: a5 :: a6 :: a7 :: a8 :: a9 :: .long x :: .null :: l := by
  have e := am_st_ne2 (i := 10) (v := .long x) l 12 (by omega)
  simp only [am_st]
  simp [hc, e, show (Value.long x).category = 2 from rfl]
theorem am_r_lstore10 {a0 a1 a2 a3 a4 a5 a6 a7 a8 a9 : Value} {w w2 : Value} {x : Int64} (h : am_lk P pc = some (.lstore 10, len)) (e : pc + len = pc') (hc : a9.category = 1) (k : am_rw sL xs d P rt pc' (a0 :: a1 :: a2 :: a3 :: a4 :: a5 :: a6 :: a7 :: a8 :: a9 :: .long x :: .null :: l) r M Q) : am_rw sL xs d P rt pc (a0 :: a1 :: a2 :: a3 :: a4 :: a5 :: a6 :: a7 :: a8 :: a9 :: w :: w2 :: l) (.long x :: r) M Q := by
  subst e
  exact am_rw_go h (fun v M' K hk => ⟨by simp, by rw [am_ss_l10 hc]; exact hk⟩) k
theorem am_r_iinc10R {a0 a1 a2 a3 a4 a5 a6 a7 a8 a9 : Value} {x : Int32} {n : Int} (h : am_lk P pc = some (.iinc 10 n, len)) (e : pc + len = pc') (hc : a9.category = 1) (k : am_rw sL xs d P rt pc' (a0 :: a1 :: a2 :: a3 :: a4 :: a5 :: a6 :: a7 :: a8 :: a9 :: .int (x + z_I n) :: l) r M Q) : am_rw sL xs d P rt pc (a0 :: a1 :: a2 :: a3 :: a4 :: a5 :: a6 :: a7 :: a8 :: a9 :: .int x :: l) r M Q := by
  subst e
  exact am_rw_go h (fun v M' K hk => (by have e := am_ss_i10 (a0 := a0) (a1 := a1) (a2 := a2) (a3 := a3) (a4 := a4) (a5 := a5) (a6 := a6) (a7 := a7) (a8 := a8) (a9 := a9) (w := .int x) (x := x + z_I n) (l := l) hc; exact (show K _ (am_st 10 (.int (x + z_I n)) 0 (a0 :: a1 :: a2 :: a3 :: a4 :: a5 :: a6 :: a7 :: a8 :: a9 :: .int x :: l)) r M by rw [e]; exact hk))) k
theorem am_r_iinc10 {a0 a1 a2 a3 a4 a5 a6 a7 a8 a9 : Value} {a n : Int} (h : am_lk P pc = some (.iinc 10 n, len)) (e : pc + len = pc') (hc : a9.category = 1) (k : am_rw sL xs d P rt pc' (a0 :: a1 :: a2 :: a3 :: a4 :: a5 :: a6 :: a7 :: a8 :: a9 :: .int (z_I (a + n)) :: l) r M Q) : am_rw sL xs d P rt pc (a0 :: a1 :: a2 :: a3 :: a4 :: a5 :: a6 :: a7 :: a8 :: a9 :: .int (z_I a) :: l) r M Q := by
  subst e
  exact am_rw_go h (fun v M' K hk => (by have e := am_ss_i10 (a0 := a0) (a1 := a1) (a2 := a2) (a3 := a3) (a4 := a4) (a5 := a5) (a6 := a6) (a7 := a7) (a8 := a8) (a9 := a9) (w := .int (z_I a)) (x := z_I a + z_I n) (l := l) hc; rw [z_add] at e; exact (show K _ (am_st 10 (.int (z_I a + z_I n)) 0 (a0 :: a1 :: a2 :: a3 :: a4 :: a5 :: a6 :: a7 :: a8 :: a9 :: .int (z_I a) :: l)) r M by rw [z_add, e]; exact hk))) k
theorem am_ss_i11 {a0 a1 a2 a3 a4 a5 a6 a7 a8 a9 a10 : Value} {w : Value} {x : Int32} (hc : a10.category = 1) : am_st 11 (.int x) 0 (a0 :: a1 :: a2 :: a3 :: a4 :: a5 :: a6 :: a7 :: a8 :: a9 :: a10 :: w :: l) = a0 :: a1 :: a2 :: a3 :: a4 :: a5 :: a6 :: a7 :: a8 :: a9 :: a10 :: .int x :: l := by
  have e := am_st_ne (i := 11) (v := .int x) rfl l 12 (by omega)
  simp only [am_st]
  simp [hc, e, show (Value.int x).category = 1 from rfl]
theorem am_r_istore11 {a0 a1 a2 a3 a4 a5 a6 a7 a8 a9 a10 : Value} {w : Value} {x : Int32} (h : am_lk P pc = some (.istore 11, len)) (e : pc + len = pc') (hc : a10.category = 1) (k : am_rw sL xs d P rt pc' (a0 :: a1 :: a2 :: a3 :: a4 :: a5 :: a6 :: a7 :: a8 :: a9 :: a10 :: .int x :: l) r M Q) : am_rw sL xs d P rt pc (a0 :: a1 :: a2 :: a3 :: a4 :: a5 :: a6 :: a7 :: a8 :: a9 :: a10 :: w :: l) (.int x :: r) M Q := by
  subst e
  exact am_rw_go h (fun v M' K hk => ⟨by simp, by rw [am_ss_i11 hc]; exact hk⟩) k
theorem am_ss_a11 {a0 a1 a2 a3 a4 a5 a6 a7 a8 a9 a10 : Value} {w : Value} {x : Nat} (hc : a10.category = 1) : am_st 11 (.ref x) 0 (a0 :: a1 :: a2 :: a3 :: a4 :: a5 :: a6 :: a7 :: a8 :: a9 :: a10 :: w :: l) = a0 :: a1 :: a2 :: a3 :: a4 :: a5 :: a6 :: a7 :: a8 :: a9 :: a10 :: .ref x :: l := by
  have e := am_st_ne (i := 11) (v := .ref x) rfl l 12 (by omega)
  simp only [am_st]
  simp [hc, e, show (Value.ref x).category = 1 from rfl]
theorem am_r_astore11 {a0 a1 a2 a3 a4 a5 a6 a7 a8 a9 a10 : Value} {w : Value} {x : Nat} (h : am_lk P pc = some (.astore 11, len)) (e : pc + len = pc') (hc : a10.category = 1) (k : am_rw sL xs d P rt pc' (a0 :: a1 :: a2 :: a3 :: a4 :: a5 :: a6 :: a7 :: a8 :: a9 :: a10 :: .ref x :: l) r M Q) : am_rw sL xs d P rt pc (a0 :: a1 :: a2 :: a3 :: a4 :: a5 :: a6 :: a7 :: a8 :: a9 :: a10 :: w :: l) (.ref x :: r) M Q := by
  subst e
  exact am_rw_go h (fun v M' K hk => ⟨by simp, by rw [am_ss_a11 hc]; exact hk⟩) k
theorem am_ss_l11 {a0 a1 a2 a3 a4 a5 a6 a7 a8 a9 a10 : Value} {w w2 : Value} {x : Int64} (hc : a10.category = 1) : am_st 11 (.long x) 0 (a0 :: a1 :: a2 :: a3 :: a4 :: a5 :: a6 :: a7 :: a8 :: a9 :: a10 :: w :: w2 :: l) = a0 :: a1 :: a2 :: a3 :: a4 :: a5 :: a6 :: a7 :: a8 :: a9 :: a10 :: .long x :: .null :: l := by
  have e := am_st_ne2 (i := 11) (v := .long x) l 13 (by omega)
  simp only [am_st]
  simp [hc, e, show (Value.long x).category = 2 from rfl]
theorem am_r_lstore11 {a0 a1 a2 a3 a4 a5 a6 a7 a8 a9 a10 : Value} {w w2 : Value} {x : Int64} (h : am_lk P pc = some (.lstore 11, len)) (e : pc + len = pc') (hc : a10.category = 1) (k : am_rw sL xs d P rt pc' (a0 :: a1 :: a2 :: a3 :: a4 :: a5 :: a6 :: a7 :: a8 :: a9 :: a10 :: .long x :: .null :: l) r M Q) : am_rw sL xs d P rt pc (a0 :: a1 :: a2 :: a3 :: a4 :: a5 :: a6 :: a7 :: a8 :: a9 :: a10 :: w :: w2 :: l) (.long x :: r) M Q := by
  subst e
  exact am_rw_go h (fun v M' K hk => ⟨by simp, by rw [am_ss_l11 hc]; exact hk⟩) k
theorem am_r_iinc11R {a0 a1 a2 a3 a4 a5 a6 a7 a8 a9 a10 : Value} {x : Int32} {n : Int} (h : am_lk P pc = some (.iinc 11 n, len)) (e : pc + len = pc') (hc : a10.category = 1) (k : am_rw sL xs d P rt pc' (a0 :: a1 :: a2 :: a3 :: a4 :: a5 :: a6 :: a7 :: a8 :: a9 :: a10 :: .int (x + z_I n) :: l) r M Q) : am_rw sL xs d P rt pc (a0 :: a1 :: a2 :: a3 :: a4 :: a5 :: a6 :: a7 :: a8 :: a9 :: a10 :: .int x :: l) r M Q := by
  subst e
  exact am_rw_go h (fun v M' K hk => (by have e := am_ss_i11 (a0 := a0) (a1 := a1) (a2 := a2) (a3 := a3) (a4 := a4) (a5 := a5) (a6 := a6) (a7 := a7) (a8 := a8) (a9 := a9) (a10 := a10) (w := .int x) (x := x + z_I n) (l := l) hc; exact (show K _ (am_st 11 (.int (x + z_I n)) 0 (a0 :: a1 :: a2 :: a3 :: a4 :: a5 :: a6 :: a7 :: a8 :: a9 :: a10 :: .int x :: l)) r M by rw [e]; exact hk))) k
theorem am_r_iinc11 {a0 a1 a2 a3 a4 a5 a6 a7 a8 a9 a10 : Value} {a n : Int} (h : am_lk P pc = some (.iinc 11 n, len)) (e : pc + len = pc') (hc : a10.category = 1) (k : am_rw sL xs d P rt pc' (a0 :: a1 :: a2 :: a3 :: a4 :: a5 :: a6 :: a7 :: a8 :: a9 :: a10 :: .int (z_I (a + n)) :: l) r M Q) : am_rw sL xs d P rt pc (a0 :: a1 :: a2 :: a3 :: a4 :: a5 :: a6 :: a7 :: a8 :: a9 :: a10 :: .int (z_I a) :: l) r M Q := by
  subst e
  exact am_rw_go h (fun v M' K hk => (by have e := am_ss_i11 (a0 := a0) (a1 := a1) (a2 := a2) (a3 := a3) (a4 := a4) (a5 := a5) (a6 := a6) (a7 := a7) (a8 := a8) (a9 := a9) (a10 := a10) (w := .int (z_I a)) (x := z_I a + z_I n) (l := l) hc; rw [z_add] at e; exact (show K _ (am_st 11 (.int (z_I a + z_I n)) 0 (a0 :: a1 :: a2 :: a3 :: a4 :: a5 :: a6 :: a7 :: a8 :: a9 :: a10 :: .int (z_I a) :: l)) r M by rw [z_add, e]; exact hk))) k
theorem am_ss_i12 {a0 a1 a2 a3 a4 a5 a6 a7 a8 a9 a10 a11 : Value} {w : Value} {x : Int32} (hc : a11.category = 1) : am_st 12 (.int x) 0 (a0 :: a1 :: a2 :: a3 :: a4 :: a5 :: a6 :: a7 :: a8 :: a9 :: a10 :: a11 :: w :: l) = a0 :: a1 :: a2 :: a3 :: a4 :: a5 :: a6 :: a7 :: a8 :: a9 :: a10 :: a11 :: .int x :: l := by
  have e := am_st_ne (i := 12) (v := .int x) rfl l 13 (by omega)
  simp only [am_st]
  simp [hc, e, show (Value.int x).category = 1 from rfl]
theorem am_r_istore12 {a0 a1 a2 a3 a4 a5 a6 a7 a8 a9 a10 a11 : Value} {w : Value} {x : Int32} (h : am_lk P pc = some (.istore 12, len)) (e : pc + len = pc') (hc : a11.category = 1) (k : am_rw sL xs d P rt pc' (a0 :: a1 :: a2 :: a3 :: a4 :: a5 :: a6 :: a7 :: a8 :: a9 :: a10 :: a11 :: .int x :: l) r M Q) : am_rw sL xs d P rt pc (a0 :: a1 :: a2 :: a3 :: a4 :: a5 :: a6 :: a7 :: a8 :: a9 :: a10 :: a11 :: w :: l) (.int x :: r) M Q := by
  subst e
  exact am_rw_go h (fun v M' K hk => ⟨by simp, by rw [am_ss_i12 hc]; exact hk⟩) k
theorem am_ss_a12 {a0 a1 a2 a3 a4 a5 a6 a7 a8 a9 a10 a11 : Value} {w : Value} {x : Nat} (hc : a11.category = 1) : am_st 12 (.ref x) 0 (a0 :: a1 :: a2 :: a3 :: a4 :: a5 :: a6 :: a7 :: a8 :: a9 :: a10 :: a11 :: w :: l) = a0 :: a1 :: a2 :: a3 :: a4 :: a5 :: a6 :: a7 :: a8 :: a9 :: a10 :: a11 :: .ref x :: l := by
  have e := am_st_ne (i := 12) (v := .ref x) rfl l 13 (by omega)
  simp only [am_st]
  simp [hc, e, show (Value.ref x).category = 1 from rfl]
theorem am_r_astore12 {a0 a1 a2 a3 a4 a5 a6 a7 a8 a9 a10 a11 : Value} {w : Value} {x : Nat} (h : am_lk P pc = some (.astore 12, len)) (e : pc + len = pc') (hc : a11.category = 1) (k : am_rw sL xs d P rt pc' (a0 :: a1 :: a2 :: a3 :: a4 :: a5 :: a6 :: a7 :: a8 :: a9 :: a10 :: a11 :: .ref x :: l) r M Q) : am_rw sL xs d P rt pc (a0 :: a1 :: a2 :: a3 :: a4 :: a5 :: a6 :: a7 :: a8 :: a9 :: a10 :: a11 :: w :: l) (.ref x :: r) M Q := by
  subst e
  exact am_rw_go h (fun v M' K hk => ⟨by simp, by rw [am_ss_a12 hc]; exact hk⟩) k
theorem am_ss_l12 {a0 a1 a2 a3 a4 a5 a6 a7 a8 a9 a10 a11 : Value} {w w2 : Value} {x : Int64} (hc : a11.category = 1) : am_st 12 (.long x) 0 (a0 :: a1 :: a2 :: a3 :: a4 :: a5 :: a6 :: a7 :: a8 :: a9 :: a10 :: a11 :: w :: w2 :: l) = a0 :: a1 :: a2 :: a3 :: a4 :: a5 :: a6 :: a7 :: a8 :: a9 :: a10 :: a11 :: .long x :: .null :: l := by
  have e := am_st_ne2 (i := 12) (v := .long x) l 14 (by omega)
  simp only [am_st]
  simp [hc, e, show (Value.long x).category = 2 from rfl]
theorem am_r_lstore12 {a0 a1 a2 a3 a4 a5 a6 a7 a8 a9 a10 a11 : Value} {w w2 : Value} {x : Int64} (h : am_lk P pc = some (.lstore 12, len)) (e : pc + len = pc') (hc : a11.category = 1) (k : am_rw sL xs d P rt pc' (a0 :: a1 :: a2 :: a3 :: a4 :: a5 :: a6 :: a7 :: a8 :: a9 :: a10 :: a11 :: .long x :: .null :: l) r M Q) : am_rw sL xs d P rt pc (a0 :: a1 :: a2 :: a3 :: a4 :: a5 :: a6 :: a7 :: a8 :: a9 :: a10 :: a11 :: w :: w2 :: l) (.long x :: r) M Q := by
  subst e
  exact am_rw_go h (fun v M' K hk => ⟨by simp, by rw [am_ss_l12 hc]; exact hk⟩) k
theorem am_r_iinc12R {a0 a1 a2 a3 a4 a5 a6 a7 a8 a9 a10 a11 : Value} {x : Int32} {n : Int} (h : am_lk P pc = some (.iinc 12 n, len)) (e : pc + len = pc') (hc : a11.category = 1) (k : am_rw sL xs d P rt pc' (a0 :: a1 :: a2 :: a3 :: a4 :: a5 :: a6 :: a7 :: a8 :: a9 :: a10 :: a11 :: .int (x + z_I n) :: l) r M Q) : am_rw sL xs d P rt pc (a0 :: a1 :: a2 :: a3 :: a4 :: a5 :: a6 :: a7 :: a8 :: a9 :: a10 :: a11 :: .int x :: l) r M Q := by
  subst e
  exact am_rw_go h (fun v M' K hk => (by have e := am_ss_i12 (a0 := a0) (a1 := a1) (a2 := a2) (a3 := a3) (a4 := a4) (a5 := a5) (a6 := a6) (a7 := a7) (a8 := a8) (a9 := a9) (a10 := a10) (a11 := a11) (w := .int x) (x := x + z_I n) (l := l) hc; exact (show K _ (am_st 12 (.int (x + z_I n)) 0 (a0 :: a1 :: a2 :: a3 :: a4 :: a5 :: a6 :: a7 :: a8 :: a9 :: a10 :: a11 :: .int x :: l)) r M by rw [e]; exact hk))) k
theorem am_r_iinc12 {a0 a1 a2 a3 a4 a5 a6 a7 a8 a9 a10 a11 : Value} {a n : Int} (h : am_lk P pc = some (.iinc 12 n, len)) (e : pc + len = pc') (hc : a11.category = 1) (k : am_rw sL xs d P rt pc' (a0 :: a1 :: a2 :: a3 :: a4 :: a5 :: a6 :: a7 :: a8 :: a9 :: a10 :: a11 :: .int (z_I (a + n)) :: l) r M Q) : am_rw sL xs d P rt pc (a0 :: a1 :: a2 :: a3 :: a4 :: a5 :: a6 :: a7 :: a8 :: a9 :: a10 :: a11 :: .int (z_I a) :: l) r M Q := by
  subst e
  exact am_rw_go h (fun v M' K hk => (by have e := am_ss_i12 (a0 := a0) (a1 := a1) (a2 := a2) (a3 := a3) (a4 := a4) (a5 := a5) (a6 := a6) (a7 := a7) (a8 := a8) (a9 := a9) (a10 := a10) (a11 := a11) (w := .int (z_I a)) (x := z_I a + z_I n) (l := l) hc; rw [z_add] at e; exact (show K _ (am_st 12 (.int (z_I a + z_I n)) 0 (a0 :: a1 :: a2 :: a3 :: a4 :: a5 :: a6 :: a7 :: a8 :: a9 :: a10 :: a11 :: .int (z_I a) :: l)) r M by rw [z_add, e]; exact hk))) k
theorem am_ss_i13 {a0 a1 a2 a3 a4 a5 a6 a7 a8 a9 a10 a11 a12 : Value} {w : Value} {x : Int32} (hc : a12.category = 1) : am_st 13 (.int x) 0 (a0 :: a1 :: a2 :: a3 :: a4 :: a5 :: a6 :: a7 :: a8 :: a9 :: a10 :: a11 :: a12 :: w :: l) = a0 :: a1 :: a2 :: a3 :: a4 :: a5 :: a6 :: a7 :: a8 :: a9 :: a10 :: a11 :: a12 :: .int x :: l := by
  have e := am_st_ne (i := 13) (v := .int x) rfl l 14 (by omega)
  simp only [am_st]
  simp [hc, e, show (Value.int x).category = 1 from rfl]
theorem am_r_istore13 {a0 a1 a2 a3 a4 a5 a6 a7 a8 a9 a10 a11 a12 : Value} {w : Value} {x : Int32} (h : am_lk P pc = some (.istore 13, len)) (e : pc + len = pc') (hc : a12.category = 1) (k : am_rw sL xs d P rt pc' (a0 :: a1 :: a2 :: a3 :: a4 :: a5 :: a6 :: a7 :: a8 :: a9 :: a10 :: a11 :: a12 :: .int x :: l) r M Q) : am_rw sL xs d P rt pc (a0 :: a1 :: a2 :: a3 :: a4 :: a5 :: a6 :: a7 :: a8 :: a9 :: a10 :: a11 :: a12 :: w :: l) (.int x :: r) M Q := by
  subst e
  exact am_rw_go h (fun v M' K hk => ⟨by simp, by rw [am_ss_i13 hc]; exact hk⟩) k
theorem am_ss_a13 {a0 a1 a2 a3 a4 a5 a6 a7 a8 a9 a10 a11 a12 : Value} {w : Value} {x : Nat} (hc : a12.category = 1) : am_st 13 (.ref x) 0 (a0 :: a1 :: a2 :: a3 :: a4 :: a5 :: a6 :: a7 :: a8 :: a9 :: a10 :: a11 :: a12 :: w :: l) = a0 :: a1 :: a2 :: a3 :: a4 :: a5 :: a6 :: a7 :: a8 :: a9 :: a10 :: a11 :: a12 :: .ref x :: l := by
  have e := am_st_ne (i := 13) (v := .ref x) rfl l 14 (by omega)
  simp only [am_st]
  simp [hc, e, show (Value.ref x).category = 1 from rfl]
theorem am_r_astore13 {a0 a1 a2 a3 a4 a5 a6 a7 a8 a9 a10 a11 a12 : Value} {w : Value} {x : Nat} (h : am_lk P pc = some (.astore 13, len)) (e : pc + len = pc') (hc : a12.category = 1) (k : am_rw sL xs d P rt pc' (a0 :: a1 :: a2 :: a3 :: a4 :: a5 :: a6 :: a7 :: a8 :: a9 :: a10 :: a11 :: a12 :: .ref x :: l) r M Q) : am_rw sL xs d P rt pc (a0 :: a1 :: a2 :: a3 :: a4 :: a5 :: a6 :: a7 :: a8 :: a9 :: a10 :: a11 :: a12 :: w :: l) (.ref x :: r) M Q := by
  subst e
  exact am_rw_go h (fun v M' K hk => ⟨by simp, by rw [am_ss_a13 hc]; exact hk⟩) k
theorem am_ss_l13 {a0 a1 a2 a3 a4 a5 a6 a7 a8 a9 a10 a11 a12 : Value} {w w2 : Value} {x : Int64} (hc : a12.category = 1) : am_st 13 (.long x) 0 (a0 :: a1 :: a2 :: a3 :: a4 :: a5 :: a6 :: a7 :: a8 :: a9 :: a10 :: a11 :: a12 :: w :: w2 :: l) = a0 :: a1 :: a2 :: a3 :: a4 :: a5 :: a6 :: a7 :: a8 :: a9 :: a10 :: a11 :: a12 :: .long x :: .null :: l := by
  have e := am_st_ne2 (i := 13) (v := .long x) l 15 (by omega)
  simp only [am_st]
  simp [hc, e, show (Value.long x).category = 2 from rfl]
theorem am_r_lstore13 {a0 a1 a2 a3 a4 a5 a6 a7 a8 a9 a10 a11 a12 : Value} {w w2 : Value} {x : Int64} (h : am_lk P pc = some (.lstore 13, len)) (e : pc + len = pc') (hc : a12.category = 1) (k : am_rw sL xs d P rt pc' (a0 :: a1 :: a2 :: a3 :: a4 :: a5 :: a6 :: a7 :: a8 :: a9 :: a10 :: a11 :: a12 :: .long x :: .null :: l) r M Q) : am_rw sL xs d P rt pc (a0 :: a1 :: a2 :: a3 :: a4 :: a5 :: a6 :: a7 :: a8 :: a9 :: a10 :: a11 :: a12 :: w :: w2 :: l) (.long x :: r) M Q := by
  subst e
  exact am_rw_go h (fun v M' K hk => ⟨by simp, by rw [am_ss_l13 hc]; exact hk⟩) k
theorem am_r_iinc13R {a0 a1 a2 a3 a4 a5 a6 a7 a8 a9 a10 a11 a12 : Value} {x : Int32} {n : Int} (h : am_lk P pc = some (.iinc 13 n, len)) (e : pc + len = pc') (hc : a12.category = 1) (k : am_rw sL xs d P rt pc' (a0 :: a1 :: a2 :: a3 :: a4 :: a5 :: a6 :: a7 :: a8 :: a9 :: a10 :: a11 :: a12 :: .int (x + z_I n) :: l) r M Q) : am_rw sL xs d P rt pc (a0 :: a1 :: a2 :: a3 :: a4 :: a5 :: a6 :: a7 :: a8 :: a9 :: a10 :: a11 :: a12 :: .int x :: l) r M Q := by
  subst e
  exact am_rw_go h (fun v M' K hk => (by have e := am_ss_i13 (a0 := a0) (a1 := a1) (a2 := a2) (a3 := a3) (a4 := a4) (a5 := a5) (a6 := a6) (a7 := a7) (a8 := a8) (a9 := a9) (a10 := a10) (a11 := a11) (a12 := a12) (w := .int x) (x := x + z_I n) (l := l) hc; exact (show K _ (am_st 13 (.int (x + z_I n)) 0 (a0 :: a1 :: a2 :: a3 :: a4 :: a5 :: a6 :: a7 :: a8 :: a9 :: a10 :: a11 :: a12 :: .int x :: l)) r M by rw [e]; exact hk))) k
theorem am_r_iinc13 {a0 a1 a2 a3 a4 a5 a6 a7 a8 a9 a10 a11 a12 : Value} {a n : Int} (h : am_lk P pc = some (.iinc 13 n, len)) (e : pc + len = pc') (hc : a12.category = 1) (k : am_rw sL xs d P rt pc' (a0 :: a1 :: a2 :: a3 :: a4 :: a5 :: a6 :: a7 :: a8 :: a9 :: a10 :: a11 :: a12 :: .int (z_I (a + n)) :: l) r M Q) : am_rw sL xs d P rt pc (a0 :: a1 :: a2 :: a3 :: a4 :: a5 :: a6 :: a7 :: a8 :: a9 :: a10 :: a11 :: a12 :: .int (z_I a) :: l) r M Q := by
  subst e
  exact am_rw_go h (fun v M' K hk => (by have e := am_ss_i13 (a0 := a0) (a1 := a1) (a2 := a2) (a3 := a3) (a4 := a4) (a5 := a5) (a6 := a6) (a7 := a7) (a8 := a8) (a9 := a9) (a10 := a10) (a11 := a11) (a12 := a12) (w := .int (z_I a)) (x := z_I a + z_I n) (l := l) hc; rw [z_add] at e; exact (show K _ (am_st 13 (.int (z_I a + z_I n)) 0 (a0 :: a1 :: a2 :: a3 :: a4 :: a5 :: a6 :: a7 :: a8 :: a9 :: a10 :: a11 :: a12 :: .int (z_I a) :: l)) r M by rw [z_add, e]; exact hk))) k
theorem am_r_iaddR {x y : Int32} (h : am_lk P pc = some (.iadd, len)) (e : pc + len = pc') (k : am_rw sL xs d P rt pc' lv (.int (x + y) :: r) M Q) : am_rw sL xs d P rt pc lv (.int y :: .int x :: r) M Q := by
  subst e
  exact am_rw_go h (fun v M' K hk => hk) k
theorem am_r_isubR {x y : Int32} (h : am_lk P pc = some (.isub, len)) (e : pc + len = pc') (k : am_rw sL xs d P rt pc' lv (.int (x - y) :: r) M Q) : am_rw sL xs d P rt pc lv (.int y :: .int x :: r) M Q := by
  subst e
  exact am_rw_go h (fun v M' K hk => hk) k
theorem am_r_imulR {x y : Int32} (h : am_lk P pc = some (.imul, len)) (e : pc + len = pc') (k : am_rw sL xs d P rt pc' lv (.int (x * y) :: r) M Q) : am_rw sL xs d P rt pc lv (.int y :: .int x :: r) M Q := by
  subst e
  exact am_rw_go h (fun v M' K hk => hk) k
theorem am_r_iandR {x y : Int32} (h : am_lk P pc = some (.iand, len)) (e : pc + len = pc') (k : am_rw sL xs d P rt pc' lv (.int (x &&& y) :: r) M Q) : am_rw sL xs d P rt pc lv (.int y :: .int x :: r) M Q := by
  subst e
  exact am_rw_go h (fun v M' K hk => hk) k
theorem am_r_iorR {x y : Int32} (h : am_lk P pc = some (.ior, len)) (e : pc + len = pc') (k : am_rw sL xs d P rt pc' lv (.int (x ||| y) :: r) M Q) : am_rw sL xs d P rt pc lv (.int y :: .int x :: r) M Q := by
  subst e
  exact am_rw_go h (fun v M' K hk => hk) k
theorem am_r_ixorR {x y : Int32} (h : am_lk P pc = some (.ixor, len)) (e : pc + len = pc') (k : am_rw sL xs d P rt pc' lv (.int (x ^^^ y) :: r) M Q) : am_rw sL xs d P rt pc lv (.int y :: .int x :: r) M Q := by
  subst e
  exact am_rw_go h (fun v M' K hk => hk) k
theorem am_r_iadd {a b : Int} (h : am_lk P pc = some (.iadd, len)) (e : pc + len = pc') (k : am_rw sL xs d P rt pc' lv (.int (z_I (a + b)) :: r) M Q) : am_rw sL xs d P rt pc lv (.int (z_I b) :: .int (z_I a) :: r) M Q := by
  subst e
  exact am_rw_go h (fun v M' K hk => by show K _ _ (.int (z_I a + z_I b) :: r) _; rw [z_add]; exact hk) k
theorem am_r_isub {a b : Int} (h : am_lk P pc = some (.isub, len)) (e : pc + len = pc') (k : am_rw sL xs d P rt pc' lv (.int (z_I (a - b)) :: r) M Q) : am_rw sL xs d P rt pc lv (.int (z_I b) :: .int (z_I a) :: r) M Q := by
  subst e
  exact am_rw_go h (fun v M' K hk => by show K _ _ (.int (z_I a - z_I b) :: r) _; rw [z_sub]; exact hk) k
theorem am_r_imul {a b : Int} (h : am_lk P pc = some (.imul, len)) (e : pc + len = pc') (k : am_rw sL xs d P rt pc' lv (.int (z_I (a * b)) :: r) M Q) : am_rw sL xs d P rt pc lv (.int (z_I b) :: .int (z_I a) :: r) M Q := by
  subst e
  exact am_rw_go h (fun v M' K hk => by show K _ _ (.int (z_I a * z_I b) :: r) _; rw [z_mul]; exact hk) k
theorem am_r_ladd {a b : Int} (h : am_lk P pc = some (.ladd, len)) (e : pc + len = pc') (k : am_rw sL xs d P rt pc' lv (.long (z_L (a + b)) :: r) M Q) : am_rw sL xs d P rt pc lv (.long (z_L b) :: .long (z_L a) :: r) M Q := by
  subst e
  exact am_rw_go h (fun v M' K hk => by show K _ _ (.long (z_L a + z_L b) :: r) _; rw [z_addL]; exact hk) k
theorem am_r_lsub {a b : Int} (h : am_lk P pc = some (.lsub, len)) (e : pc + len = pc') (k : am_rw sL xs d P rt pc' lv (.long (z_L (a - b)) :: r) M Q) : am_rw sL xs d P rt pc lv (.long (z_L b) :: .long (z_L a) :: r) M Q := by
  subst e
  exact am_rw_go h (fun v M' K hk => by show K _ _ (.long (z_L a - z_L b) :: r) _; rw [z_subL]; exact hk) k
theorem am_r_lmul {a b : Int} (h : am_lk P pc = some (.lmul, len)) (e : pc + len = pc') (k : am_rw sL xs d P rt pc' lv (.long (z_L (a * b)) :: r) M Q) : am_rw sL xs d P rt pc lv (.long (z_L b) :: .long (z_L a) :: r) M Q := by
  subst e
  exact am_rw_go h (fun v M' K hk => by show K _ _ (.long (z_L a * z_L b) :: r) _; rw [z_mulL]; exact hk) k
theorem am_r_laddR {x y : Int64} (h : am_lk P pc = some (.ladd, len)) (e : pc + len = pc') (k : am_rw sL xs d P rt pc' lv (.long (x + y) :: r) M Q) : am_rw sL xs d P rt pc lv (.long y :: .long x :: r) M Q := by
  subst e
  exact am_rw_go h (fun v M' K hk => hk) k
theorem am_r_lsubR {x y : Int64} (h : am_lk P pc = some (.lsub, len)) (e : pc + len = pc') (k : am_rw sL xs d P rt pc' lv (.long (x - y) :: r) M Q) : am_rw sL xs d P rt pc lv (.long y :: .long x :: r) M Q := by
  subst e
  exact am_rw_go h (fun v M' K hk => hk) k
theorem am_r_lmulR {x y : Int64} (h : am_lk P pc = some (.lmul, len)) (e : pc + len = pc') (k : am_rw sL xs d P rt pc' lv (.long (x * y) :: r) M Q) : am_rw sL xs d P rt pc lv (.long y :: .long x :: r) M Q := by
  subst e
  exact am_rw_go h (fun v M' K hk => hk) k
theorem am_r_landR {x y : Int64} (h : am_lk P pc = some (.land, len)) (e : pc + len = pc') (k : am_rw sL xs d P rt pc' lv (.long (x &&& y) :: r) M Q) : am_rw sL xs d P rt pc lv (.long y :: .long x :: r) M Q := by
  subst e
  exact am_rw_go h (fun v M' K hk => hk) k
theorem am_r_lorR {x y : Int64} (h : am_lk P pc = some (.lor, len)) (e : pc + len = pc') (k : am_rw sL xs d P rt pc' lv (.long (x ||| y) :: r) M Q) : am_rw sL xs d P rt pc lv (.long y :: .long x :: r) M Q := by
  subst e
  exact am_rw_go h (fun v M' K hk => hk) k
theorem am_r_ineg {a : Int} (h : am_lk P pc = some (.ineg, len)) (e : pc + len = pc') (k : am_rw sL xs d P rt pc' lv (.int (z_I (-a)) :: r) M Q) : am_rw sL xs d P rt pc lv (.int (z_I a) :: r) M Q := by
  subst e
  exact am_rw_go h (fun v M' K hk => by show K _ _ (.int (-z_I a) :: r) _; rw [z_neg]; exact hk) k
theorem am_r_inegR {x : Int32} (h : am_lk P pc = some (.ineg, len)) (e : pc + len = pc') (k : am_rw sL xs d P rt pc' lv (.int (-x) :: r) M Q) : am_rw sL xs d P rt pc lv (.int x :: r) M Q := by
  subst e
  exact am_rw_go h (fun v M' K hk => hk) k
theorem am_r_idivR {x y : Int32} (h : am_lk P pc = some (.idiv, len)) (e : pc + len = pc') (hy : ¬ y = 0) (k : am_rw sL xs d P rt pc' lv (.int (x / y) :: r) M Q) : am_rw sL xs d P rt pc lv (.int y :: .int x :: r) M Q := by
  subst e
  exact am_rw_go h (fun v M' K hk => ⟨hy, hk⟩) k
theorem am_r_iremR {x y : Int32} (h : am_lk P pc = some (.irem, len)) (e : pc + len = pc') (hy : ¬ y = 0) (k : am_rw sL xs d P rt pc' lv (.int (x - x / y * y) :: r) M Q) : am_rw sL xs d P rt pc lv (.int y :: .int x :: r) M Q := by
  subst e
  exact am_rw_go h (fun v M' K hk => ⟨hy, hk⟩) k
theorem am_r_idivT {a b : Int} (h : am_lk P pc = some (.idiv, len)) (e : pc + len = pc') (k : am_rw sL xs d P rt pc' lv (.int (z_I (a.tdiv b)) :: r) M Q) (hy : b ≠ 0 := by omega) (ha : -2147483648 ≤ a ∧ a < 2147483648 := by omega) (hb : -2147483648 ≤ b ∧ b < 2147483648 := by omega) : am_rw sL xs d P rt pc lv (.int (z_I b) :: .int (z_I a) :: r) M Q := by
  subst e
  exact am_rw_go h (fun v M' K hk => ⟨z_ne0 hb hy, by rw [z_div ha hb]; exact hk⟩) k
theorem am_r_iremT {a b : Int} (h : am_lk P pc = some (.irem, len)) (e : pc + len = pc') (k : am_rw sL xs d P rt pc' lv (.int (z_I (a.tmod b)) :: r) M Q) (hy : b ≠ 0 := by omega) (ha : -2147483648 ≤ a ∧ a < 2147483648 := by omega) (hb : -2147483648 ≤ b ∧ b < 2147483648 := by omega) : am_rw sL xs d P rt pc lv (.int (z_I b) :: .int (z_I a) :: r) M Q := by
  subst e
  exact am_rw_go h (fun v M' K hk => ⟨z_ne0 hb hy, by rw [z_rem ha hb]; exact hk⟩) k
theorem am_r_idiv {a b : Int} (h : am_lk P pc = some (.idiv, len)) (e : pc + len = pc') (k : am_rw sL xs d P rt pc' lv (.int (z_I (a / b)) :: r) M Q) (hy : b ≠ 0 := by omega) (h0 : 0 ≤ a := by omega) (ha : -2147483648 ≤ a ∧ a < 2147483648 := by omega) (hb : -2147483648 ≤ b ∧ b < 2147483648 := by omega) : am_rw sL xs d P rt pc lv (.int (z_I b) :: .int (z_I a) :: r) M Q := by
  subst e
  exact am_rw_go h (fun v M' K hk => ⟨z_ne0 hb hy, by rw [z_div ha hb, z_tdiv h0]; exact hk⟩) k
theorem am_r_irem {a b : Int} (h : am_lk P pc = some (.irem, len)) (e : pc + len = pc') (k : am_rw sL xs d P rt pc' lv (.int (z_I (a % b)) :: r) M Q) (hy : b ≠ 0 := by omega) (h0 : 0 ≤ a := by omega) (ha : -2147483648 ≤ a ∧ a < 2147483648 := by omega) (hb : -2147483648 ≤ b ∧ b < 2147483648 := by omega) : am_rw sL xs d P rt pc lv (.int (z_I b) :: .int (z_I a) :: r) M Q := by
  subst e
  exact am_rw_go h (fun v M' K hk => ⟨z_ne0 hb hy, by rw [z_rem ha hb, z_tmod h0]; exact hk⟩) k
theorem am_r_ldiv {a b : Int} (h : am_lk P pc = some (.ldiv, len)) (e : pc + len = pc') (k : am_rw sL xs d P rt pc' lv (.long (z_L (a / b)) :: r) M Q) (hy : b ≠ 0 := by omega) (h0 : 0 ≤ a := by omega) (ha : -9223372036854775808 ≤ a ∧ a < 9223372036854775808 := by omega) (hb : -9223372036854775808 ≤ b ∧ b < 9223372036854775808 := by omega) : am_rw sL xs d P rt pc lv (.long (z_L b) :: .long (z_L a) :: r) M Q := by
  subst e
  exact am_rw_go h (fun v M' K hk => ⟨z_ne0L hb hy, by rw [z_divL ha hb, z_tdiv h0]; exact hk⟩) k
theorem am_r_lrem {a b : Int} (h : am_lk P pc = some (.lrem, len)) (e : pc + len = pc') (k : am_rw sL xs d P rt pc' lv (.long (z_L (a % b)) :: r) M Q) (hy : b ≠ 0 := by omega) (h0 : 0 ≤ a := by omega) (ha : -9223372036854775808 ≤ a ∧ a < 9223372036854775808 := by omega) (hb : -9223372036854775808 ≤ b ∧ b < 9223372036854775808 := by omega) : am_rw sL xs d P rt pc lv (.long (z_L b) :: .long (z_L a) :: r) M Q := by
  subst e
  exact am_rw_go h (fun v M' K hk => ⟨z_ne0L hb hy, by rw [z_remL ha hb, z_tmod h0]; exact hk⟩) k
theorem am_r_lremT {a b : Int} (h : am_lk P pc = some (.lrem, len)) (e : pc + len = pc') (k : am_rw sL xs d P rt pc' lv (.long (z_L (a.tmod b)) :: r) M Q) (hy : b ≠ 0 := by omega) (ha : -9223372036854775808 ≤ a ∧ a < 9223372036854775808 := by omega) (hb : -9223372036854775808 ≤ b ∧ b < 9223372036854775808 := by omega) : am_rw sL xs d P rt pc lv (.long (z_L b) :: .long (z_L a) :: r) M Q := by
  subst e
  exact am_rw_go h (fun v M' K hk => ⟨z_ne0L hb hy, by rw [z_remL ha hb]; exact hk⟩) k
theorem am_r_ishl {x y : Int32} (h : am_lk P pc = some (.ishl, len)) (e : pc + len = pc') (k : am_rw sL xs d P rt pc' lv (.int (x <<< (y &&& 31)) :: r) M Q) : am_rw sL xs d P rt pc lv (.int y :: .int x :: r) M Q := by
  subst e
  exact am_rw_go h (fun v M' K hk => hk) k
theorem am_r_ishr {x y : Int32} (h : am_lk P pc = some (.ishr, len)) (e : pc + len = pc') (k : am_rw sL xs d P rt pc' lv (.int (x >>> (y &&& 31)) :: r) M Q) : am_rw sL xs d P rt pc lv (.int y :: .int x :: r) M Q := by
  subst e
  exact am_rw_go h (fun v M' K hk => hk) k
theorem am_r_iushr {x y : Int32} (h : am_lk P pc = some (.iushr, len)) (e : pc + len = pc') (k : am_rw sL xs d P rt pc' lv (.int (x.toUInt32 >>> (y.toUInt32 &&& Int32.toUInt32 31)).toInt32 :: r) M Q) : am_rw sL xs d P rt pc lv (.int y :: .int x :: r) M Q := by
  subst e
  exact am_rw_go h (fun v M' K hk => hk) k
theorem am_r_lshl {x : Int64} {y : Int32} (h : am_lk P pc = some (.lshl, len)) (e : pc + len = pc') (k : am_rw sL xs d P rt pc' lv (.long (x <<< (y.toInt64 &&& 63)) :: r) M Q) : am_rw sL xs d P rt pc lv (.int y :: .long x :: r) M Q := by
  subst e
  exact am_rw_go h (fun v M' K hk => hk) k
theorem am_r_i2lR {x : Int32} (h : am_lk P pc = some (.i2l, len)) (e : pc + len = pc') (k : am_rw sL xs d P rt pc' lv (.long x.toInt64 :: r) M Q) : am_rw sL xs d P rt pc lv (.int x :: r) M Q := by
  subst e
  exact am_rw_go h (fun v M' K hk => hk) k
theorem am_r_i2l {a : Int} (h : am_lk P pc = some (.i2l, len)) (e : pc + len = pc') (k : am_rw sL xs d P rt pc' lv (.long (z_L a) :: r) M Q) (ha : -2147483648 ≤ a ∧ a < 2147483648 := by omega) : am_rw sL xs d P rt pc lv (.int (z_I a) :: r) M Q := by
  subst e
  exact am_rw_go h (fun v M' K hk => by show K _ _ (.long (z_I a).toInt64 :: r) _; rw [z_il ha]; exact hk) k
theorem am_r_l2iR {x : Int64} (h : am_lk P pc = some (.l2i, len)) (e : pc + len = pc') (k : am_rw sL xs d P rt pc' lv (.int x.toInt32 :: r) M Q) : am_rw sL xs d P rt pc lv (.long x :: r) M Q := by
  subst e
  exact am_rw_go h (fun v M' K hk => hk) k
theorem am_r_l2i {a : Int} (h : am_lk P pc = some (.l2i, len)) (e : pc + len = pc') (k : am_rw sL xs d P rt pc' lv (.int (z_I a) :: r) M Q) : am_rw sL xs d P rt pc lv (.long (z_L a) :: r) M Q := by
  subst e
  exact am_rw_go h (fun v M' K hk => by show K _ _ (.int (z_L a).toInt32 :: r) _; rw [z_li]; exact hk) k
theorem am_r_i2b {x : Int32} (h : am_lk P pc = some (.i2b, len)) (e : pc + len = pc') (k : am_rw sL xs d P rt pc' lv (.int x.toInt8.toInt32 :: r) M Q) : am_rw sL xs d P rt pc lv (.int x :: r) M Q := by
  subst e
  exact am_rw_go h (fun v M' K hk => hk) k
theorem am_r_i2s {x : Int32} (h : am_lk P pc = some (.i2s, len)) (e : pc + len = pc') (k : am_rw sL xs d P rt pc' lv (.int x.toInt16.toInt32 :: r) M Q) : am_rw sL xs d P rt pc lv (.int x :: r) M Q := by
  subst e
  exact am_rw_go h (fun v M' K hk => hk) k
theorem am_r_dup {w : Value} (h : am_lk P pc = some (.dup, len)) (e : pc + len = pc') (hw : w.category = 1) (k : am_rw sL xs d P rt pc' lv (w :: w :: r) M Q) : am_rw sL xs d P rt pc lv (w :: r) M Q := by
  subst e
  exact am_rw_go h (fun v M' K hk => ⟨hw, hk⟩) k
theorem am_r_dup2 {w u : Value} (h : am_lk P pc = some (.dup2, len)) (e : pc + len = pc') (hw : w.category = 1) (hu : u.category = 1) (k : am_rw sL xs d P rt pc' lv (w :: u :: w :: u :: r) M Q) : am_rw sL xs d P rt pc lv (w :: u :: r) M Q := by
  subst e
  exact am_rw_go h (fun v M' K hk => ⟨hw, hu, hk⟩) k
theorem am_r_goto {t : Int} (h : am_lk P pc = some (.goto t, len)) (e : t.toNat = pc') (k : am_rw sL xs d P rt pc' lv r M Q) : am_rw sL xs d P rt pc lv r M Q := by
  subst e
  exact am_rw_go h (fun v M' K hk => hk) k
def am_okI (q e f : Nat) : Bool := decide (am_shp q = (3, e / 64)) && decide (q < am_K) && decide (e % 64 = f) && decide (am_rt q f = 0)
def am_okR (q e t : Nat) : Bool := decide (am_shp q = (3, e / 64)) && decide (q < am_K) && decide (am_rt q (e % 64) = t + 1)
def am_okA (q a n : Nat) : Bool := decide (am_shp q = (a, n)) && decide (q < am_K)
theorem am_r_getI {q n f : Nat} (h : am_lk P pc = some (.getfield n, len)) (e : pc + len = pc') (hf : am_okI q n f = true) (k : am_rw sL xs d P rt pc' lv (.int (M.1 q f) :: r) M Q) : am_rw sL xs d P rt pc lv (.ref q :: r) M Q := by
  subst e
  simp only [am_okI, Bool.and_eq_true, decide_eq_true_eq] at hf
  obtain ⟨⟨⟨h1, h2⟩, rfl⟩, h4⟩ := hf
  exact am_rw_go h (fun v M' K hk => ⟨h1, h2, by unfold am_fv; rw [if_pos h4]; exact hk⟩) k
theorem am_r_getIv {q n f : Nat} {x : Int32} (h : am_lk P pc = some (.getfield n, len)) (e : pc + len = pc') (hf : am_okI q n f = true) (hx : M.1 q f = x) (k : am_rw sL xs d P rt pc' lv (.int x :: r) M Q) : am_rw sL xs d P rt pc lv (.ref q :: r) M Q := by
  subst e
  subst hx
  simp only [am_okI, Bool.and_eq_true, decide_eq_true_eq] at hf
  obtain ⟨⟨⟨h1, h2⟩, rfl⟩, h4⟩ := hf
  exact am_rw_go h (fun v M' K hk => ⟨h1, h2, by unfold am_fv; rw [if_pos h4]; exact hk⟩) k
theorem am_r_getR {q n t : Nat} (h : am_lk P pc = some (.getfield n, len)) (e : pc + len = pc') (hf : am_okR q n t = true) (k : am_rw sL xs d P rt pc' lv (.ref t :: r) M Q) : am_rw sL xs d P rt pc lv (.ref q :: r) M Q := by
  subst e
  simp only [am_okR, Bool.and_eq_true, decide_eq_true_eq] at hf
  obtain ⟨⟨h1, h2⟩, h4⟩ := hf
  exact am_rw_go h (fun v M' K hk => ⟨h1, h2, by unfold am_fv; rw [if_neg (by omega), h4]; exact hk⟩) k
theorem am_r_putI {q n f : Nat} {x : Int32} (h : am_lk P pc = some (.putfield n, len)) (e : pc + len = pc') (hf : am_okI q n f = true) (hz : am_tyq (n / 64) (n % 64) ≠ .boolean) (k : am_rw sL xs d P rt pc' lv r (am_upI M q f x) Q) : am_rw sL xs d P rt pc lv (.int x :: .ref q :: r) M Q := by
  subst e
  simp only [am_okI, Bool.and_eq_true, decide_eq_true_eq] at hf
  obtain ⟨⟨⟨h1, h2⟩, rfl⟩, h4⟩ := hf
  exact am_rw_go h (fun v M' K hk => ⟨h1, h2, h4, fun q => absurd q hz, hk⟩) k
theorem am_r_putZ {q n f : Nat} {x : Int32} (h : am_lk P pc = some (.putfield n, len)) (e : pc + len = pc') (hf : am_okI q n f = true) (hz : x = 0 ∨ x = 1) (k : am_rw sL xs d P rt pc' lv r (am_upI M q f x) Q) : am_rw sL xs d P rt pc lv (.int x :: .ref q :: r) M Q := by
  subst e
  simp only [am_okI, Bool.and_eq_true, decide_eq_true_eq] at hf
  obtain ⟨⟨⟨h1, h2⟩, rfl⟩, h4⟩ := hf
  exact am_rw_go h (fun v M' K hk => ⟨h1, h2, h4, fun _ => hz, hk⟩) k
theorem am_r_gets {n : Nat} (h : am_lk P pc = some (.getstatic n, len)) (e : pc + len = pc') (k : am_rw sL xs d P rt pc' lv (.ref n :: r) M Q) : am_rw sL xs d P rt pc lv r M Q := by
  subst e
  exact am_rw_go h (fun v M' K hk => hk) k
theorem am_okA_ne {q a n : Nat} (h : am_okA q a n = true) : q ≠ 900 ∧ q ≠ 901 ∧ q ≠ 902 := by
  simp only [am_okA, Bool.and_eq_true, decide_eq_true_eq] at h
  have := h.2
  simp only [am_K] at this
  omega
theorem am_i4_of {q n : Nat} {i : Int32} {M : Am_M} {f : Int32 → Prop} (hf : am_okA q 0 n = true) (hi : vp_in i n) (h : f (M.1 q i.toNatClampNeg)) : am_i4 am_K q i sL xs M f := by
  have hn := am_okA_ne hf
  simp only [am_okA, Bool.and_eq_true, decide_eq_true_eq] at hf
  unfold am_i4
  rw [if_neg hn.1, if_neg hn.2.1, if_neg hn.2.2, hf.1]
  exact ⟨rfl, hf.2, hi, h⟩
theorem am_r_iald {q n : Nat} {i x : Int32} (h : am_lk P pc = some (.iaload, len)) (e : pc + len = pc') (hf : am_okA q 0 n = true) (hi : vp_in i n) (hx : M.1 q i.toNatClampNeg = x) (k : am_rw sL xs d P rt pc' lv (.int x :: r) M Q) : am_rw sL xs d P rt pc lv (.int i :: .ref q :: r) M Q := by
  subst e
  subst hx
  exact am_rw_go h (fun v M' K hk => am_i4_of (M := M) (f := fun x => K (pc + len) lv (.int x :: r) M) hf hi hk) k
theorem am_r_iaZ {q n : Nat} {a : Int} (h : am_lk P pc = some (.iaload, len)) (e : pc + len = pc') (hf : am_okA q 0 n = true) (hi : 0 ≤ a ∧ a < n) (hn : n ≤ 1000000000) (k : am_rw sL xs d P rt pc' lv (.int (M.1 q a.toNat) :: r) M Q) : am_rw sL xs d P rt pc lv (.int (z_I a) :: .ref q :: r) M Q := by
  subst e
  exact am_rw_go h (fun v M' K hk => am_i4_of (M := M) (f := fun x => K (pc + len) lv (.int x :: r) M) hf (z_in hi hn) (by rw [z_cl (by omega)]; exact hk)) k
theorem am_r_iaZv {q n : Nat} {a : Int} {x : Int32} (h : am_lk P pc = some (.iaload, len)) (e : pc + len = pc') (hf : am_okA q 0 n = true) (hn : n ≤ 1000000000) (hx : M.1 q a.toNat = x) (k : am_rw sL xs d P rt pc' lv (.int x :: r) M Q) (hi : 0 ≤ a ∧ a < n := by omega) : am_rw sL xs d P rt pc lv (.int (z_I a) :: .ref q :: r) M Q := by
  subst e
  subst hx
  exact am_rw_go h (fun v M' K hk => am_i4_of (M := M) (f := fun x => K (pc + len) lv (.int x :: r) M) hf (z_in hi hn) (by rw [z_cl (by omega)]; exact hk)) k
theorem am_r_iast {q n : Nat} {a : Int} {x : Int32} (h : am_lk P pc = some (.iastore, len)) (e : pc + len = pc') (hf : am_okA q 0 n = true) (hn : n ≤ 1000000000) (k : am_rw sL xs d P rt pc' lv r (am_upI M q a.toNat x) Q) (hi : 0 ≤ a ∧ a < n := by omega) : am_rw sL xs d P rt pc lv (.int x :: .int (z_I a) :: .ref q :: r) M Q := by
  subst e
  simp only [am_okA, Bool.and_eq_true, decide_eq_true_eq] at hf
  exact am_rw_go h (fun v M' K hk => ⟨by rw [hf.1], hf.2, by rw [hf.1]; exact z_in hi hn, by rw [z_cl (by omega)]; exact hk⟩) k
theorem am_r_laZv {q n : Nat} {a : Int} {x : Int64} (h : am_lk P pc = some (.laload, len)) (e : pc + len = pc') (hf : am_okA q 1 n = true) (hn : n ≤ 1000000000) (hx : M.2 q a.toNat = x) (k : am_rw sL xs d P rt pc' lv (.long x :: r) M Q) (hi : 0 ≤ a ∧ a < n := by omega) : am_rw sL xs d P rt pc lv (.int (z_I a) :: .ref q :: r) M Q := by
  subst e
  subst hx
  simp only [am_okA, Bool.and_eq_true, decide_eq_true_eq] at hf
  exact am_rw_go h (fun v M' K hk => ⟨by rw [hf.1], hf.2, by rw [hf.1]; exact z_in hi hn, by rw [z_cl (by omega)]; exact hk⟩) k
theorem am_r_last {q n : Nat} {a : Int} {x : Int64} (h : am_lk P pc = some (.lastore, len)) (e : pc + len = pc') (hf : am_okA q 1 n = true) (hn : n ≤ 1000000000) (k : am_rw sL xs d P rt pc' lv r (am_upL M q a.toNat x) Q) (hi : 0 ≤ a ∧ a < n := by omega) : am_rw sL xs d P rt pc lv (.long x :: .int (z_I a) :: .ref q :: r) M Q := by
  subst e
  simp only [am_okA, Bool.and_eq_true, decide_eq_true_eq] at hf
  exact am_rw_go h (fun v M' K hk => ⟨by rw [hf.1], hf.2, by rw [hf.1]; exact z_in hi hn, by rw [z_cl (by omega)]; exact hk⟩) k
theorem am_r_aaZ {q n t : Nat} {a : Int} (h : am_lk P pc = some (.aaload, len)) (e : pc + len = pc') (hf : (am_okA q 2 n || am_okA q 4 n) = true) (hb : am_rb q = t) (hn : n ≤ 1000000000) (k : am_rw sL xs d P rt pc' lv (.ref (t + a.toNat) :: r) M Q) (hi : 0 ≤ a ∧ a < n := by omega) : am_rw sL xs d P rt pc lv (.int (z_I a) :: .ref q :: r) M Q := by
  subst e
  subst hb
  simp only [am_okA, Bool.or_eq_true, Bool.and_eq_true, decide_eq_true_eq] at hf
  exact am_rw_go h (fun v M' K hk => ⟨by rcases hf with hf | hf <;> rw [hf.1] <;> simp, by rcases hf with hf | hf <;> exact hf.2, by rcases hf with hf | hf <;> rw [hf.1] <;> exact z_in hi hn, by rw [z_cl (by omega)]; exact hk⟩) k
theorem am_r_alen {q n : Nat} {z : Int} (h : am_lk P pc = some (.arraylength, len)) (e : pc + len = pc') (hf : am_okA q 0 n = true) (hz : Int32.ofNat n = z_I z) (k : am_rw sL xs d P rt pc' lv (.int (z_I z) :: r) M Q) : am_rw sL xs d P rt pc lv (.ref q :: r) M Q := by
  subst e
  have hn := am_okA_ne hf
  simp only [am_okA, Bool.and_eq_true, decide_eq_true_eq] at hf
  exact am_rw_go h (fun v M' K hk => (by show (if q = 900 then _ else _); rw [if_neg hn.1, hf.1, hz]; exact ⟨Or.inl rfl, hf.2, hk⟩)) k
theorem am_r_alenL {q n : Nat} {z : Int} (h : am_lk P pc = some (.arraylength, len)) (e : pc + len = pc') (hf : am_okA q 1 n = true) (hz : Int32.ofNat n = z_I z) (k : am_rw sL xs d P rt pc' lv (.int (z_I z) :: r) M Q) : am_rw sL xs d P rt pc lv (.ref q :: r) M Q := by
  subst e
  have hn := am_okA_ne hf
  simp only [am_okA, Bool.and_eq_true, decide_eq_true_eq] at hf
  exact am_rw_go h (fun v M' K hk => (by show (if q = 900 then _ else _); rw [if_neg hn.1, hf.1, hz]; exact ⟨Or.inr rfl, hf.2, hk⟩)) k
theorem am_r_alenS (h : am_lk P pc = some (.arraylength, len)) (e : pc + len = pc') (k : am_rw sL xs d P rt pc' lv (.int (Int32.ofNat sL) :: r) M Q) : am_rw sL xs d P rt pc lv (.ref 900 :: r) M Q := by
  subst e
  exact am_rw_go h (fun v M' K hk => (by show (if (900 : Nat) = 900 then K (pc + len) lv (.int (Int32.ofNat sL) :: r) M else ((am_shp 900).1 = 0 ∨ (am_shp 900).1 = 1) ∧ 900 < am_K ∧ K (pc + len) lv (.int (Int32.ofNat (am_shp 900).2) :: r) M); rw [if_pos rfl]; exact hk)) k
theorem am_r_iaS {a : Int} (h : am_lk P pc = some (.iaload, len)) (e : pc + len = pc') (hi : vp_in (z_I a) sL) (ha : 0 ≤ a ∧ a < 2147483648) (k : am_rw sL xs d P rt pc' lv (.int (xs a.toNat) :: r) M Q) : am_rw sL xs d P rt pc lv (.int (z_I a) :: .ref 900 :: r) M Q := by
  subst e
  exact am_rw_go h (fun v M' K hk => (by have z : am_i4 am_K 900 (z_I a) sL xs M (fun x => K (pc + len) lv (.int x :: r) M) := (by unfold am_i4; rw [if_pos rfl]; exact ⟨hi, by rw [z_cl ha]; exact hk⟩); exact z)) k
theorem am_r_stA {a : Int} {x : Int32} (h : am_lk P pc = some (.iaload, len)) (e : pc + len = pc') (hx : am_fA a.toNat = x) (k : am_rw sL xs d P rt pc' lv (.int x :: r) M Q) (hi : 0 ≤ a ∧ a < 8 := by omega) : am_rw sL xs d P rt pc lv (.int (z_I a) :: .ref 901 :: r) M Q := by
  subst e
  subst hx
  exact am_rw_go h (fun v M' K hk => (by have z : am_i4 am_K 901 (z_I a) sL xs M (fun x => K (pc + len) lv (.int x :: r) M) := (by unfold am_i4; rw [if_neg (by decide), if_pos rfl]; exact ⟨z_in hi (by decide), by rw [z_cl (by omega)]; exact hk⟩); exact z)) k
theorem am_r_stO {a : Int} {x : Int32} (h : am_lk P pc = some (.iaload, len)) (e : pc + len = pc') (hx : am_fO a.toNat = x) (k : am_rw sL xs d P rt pc' lv (.int x :: r) M Q) (hi : 0 ≤ a ∧ a < 32 := by omega) : am_rw sL xs d P rt pc lv (.int (z_I a) :: .ref 902 :: r) M Q := by
  subst e
  subst hx
  exact am_rw_go h (fun v M' K hk => (by have z : am_i4 am_K 902 (z_I a) sL xs M (fun x => K (pc + len) lv (.int x :: r) M) := (by unfold am_i4; rw [if_neg (by decide), if_neg (by decide), if_pos rfl]; exact ⟨z_in hi (by decide), by rw [z_cl (by omega)]; exact hk⟩); exact z)) k
theorem am_r_absZ {a : Int} (h : am_lk P pc = some (.invokespecial 0, len)) (e : pc + len = pc') (hc : am_cat r ≤ 8) (k : am_rw sL xs d P rt pc' lv (.int (z_I (if 0 ≤ a then a else -a)) :: r) M Q) (ha : -2147483648 ≤ a ∧ a < 2147483648 := by omega) : am_rw sL xs d P rt pc lv (.int (z_I a) :: r) M Q := by
  subst e
  exact am_rw_go h (fun v M' K hk => (by refine ⟨hc, ?_⟩; have e : (if 0 ≤ z_I a then z_I a else 0 - z_I a) = z_I (if 0 ≤ a then a else -a) := (by have e2 : (0 ≤ z_I a) = (0 ≤ a) := propext (z_le (a := 0) (by omega) ha); have e3 : (0 : Int32) - z_I a = z_I (-a) := (by have := z_sub 0 a; rw [show (0 : Int) - a = -a by omega] at this; exact this); simp only [e2, e3]; split <;> rfl); rw [e]; exact hk)) k
theorem am_r_minZ {a b : Int} (h : am_lk P pc = some (.invokespecial 1, len)) (e : pc + len = pc') (hc : am_cat r ≤ 8) (k : am_rw sL xs d P rt pc' lv (.int (z_I (min a b)) :: r) M Q) (ha : -2147483648 ≤ a ∧ a < 2147483648 := by omega) (hb : -2147483648 ≤ b ∧ b < 2147483648 := by omega) : am_rw sL xs d P rt pc lv (.int (z_I b) :: .int (z_I a) :: r) M Q := by
  subst e
  exact am_rw_go h (fun v M' K hk => (by refine ⟨hc, ?_⟩; have e : (if z_I b < z_I a then z_I b else z_I a) = z_I (min a b) := (by simp only [propext (z_lt hb ha)]; split <;> congr 1 <;> omega); rw [e]; exact hk)) k
theorem am_r_maxZ {a b : Int} (h : am_lk P pc = some (.invokespecial 2, len)) (e : pc + len = pc') (hc : am_cat r ≤ 8) (k : am_rw sL xs d P rt pc' lv (.int (z_I (max a b)) :: r) M Q) (ha : -2147483648 ≤ a ∧ a < 2147483648 := by omega) (hb : -2147483648 ≤ b ∧ b < 2147483648 := by omega) : am_rw sL xs d P rt pc lv (.int (z_I b) :: .int (z_I a) :: r) M Q := by
  subst e
  exact am_rw_go h (fun v M' K hk => (by refine ⟨hc, ?_⟩; have e : (if z_I a < z_I b then z_I b else z_I a) = z_I (max a b) := (by simp only [propext (z_lt ha hb)]; split <;> congr 1 <;> omega); rw [e]; exact hk)) k
theorem am_r_minL {a b : Int} (h : am_lk P pc = some (.invokespecial 3, len)) (e : pc + len = pc') (hc : am_cat r ≤ 8) (k : am_rw sL xs d P rt pc' lv (.long (z_L (min a b)) :: r) M Q) (ha : -9223372036854775808 ≤ a ∧ a < 9223372036854775808 := by omega) (hb : -9223372036854775808 ≤ b ∧ b < 9223372036854775808 := by omega) : am_rw sL xs d P rt pc lv (.long (z_L b) :: .long (z_L a) :: r) M Q := by
  subst e
  exact am_rw_go h (fun v M' K hk => (by refine ⟨hc, ?_⟩; have e : (if z_L b < z_L a then z_L b else z_L a) = z_L (min a b) := (by simp only [propext (z_ltL hb ha)]; split <;> congr 1 <;> omega); rw [e]; exact hk)) k
theorem am_r_minR {x y : Int32} (h : am_lk P pc = some (.invokespecial 1, len)) (e : pc + len = pc') (hc : am_cat r ≤ 8) (k : am_rw sL xs d P rt pc' lv (.int (if y < x then y else x) :: r) M Q) : am_rw sL xs d P rt pc lv (.int y :: .int x :: r) M Q := by
  subst e
  exact am_rw_go h (fun v M' K hk => ⟨hc, hk⟩) k
theorem am_r_maxR {x y : Int32} (h : am_lk P pc = some (.invokespecial 2, len)) (e : pc + len = pc') (hc : am_cat r ≤ 8) (k : am_rw sL xs d P rt pc' lv (.int (if x < y then y else x) :: r) M Q) : am_rw sL xs d P rt pc lv (.int y :: .int x :: r) M Q := by
  subst e
  exact am_rw_go h (fun v M' K hk => ⟨hc, hk⟩) k
theorem am_rw_br {st st2 : List Value} {i : Instr} {pt pf : Nat} {c : Prop} (h : am_lk P pc = some (i, len)) (hs : ∀ (v : Option Value) (M' : Am_M) (K : Nat → List Value → List Value → Am_M → Prop), (c → K pt lv st2 M) → (¬ c → K pf lv st2 M) → am_stp am_mt (am_bg sL xs d) sL xs rt v M' i (pc + len) lv st M K) (kt : c → am_rw sL xs d P rt pt lv st2 M Q) (kf : ¬ c → am_rw sL xs d P rt pf lv st2 M Q) : am_rw sL xs d P rt pc lv st M Q := by
  by_cases hc : c
  · obtain ⟨n, v, M', hr, hq⟩ := kt hc
    refine ⟨n + 1, v, M', ?_, hq⟩
    unfold am_run
    rw [h]
    exact hs v M' _ (fun _ => hr) (fun q => absurd hc q)
  · obtain ⟨n, v, M', hr, hq⟩ := kf hc
    refine ⟨n + 1, v, M', ?_, hq⟩
    unfold am_run
    rw [h]
    exact hs v M' _ (fun q => absurd q hc) (fun _ => hr)
theorem am_r_icmp_eqR {t : Int} {pt pf : Nat} {x y : Int32} (h : am_lk P pc = some (.if_icmp .eq t, len)) (e : pc + len = pf) (e2 : t.toNat = pt) (kt : x = y → am_rw sL xs d P rt pt lv r M Q) (kf : ¬ (x = y) → am_rw sL xs d P rt pf lv r M Q) : am_rw sL xs d P rt pc lv (.int y :: .int x :: r) M Q := by
  subst e e2
  exact am_rw_br h (fun v M' K k1 k2 => ⟨k1, k2⟩) kt kf
theorem am_r_if_eqR {t : Int} {pt pf : Nat} {x : Int32} (h : am_lk P pc = some (.ifCond .eq t, len)) (e : pc + len = pf) (e2 : t.toNat = pt) (kt : x = 0 → am_rw sL xs d P rt pt lv r M Q) (kf : ¬ (x = 0) → am_rw sL xs d P rt pf lv r M Q) : am_rw sL xs d P rt pc lv (.int x :: r) M Q := by
  subst e e2
  exact am_rw_br h (fun v M' K k1 k2 => ⟨k1, k2⟩) kt kf
theorem am_r_icmp_eq {t : Int} {pt pf : Nat} {a b : Int} (h : am_lk P pc = some (.if_icmp .eq t, len)) (e : pc + len = pf) (e2 : t.toNat = pt) (kt : a = b → am_rw sL xs d P rt pt lv r M Q) (kf : ¬ a = b → am_rw sL xs d P rt pf lv r M Q) (ha : -2147483648 ≤ a ∧ a < 2147483648 := by omega) (hb : -2147483648 ≤ b ∧ b < 2147483648 := by omega) : am_rw sL xs d P rt pc lv (.int (z_I b) :: .int (z_I a) :: r) M Q := am_r_icmp_eqR h e e2 (fun q => kt ((z_eq ha hb).mp q)) (fun q => kf (fun z => q ((z_eq ha hb).mpr z)))
theorem am_r_if_eq {t : Int} {pt pf : Nat} {a : Int} (h : am_lk P pc = some (.ifCond .eq t, len)) (e : pc + len = pf) (e2 : t.toNat = pt) (kt : a = 0 → am_rw sL xs d P rt pt lv r M Q) (kf : ¬ a = 0 → am_rw sL xs d P rt pf lv r M Q) (ha : -2147483648 ≤ a ∧ a < 2147483648 := by omega) : am_rw sL xs d P rt pc lv (.int (z_I a) :: r) M Q := am_r_if_eqR h e e2 (fun q => kt ((z_eq ha (show (-2147483648 : Int) ≤ 0 ∧ (0 : Int) < 2147483648 by omega)).mp q)) (fun q => kf (fun z => q ((z_eq ha (show (-2147483648 : Int) ≤ 0 ∧ (0 : Int) < 2147483648 by omega)).mpr z)))
theorem am_r_icmp_neR {t : Int} {pt pf : Nat} {x y : Int32} (h : am_lk P pc = some (.if_icmp .ne t, len)) (e : pc + len = pf) (e2 : t.toNat = pt) (kt : ¬ x = y → am_rw sL xs d P rt pt lv r M Q) (kf : ¬ (¬ x = y) → am_rw sL xs d P rt pf lv r M Q) : am_rw sL xs d P rt pc lv (.int y :: .int x :: r) M Q := by
  subst e e2
  exact am_rw_br h (fun v M' K k1 k2 => ⟨k1, k2⟩) kt kf
theorem am_r_if_neR {t : Int} {pt pf : Nat} {x : Int32} (h : am_lk P pc = some (.ifCond .ne t, len)) (e : pc + len = pf) (e2 : t.toNat = pt) (kt : ¬ x = 0 → am_rw sL xs d P rt pt lv r M Q) (kf : ¬ (¬ x = 0) → am_rw sL xs d P rt pf lv r M Q) : am_rw sL xs d P rt pc lv (.int x :: r) M Q := by
  subst e e2
  exact am_rw_br h (fun v M' K k1 k2 => ⟨k1, k2⟩) kt kf
theorem am_r_icmp_ne {t : Int} {pt pf : Nat} {a b : Int} (h : am_lk P pc = some (.if_icmp .ne t, len)) (e : pc + len = pf) (e2 : t.toNat = pt) (kt : ¬ a = b → am_rw sL xs d P rt pt lv r M Q) (kf : a = b → am_rw sL xs d P rt pf lv r M Q) (ha : -2147483648 ≤ a ∧ a < 2147483648 := by omega) (hb : -2147483648 ≤ b ∧ b < 2147483648 := by omega) : am_rw sL xs d P rt pc lv (.int (z_I b) :: .int (z_I a) :: r) M Q := am_r_icmp_neR h e e2 (fun q => kt (fun z => q ((z_eq ha hb).mpr z))) (fun q => kf ((z_eq ha hb).mp (Classical.not_not.mp q)))
theorem am_r_if_ne {t : Int} {pt pf : Nat} {a : Int} (h : am_lk P pc = some (.ifCond .ne t, len)) (e : pc + len = pf) (e2 : t.toNat = pt) (kt : ¬ a = 0 → am_rw sL xs d P rt pt lv r M Q) (kf : a = 0 → am_rw sL xs d P rt pf lv r M Q) (ha : -2147483648 ≤ a ∧ a < 2147483648 := by omega) : am_rw sL xs d P rt pc lv (.int (z_I a) :: r) M Q := am_r_if_neR h e e2 (fun q => kt (fun z => q ((z_eq ha (show (-2147483648 : Int) ≤ 0 ∧ (0 : Int) < 2147483648 by omega)).mpr z))) (fun q => kf ((z_eq ha (show (-2147483648 : Int) ≤ 0 ∧ (0 : Int) < 2147483648 by omega)).mp (Classical.not_not.mp q)))
theorem am_r_icmp_ltR {t : Int} {pt pf : Nat} {x y : Int32} (h : am_lk P pc = some (.if_icmp .lt t, len)) (e : pc + len = pf) (e2 : t.toNat = pt) (kt : x < y → am_rw sL xs d P rt pt lv r M Q) (kf : ¬ (x < y) → am_rw sL xs d P rt pf lv r M Q) : am_rw sL xs d P rt pc lv (.int y :: .int x :: r) M Q := by
  subst e e2
  exact am_rw_br h (fun v M' K k1 k2 => ⟨k1, k2⟩) kt kf
theorem am_r_if_ltR {t : Int} {pt pf : Nat} {x : Int32} (h : am_lk P pc = some (.ifCond .lt t, len)) (e : pc + len = pf) (e2 : t.toNat = pt) (kt : x < 0 → am_rw sL xs d P rt pt lv r M Q) (kf : ¬ (x < 0) → am_rw sL xs d P rt pf lv r M Q) : am_rw sL xs d P rt pc lv (.int x :: r) M Q := by
  subst e e2
  exact am_rw_br h (fun v M' K k1 k2 => ⟨k1, k2⟩) kt kf
theorem am_r_icmp_lt {t : Int} {pt pf : Nat} {a b : Int} (h : am_lk P pc = some (.if_icmp .lt t, len)) (e : pc + len = pf) (e2 : t.toNat = pt) (kt : a < b → am_rw sL xs d P rt pt lv r M Q) (kf : b ≤ a → am_rw sL xs d P rt pf lv r M Q) (ha : -2147483648 ≤ a ∧ a < 2147483648 := by omega) (hb : -2147483648 ≤ b ∧ b < 2147483648 := by omega) : am_rw sL xs d P rt pc lv (.int (z_I b) :: .int (z_I a) :: r) M Q := am_r_icmp_ltR h e e2 (fun q => kt ((z_lt ha hb).mp q)) (fun q => kf (by have := mt (z_lt ha hb).mpr q; omega))
theorem am_r_if_lt {t : Int} {pt pf : Nat} {a : Int} (h : am_lk P pc = some (.ifCond .lt t, len)) (e : pc + len = pf) (e2 : t.toNat = pt) (kt : a < 0 → am_rw sL xs d P rt pt lv r M Q) (kf : 0 ≤ a → am_rw sL xs d P rt pf lv r M Q) (ha : -2147483648 ≤ a ∧ a < 2147483648 := by omega) : am_rw sL xs d P rt pc lv (.int (z_I a) :: r) M Q := am_r_if_ltR h e e2 (fun q => kt ((z_lt ha (show (-2147483648 : Int) ≤ 0 ∧ (0 : Int) < 2147483648 by omega)).mp q)) (fun q => kf (by have := mt (z_lt ha (show (-2147483648 : Int) ≤ 0 ∧ (0 : Int) < 2147483648 by omega)).mpr q; omega))
theorem am_r_icmp_geR {t : Int} {pt pf : Nat} {x y : Int32} (h : am_lk P pc = some (.if_icmp .ge t, len)) (e : pc + len = pf) (e2 : t.toNat = pt) (kt : y ≤ x → am_rw sL xs d P rt pt lv r M Q) (kf : ¬ (y ≤ x) → am_rw sL xs d P rt pf lv r M Q) : am_rw sL xs d P rt pc lv (.int y :: .int x :: r) M Q := by
  subst e e2
  exact am_rw_br h (fun v M' K k1 k2 => ⟨k1, k2⟩) kt kf
theorem am_r_if_geR {t : Int} {pt pf : Nat} {x : Int32} (h : am_lk P pc = some (.ifCond .ge t, len)) (e : pc + len = pf) (e2 : t.toNat = pt) (kt : 0 ≤ x → am_rw sL xs d P rt pt lv r M Q) (kf : ¬ (0 ≤ x) → am_rw sL xs d P rt pf lv r M Q) : am_rw sL xs d P rt pc lv (.int x :: r) M Q := by
  subst e e2
  exact am_rw_br h (fun v M' K k1 k2 => ⟨k1, k2⟩) kt kf
theorem am_r_icmp_ge {t : Int} {pt pf : Nat} {a b : Int} (h : am_lk P pc = some (.if_icmp .ge t, len)) (e : pc + len = pf) (e2 : t.toNat = pt) (kt : b ≤ a → am_rw sL xs d P rt pt lv r M Q) (kf : a < b → am_rw sL xs d P rt pf lv r M Q) (ha : -2147483648 ≤ a ∧ a < 2147483648 := by omega) (hb : -2147483648 ≤ b ∧ b < 2147483648 := by omega) : am_rw sL xs d P rt pc lv (.int (z_I b) :: .int (z_I a) :: r) M Q := am_r_icmp_geR h e e2 (fun q => kt ((z_le hb ha).mp q)) (fun q => kf (by have := mt (z_le hb ha).mpr q; omega))
theorem am_r_if_ge {t : Int} {pt pf : Nat} {a : Int} (h : am_lk P pc = some (.ifCond .ge t, len)) (e : pc + len = pf) (e2 : t.toNat = pt) (kt : 0 ≤ a → am_rw sL xs d P rt pt lv r M Q) (kf : a < 0 → am_rw sL xs d P rt pf lv r M Q) (ha : -2147483648 ≤ a ∧ a < 2147483648 := by omega) : am_rw sL xs d P rt pc lv (.int (z_I a) :: r) M Q := am_r_if_geR h e e2 (fun q => kt ((z_le (show (-2147483648 : Int) ≤ 0 ∧ (0 : Int) < 2147483648 by omega) ha).mp q)) (fun q => kf (by have := mt (z_le (show (-2147483648 : Int) ≤ 0 ∧ (0 : Int) < 2147483648 by omega) ha).mpr q; omega))
theorem am_r_icmp_gtR {t : Int} {pt pf : Nat} {x y : Int32} (h : am_lk P pc = some (.if_icmp .gt t, len)) (e : pc + len = pf) (e2 : t.toNat = pt) (kt : y < x → am_rw sL xs d P rt pt lv r M Q) (kf : ¬ (y < x) → am_rw sL xs d P rt pf lv r M Q) : am_rw sL xs d P rt pc lv (.int y :: .int x :: r) M Q := by
  subst e e2
  exact am_rw_br h (fun v M' K k1 k2 => ⟨k1, k2⟩) kt kf
theorem am_r_if_gtR {t : Int} {pt pf : Nat} {x : Int32} (h : am_lk P pc = some (.ifCond .gt t, len)) (e : pc + len = pf) (e2 : t.toNat = pt) (kt : 0 < x → am_rw sL xs d P rt pt lv r M Q) (kf : ¬ (0 < x) → am_rw sL xs d P rt pf lv r M Q) : am_rw sL xs d P rt pc lv (.int x :: r) M Q := by
  subst e e2
  exact am_rw_br h (fun v M' K k1 k2 => ⟨k1, k2⟩) kt kf
theorem am_r_icmp_gt {t : Int} {pt pf : Nat} {a b : Int} (h : am_lk P pc = some (.if_icmp .gt t, len)) (e : pc + len = pf) (e2 : t.toNat = pt) (kt : b < a → am_rw sL xs d P rt pt lv r M Q) (kf : a ≤ b → am_rw sL xs d P rt pf lv r M Q) (ha : -2147483648 ≤ a ∧ a < 2147483648 := by omega) (hb : -2147483648 ≤ b ∧ b < 2147483648 := by omega) : am_rw sL xs d P rt pc lv (.int (z_I b) :: .int (z_I a) :: r) M Q := am_r_icmp_gtR h e e2 (fun q => kt ((z_lt hb ha).mp q)) (fun q => kf (by have := mt (z_lt hb ha).mpr q; omega))
theorem am_r_if_gt {t : Int} {pt pf : Nat} {a : Int} (h : am_lk P pc = some (.ifCond .gt t, len)) (e : pc + len = pf) (e2 : t.toNat = pt) (kt : 0 < a → am_rw sL xs d P rt pt lv r M Q) (kf : a ≤ 0 → am_rw sL xs d P rt pf lv r M Q) (ha : -2147483648 ≤ a ∧ a < 2147483648 := by omega) : am_rw sL xs d P rt pc lv (.int (z_I a) :: r) M Q := am_r_if_gtR h e e2 (fun q => kt ((z_lt (show (-2147483648 : Int) ≤ 0 ∧ (0 : Int) < 2147483648 by omega) ha).mp q)) (fun q => kf (by have := mt (z_lt (show (-2147483648 : Int) ≤ 0 ∧ (0 : Int) < 2147483648 by omega) ha).mpr q; omega))
theorem am_r_icmp_leR {t : Int} {pt pf : Nat} {x y : Int32} (h : am_lk P pc = some (.if_icmp .le t, len)) (e : pc + len = pf) (e2 : t.toNat = pt) (kt : x ≤ y → am_rw sL xs d P rt pt lv r M Q) (kf : ¬ (x ≤ y) → am_rw sL xs d P rt pf lv r M Q) : am_rw sL xs d P rt pc lv (.int y :: .int x :: r) M Q := by
  subst e e2
  exact am_rw_br h (fun v M' K k1 k2 => ⟨k1, k2⟩) kt kf
theorem am_r_if_leR {t : Int} {pt pf : Nat} {x : Int32} (h : am_lk P pc = some (.ifCond .le t, len)) (e : pc + len = pf) (e2 : t.toNat = pt) (kt : x ≤ 0 → am_rw sL xs d P rt pt lv r M Q) (kf : ¬ (x ≤ 0) → am_rw sL xs d P rt pf lv r M Q) : am_rw sL xs d P rt pc lv (.int x :: r) M Q := by
  subst e e2
  exact am_rw_br h (fun v M' K k1 k2 => ⟨k1, k2⟩) kt kf
theorem am_r_icmp_le {t : Int} {pt pf : Nat} {a b : Int} (h : am_lk P pc = some (.if_icmp .le t, len)) (e : pc + len = pf) (e2 : t.toNat = pt) (kt : a ≤ b → am_rw sL xs d P rt pt lv r M Q) (kf : b < a → am_rw sL xs d P rt pf lv r M Q) (ha : -2147483648 ≤ a ∧ a < 2147483648 := by omega) (hb : -2147483648 ≤ b ∧ b < 2147483648 := by omega) : am_rw sL xs d P rt pc lv (.int (z_I b) :: .int (z_I a) :: r) M Q := am_r_icmp_leR h e e2 (fun q => kt ((z_le ha hb).mp q)) (fun q => kf (by have := mt (z_le ha hb).mpr q; omega))
theorem am_r_if_le {t : Int} {pt pf : Nat} {a : Int} (h : am_lk P pc = some (.ifCond .le t, len)) (e : pc + len = pf) (e2 : t.toNat = pt) (kt : a ≤ 0 → am_rw sL xs d P rt pt lv r M Q) (kf : 0 < a → am_rw sL xs d P rt pf lv r M Q) (ha : -2147483648 ≤ a ∧ a < 2147483648 := by omega) : am_rw sL xs d P rt pc lv (.int (z_I a) :: r) M Q := am_r_if_leR h e e2 (fun q => kt ((z_le ha (show (-2147483648 : Int) ≤ 0 ∧ (0 : Int) < 2147483648 by omega)).mp q)) (fun q => kf (by have := mt (z_le ha (show (-2147483648 : Int) ≤ 0 ∧ (0 : Int) < 2147483648 by omega)).mpr q; omega))
theorem am_r_if_eqB {t : Int} {pt pf : Nat} {c : Prop} [Decidable c] (h : am_lk P pc = some (.ifCond .eq t, len)) (e : pc + len = pf) (e2 : t.toNat = pt) (kt : ¬ c → am_rw sL xs d P rt pt lv r M Q) (kf : c → am_rw sL xs d P rt pf lv r M Q) : am_rw sL xs d P rt pc lv (.int (z_b c) :: r) M Q := am_r_if_eqR h e e2 (fun q => kt (z_b_0.mp q)) (fun q => kf (Classical.not_not.mp (fun z => q (z_b_0.mpr z))))
theorem am_r_if_neB {t : Int} {pt pf : Nat} {c : Prop} [Decidable c] (h : am_lk P pc = some (.ifCond .ne t, len)) (e : pc + len = pf) (e2 : t.toNat = pt) (kt : c → am_rw sL xs d P rt pt lv r M Q) (kf : ¬ c → am_rw sL xs d P rt pf lv r M Q) : am_rw sL xs d P rt pc lv (.int (z_b c) :: r) M Q := am_r_if_neR h e e2 (fun q => kt (Classical.not_not.mp (fun z => q (z_b_0.mpr z)))) (fun q => kf (fun z => q (fun w => (z_b_0.mp w) z)))
def am_cmp (a b : Int) : Int := if a < b then -1 else if a = b then 0 else 1
theorem am_cmp_of {a b : Int} (ha : -9223372036854775808 ≤ a ∧ a < 9223372036854775808) (hb : -9223372036854775808 ≤ b ∧ b < 9223372036854775808) : lg_cmp (z_L a) (z_L b) = z_I (am_cmp a b) := by
  unfold lg_cmp am_cmp
  simp only [propext (z_ltL hb ha), propext (z_ltL ha hb), propext (z_eqL ha hb)]
  repeat' split
  all_goals first | rfl | (exfalso; omega)
theorem am_r_lcmp {a b : Int} (h : am_lk P pc = some (.lcmp, len)) (e : pc + len = pc') (k : am_rw sL xs d P rt pc' lv (.int (z_I (am_cmp a b)) :: r) M Q) (ha : -9223372036854775808 ≤ a ∧ a < 9223372036854775808 := by omega) (hb : -9223372036854775808 ≤ b ∧ b < 9223372036854775808 := by omega) : am_rw sL xs d P rt pc lv (.long (z_L b) :: .long (z_L a) :: r) M Q := by
  subst e
  exact am_rw_go h (fun v M' K hk => by show K _ _ (.int (lg_cmp (z_L a) (z_L b)) :: r) _; rw [am_cmp_of ha hb]; exact hk) k
theorem am_r_lcmpR {x y : Int64} (h : am_lk P pc = some (.lcmp, len)) (e : pc + len = pc') (k : am_rw sL xs d P rt pc' lv (.int (lg_cmp x y) :: r) M Q) : am_rw sL xs d P rt pc lv (.long y :: .long x :: r) M Q := by
  subst e
  exact am_rw_go h (fun v M' K hk => hk) k
theorem am_cmp_b (a b : Int) : -2147483648 ≤ am_cmp a b ∧ am_cmp a b < 2147483648 := by
  unfold am_cmp
  repeat' split
  all_goals omega
theorem am_cmp_lt (a b : Int) : am_cmp a b < 0 ↔ a < b := by
  unfold am_cmp
  repeat' split
  all_goals omega
theorem am_cmp_eq (a b : Int) : am_cmp a b = 0 ↔ a = b := by
  unfold am_cmp
  repeat' split
  all_goals omega
theorem am_cmp_gt (a b : Int) : 0 < am_cmp a b ↔ b < a := by
  unfold am_cmp
  repeat' split
  all_goals omega
theorem am_r_lif_eq {t : Int} {pt pf : Nat} {a b : Int} (h : am_lk P pc = some (.ifCond .eq t, len)) (e : pc + len = pf) (e2 : t.toNat = pt) (kt : a = b → am_rw sL xs d P rt pt lv r M Q) (kf : ¬ a = b → am_rw sL xs d P rt pf lv r M Q) : am_rw sL xs d P rt pc lv (.int (z_I (am_cmp a b)) :: r) M Q := am_r_if_eq h e e2 (fun q => kt (by have h1 := am_cmp_lt a b; have h2 := am_cmp_eq a b; have h3 := am_cmp_gt a b; omega)) (fun q => kf (by have h1 := am_cmp_lt a b; have h2 := am_cmp_eq a b; have h3 := am_cmp_gt a b; omega)) (am_cmp_b a b)
theorem am_r_lif_ne {t : Int} {pt pf : Nat} {a b : Int} (h : am_lk P pc = some (.ifCond .ne t, len)) (e : pc + len = pf) (e2 : t.toNat = pt) (kt : ¬ a = b → am_rw sL xs d P rt pt lv r M Q) (kf : a = b → am_rw sL xs d P rt pf lv r M Q) : am_rw sL xs d P rt pc lv (.int (z_I (am_cmp a b)) :: r) M Q := am_r_if_ne h e e2 (fun q => kt (by have h1 := am_cmp_lt a b; have h2 := am_cmp_eq a b; have h3 := am_cmp_gt a b; omega)) (fun q => kf (by have h1 := am_cmp_lt a b; have h2 := am_cmp_eq a b; have h3 := am_cmp_gt a b; omega)) (am_cmp_b a b)
theorem am_r_lif_lt {t : Int} {pt pf : Nat} {a b : Int} (h : am_lk P pc = some (.ifCond .lt t, len)) (e : pc + len = pf) (e2 : t.toNat = pt) (kt : a < b → am_rw sL xs d P rt pt lv r M Q) (kf : b ≤ a → am_rw sL xs d P rt pf lv r M Q) : am_rw sL xs d P rt pc lv (.int (z_I (am_cmp a b)) :: r) M Q := am_r_if_lt h e e2 (fun q => kt (by have h1 := am_cmp_lt a b; have h2 := am_cmp_eq a b; have h3 := am_cmp_gt a b; omega)) (fun q => kf (by have h1 := am_cmp_lt a b; have h2 := am_cmp_eq a b; have h3 := am_cmp_gt a b; omega)) (am_cmp_b a b)
theorem am_r_lif_ge {t : Int} {pt pf : Nat} {a b : Int} (h : am_lk P pc = some (.ifCond .ge t, len)) (e : pc + len = pf) (e2 : t.toNat = pt) (kt : b ≤ a → am_rw sL xs d P rt pt lv r M Q) (kf : a < b → am_rw sL xs d P rt pf lv r M Q) : am_rw sL xs d P rt pc lv (.int (z_I (am_cmp a b)) :: r) M Q := am_r_if_ge h e e2 (fun q => kt (by have h1 := am_cmp_lt a b; have h2 := am_cmp_eq a b; have h3 := am_cmp_gt a b; omega)) (fun q => kf (by have h1 := am_cmp_lt a b; have h2 := am_cmp_eq a b; have h3 := am_cmp_gt a b; omega)) (am_cmp_b a b)
theorem am_r_lif_gt {t : Int} {pt pf : Nat} {a b : Int} (h : am_lk P pc = some (.ifCond .gt t, len)) (e : pc + len = pf) (e2 : t.toNat = pt) (kt : b < a → am_rw sL xs d P rt pt lv r M Q) (kf : a ≤ b → am_rw sL xs d P rt pf lv r M Q) : am_rw sL xs d P rt pc lv (.int (z_I (am_cmp a b)) :: r) M Q := am_r_if_gt h e e2 (fun q => kt (by have h1 := am_cmp_lt a b; have h2 := am_cmp_eq a b; have h3 := am_cmp_gt a b; omega)) (fun q => kf (by have h1 := am_cmp_lt a b; have h2 := am_cmp_eq a b; have h3 := am_cmp_gt a b; omega)) (am_cmp_b a b)
theorem am_r_lif_le {t : Int} {pt pf : Nat} {a b : Int} (h : am_lk P pc = some (.ifCond .le t, len)) (e : pc + len = pf) (e2 : t.toNat = pt) (kt : a ≤ b → am_rw sL xs d P rt pt lv r M Q) (kf : b < a → am_rw sL xs d P rt pf lv r M Q) : am_rw sL xs d P rt pc lv (.int (z_I (am_cmp a b)) :: r) M Q := am_r_if_le h e e2 (fun q => kt (by have h1 := am_cmp_lt a b; have h2 := am_cmp_eq a b; have h3 := am_cmp_gt a b; omega)) (fun q => kf (by have h1 := am_cmp_lt a b; have h2 := am_cmp_eq a b; have h3 := am_cmp_gt a b; omega)) (am_cmp_b a b)
theorem am_r_tsw {dd lo hi : Int} {offs : Array Int} {a : Int} {t : Nat} (h : am_lk P pc = some (.tableswitch dd lo hi offs, len)) (ht : (if a < lo ∨ hi < a then dd else offs.toList.getD (a - lo).toNat 0).toNat = t) (k : am_rw sL xs d P rt t lv r M Q) (ha : -2147483648 ≤ a ∧ a < 2147483648 := by omega) : am_rw sL xs d P rt pc lv (.int (z_I a) :: r) M Q := by
  subst ht
  exact am_rw_go h (fun v M' K hk => by show K (if (z_I a).toInt < lo ∨ hi < (z_I a).toInt then dd else offs.toList.getD ((z_I a).toInt - lo).toNat 0).toNat lv r M; rw [z_toInt ha]; exact hk) k
theorem am_r_lsw {dd : Int} {ps : Array (Int × Int)} {a : Int} {t : Nat} (h : am_lk P pc = some (.lookupswitch dd ps, len)) (ht : (am_sw ps.toList dd a).toNat = t) (k : am_rw sL xs d P rt t lv r M Q) (ha : -2147483648 ≤ a ∧ a < 2147483648 := by omega) : am_rw sL xs d P rt pc lv (.int (z_I a) :: r) M Q := by
  subst ht
  exact am_rw_go h (fun v M' K hk => by show K (am_sw ps.toList dd (z_I a).toInt).toNat lv r M; rw [z_toInt ha]; exact hk) k
theorem am_r_iret {x : Int32} {q : Int32 → Am_M → Prop} (h : am_lk P pc = some (.ireturn, len)) (hr : rt = 1) (k : q x M) : am_rw sL xs d P rt pc lv [.int x] M (am_pi q) := am_rw_end (v := some (.int x)) h (fun K => ⟨Or.inl hr, rfl, rfl⟩) ⟨x, rfl, k⟩
theorem am_r_zret {x : Int32} {q : Int32 → Am_M → Prop} (h : am_lk P pc = some (.ireturn, len)) (hr : rt = 2) (hx : x = 0 ∨ x = 1) (k : q x M) : am_rw sL xs d P rt pc lv [.int x] M (am_pi q) := am_rw_end (v := some (.int x)) h (fun K => ⟨Or.inr ⟨hr, hx⟩, rfl, rfl⟩) ⟨x, rfl, k⟩
theorem am_r_lret {x : Int64} {q : Int64 → Am_M → Prop} (h : am_lk P pc = some (.lreturn, len)) (hr : rt = 3) (k : q x M) : am_rw sL xs d P rt pc lv [.long x] M (am_pl q) := am_rw_end (v := some (.long x)) h (fun K => ⟨hr, rfl, rfl⟩) ⟨x, rfl, k⟩
theorem am_r_vret {q : Am_M → Prop} (h : am_lk P pc = some (.return_, len)) (hr : rt = 0) (k : q M) : am_rw sL xs d P rt pc lv [] M (am_pv q) := am_rw_end (v := none) h (fun K => ⟨hr, rfl, rfl⟩) ⟨rfl, k⟩
def am_vj (j q n : Nat) : Bool := decide ((am_mt j).2.2.2.2.2.2.1 = n) && decide (am_shp q = (3, (am_mt j).1)) && decide (q < am_K)
def am_sj (j n : Nat) : Bool := decide ((am_mt j).2.2.2.2.2.2.1 = n)
theorem am_r_invI0 {j q : Nat} (h : am_lk P pc = some (.invokevirtual j, len)) (e : pc + len = pc') (hj : am_vj j q 0 = true) (hc : am_cat r ≤ 8) (k : am_bi sL xs d j [.ref q] M (fun x M' => am_rw sL xs d P rt pc' lv (.int x :: r) M' Q)) : am_rw sL xs d P rt pc lv (.ref q :: r) M Q := by
  subst e
  simp only [am_vj, Bool.and_eq_true, decide_eq_true_eq] at hj
  obtain ⟨⟨h1, h2⟩, h3⟩ := hj
  obtain ⟨x, M2, hb, n, v, M', hr, hq⟩ := k
  refine ⟨n + 1, v, M', ?_, hq⟩
  unfold am_run
  rw [h]
  unfold am_stp
  dsimp only
  rw [h1]
  exact ⟨h2, h3, by simp, hc, some (.int x), M2, hb, hr⟩
theorem am_r_ivsI0 {j : Nat} (h : am_lk P pc = some (.invokestatic j, len)) (e : pc + len = pc') (hj : am_sj j 0 = true) (hc : am_cat r ≤ 8) (k : am_bi sL xs d j [] M (fun x M' => am_rw sL xs d P rt pc' lv (.int x :: r) M' Q)) : am_rw sL xs d P rt pc lv r M Q := by
  subst e
  simp only [am_sj, decide_eq_true_eq] at hj
  obtain ⟨x, M2, hb, n, v, M', hr, hq⟩ := k
  refine ⟨n + 1, v, M', ?_, hq⟩
  unfold am_run
  rw [h]
  unfold am_stp
  dsimp only
  rw [hj]
  exact ⟨by simp, hc, some (.int x), M2, hb, hr⟩
theorem am_r_invL0 {j q : Nat} (h : am_lk P pc = some (.invokevirtual j, len)) (e : pc + len = pc') (hj : am_vj j q 0 = true) (hc : am_cat r ≤ 8) (k : am_bl sL xs d j [.ref q] M (fun x M' => am_rw sL xs d P rt pc' lv (.long x :: r) M' Q)) : am_rw sL xs d P rt pc lv (.ref q :: r) M Q := by
  subst e
  simp only [am_vj, Bool.and_eq_true, decide_eq_true_eq] at hj
  obtain ⟨⟨h1, h2⟩, h3⟩ := hj
  obtain ⟨x, M2, hb, n, v, M', hr, hq⟩ := k
  refine ⟨n + 1, v, M', ?_, hq⟩
  unfold am_run
  rw [h]
  unfold am_stp
  dsimp only
  rw [h1]
  exact ⟨h2, h3, by simp, hc, some (.long x), M2, hb, hr⟩
theorem am_r_ivsL0 {j : Nat} (h : am_lk P pc = some (.invokestatic j, len)) (e : pc + len = pc') (hj : am_sj j 0 = true) (hc : am_cat r ≤ 8) (k : am_bl sL xs d j [] M (fun x M' => am_rw sL xs d P rt pc' lv (.long x :: r) M' Q)) : am_rw sL xs d P rt pc lv r M Q := by
  subst e
  simp only [am_sj, decide_eq_true_eq] at hj
  obtain ⟨x, M2, hb, n, v, M', hr, hq⟩ := k
  refine ⟨n + 1, v, M', ?_, hq⟩
  unfold am_run
  rw [h]
  unfold am_stp
  dsimp only
  rw [hj]
  exact ⟨by simp, hc, some (.long x), M2, hb, hr⟩
theorem am_r_invV0 {j q : Nat} (h : am_lk P pc = some (.invokevirtual j, len)) (e : pc + len = pc') (hj : am_vj j q 0 = true) (hc : am_cat r ≤ 8) (k : am_bv sL xs d j [.ref q] M (fun M' => am_rw sL xs d P rt pc' lv r M' Q)) : am_rw sL xs d P rt pc lv (.ref q :: r) M Q := by
  subst e
  simp only [am_vj, Bool.and_eq_true, decide_eq_true_eq] at hj
  obtain ⟨⟨h1, h2⟩, h3⟩ := hj
  obtain ⟨M2, hb, n, v, M', hr, hq⟩ := k
  refine ⟨n + 1, v, M', ?_, hq⟩
  unfold am_run
  rw [h]
  unfold am_stp
  dsimp only
  rw [h1]
  exact ⟨h2, h3, by simp, hc, none, M2, hb, hr⟩
theorem am_r_ivsV0 {j : Nat} (h : am_lk P pc = some (.invokestatic j, len)) (e : pc + len = pc') (hj : am_sj j 0 = true) (hc : am_cat r ≤ 8) (k : am_bv sL xs d j [] M (fun M' => am_rw sL xs d P rt pc' lv r M' Q)) : am_rw sL xs d P rt pc lv r M Q := by
  subst e
  simp only [am_sj, decide_eq_true_eq] at hj
  obtain ⟨M2, hb, n, v, M', hr, hq⟩ := k
  refine ⟨n + 1, v, M', ?_, hq⟩
  unfold am_run
  rw [h]
  unfold am_stp
  dsimp only
  rw [hj]
  exact ⟨by simp, hc, none, M2, hb, hr⟩
theorem am_r_invI1 {w0 : Value} {j q : Nat} (h : am_lk P pc = some (.invokevirtual j, len)) (e : pc + len = pc') (hj : am_vj j q 1 = true) (hc : am_cat r ≤ 8) (k : am_bi sL xs d j [.ref q, w0] M (fun x M' => am_rw sL xs d P rt pc' lv (.int x :: r) M' Q)) : am_rw sL xs d P rt pc lv (w0 :: .ref q :: r) M Q := by
  subst e
  simp only [am_vj, Bool.and_eq_true, decide_eq_true_eq] at hj
  obtain ⟨⟨h1, h2⟩, h3⟩ := hj
  obtain ⟨x, M2, hb, n, v, M', hr, hq⟩ := k
  refine ⟨n + 1, v, M', ?_, hq⟩
  unfold am_run
  rw [h]
  unfold am_stp
  dsimp only
  rw [h1]
  exact ⟨h2, h3, by simp, hc, some (.int x), M2, hb, hr⟩
theorem am_r_ivsI1 {w0 : Value} {j : Nat} (h : am_lk P pc = some (.invokestatic j, len)) (e : pc + len = pc') (hj : am_sj j 1 = true) (hc : am_cat r ≤ 8) (k : am_bi sL xs d j [w0] M (fun x M' => am_rw sL xs d P rt pc' lv (.int x :: r) M' Q)) : am_rw sL xs d P rt pc lv (w0 :: r) M Q := by
  subst e
  simp only [am_sj, decide_eq_true_eq] at hj
  obtain ⟨x, M2, hb, n, v, M', hr, hq⟩ := k
  refine ⟨n + 1, v, M', ?_, hq⟩
  unfold am_run
  rw [h]
  unfold am_stp
  dsimp only
  rw [hj]
  exact ⟨by simp, hc, some (.int x), M2, hb, hr⟩
theorem am_r_invL1 {w0 : Value} {j q : Nat} (h : am_lk P pc = some (.invokevirtual j, len)) (e : pc + len = pc') (hj : am_vj j q 1 = true) (hc : am_cat r ≤ 8) (k : am_bl sL xs d j [.ref q, w0] M (fun x M' => am_rw sL xs d P rt pc' lv (.long x :: r) M' Q)) : am_rw sL xs d P rt pc lv (w0 :: .ref q :: r) M Q := by
  subst e
  simp only [am_vj, Bool.and_eq_true, decide_eq_true_eq] at hj
  obtain ⟨⟨h1, h2⟩, h3⟩ := hj
  obtain ⟨x, M2, hb, n, v, M', hr, hq⟩ := k
  refine ⟨n + 1, v, M', ?_, hq⟩
  unfold am_run
  rw [h]
  unfold am_stp
  dsimp only
  rw [h1]
  exact ⟨h2, h3, by simp, hc, some (.long x), M2, hb, hr⟩
theorem am_r_ivsL1 {w0 : Value} {j : Nat} (h : am_lk P pc = some (.invokestatic j, len)) (e : pc + len = pc') (hj : am_sj j 1 = true) (hc : am_cat r ≤ 8) (k : am_bl sL xs d j [w0] M (fun x M' => am_rw sL xs d P rt pc' lv (.long x :: r) M' Q)) : am_rw sL xs d P rt pc lv (w0 :: r) M Q := by
  subst e
  simp only [am_sj, decide_eq_true_eq] at hj
  obtain ⟨x, M2, hb, n, v, M', hr, hq⟩ := k
  refine ⟨n + 1, v, M', ?_, hq⟩
  unfold am_run
  rw [h]
  unfold am_stp
  dsimp only
  rw [hj]
  exact ⟨by simp, hc, some (.long x), M2, hb, hr⟩
theorem am_r_invV1 {w0 : Value} {j q : Nat} (h : am_lk P pc = some (.invokevirtual j, len)) (e : pc + len = pc') (hj : am_vj j q 1 = true) (hc : am_cat r ≤ 8) (k : am_bv sL xs d j [.ref q, w0] M (fun M' => am_rw sL xs d P rt pc' lv r M' Q)) : am_rw sL xs d P rt pc lv (w0 :: .ref q :: r) M Q := by
  subst e
  simp only [am_vj, Bool.and_eq_true, decide_eq_true_eq] at hj
  obtain ⟨⟨h1, h2⟩, h3⟩ := hj
  obtain ⟨M2, hb, n, v, M', hr, hq⟩ := k
  refine ⟨n + 1, v, M', ?_, hq⟩
  unfold am_run
  rw [h]
  unfold am_stp
  dsimp only
  rw [h1]
  exact ⟨h2, h3, by simp, hc, none, M2, hb, hr⟩
theorem am_r_ivsV1 {w0 : Value} {j : Nat} (h : am_lk P pc = some (.invokestatic j, len)) (e : pc + len = pc') (hj : am_sj j 1 = true) (hc : am_cat r ≤ 8) (k : am_bv sL xs d j [w0] M (fun M' => am_rw sL xs d P rt pc' lv r M' Q)) : am_rw sL xs d P rt pc lv (w0 :: r) M Q := by
  subst e
  simp only [am_sj, decide_eq_true_eq] at hj
  obtain ⟨M2, hb, n, v, M', hr, hq⟩ := k
  refine ⟨n + 1, v, M', ?_, hq⟩
  unfold am_run
  rw [h]
  unfold am_stp
  dsimp only
  rw [hj]
  exact ⟨by simp, hc, none, M2, hb, hr⟩
theorem am_r_invI2 {w0 w1 : Value} {j q : Nat} (h : am_lk P pc = some (.invokevirtual j, len)) (e : pc + len = pc') (hj : am_vj j q 2 = true) (hc : am_cat r ≤ 8) (k : am_bi sL xs d j [.ref q, w0, w1] M (fun x M' => am_rw sL xs d P rt pc' lv (.int x :: r) M' Q)) : am_rw sL xs d P rt pc lv (w1 :: w0 :: .ref q :: r) M Q := by
  subst e
  simp only [am_vj, Bool.and_eq_true, decide_eq_true_eq] at hj
  obtain ⟨⟨h1, h2⟩, h3⟩ := hj
  obtain ⟨x, M2, hb, n, v, M', hr, hq⟩ := k
  refine ⟨n + 1, v, M', ?_, hq⟩
  unfold am_run
  rw [h]
  unfold am_stp
  dsimp only
  rw [h1]
  exact ⟨h2, h3, by simp, hc, some (.int x), M2, hb, hr⟩
theorem am_r_ivsI2 {w0 w1 : Value} {j : Nat} (h : am_lk P pc = some (.invokestatic j, len)) (e : pc + len = pc') (hj : am_sj j 2 = true) (hc : am_cat r ≤ 8) (k : am_bi sL xs d j [w0, w1] M (fun x M' => am_rw sL xs d P rt pc' lv (.int x :: r) M' Q)) : am_rw sL xs d P rt pc lv (w1 :: w0 :: r) M Q := by
  subst e
  simp only [am_sj, decide_eq_true_eq] at hj
  obtain ⟨x, M2, hb, n, v, M', hr, hq⟩ := k
  refine ⟨n + 1, v, M', ?_, hq⟩
  unfold am_run
  rw [h]
  unfold am_stp
  dsimp only
  rw [hj]
  exact ⟨by simp, hc, some (.int x), M2, hb, hr⟩
theorem am_r_invL2 {w0 w1 : Value} {j q : Nat} (h : am_lk P pc = some (.invokevirtual j, len)) (e : pc + len = pc') (hj : am_vj j q 2 = true) (hc : am_cat r ≤ 8) (k : am_bl sL xs d j [.ref q, w0, w1] M (fun x M' => am_rw sL xs d P rt pc' lv (.long x :: r) M' Q)) : am_rw sL xs d P rt pc lv (w1 :: w0 :: .ref q :: r) M Q := by
  subst e
  simp only [am_vj, Bool.and_eq_true, decide_eq_true_eq] at hj
  obtain ⟨⟨h1, h2⟩, h3⟩ := hj
  obtain ⟨x, M2, hb, n, v, M', hr, hq⟩ := k
  refine ⟨n + 1, v, M', ?_, hq⟩
  unfold am_run
  rw [h]
  unfold am_stp
  dsimp only
  rw [h1]
  exact ⟨h2, h3, by simp, hc, some (.long x), M2, hb, hr⟩
theorem am_r_ivsL2 {w0 w1 : Value} {j : Nat} (h : am_lk P pc = some (.invokestatic j, len)) (e : pc + len = pc') (hj : am_sj j 2 = true) (hc : am_cat r ≤ 8) (k : am_bl sL xs d j [w0, w1] M (fun x M' => am_rw sL xs d P rt pc' lv (.long x :: r) M' Q)) : am_rw sL xs d P rt pc lv (w1 :: w0 :: r) M Q := by
  subst e
  simp only [am_sj, decide_eq_true_eq] at hj
  obtain ⟨x, M2, hb, n, v, M', hr, hq⟩ := k
  refine ⟨n + 1, v, M', ?_, hq⟩
  unfold am_run
  rw [h]
  unfold am_stp
  dsimp only
  rw [hj]
  exact ⟨by simp, hc, some (.long x), M2, hb, hr⟩
theorem am_r_invV2 {w0 w1 : Value} {j q : Nat} (h : am_lk P pc = some (.invokevirtual j, len)) (e : pc + len = pc') (hj : am_vj j q 2 = true) (hc : am_cat r ≤ 8) (k : am_bv sL xs d j [.ref q, w0, w1] M (fun M' => am_rw sL xs d P rt pc' lv r M' Q)) : am_rw sL xs d P rt pc lv (w1 :: w0 :: .ref q :: r) M Q := by
  subst e
  simp only [am_vj, Bool.and_eq_true, decide_eq_true_eq] at hj
  obtain ⟨⟨h1, h2⟩, h3⟩ := hj
  obtain ⟨M2, hb, n, v, M', hr, hq⟩ := k
  refine ⟨n + 1, v, M', ?_, hq⟩
  unfold am_run
  rw [h]
  unfold am_stp
  dsimp only
  rw [h1]
  exact ⟨h2, h3, by simp, hc, none, M2, hb, hr⟩
theorem am_r_ivsV2 {w0 w1 : Value} {j : Nat} (h : am_lk P pc = some (.invokestatic j, len)) (e : pc + len = pc') (hj : am_sj j 2 = true) (hc : am_cat r ≤ 8) (k : am_bv sL xs d j [w0, w1] M (fun M' => am_rw sL xs d P rt pc' lv r M' Q)) : am_rw sL xs d P rt pc lv (w1 :: w0 :: r) M Q := by
  subst e
  simp only [am_sj, decide_eq_true_eq] at hj
  obtain ⟨M2, hb, n, v, M', hr, hq⟩ := k
  refine ⟨n + 1, v, M', ?_, hq⟩
  unfold am_run
  rw [h]
  unfold am_stp
  dsimp only
  rw [hj]
  exact ⟨by simp, hc, none, M2, hb, hr⟩
theorem am_r_invI3 {w0 w1 w2 : Value} {j q : Nat} (h : am_lk P pc = some (.invokevirtual j, len)) (e : pc + len = pc') (hj : am_vj j q 3 = true) (hc : am_cat r ≤ 8) (k : am_bi sL xs d j [.ref q, w0, w1, w2] M (fun x M' => am_rw sL xs d P rt pc' lv (.int x :: r) M' Q)) : am_rw sL xs d P rt pc lv (w2 :: w1 :: w0 :: .ref q :: r) M Q := by
  subst e
  simp only [am_vj, Bool.and_eq_true, decide_eq_true_eq] at hj
  obtain ⟨⟨h1, h2⟩, h3⟩ := hj
  obtain ⟨x, M2, hb, n, v, M', hr, hq⟩ := k
  refine ⟨n + 1, v, M', ?_, hq⟩
  unfold am_run
  rw [h]
  unfold am_stp
  dsimp only
  rw [h1]
  exact ⟨h2, h3, by simp, hc, some (.int x), M2, hb, hr⟩
theorem am_r_ivsI3 {w0 w1 w2 : Value} {j : Nat} (h : am_lk P pc = some (.invokestatic j, len)) (e : pc + len = pc') (hj : am_sj j 3 = true) (hc : am_cat r ≤ 8) (k : am_bi sL xs d j [w0, w1, w2] M (fun x M' => am_rw sL xs d P rt pc' lv (.int x :: r) M' Q)) : am_rw sL xs d P rt pc lv (w2 :: w1 :: w0 :: r) M Q := by
  subst e
  simp only [am_sj, decide_eq_true_eq] at hj
  obtain ⟨x, M2, hb, n, v, M', hr, hq⟩ := k
  refine ⟨n + 1, v, M', ?_, hq⟩
  unfold am_run
  rw [h]
  unfold am_stp
  dsimp only
  rw [hj]
  exact ⟨by simp, hc, some (.int x), M2, hb, hr⟩
theorem am_r_invL3 {w0 w1 w2 : Value} {j q : Nat} (h : am_lk P pc = some (.invokevirtual j, len)) (e : pc + len = pc') (hj : am_vj j q 3 = true) (hc : am_cat r ≤ 8) (k : am_bl sL xs d j [.ref q, w0, w1, w2] M (fun x M' => am_rw sL xs d P rt pc' lv (.long x :: r) M' Q)) : am_rw sL xs d P rt pc lv (w2 :: w1 :: w0 :: .ref q :: r) M Q := by
  subst e
  simp only [am_vj, Bool.and_eq_true, decide_eq_true_eq] at hj
  obtain ⟨⟨h1, h2⟩, h3⟩ := hj
  obtain ⟨x, M2, hb, n, v, M', hr, hq⟩ := k
  refine ⟨n + 1, v, M', ?_, hq⟩
  unfold am_run
  rw [h]
  unfold am_stp
  dsimp only
  rw [h1]
  exact ⟨h2, h3, by simp, hc, some (.long x), M2, hb, hr⟩
theorem am_r_ivsL3 {w0 w1 w2 : Value} {j : Nat} (h : am_lk P pc = some (.invokestatic j, len)) (e : pc + len = pc') (hj : am_sj j 3 = true) (hc : am_cat r ≤ 8) (k : am_bl sL xs d j [w0, w1, w2] M (fun x M' => am_rw sL xs d P rt pc' lv (.long x :: r) M' Q)) : am_rw sL xs d P rt pc lv (w2 :: w1 :: w0 :: r) M Q := by
  subst e
  simp only [am_sj, decide_eq_true_eq] at hj
  obtain ⟨x, M2, hb, n, v, M', hr, hq⟩ := k
  refine ⟨n + 1, v, M', ?_, hq⟩
  unfold am_run
  rw [h]
  unfold am_stp
  dsimp only
  rw [hj]
  exact ⟨by simp, hc, some (.long x), M2, hb, hr⟩
theorem am_r_invV3 {w0 w1 w2 : Value} {j q : Nat} (h : am_lk P pc = some (.invokevirtual j, len)) (e : pc + len = pc') (hj : am_vj j q 3 = true) (hc : am_cat r ≤ 8) (k : am_bv sL xs d j [.ref q, w0, w1, w2] M (fun M' => am_rw sL xs d P rt pc' lv r M' Q)) : am_rw sL xs d P rt pc lv (w2 :: w1 :: w0 :: .ref q :: r) M Q := by
  subst e
  simp only [am_vj, Bool.and_eq_true, decide_eq_true_eq] at hj
  obtain ⟨⟨h1, h2⟩, h3⟩ := hj
  obtain ⟨M2, hb, n, v, M', hr, hq⟩ := k
  refine ⟨n + 1, v, M', ?_, hq⟩
  unfold am_run
  rw [h]
  unfold am_stp
  dsimp only
  rw [h1]
  exact ⟨h2, h3, by simp, hc, none, M2, hb, hr⟩
theorem am_r_ivsV3 {w0 w1 w2 : Value} {j : Nat} (h : am_lk P pc = some (.invokestatic j, len)) (e : pc + len = pc') (hj : am_sj j 3 = true) (hc : am_cat r ≤ 8) (k : am_bv sL xs d j [w0, w1, w2] M (fun M' => am_rw sL xs d P rt pc' lv r M' Q)) : am_rw sL xs d P rt pc lv (w2 :: w1 :: w0 :: r) M Q := by
  subst e
  simp only [am_sj, decide_eq_true_eq] at hj
  obtain ⟨M2, hb, n, v, M', hr, hq⟩ := k
  refine ⟨n + 1, v, M', ?_, hq⟩
  unfold am_run
  rw [h]
  unfold am_stp
  dsimp only
  rw [hj]
  exact ⟨by simp, hc, none, M2, hb, hr⟩
theorem am_r_invI4 {w0 w1 w2 w3 : Value} {j q : Nat} (h : am_lk P pc = some (.invokevirtual j, len)) (e : pc + len = pc') (hj : am_vj j q 4 = true) (hc : am_cat r ≤ 8) (k : am_bi sL xs d j [.ref q, w0, w1, w2, w3] M (fun x M' => am_rw sL xs d P rt pc' lv (.int x :: r) M' Q)) : am_rw sL xs d P rt pc lv (w3 :: w2 :: w1 :: w0 :: .ref q :: r) M Q := by
  subst e
  simp only [am_vj, Bool.and_eq_true, decide_eq_true_eq] at hj
  obtain ⟨⟨h1, h2⟩, h3⟩ := hj
  obtain ⟨x, M2, hb, n, v, M', hr, hq⟩ := k
  refine ⟨n + 1, v, M', ?_, hq⟩
  unfold am_run
  rw [h]
  unfold am_stp
  dsimp only
  rw [h1]
  exact ⟨h2, h3, by simp, hc, some (.int x), M2, hb, hr⟩
theorem am_r_ivsI4 {w0 w1 w2 w3 : Value} {j : Nat} (h : am_lk P pc = some (.invokestatic j, len)) (e : pc + len = pc') (hj : am_sj j 4 = true) (hc : am_cat r ≤ 8) (k : am_bi sL xs d j [w0, w1, w2, w3] M (fun x M' => am_rw sL xs d P rt pc' lv (.int x :: r) M' Q)) : am_rw sL xs d P rt pc lv (w3 :: w2 :: w1 :: w0 :: r) M Q := by
  subst e
  simp only [am_sj, decide_eq_true_eq] at hj
  obtain ⟨x, M2, hb, n, v, M', hr, hq⟩ := k
  refine ⟨n + 1, v, M', ?_, hq⟩
  unfold am_run
  rw [h]
  unfold am_stp
  dsimp only
  rw [hj]
  exact ⟨by simp, hc, some (.int x), M2, hb, hr⟩
theorem am_r_invL4 {w0 w1 w2 w3 : Value} {j q : Nat} (h : am_lk P pc = some (.invokevirtual j, len)) (e : pc + len = pc') (hj : am_vj j q 4 = true) (hc : am_cat r ≤ 8) (k : am_bl sL xs d j [.ref q, w0, w1, w2, w3] M (fun x M' => am_rw sL xs d P rt pc' lv (.long x :: r) M' Q)) : am_rw sL xs d P rt pc lv (w3 :: w2 :: w1 :: w0 :: .ref q :: r) M Q := by
  subst e
  simp only [am_vj, Bool.and_eq_true, decide_eq_true_eq] at hj
  obtain ⟨⟨h1, h2⟩, h3⟩ := hj
  obtain ⟨x, M2, hb, n, v, M', hr, hq⟩ := k
  refine ⟨n + 1, v, M', ?_, hq⟩
  unfold am_run
  rw [h]
  unfold am_stp
  dsimp only
  rw [h1]
  exact ⟨h2, h3, by simp, hc, some (.long x), M2, hb, hr⟩
theorem am_r_ivsL4 {w0 w1 w2 w3 : Value} {j : Nat} (h : am_lk P pc = some (.invokestatic j, len)) (e : pc + len = pc') (hj : am_sj j 4 = true) (hc : am_cat r ≤ 8) (k : am_bl sL xs d j [w0, w1, w2, w3] M (fun x M' => am_rw sL xs d P rt pc' lv (.long x :: r) M' Q)) : am_rw sL xs d P rt pc lv (w3 :: w2 :: w1 :: w0 :: r) M Q := by
  subst e
  simp only [am_sj, decide_eq_true_eq] at hj
  obtain ⟨x, M2, hb, n, v, M', hr, hq⟩ := k
  refine ⟨n + 1, v, M', ?_, hq⟩
  unfold am_run
  rw [h]
  unfold am_stp
  dsimp only
  rw [hj]
  exact ⟨by simp, hc, some (.long x), M2, hb, hr⟩
theorem am_r_invV4 {w0 w1 w2 w3 : Value} {j q : Nat} (h : am_lk P pc = some (.invokevirtual j, len)) (e : pc + len = pc') (hj : am_vj j q 4 = true) (hc : am_cat r ≤ 8) (k : am_bv sL xs d j [.ref q, w0, w1, w2, w3] M (fun M' => am_rw sL xs d P rt pc' lv r M' Q)) : am_rw sL xs d P rt pc lv (w3 :: w2 :: w1 :: w0 :: .ref q :: r) M Q := by
  subst e
  simp only [am_vj, Bool.and_eq_true, decide_eq_true_eq] at hj
  obtain ⟨⟨h1, h2⟩, h3⟩ := hj
  obtain ⟨M2, hb, n, v, M', hr, hq⟩ := k
  refine ⟨n + 1, v, M', ?_, hq⟩
  unfold am_run
  rw [h]
  unfold am_stp
  dsimp only
  rw [h1]
  exact ⟨h2, h3, by simp, hc, none, M2, hb, hr⟩
theorem am_r_ivsV4 {w0 w1 w2 w3 : Value} {j : Nat} (h : am_lk P pc = some (.invokestatic j, len)) (e : pc + len = pc') (hj : am_sj j 4 = true) (hc : am_cat r ≤ 8) (k : am_bv sL xs d j [w0, w1, w2, w3] M (fun M' => am_rw sL xs d P rt pc' lv r M' Q)) : am_rw sL xs d P rt pc lv (w3 :: w2 :: w1 :: w0 :: r) M Q := by
  subst e
  simp only [am_sj, decide_eq_true_eq] at hj
  obtain ⟨M2, hb, n, v, M', hr, hq⟩ := k
  refine ⟨n + 1, v, M', ?_, hq⟩
  unfold am_run
  rw [h]
  unfold am_stp
  dsimp only
  rw [hj]
  exact ⟨by simp, hc, none, M2, hb, hr⟩
theorem am_r_invI5 {w0 w1 w2 w3 w4 : Value} {j q : Nat} (h : am_lk P pc = some (.invokevirtual j, len)) (e : pc + len = pc') (hj : am_vj j q 5 = true) (hc : am_cat r ≤ 8) (k : am_bi sL xs d j [.ref q, w0, w1, w2, w3, w4] M (fun x M' => am_rw sL xs d P rt pc' lv (.int x :: r) M' Q)) : am_rw sL xs d P rt pc lv (w4 :: w3 :: w2 :: w1 :: w0 :: .ref q :: r) M Q := by
  subst e
  simp only [am_vj, Bool.and_eq_true, decide_eq_true_eq] at hj
  obtain ⟨⟨h1, h2⟩, h3⟩ := hj
  obtain ⟨x, M2, hb, n, v, M', hr, hq⟩ := k
  refine ⟨n + 1, v, M', ?_, hq⟩
  unfold am_run
  rw [h]
  unfold am_stp
  dsimp only
  rw [h1]
  exact ⟨h2, h3, by simp, hc, some (.int x), M2, hb, hr⟩
theorem am_r_ivsI5 {w0 w1 w2 w3 w4 : Value} {j : Nat} (h : am_lk P pc = some (.invokestatic j, len)) (e : pc + len = pc') (hj : am_sj j 5 = true) (hc : am_cat r ≤ 8) (k : am_bi sL xs d j [w0, w1, w2, w3, w4] M (fun x M' => am_rw sL xs d P rt pc' lv (.int x :: r) M' Q)) : am_rw sL xs d P rt pc lv (w4 :: w3 :: w2 :: w1 :: w0 :: r) M Q := by
  subst e
  simp only [am_sj, decide_eq_true_eq] at hj
  obtain ⟨x, M2, hb, n, v, M', hr, hq⟩ := k
  refine ⟨n + 1, v, M', ?_, hq⟩
  unfold am_run
  rw [h]
  unfold am_stp
  dsimp only
  rw [hj]
  exact ⟨by simp, hc, some (.int x), M2, hb, hr⟩
theorem am_r_invL5 {w0 w1 w2 w3 w4 : Value} {j q : Nat} (h : am_lk P pc = some (.invokevirtual j, len)) (e : pc + len = pc') (hj : am_vj j q 5 = true) (hc : am_cat r ≤ 8) (k : am_bl sL xs d j [.ref q, w0, w1, w2, w3, w4] M (fun x M' => am_rw sL xs d P rt pc' lv (.long x :: r) M' Q)) : am_rw sL xs d P rt pc lv (w4 :: w3 :: w2 :: w1 :: w0 :: .ref q :: r) M Q := by
  subst e
  simp only [am_vj, Bool.and_eq_true, decide_eq_true_eq] at hj
  obtain ⟨⟨h1, h2⟩, h3⟩ := hj
  obtain ⟨x, M2, hb, n, v, M', hr, hq⟩ := k
  refine ⟨n + 1, v, M', ?_, hq⟩
  unfold am_run
  rw [h]
  unfold am_stp
  dsimp only
  rw [h1]
  exact ⟨h2, h3, by simp, hc, some (.long x), M2, hb, hr⟩
theorem am_r_ivsL5 {w0 w1 w2 w3 w4 : Value} {j : Nat} (h : am_lk P pc = some (.invokestatic j, len)) (e : pc + len = pc') (hj : am_sj j 5 = true) (hc : am_cat r ≤ 8) (k : am_bl sL xs d j [w0, w1, w2, w3, w4] M (fun x M' => am_rw sL xs d P rt pc' lv (.long x :: r) M' Q)) : am_rw sL xs d P rt pc lv (w4 :: w3 :: w2 :: w1 :: w0 :: r) M Q := by
  subst e
  simp only [am_sj, decide_eq_true_eq] at hj
  obtain ⟨x, M2, hb, n, v, M', hr, hq⟩ := k
  refine ⟨n + 1, v, M', ?_, hq⟩
  unfold am_run
  rw [h]
  unfold am_stp
  dsimp only
  rw [hj]
  exact ⟨by simp, hc, some (.long x), M2, hb, hr⟩
theorem am_r_invV5 {w0 w1 w2 w3 w4 : Value} {j q : Nat} (h : am_lk P pc = some (.invokevirtual j, len)) (e : pc + len = pc') (hj : am_vj j q 5 = true) (hc : am_cat r ≤ 8) (k : am_bv sL xs d j [.ref q, w0, w1, w2, w3, w4] M (fun M' => am_rw sL xs d P rt pc' lv r M' Q)) : am_rw sL xs d P rt pc lv (w4 :: w3 :: w2 :: w1 :: w0 :: .ref q :: r) M Q := by
  subst e
  simp only [am_vj, Bool.and_eq_true, decide_eq_true_eq] at hj
  obtain ⟨⟨h1, h2⟩, h3⟩ := hj
  obtain ⟨M2, hb, n, v, M', hr, hq⟩ := k
  refine ⟨n + 1, v, M', ?_, hq⟩
  unfold am_run
  rw [h]
  unfold am_stp
  dsimp only
  rw [h1]
  exact ⟨h2, h3, by simp, hc, none, M2, hb, hr⟩
theorem am_r_ivsV5 {w0 w1 w2 w3 w4 : Value} {j : Nat} (h : am_lk P pc = some (.invokestatic j, len)) (e : pc + len = pc') (hj : am_sj j 5 = true) (hc : am_cat r ≤ 8) (k : am_bv sL xs d j [w0, w1, w2, w3, w4] M (fun M' => am_rw sL xs d P rt pc' lv r M' Q)) : am_rw sL xs d P rt pc lv (w4 :: w3 :: w2 :: w1 :: w0 :: r) M Q := by
  subst e
  simp only [am_sj, decide_eq_true_eq] at hj
  obtain ⟨M2, hb, n, v, M', hr, hq⟩ := k
  refine ⟨n + 1, v, M', ?_, hq⟩
  unfold am_run
  rw [h]
  unfold am_stp
  dsimp only
  rw [hj]
  exact ⟨by simp, hc, none, M2, hb, hr⟩
theorem am_r_invI6 {w0 w1 w2 w3 w4 w5 : Value} {j q : Nat} (h : am_lk P pc = some (.invokevirtual j, len)) (e : pc + len = pc') (hj : am_vj j q 6 = true) (hc : am_cat r ≤ 8) (k : am_bi sL xs d j [.ref q, w0, w1, w2, w3, w4, w5] M (fun x M' => am_rw sL xs d P rt pc' lv (.int x :: r) M' Q)) : am_rw sL xs d P rt pc lv (w5 :: w4 :: w3 :: w2 :: w1 :: w0 :: .ref q :: r) M Q := by
  subst e
  simp only [am_vj, Bool.and_eq_true, decide_eq_true_eq] at hj
  obtain ⟨⟨h1, h2⟩, h3⟩ := hj
  obtain ⟨x, M2, hb, n, v, M', hr, hq⟩ := k
  refine ⟨n + 1, v, M', ?_, hq⟩
  unfold am_run
  rw [h]
  unfold am_stp
  dsimp only
  rw [h1]
  exact ⟨h2, h3, by simp, hc, some (.int x), M2, hb, hr⟩
theorem am_r_ivsI6 {w0 w1 w2 w3 w4 w5 : Value} {j : Nat} (h : am_lk P pc = some (.invokestatic j, len)) (e : pc + len = pc') (hj : am_sj j 6 = true) (hc : am_cat r ≤ 8) (k : am_bi sL xs d j [w0, w1, w2, w3, w4, w5] M (fun x M' => am_rw sL xs d P rt pc' lv (.int x :: r) M' Q)) : am_rw sL xs d P rt pc lv (w5 :: w4 :: w3 :: w2 :: w1 :: w0 :: r) M Q := by
  subst e
  simp only [am_sj, decide_eq_true_eq] at hj
  obtain ⟨x, M2, hb, n, v, M', hr, hq⟩ := k
  refine ⟨n + 1, v, M', ?_, hq⟩
  unfold am_run
  rw [h]
  unfold am_stp
  dsimp only
  rw [hj]
  exact ⟨by simp, hc, some (.int x), M2, hb, hr⟩
theorem am_r_invL6 {w0 w1 w2 w3 w4 w5 : Value} {j q : Nat} (h : am_lk P pc = some (.invokevirtual j, len)) (e : pc + len = pc') (hj : am_vj j q 6 = true) (hc : am_cat r ≤ 8) (k : am_bl sL xs d j [.ref q, w0, w1, w2, w3, w4, w5] M (fun x M' => am_rw sL xs d P rt pc' lv (.long x :: r) M' Q)) : am_rw sL xs d P rt pc lv (w5 :: w4 :: w3 :: w2 :: w1 :: w0 :: .ref q :: r) M Q := by
  subst e
  simp only [am_vj, Bool.and_eq_true, decide_eq_true_eq] at hj
  obtain ⟨⟨h1, h2⟩, h3⟩ := hj
  obtain ⟨x, M2, hb, n, v, M', hr, hq⟩ := k
  refine ⟨n + 1, v, M', ?_, hq⟩
  unfold am_run
  rw [h]
  unfold am_stp
  dsimp only
  rw [h1]
  exact ⟨h2, h3, by simp, hc, some (.long x), M2, hb, hr⟩
theorem am_r_ivsL6 {w0 w1 w2 w3 w4 w5 : Value} {j : Nat} (h : am_lk P pc = some (.invokestatic j, len)) (e : pc + len = pc') (hj : am_sj j 6 = true) (hc : am_cat r ≤ 8) (k : am_bl sL xs d j [w0, w1, w2, w3, w4, w5] M (fun x M' => am_rw sL xs d P rt pc' lv (.long x :: r) M' Q)) : am_rw sL xs d P rt pc lv (w5 :: w4 :: w3 :: w2 :: w1 :: w0 :: r) M Q := by
  subst e
  simp only [am_sj, decide_eq_true_eq] at hj
  obtain ⟨x, M2, hb, n, v, M', hr, hq⟩ := k
  refine ⟨n + 1, v, M', ?_, hq⟩
  unfold am_run
  rw [h]
  unfold am_stp
  dsimp only
  rw [hj]
  exact ⟨by simp, hc, some (.long x), M2, hb, hr⟩
theorem am_r_invV6 {w0 w1 w2 w3 w4 w5 : Value} {j q : Nat} (h : am_lk P pc = some (.invokevirtual j, len)) (e : pc + len = pc') (hj : am_vj j q 6 = true) (hc : am_cat r ≤ 8) (k : am_bv sL xs d j [.ref q, w0, w1, w2, w3, w4, w5] M (fun M' => am_rw sL xs d P rt pc' lv r M' Q)) : am_rw sL xs d P rt pc lv (w5 :: w4 :: w3 :: w2 :: w1 :: w0 :: .ref q :: r) M Q := by
  subst e
  simp only [am_vj, Bool.and_eq_true, decide_eq_true_eq] at hj
  obtain ⟨⟨h1, h2⟩, h3⟩ := hj
  obtain ⟨M2, hb, n, v, M', hr, hq⟩ := k
  refine ⟨n + 1, v, M', ?_, hq⟩
  unfold am_run
  rw [h]
  unfold am_stp
  dsimp only
  rw [h1]
  exact ⟨h2, h3, by simp, hc, none, M2, hb, hr⟩
theorem am_r_ivsV6 {w0 w1 w2 w3 w4 w5 : Value} {j : Nat} (h : am_lk P pc = some (.invokestatic j, len)) (e : pc + len = pc') (hj : am_sj j 6 = true) (hc : am_cat r ≤ 8) (k : am_bv sL xs d j [w0, w1, w2, w3, w4, w5] M (fun M' => am_rw sL xs d P rt pc' lv r M' Q)) : am_rw sL xs d P rt pc lv (w5 :: w4 :: w3 :: w2 :: w1 :: w0 :: r) M Q := by
  subst e
  simp only [am_sj, decide_eq_true_eq] at hj
  obtain ⟨M2, hb, n, v, M', hr, hq⟩ := k
  refine ⟨n + 1, v, M', ?_, hq⟩
  unfold am_run
  rw [h]
  unfold am_stp
  dsimp only
  rw [hj]
  exact ⟨by simp, hc, none, M2, hb, hr⟩
end RW
