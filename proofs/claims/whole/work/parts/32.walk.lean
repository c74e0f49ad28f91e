/-! PUSHED, the class: a day of it -/
abbrev y_P := Int → Int
def y_dg (σ : Sg) (π : y_P) (a : Int) : Int := g_deg σ a (π a)
def y_gap (σ : Sg) (π : y_P) (a b : Int) : Int := g_gap (y_dg σ π a) (y_dg σ π b)
def y_mt (σ : Sg) (π : y_P) (a b : Int) : Bool := decide (y_gap σ π a b ≤ s_nr σ)
def y_B (σ : Sg) (π : y_P) : Prop := ∀ a, 0 ≤ a ∧ a < s_n σ → 0 ≤ π a ∧ π a < s_rd σ a
/-- by how much b pushes a on day t -/
def y_ps (σ : Sg) (χ : q_X) (π : y_P) (t a b : Int) : Int := g_push χ (s_lk σ a b) (s_wt σ b) (s_rd σ a) (y_gap σ π a b) t (π a)
def y_v (σ : Sg) (χ : q_X) (π : y_P) (t a b : Int) : Int := if b ≠ a ∧ y_mt σ π a b = true then y_ps σ χ π t a b else 0
def y_c (σ : Sg) (χ : q_X) (π : y_P) (t a b : Int) : Int := if b ≠ a ∧ y_mt σ π a b = true ∧ y_ps σ χ π t a b ≠ 0 then 1 else 0
def y_q (σ : Sg) (π : y_P) (a b : Int) : Int := if y_mt σ π a b = true ∧ a < b then 1 else 0
def y_b (σ : Sg) (π : y_P) (a b : Int) : Int := if b ≠ a ∧ y_mt σ π a b = true then 2 ^ b.toNat else 0
def y_sum (σ : Sg) (χ : q_X) (π : y_P) (t a : Int) : Int := f_sum (y_v σ χ π t a) 0 (s_n σ).toNat
def y_cs (σ : Sg) (χ : q_X) (π : y_P) (t a : Int) : Int := f_sum (y_c σ χ π t a) 0 (s_n σ).toNat
def y_pu (σ : Sg) (χ : q_X) (π : y_P) (t : Int) : Int := f_sum (y_cs σ χ π t) 0 (s_n σ).toNat
def y_qs (σ : Sg) (π : y_P) (a : Int) : Int := f_sum (y_q σ π a) 0 (s_n σ).toNat
def y_me (σ : Sg) (π : y_P) : Int := f_sum (y_qs σ π) 0 (s_n σ).toNat
def y_bits (σ : Sg) (π : y_P) (a : Int) : Int := f_sum (y_b σ π a) 0 (s_n σ).toNat
def y_nx (σ : Sg) (χ : q_X) (π : y_P) (t : Int) : y_P := fun a => (π a + (y_sum σ χ π t a + 1)) % s_rd σ a
theorem y_nx_B {σ : Sg} (h : SB σ) (χ : q_X) (π : y_P) (t : Int) : y_B σ (y_nx σ χ π t) := fun a ha => by
  have := sg_b h ha
  exact ⟨Int.emod_nonneg _ (by omega), Int.emod_lt_of_pos _ (by omega)⟩
theorem s_pl_B {σ : Sg} (h : SB σ) : y_B σ (s_pl σ) := fun a ha => by have := sg_b h ha; omega
theorem y_dg_b {σ : Sg} (h : SB σ) {π : y_P} (hp : y_B σ π) {a : Int} (ha : 0 ≤ a ∧ a < s_n σ) : 0 ≤ y_dg σ π a ∧ y_dg σ π a < 360 := g_deg_b h ha (hp a ha)
theorem y_gap_b {σ : Sg} (h : SB σ) {π : y_P} (hp : y_B σ π) {a b : Int} (ha : 0 ≤ a ∧ a < s_n σ) (hb : 0 ≤ b ∧ b < s_n σ) : 0 ≤ y_gap σ π a b ∧ y_gap σ π a b ≤ 180 := g_gap_b (y_dg_b h hp ha) (y_dg_b h hp hb)
theorem g_gap_sy (x y : Int) : g_gap x y = g_gap y x := by
  unfold g_gap
  split <;> split <;> omega
theorem y_mt_sy (σ : Sg) (π : y_P) (a b : Int) : y_mt σ π a b = y_mt σ π b a := by unfold y_mt y_gap; rw [g_gap_sy]
theorem f_sum_sn (f : Int → Int) : ∀ (k : Nat) (i : Int), f_sum f i (k + 1) = f_sum f i k + f (i + k)
  | 0, i => by simp [f_sum]
  | k + 1, i => by
    have ih := f_sum_sn f k (i + 1)
    rw [show f_sum f i (k + 1 + 1) = f i + f_sum f (i + 1) (k + 1) from rfl, ih, show f_sum f i (k + 1) = f i + f_sum f (i + 1) k from rfl, show i + 1 + (k : Int) = i + ((k + 1 : Nat) : Int) by omega]
    omega
theorem f_sum_up (f : Int → Int) {j : Int} (h : 0 ≤ j) : f_sum f 0 (j + 1).toNat = f_sum f 0 j.toNat + f j := by
  rw [show (j + 1).toNat = j.toNat + 1 by omega, f_sum_sn, show (0 : Int) + (j.toNat : Int) = j by omega]
theorem f_sum_app (f : Int → Int) : ∀ (k m : Nat) (i : Int), f_sum f i (k + m) = f_sum f i k + f_sum f (i + k) m
  | 0, m, i => by simp [f_sum]
  | k + 1, m, i => by
    rw [show k + 1 + m = (k + m) + 1 by omega, show f_sum f i (k + m + 1) = f i + f_sum f (i + 1) (k + m) from rfl, f_sum_app f k m (i + 1), show f_sum f i (k + 1) = f i + f_sum f (i + 1) k from rfl, show i + ((k + 1 : Nat) : Int) = i + 1 + k by omega]
    omega
theorem f_sum_0s {f : Int → Int} : ∀ (k : Nat) (i : Int), (∀ j, i ≤ j → j < i + k → f j = 0) → f_sum f i k = 0
  | 0, i, _ => rfl
  | k + 1, i, h => by
    rw [show f_sum f i (k + 1) = f i + f_sum f (i + 1) k from rfl, h i (by omega) (by omega), f_sum_0s k (i + 1) (fun j a b => h j (by omega) (by omega))]
    rfl
theorem f_sum_cg {f g : Int → Int} : ∀ (k : Nat) (i : Int), (∀ j, i ≤ j → j < i + k → f j = g j) → f_sum f i k = f_sum g i k
  | 0, i, _ => rfl
  | k + 1, i, h => by
    rw [show f_sum f i (k + 1) = f i + f_sum f (i + 1) k from rfl, show f_sum g i (k + 1) = g i + f_sum g (i + 1) k from rfl, h i (by omega) (by omega), f_sum_cg k (i + 1) (fun j a b => h j (by omega) (by omega))]
/-- of powers of two -/
def f_pw (f : Int → Int) : Prop := ∀ j, f j = 0 ∨ f j = 2 ^ j.toNat
theorem f_pw_b {f : Int → Int} (hf : f_pw f) : ∀ (k : Nat) (i : Int), 0 ≤ i → 0 ≤ f_sum f i k ∧ f_sum f i k + 2 ^ i.toNat ≤ 2 ^ (i + k).toNat
  | 0, i, h => by simp [f_sum]
  | k + 1, i, h => by
    have h1 := hf i
    have h2 := f_pw_b hf k (i + 1) (by omega)
    have h3 := z_pow_s h
    have h4 := z_pow_p i.toNat
    rw [show f_sum f i (k + 1) = f i + f_sum f (i + 1) k from rfl, show (i + ((k + 1 : Nat) : Int)) = i + 1 + k by omega]
    omega
theorem f_pw_0 {f : Int → Int} (hf : f_pw f) {j : Int} (hj : 0 ≤ j) : 0 ≤ f_sum f 0 j.toNat ∧ f_sum f 0 j.toNat < 2 ^ j.toNat := by
  have h := f_pw_b hf j.toNat 0 (by omega)
  rw [show (0 : Int) + (j.toNat : Int) = j by omega, show (2 : Int) ^ (0 : Int).toNat = 1 from rfl] at h
  omega
theorem f_pw_dv {f : Int → Int} (hf : f_pw f) : ∀ (k : Nat) (i : Int), 0 ≤ i → ∃ q, f_sum f i k = 2 ^ i.toNat * q
  | 0, i, h => ⟨0, by simp [f_sum]⟩
  | k + 1, i, h => by
    obtain ⟨q, hq⟩ := f_pw_dv hf k (i + 1) (by omega)
    rw [show f_sum f i (k + 1) = f i + f_sum f (i + 1) k from rfl, hq, z_pow_s h]
    rcases hf i with e | e
    · exact ⟨2 * q, by rw [e, Int.zero_add, Int.mul_comm 2 (2 ^ i.toNat), Int.mul_assoc]⟩
    · exact ⟨1 + 2 * q, by rw [e, Int.mul_add, Int.mul_one, Int.mul_comm 2 (2 ^ i.toNat), Int.mul_assoc]⟩
theorem f_pw_bit {f : Int → Int} (hf : f_pw f) (hf2 : ∀ j, 0 ≤ j → (f j = 0 → True)) {n b : Int} (hb : 0 ≤ b ∧ b < n) : s_bit (f_sum f 0 n.toNat) b = if f b = 0 then 0 else 1 := by
  have h1 := f_pw_0 hf hb.1
  obtain ⟨q, hq⟩ := f_pw_dv hf (n - (b + 1)).toNat (b + 1) (by omega)
  have hp := z_pow_p b.toNat
  have e : f_sum f 0 n.toNat = f_sum f 0 b.toNat + f b + 2 ^ b.toNat * (2 * q) := by
    rw [show n.toNat = (b + 1).toNat + (n - (b + 1)).toNat by omega, f_sum_app, f_sum_up f hb.1, show (0 : Int) + ((b + 1).toNat : Int) = b + 1 by omega, hq, z_pow_s hb.1, Int.mul_comm 2 (2 ^ b.toNat), Int.mul_assoc]
  unfold s_bit
  rcases hf b with e2 | e2
  · rw [if_pos e2, e, e2, Int.add_zero, Int.add_mul_ediv_left _ _ (by omega), Int.ediv_eq_zero_of_lt h1.1 h1.2]
    omega
  · rw [if_neg (by rw [e2]; omega), e, e2, show f_sum f 0 b.toNat + 2 ^ b.toNat + 2 ^ b.toNat * (2 * q) = f_sum f 0 b.toNat + 2 ^ b.toNat * (1 + 2 * q) by rw [Int.mul_add, Int.mul_one]; omega, Int.add_mul_ediv_left _ _ (by omega), Int.ediv_eq_zero_of_lt h1.1 h1.2]
    omega
theorem y_b_pw (σ : Sg) (π : y_P) (a : Int) : f_pw (y_b σ π a) := fun j => by
  unfold y_b
  split
  · exact Or.inr rfl
  · exact Or.inl rfl
theorem y_b_aa (σ : Sg) (π : y_P) (a : Int) : y_b σ π a a = 0 := if_neg (fun q => q.1 rfl)
theorem y_bits_bit (σ : Sg) (π : y_P) {a b : Int} (hb : 0 ≤ b ∧ b < s_n σ) : s_bit (y_bits σ π a) b = 1 ↔ (b ≠ a ∧ y_mt σ π a b = true) := by
  have hp := z_pow_p b.toNat
  unfold y_bits
  rw [f_pw_bit (y_b_pw σ π a) (fun _ _ _ => trivial) hb]
  unfold y_b
  by_cases e : b ≠ a ∧ y_mt σ π a b = true
  · rw [if_pos e, if_neg (by omega)]
    exact ⟨fun _ => e, fun _ => rfl⟩
  · rw [if_neg e, if_pos rfl]
    exact ⟨fun z => absurd z (by decide), fun z => absurd z e⟩
theorem y_bits_b {σ : Sg} (h : SB σ) (π : y_P) (a : Int) : 0 ≤ y_bits σ π a ∧ y_bits σ π a < 256 := by
  have hn := sb_nb h
  have h1 := f_pw_0 (y_b_pw σ π a) (j := s_n σ) (by omega)
  have h2 := z_pow8 hn
  unfold y_bits
  omega
theorem y_bits_0 {σ : Sg} (h : SB σ) (π : y_P) (a : Int) : y_bits σ π a ≠ 0 ↔ ∃ b, 0 ≤ b ∧ b < s_n σ ∧ b ≠ a ∧ y_mt σ π a b = true := by
  have hn := sb_nb h
  constructor
  · intro q
    by_cases e : ∃ b, 0 ≤ b ∧ b < s_n σ ∧ b ≠ a ∧ y_mt σ π a b = true
    · exact e
    · refine absurd (f_sum_0s _ _ (fun j h0 h1 => if_neg (fun z => e ⟨j, h0, by omega, z.1, z.2⟩))) q
  · rintro ⟨b, h0, h1, h2, h3⟩ q
    have := (y_bits_bit σ π (a := a) ⟨h0, h1⟩).mpr ⟨h2, h3⟩
    rw [q] at this
    unfold s_bit at this
    simp at this
/-- the bits as they are while the pairs are looked at -/
def y_pb (σ : Sg) (π : y_P) (i j x : Int) : Int := if x < i then y_bits σ π x else if x = i then f_sum (y_b σ π x) 0 j.toNat else if x < j then f_sum (y_b σ π x) 0 (i + 1).toNat else f_sum (y_b σ π x) 0 i.toNat
theorem y_pb_0 (σ : Sg) (π : y_P) (i x : Int) (hi : 0 ≤ i) : y_pb σ π i (i + 1) x = y_pb σ π i i x := by
  unfold y_pb
  by_cases h : x < i
  · rw [if_pos h, if_pos h]
  · rw [if_neg h, if_neg h]
    by_cases h2 : x = i
    · rw [if_pos h2, if_pos h2, f_sum_up _ hi, h2, y_b_aa, Int.add_zero]
    · rw [if_neg h2, if_neg h2, if_neg (by omega), if_neg (by omega)]
theorem y_pb_n (σ : Sg) (π : y_P) (i x : Int) (hx : x < s_n σ) : y_pb σ π i (s_n σ) x = y_pb σ π (i + 1) (i + 1) x := by
  unfold y_pb
  by_cases h : x < i
  · rw [if_pos h, if_pos (by omega)]
  · rw [if_neg h]
    by_cases h2 : x = i
    · rw [if_pos h2, if_pos (by omega)]; rfl
    · rw [if_neg h2, if_pos hx, if_neg (by omega)]
      by_cases h3 : x = i + 1
      · rw [if_pos h3]
      · rw [if_neg h3, if_neg (by omega)]
theorem y_pb_x (σ : Sg) (π : y_P) (i x : Int) (hi : s_n σ ≤ i) (hx : x < s_n σ) : y_pb σ π i i x = y_bits σ π x := if_pos (by omega)
def WX (M : Am_M) (σ : Sg) (π : y_P) : Prop := SX M σ ∧ y_B σ π ∧ ∀ a, 0 ≤ a ∧ a < s_n σ → M.1 25 a.toNat = z_I (π a)
theorem wx_pl {M : Am_M} {σ : Sg} {π : y_P} (h : WX M σ π) {a : Int} (ha : 0 ≤ a ∧ a < s_n σ) : M.1 25 a.toNat = z_I (π a) := h.2.2 a ha
theorem wx_b {M : Am_M} {σ : Sg} {π : y_P} (h : WX M σ π) {a : Int} (ha : 0 ≤ a ∧ a < s_n σ) : 0 ≤ π a ∧ π a < s_rd σ a := h.2.1 a ha
theorem wx_fr {M M' : Am_M} {σ : Sg} {π : y_P} {lo hi : Nat} (h : WX M σ π) (hf : am_fr lo hi M M') (hh : 13 < lo) (h25 : M'.1 25 = M.1 25) : WX M' σ π := ⟨sx_fr h.1 hf (by omega), h.2.1, fun a ha => by rw [h25]; exact h.2.2 a ha⟩
theorem am_up_o (M : Am_M) (k i : Nat) (x : Int32) {k' : Nat} (h : k' ≠ k) : (am_upI M k i x).1 k' = M.1 k' := by funext j; simp [am_upI, h]
theorem c_begin {sL : Nat} {xs : Nat → Int32} {d : Nat} {M : Am_M} {Q : Am_M → Prop} (hd : 1 ≤ d) {σ : Sg} (hX : SX M σ) (hq : ∀ M', am_fr 25 25 M M' → WX M' σ (s_pl σ) → Q M') : am_bv sL xs d 99 [.ref 24] M Q := by
  obtain ⟨d, rfl⟩ : ∃ e, d = e + 1 := ⟨d - 1, by omega⟩
  have hn := sb_nb hX.1
  have hnr := sb_nrb hX.1
  have hloop : ∀ (k : Nat) (i : Int) (N : Am_M), 0 ≤ i ∧ i + k = s_n σ → am_fr 25 25 M N → (∀ a, 0 ≤ a ∧ a < i → N.1 25 a.toNat = z_I (s_pl σ a)) → am_rw sL xs d am_pX9_begin 0 2 [.ref 24, .int (z_I i)] [] N (am_pv Q) := by
    intro k
    induction k with
    | zero =>
      intro i N hk hF hv
      have hX := sx_fr hX hF (by omega)
      refine am_r_iload1 (pc' := 3) rfl rfl ?_
      refine am_r_aload0 (pc' := 4) rfl rfl ?_
      refine am_r_getR (t := 1) (pc' := 7) rfl rfl rfl ?_
      refine am_r_getIv (f := 5) (pc' := 10) rfl rfl rfl (sx_n hX) ?_
      refine am_r_icmp_ge (pt := 34) (pf := 13) rfl rfl rfl (fun h10 => ?_) (fun h10 => ?_)
      · refine am_r_vret rfl rfl ?_
        exact hq N hF ⟨hX, s_pl_B hX.1, fun a ha => hv a (by omega)⟩
      · exfalso; omega
    | succ k ih =>
      intro i N hk hF hv
      have hX := sx_fr hX hF (by omega)
      refine am_r_iload1 (pc' := 3) rfl rfl ?_
      refine am_r_aload0 (pc' := 4) rfl rfl ?_
      refine am_r_getR (t := 1) (pc' := 7) rfl rfl rfl ?_
      refine am_r_getIv (f := 5) (pc' := 10) rfl rfl rfl (sx_n hX) ?_
      refine am_r_icmp_ge (pt := 34) (pf := 13) rfl rfl rfl (fun h10 => ?_) (fun h10 => ?_)
      · exfalso; omega
      · refine am_r_aload0 (pc' := 14) rfl rfl ?_
        refine am_r_getR (t := 25) (pc' := 17) rfl rfl rfl ?_
        refine am_r_iload1 (pc' := 18) rfl rfl ?_
        refine am_r_aload0 (pc' := 19) rfl rfl ?_
        refine am_r_getR (t := 1) (pc' := 22) rfl rfl rfl ?_
        refine am_r_getR (t := 3) (pc' := 25) rfl rfl rfl ?_
        refine am_r_iload1 (pc' := 26) rfl rfl ?_
        refine am_r_iaZv (n := 8) (pc' := 27) rfl rfl rfl (by decide) (sx_pl hX (by omega)) ?_
        refine am_r_iast (n := 8) (pc' := 28) rfl rfl (rfl) (by decide) ?_
        refine am_r_iinc1 (pc' := 31) rfl rfl rfl ?_
        refine am_r_goto (pc' := 2) rfl rfl ?_
        refine ih _ _ (by omega) (am_fr_upI hF (by omega)) (fun a ha => ?_)
        by_cases q : a = i
        · subst q
          simp [am_upI]
        · have := hv a (by omega)
          have q2 : ¬ a.toNat = i.toNat := by omega
          simpa [am_upI, q2] using this
  refine am_bv_of (P := am_pX9_begin) (rt := 0) (nL := 2) (Nat.le_of_ble_eq_true rfl) rfl (Nat.le_of_ble_eq_true rfl) rfl rfl rfl ?_
  refine am_r_iconst (pc' := 1) rfl rfl ?_
  refine am_r_istore1 (pc' := 2) rfl rfl rfl ?_
  exact hloop (s_n σ).toNat 0 M (by omega) (am_fr_rf _ _ _) (fun a ha => by omega)
theorem c_move {sL : Nat} {xs : Nat → Int32} {d : Nat} {M : Am_M} {Q : Am_M → Prop} (hd : 2 ≤ d) {σ : Sg} (hX : SX M σ) {a b p : Int} (ha : 0 ≤ a ∧ a < s_n σ) (hp : M.1 25 a.toNat = z_I p) (hpb : -1000000 ≤ p ∧ p ≤ 1000000) (hb : -1000000 ≤ b ∧ b ≤ 1000000) (hq : Q (am_upI M 25 a.toNat (z_I ((p + b) % s_rd σ a)))) : am_bv sL xs d 102 [.ref 24, .int (z_I a), .int (z_I b)] M Q := by
  obtain ⟨d, rfl⟩ : ∃ e, d = e + 1 := ⟨d - 1, by omega⟩
  have hn := sb_nb hX.1
  have hnr := sb_nrb hX.1
  have hg := sg_b hX.1 ha
  refine am_bv_of (P := am_pX9_move) (rt := 0) (nL := 3) (Nat.le_of_ble_eq_true rfl) rfl (Nat.le_of_ble_eq_true rfl) rfl rfl rfl ?_
  refine am_r_aload0 (pc' := 1) rfl rfl ?_
  refine am_r_getR (t := 25) (pc' := 4) rfl rfl rfl ?_
  refine am_r_iload1 (pc' := 5) rfl rfl ?_
  refine am_r_aload0 (pc' := 6) rfl rfl ?_
  refine am_r_getR (t := 25) (pc' := 9) rfl rfl rfl ?_
  refine am_r_iload1 (pc' := 10) rfl rfl ?_
  refine am_r_iaZv (n := 8) (pc' := 11) rfl rfl rfl (by decide) (hp) ?_
  refine am_r_iload2 (pc' := 12) rfl rfl ?_
  refine am_r_iadd (pc' := 13) rfl rfl ?_
  refine am_r_aload0 (pc' := 14) rfl rfl ?_
  refine am_r_getR (t := 1) (pc' := 17) rfl rfl rfl ?_
  refine am_r_getR (t := 2) (pc' := 20) rfl rfl rfl ?_
  refine am_r_iload1 (pc' := 21) rfl rfl ?_
  refine am_r_iaZv (n := 8) (pc' := 22) rfl rfl rfl (by decide) (sx_rd hX (by omega)) ?_
  refine am_r_ivsI2 (pc' := 25) rfl rfl rfl (Nat.le_of_ble_eq_true rfl) (c_floorMod (by omega) (by omega) (by omega) ?_)
  refine am_r_iast (n := 8) (pc' := 26) rfl rfl (rfl) (by decide) ?_
  refine am_r_vret rfl rfl ?_
  exact hq
/-- looking: degrees, bits, meetings; the places stay -/
def am_fk (M M' : Am_M) : Prop := am_fr 24 28 M M' ∧ M'.1 25 = M.1 25
theorem am_fk_rf (M : Am_M) : am_fk M M := ⟨am_fr_rf _ _ _, rfl⟩
theorem am_fk_up {M M' : Am_M} (h : am_fk M M') {k i : Nat} {x : Int32} (hk : k = 24 ∨ k = 26 ∨ k = 28) : am_fk M (am_upI M' k i x) := ⟨am_fr_upI h.1 (by omega), (am_up_o _ _ _ _ (by omega)).trans h.2⟩
def LK (M : Am_M) (σ : Sg) (π : y_P) : Prop := (∀ a, 0 ≤ a ∧ a < s_n σ → M.1 26 a.toNat = z_I (y_dg σ π a)) ∧ ∀ a, 0 ≤ a ∧ a < s_n σ → M.1 28 a.toNat = z_I (y_bits σ π a)
theorem c_look {sL : Nat} {xs : Nat → Int32} {d : Nat} {M : Am_M} {Q : Am_M → Prop} (hd : 2 ≤ d) {σ : Sg} {π : y_P} (hW : WX M σ π) (hq : ∀ M', am_fk M M' → LK M' σ π → M'.1 24 6 = z_I (y_me σ π) → Q M') : am_bv sL xs d 103 [.ref 24] M Q := by
  obtain ⟨d, rfl⟩ : ∃ e, d = e + 1 := ⟨d - 1, by omega⟩
  have hX := hW.1
  have hn := sb_nb hX.1
  have hnr := sb_nrb hX.1
  have hin : ∀ (i : Int), 0 ≤ i ∧ i < s_n σ → ∀ (k : Nat) (j m : Int) (N : Am_M) (Z : Option Value → Am_M → Prop), i < j ∧ j + k = s_n σ → am_fk M N → (∀ a, 0 ≤ a ∧ a < s_n σ → N.1 26 a.toNat = z_I (y_dg σ π a)) → (∀ x, 0 ≤ x ∧ x < s_n σ → N.1 28 x.toNat = z_I (y_pb σ π i j x)) → N.1 24 6 = z_I m → (∀ N' : Am_M, am_fk M N' → (∀ a, 0 ≤ a ∧ a < s_n σ → N'.1 26 a.toNat = z_I (y_dg σ π a)) → (∀ x, 0 ≤ x ∧ x < s_n σ → N'.1 28 x.toNat = z_I (y_pb σ π (i + 1) (i + 1) x)) → N'.1 24 6 = z_I (m + f_sum (y_q σ π i) j k) → am_rw sL xs d am_pX9_look 0 53 [.ref 24, .int (z_I (i + 1)), .int (z_I (s_n σ))] [] N' Z) → am_rw sL xs d am_pX9_look 0 68 [.ref 24, .int (z_I i), .int (z_I j)] [] N Z := by
    intro i hi k
    induction k with
    | zero =>
      intro j m N Z hk hF hD hB hm hz
      obtain rfl : j = s_n σ := by omega
      have hW := wx_fr hW hF.1 (by omega) hF.2
      have hX := hW.1
      refine am_r_iload2 (pc' := 69) rfl rfl ?_
      refine am_r_aload0 (pc' := 70) rfl rfl ?_
      refine am_r_getR (t := 1) (pc' := 73) rfl rfl rfl ?_
      refine am_r_getIv (f := 5) (pc' := 76) rfl rfl rfl (sx_n hX) ?_
      refine am_r_icmp_ge (pt := 144) (pf := 79) rfl rfl rfl (fun h76 => ?_) (fun h76 => ?_)
      · refine am_r_iinc1 (pc' := 147) rfl rfl rfl ?_
        refine am_r_goto (pc' := 53) rfl rfl ?_
        exact hz N hF hD (fun x hx => (hB x hx).trans (by rw [y_pb_n _ _ _ _ hx.2])) (by rw [hm, f_sum_0])
      · exfalso; omega
    | succ k ih =>
      intro j m N Z hk hF hD hB hm hz
      have hW := wx_fr hW hF.1 (by omega) hF.2
      have hX := hW.1
      have hbi := f_pw_0 (y_b_pw σ π i) (j := j) (by omega)
      have hbj := f_pw_0 (y_b_pw σ π j) (j := i) (by omega)
      have hei : y_pb σ π i j i = f_sum (y_b σ π i) 0 j.toNat := by unfold y_pb; rw [if_neg (by omega), if_pos rfl]
      have hej : y_pb σ π i j j = f_sum (y_b σ π j) 0 i.toNat := by unfold y_pb; rw [if_neg (by omega), if_neg (by omega), if_neg (by omega)]
      have hij : ¬ j.toNat = i.toNat := by omega
      have hji : ¬ i.toNat = j.toNat := by omega
      refine am_r_iload2 (pc' := 69) rfl rfl ?_
      refine am_r_aload0 (pc' := 70) rfl rfl ?_
      refine am_r_getR (t := 1) (pc' := 73) rfl rfl rfl ?_
      refine am_r_getIv (f := 5) (pc' := 76) rfl rfl rfl (sx_n hX) ?_
      refine am_r_icmp_ge (pt := 144) (pf := 79) rfl rfl rfl (fun h76 => ?_) (fun h76 => ?_)
      · exfalso; omega
      · refine am_r_aload0 (pc' := 80) rfl rfl ?_
        refine am_r_getR (t := 26) (pc' := 83) rfl rfl rfl ?_
        refine am_r_iload1 (pc' := 84) rfl rfl ?_
        refine am_r_iaZv (n := 8) (pc' := 85) rfl rfl rfl (by decide) (hD i (by omega)) ?_
        refine am_r_aload0 (pc' := 86) rfl rfl ?_
        refine am_r_getR (t := 26) (pc' := 89) rfl rfl rfl ?_
        refine am_r_iload2 (pc' := 90) rfl rfl ?_
        refine am_r_iaZv (n := 8) (pc' := 91) rfl rfl rfl (by decide) (hD j (by omega)) ?_
        refine am_r_ivsI2 (pc' := 94) rfl rfl rfl (Nat.le_of_ble_eq_true rfl) (c_gap (by omega) (y_dg_b hX.1 hW.2.1 (by omega)) (y_dg_b hX.1 hW.2.1 (by omega)) ?_)
        have hgb : 0 ≤ g_gap (y_dg σ π i) (y_dg σ π j) ∧ g_gap (y_dg σ π i) (y_dg σ π j) ≤ 180 := y_gap_b hX.1 hW.2.1 (by omega) (by omega)
        refine am_r_aload0 (pc' := 95) rfl rfl ?_
        refine am_r_getR (t := 1) (pc' := 98) rfl rfl rfl ?_
        refine am_r_getIv (f := 4) (pc' := 101) rfl rfl rfl (sx_nr hX) ?_
        refine am_r_icmp_gt (pt := 138) (pf := 104) rfl rfl rfl (fun h101 => ?_) (fun h101 => ?_)
        · have hmt : ¬ y_mt σ π i j = true := by unfold y_mt; rw [decide_eq_true_eq]; unfold y_gap; omega
          have hb0 : y_b σ π i j = 0 := if_neg (fun q => hmt q.2)
          have hc0 : y_b σ π j i = 0 := if_neg (fun q => hmt (by rw [y_mt_sy]; exact q.2))
          have hq0 : y_q σ π i j = 0 := if_neg (fun q => hmt q.1)
          refine am_r_iinc2 (pc' := 141) rfl rfl rfl ?_
          refine am_r_goto (pc' := 68) rfl rfl ?_
          first
          | refine ih _ _ _ _ (by omega) (am_fk_up (am_fk_up (am_fk_up hF (by omega)) (by omega)) (by omega)) (fun a ha => by have := hD a ha; simpa [am_upI] using this) (fun x hx => ?_) (am_up_e _ _ _ _) (fun N' a1 a2 a3 a4 => hz N' a1 a2 a3 (by rw [a4, f_sum_s, hq1]))
          | refine ih _ _ _ _ (by omega) hF hD (fun x hx => ?_) hm (fun N' a1 a2 a3 a4 => hz N' a1 a2 a3 (by rw [a4, f_sum_s, hq0, Int.add_zero]))
          · by_cases e1 : x = i
            · rw [e1]
              have hp : y_pb σ π i (j + 1) i = f_sum (y_b σ π i) 0 j.toNat + y_b σ π i j := by unfold y_pb; rw [if_neg (by omega), if_pos rfl, f_sum_up _ (by omega)]
              rw [hp]
              first
              | (rw [hb0, Int.add_zero]; exact (hB i hi).trans (by rw [hei]))
              | (rw [hb1]; simp [am_upI, hij, hji])
            · by_cases e2 : x = j
              · rw [e2]
                have hp : y_pb σ π i (j + 1) j = f_sum (y_b σ π j) 0 i.toNat + y_b σ π j i := by unfold y_pb; rw [if_neg (by omega), if_neg (by omega), if_pos (by omega), f_sum_up _ (by omega)]
                rw [hp]
                first
                | (rw [hc0, Int.add_zero]; exact (hB j (by omega)).trans (by rw [hej]))
                | (rw [hc1]; simp [am_upI, hij, hji])
              · have hp : y_pb σ π i (j + 1) x = y_pb σ π i j x := by
                  unfold y_pb
                  by_cases g1 : x < i
                  · rw [if_pos g1, if_pos g1]
                  · rw [if_neg g1, if_neg g1, if_neg e1, if_neg e1]
                    by_cases g2 : x < j
                    · rw [if_pos g2, if_pos (by omega)]
                    · rw [if_neg g2, if_neg (by omega)]
                rw [hp]
                have f1 : ¬ x.toNat = i.toNat := by omega
                have f2 : ¬ x.toNat = j.toNat := by omega
                have := hB x hx
                simpa [am_upI, f1, f2] using this
        · have hmt : y_mt σ π i j = true := decide_eq_true (show y_gap σ π i j ≤ s_nr σ by unfold y_gap; omega)
          have hb1 : y_b σ π i j = 2 ^ j.toNat := if_pos ⟨by omega, hmt⟩
          have hc1 : y_b σ π j i = 2 ^ i.toNat := if_pos ⟨by omega, by rw [y_mt_sy]; exact hmt⟩
          have hq1 : y_q σ π i j = 1 := if_pos ⟨hmt, by omega⟩
          refine am_r_aload0 (pc' := 105) rfl rfl ?_
          refine am_r_getR (t := 28) (pc' := 108) rfl rfl rfl ?_
          refine am_r_iload1 (pc' := 109) rfl rfl ?_
          refine am_r_dup2 (pc' := 110) rfl rfl rfl rfl ?_
          refine am_r_iaZv (n := 8) (pc' := 111) rfl rfl rfl (by decide) ((hB i (by omega)).trans (by rw [hei])) ?_
          refine am_r_iconst (pc' := 112) rfl rfl ?_
          refine am_r_iload2 (pc' := 113) rfl rfl ?_
          refine am_r_ishl (pc' := 114) rfl rfl ?_
          refine am_r_iorR (pc' := 115) rfl rfl ?_
          rw [z_shl1 (by omega), z_or (by omega) (by omega)]
          refine am_r_iast (n := 8) (pc' := 116) rfl rfl (rfl) (by decide) ?_
          refine am_r_aload0 (pc' := 117) rfl rfl ?_
          refine am_r_getR (t := 28) (pc' := 120) rfl rfl rfl ?_
          refine am_r_iload2 (pc' := 121) rfl rfl ?_
          refine am_r_dup2 (pc' := 122) rfl rfl rfl rfl ?_
          refine am_r_iaZv (n := 8) (pc' := 123) rfl rfl rfl (by decide) (show _ = z_I (f_sum (y_b σ π j) 0 i.toNat) by have := (hB j (by omega)).trans (by rw [hej]); simpa [am_upI, hij] using this) ?_
          refine am_r_iconst (pc' := 124) rfl rfl ?_
          refine am_r_iload1 (pc' := 125) rfl rfl ?_
          refine am_r_ishl (pc' := 126) rfl rfl ?_
          refine am_r_iorR (pc' := 127) rfl rfl ?_
          rw [z_shl1 (by omega), z_or (by omega) (by omega)]
          refine am_r_iast (n := 8) (pc' := 128) rfl rfl (rfl) (by decide) ?_
          refine am_r_aload0 (pc' := 129) rfl rfl ?_
          refine am_r_dup (pc' := 130) rfl rfl rfl ?_
          refine am_r_getIv (f := 6) (pc' := 133) rfl rfl rfl (show _ = z_I m by simpa [am_upI] using hm) ?_
          refine am_r_iconst (pc' := 134) rfl rfl ?_
          refine am_r_iadd (pc' := 135) rfl rfl ?_
          refine am_r_putI (f := 6) (pc' := 138) rfl rfl rfl (by decide) ?_
          refine am_r_iinc2 (pc' := 141) rfl rfl rfl ?_
          refine am_r_goto (pc' := 68) rfl rfl ?_
          first
          | refine ih _ _ _ _ (by omega) (am_fk_up (am_fk_up (am_fk_up hF (by omega)) (by omega)) (by omega)) (fun a ha => by have := hD a ha; simpa [am_upI] using this) (fun x hx => ?_) (am_up_e _ _ _ _) (fun N' a1 a2 a3 a4 => hz N' a1 a2 a3 (by rw [a4, f_sum_s, hq1]))
          | refine ih _ _ _ _ (by omega) hF hD (fun x hx => ?_) hm (fun N' a1 a2 a3 a4 => hz N' a1 a2 a3 (by rw [a4, f_sum_s, hq0, Int.add_zero]))
          · by_cases e1 : x = i
            · rw [e1]
              have hp : y_pb σ π i (j + 1) i = f_sum (y_b σ π i) 0 j.toNat + y_b σ π i j := by unfold y_pb; rw [if_neg (by omega), if_pos rfl, f_sum_up _ (by omega)]
              rw [hp]
              first
              | (rw [hb0, Int.add_zero]; exact (hB i hi).trans (by rw [hei]))
              | (rw [hb1]; simp [am_upI, hij, hji])
            · by_cases e2 : x = j
              · rw [e2]
                have hp : y_pb σ π i (j + 1) j = f_sum (y_b σ π j) 0 i.toNat + y_b σ π j i := by unfold y_pb; rw [if_neg (by omega), if_neg (by omega), if_pos (by omega), f_sum_up _ (by omega)]
                rw [hp]
                first
                | (rw [hc0, Int.add_zero]; exact (hB j (by omega)).trans (by rw [hej]))
                | (rw [hc1]; simp [am_upI, hij, hji])
              · have hp : y_pb σ π i (j + 1) x = y_pb σ π i j x := by
                  unfold y_pb
                  by_cases g1 : x < i
                  · rw [if_pos g1, if_pos g1]
                  · rw [if_neg g1, if_neg g1, if_neg e1, if_neg e1]
                    by_cases g2 : x < j
                    · rw [if_pos g2, if_pos (by omega)]
                    · rw [if_neg g2, if_neg (by omega)]
                rw [hp]
                have f1 : ¬ x.toNat = i.toNat := by omega
                have f2 : ¬ x.toNat = j.toNat := by omega
                have := hB x hx
                simpa [am_upI, f1, f2] using this
  have hout : ∀ (k : Nat) (i m : Int) (N : Am_M) (w2 : Value), 0 ≤ i ∧ i + k = s_n σ → am_fk M N → (∀ a, 0 ≤ a ∧ a < s_n σ → N.1 26 a.toNat = z_I (y_dg σ π a)) → (∀ x, 0 ≤ x ∧ x < s_n σ → N.1 28 x.toNat = z_I (y_pb σ π i i x)) → N.1 24 6 = z_I m → m + f_sum (y_qs σ π) i k = y_me σ π → am_rw sL xs d am_pX9_look 0 53 [.ref 24, .int (z_I i), w2] [] N (am_pv Q) := by
    intro k
    induction k with
    | zero =>
      intro i m N w2 hk hF hD hB hm he
      have hW := wx_fr hW hF.1 (by omega) hF.2
      have hX := hW.1
      refine am_r_iload1 (pc' := 54) rfl rfl ?_
      refine am_r_aload0 (pc' := 55) rfl rfl ?_
      refine am_r_getR (t := 1) (pc' := 58) rfl rfl rfl ?_
      refine am_r_getIv (f := 5) (pc' := 61) rfl rfl rfl (sx_n hX) ?_
      refine am_r_icmp_ge (pt := 150) (pf := 64) rfl rfl rfl (fun h61 => ?_) (fun h61 => ?_)
      · refine am_r_vret rfl rfl ?_
        exact hq N hF ⟨hD, fun a ha => (hB a ha).trans (by rw [y_pb_x _ _ _ _ (by omega) ha.2])⟩ (by rw [hm, ← he, f_sum_0])
      · exfalso; omega
    | succ k ih =>
      intro i m N w2 hk hF hD hB hm he
      have hW := wx_fr hW hF.1 (by omega) hF.2
      have hX := hW.1
      have hqs : y_qs σ π i = f_sum (y_q σ π i) (i + 1) k := by
        unfold y_qs
        rw [show (s_n σ).toNat = (i + 1).toNat + k by omega, f_sum_app, f_sum_0s (f := y_q σ π i) (i + 1).toNat 0 (fun j a b => if_neg (fun q => by omega)), show (0 : Int) + ((i + 1).toNat : Int) = i + 1 by omega, Int.zero_add]
      refine am_r_iload1 (pc' := 54) rfl rfl ?_
      refine am_r_aload0 (pc' := 55) rfl rfl ?_
      refine am_r_getR (t := 1) (pc' := 58) rfl rfl rfl ?_
      refine am_r_getIv (f := 5) (pc' := 61) rfl rfl rfl (sx_n hX) ?_
      refine am_r_icmp_ge (pt := 150) (pf := 64) rfl rfl rfl (fun h61 => ?_) (fun h61 => ?_)
      · exfalso; omega
      · refine am_r_iload1 (pc' := 65) rfl rfl ?_
        refine am_r_iconst (pc' := 66) rfl rfl ?_
        refine am_r_iadd (pc' := 67) rfl rfl ?_
        refine am_r_istore2 (pc' := 68) rfl rfl rfl ?_
        refine hin i (by omega) k (i + 1) m N _ (by omega) hF hD (fun x hx => (hB x hx).trans (by rw [y_pb_0 _ _ _ _ (by omega)])) hm (fun N' a1 a2 a3 a4 => ?_)
        exact ih (i + 1) _ N' _ (by omega) a1 a2 a3 a4 (by rw [← he, f_sum_s, hqs])
  have hfst : ∀ (k : Nat) (i : Int) (N : Am_M), 0 ≤ i ∧ i + k = s_n σ → am_fk M N → (∀ a, 0 ≤ a ∧ a < i → N.1 26 a.toNat = z_I (y_dg σ π a) ∧ N.1 28 a.toNat = z_I 0) → N.1 24 6 = z_I 0 → am_rw sL xs d am_pX9_look 0 7 [.ref 24, .int (z_I i), .null] [] N (am_pv Q) := by
    intro k
    induction k with
    | zero =>
      intro i N hk hF hv hm
      have hW := wx_fr hW hF.1 (by omega) hF.2
      have hX := hW.1
      refine am_r_iload1 (pc' := 8) rfl rfl ?_
      refine am_r_aload0 (pc' := 9) rfl rfl ?_
      refine am_r_getR (t := 1) (pc' := 12) rfl rfl rfl ?_
      refine am_r_getIv (f := 5) (pc' := 15) rfl rfl rfl (sx_n hX) ?_
      refine am_r_icmp_ge (pt := 51) (pf := 18) rfl rfl rfl (fun h15 => ?_) (fun h15 => ?_)
      · refine am_r_iconst (pc' := 52) rfl rfl ?_
        refine am_r_istore1 (pc' := 53) rfl rfl rfl ?_
        refine hout (s_n σ).toNat 0 0 N _ (by omega) hF (fun a ha => (hv a (by omega)).1) (fun x hx => ?_) hm (by rw [Int.zero_add]; rfl)
        rw [(hv x (by omega)).2]
        unfold y_pb
        rw [if_neg (by omega)]
        by_cases e : x = 0
        · rw [if_pos e]; rfl
        · rw [if_neg e, if_neg (by omega)]; rfl
      · exfalso; omega
    | succ k ih =>
      intro i N hk hF hv hm
      have hW := wx_fr hW hF.1 (by omega) hF.2
      have hX := hW.1
      refine am_r_iload1 (pc' := 8) rfl rfl ?_
      refine am_r_aload0 (pc' := 9) rfl rfl ?_
      refine am_r_getR (t := 1) (pc' := 12) rfl rfl rfl ?_
      refine am_r_getIv (f := 5) (pc' := 15) rfl rfl rfl (sx_n hX) ?_
      refine am_r_icmp_ge (pt := 51) (pf := 18) rfl rfl rfl (fun h15 => ?_) (fun h15 => ?_)
      · exfalso; omega
      · refine am_r_aload0 (pc' := 19) rfl rfl ?_
        refine am_r_getR (t := 26) (pc' := 22) rfl rfl rfl ?_
        refine am_r_iload1 (pc' := 23) rfl rfl ?_
        refine am_r_aload0 (pc' := 24) rfl rfl ?_
        refine am_r_getR (t := 1) (pc' := 27) rfl rfl rfl ?_
        refine am_r_iload1 (pc' := 28) rfl rfl ?_
        refine am_r_aload0 (pc' := 29) rfl rfl ?_
        refine am_r_getR (t := 25) (pc' := 32) rfl rfl rfl ?_
        refine am_r_iload1 (pc' := 33) rfl rfl ?_
        refine am_r_iaZv (n := 8) (pc' := 34) rfl rfl rfl (by decide) (wx_pl hW (by omega)) ?_
        refine am_r_invI2 (pc' := 37) rfl rfl rfl (Nat.le_of_ble_eq_true rfl) (c_degrees (by omega) hX (by omega) (wx_b hW (by omega)) ?_)
        refine am_r_iast (n := 8) (pc' := 38) rfl rfl (rfl) (by decide) ?_
        refine am_r_aload0 (pc' := 39) rfl rfl ?_
        refine am_r_getR (t := 28) (pc' := 42) rfl rfl rfl ?_
        refine am_r_iload1 (pc' := 43) rfl rfl ?_
        refine am_r_iconst (pc' := 44) rfl rfl ?_
        refine am_r_iast (n := 8) (pc' := 45) rfl rfl (rfl) (by decide) ?_
        refine am_r_iinc1 (pc' := 48) rfl rfl rfl ?_
        refine am_r_goto (pc' := 7) rfl rfl ?_
        refine ih _ _ (by omega) (am_fk_up (am_fk_up hF (by omega)) (by omega)) (fun a ha => ?_) (by simpa [am_upI] using hm)
        by_cases q : a = i
        · subst q
          simp [am_upI]; rfl
        · have := hv a (by omega)
          have q2 : ¬ a.toNat = i.toNat := by omega
          simpa [am_upI, q2] using this
  refine am_bv_of (P := am_pX9_look) (rt := 0) (nL := 3) (Nat.le_of_ble_eq_true rfl) rfl (Nat.le_of_ble_eq_true rfl) rfl rfl rfl ?_
  refine am_r_aload0 (pc' := 1) rfl rfl ?_
  refine am_r_iconst (pc' := 2) rfl rfl ?_
  refine am_r_putI (f := 6) (pc' := 5) rfl rfl rfl (by decide) ?_
  refine am_r_iconst (pc' := 6) rfl rfl ?_
  refine am_r_istore1 (pc' := 7) rfl rfl rfl ?_
  exact hfst (s_n σ).toNat 0 _ (by omega) (am_fk_up (am_fk_rf M) (by omega)) (fun a ha => by omega) (am_up_e _ _ _ _)
