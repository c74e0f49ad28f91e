/-! BY THE CLOCK, the class: sets, nudges, turns -/
theorem z_or {c i : Int} (hi : 0 ≤ i ∧ i < 8) (hc : 0 ≤ c ∧ c < 2 ^ i.toNat) : z_I c ||| z_I (2 ^ i.toNat) = z_I (c + 2 ^ i.toNat) := by
  obtain ⟨j, rfl⟩ : ∃ j : Nat, i = j := ⟨i.toNat, by omega⟩
  obtain ⟨e, rfl⟩ : ∃ e : Nat, c = e := ⟨c.toNat, by omega⟩
  have h : ∀ j : Nat, j < 8 → ∀ e : Nat, e < 2 ^ j → z_I (e : Int) ||| z_I (2 ^ j) = z_I (e + 2 ^ j) := by decide +kernel
  exact h j (by omega) e (by have := hc.2; simp only [Int.toNat_natCast] at this; exact_mod_cast this)
theorem z_pow_s {i : Int} (hi : 0 ≤ i) : (2 : Int) ^ (i + 1).toNat = 2 * 2 ^ i.toNat := by
  rw [show (i + 1).toNat = i.toNat + 1 by omega, Int.pow_succ]
  omega
theorem z_pow_p (i : Nat) : 1 ≤ (2 : Int) ^ i := by
  have := Int.pow_pos (n := 2) (m := i) (by omega)
  omega
theorem g_mb_b (σ : Sg) (a d i : Int) : 0 ≤ g_mb σ a d i ∧ g_mb σ a d i ≤ 2 ^ i.toNat := by
  have := z_pow_p i.toNat
  unfold g_mb
  split <;> omega
theorem f_sum_mb (σ : Sg) (a d : Int) : ∀ (k : Nat) (i : Int), 0 ≤ i → 0 ≤ f_sum (g_mb σ a d) i k ∧ f_sum (g_mb σ a d) i k + 2 ^ i.toNat ≤ 2 ^ (i + k).toNat
  | 0, i, h => by simp [f_sum]
  | k + 1, i, h => by
    have h1 := g_mb_b σ a d i
    have h2 := f_sum_mb σ a d k (i + 1) (by omega)
    have h3 := z_pow_s h
    simp only [f_sum]
    rw [show (i + ((k + 1 : Nat) : Int)) = i + 1 + k by omega]
    omega
theorem g_met_b {σ : Sg} (h : SB σ) (a d : Int) : 0 ≤ g_met σ a d ∧ g_met σ a d < 2 ^ (s_n σ).toNat := by
  have hn := sb_nb h
  have := f_sum_mb σ a d (s_n σ).toNat 0 (by omega)
  unfold g_met
  rw [show (0 : Int) + ((s_n σ).toNat : Int) = s_n σ by omega] at this
  have e : (2 : Int) ^ (0 : Int).toNat = 1 := rfl
  omega
/-- none of a set meets anybody -/
def g_fr (σ : Sg) (s d o : Int) : Bool := decide (¬ (s_bit s o = 1 ∧ ¬ g_met σ o d = 0))
def g_free (σ : Sg) (s d : Int) : Bool := f_all (g_fr σ s d) 0 (s_n σ).toNat
/-- Euclid's steps, as many as given -/
def f_eu : Nat → Int → Int → Int
  | 0, x, _ => x
  | k + 1, x, y => if y = 0 then x else f_eu k y (x % y)
theorem f_eu_dvd : ∀ (k : Nat) (x y : Int), 0 ≤ y → y < k → f_eu k x y ∣ x ∧ f_eu k x y ∣ y
  | 0, x, y, h, h2 => by omega
  | k + 1, x, y, h, h2 => by
    unfold f_eu
    by_cases e : y = 0
    · rw [if_pos e, e]
      exact ⟨Int.dvd_refl x, Int.dvd_zero x⟩
    · rw [if_neg e]
      have m1 := Int.emod_nonneg x e
      have m2 := Int.emod_lt_of_pos x (show 0 < y by omega)
      have ih := f_eu_dvd k y (x % y) m1 (by omega)
      refine ⟨?_, ih.1⟩
      have e2 := Int.mul_ediv_add_emod x y
      have h3 := Int.dvd_add (Int.dvd_mul_of_dvd_left (c := x / y) ih.1) ih.2
      rw [e2] at h3
      exact h3
theorem f_eu_more : ∀ (k j : Nat) (x y : Int), 0 ≤ y → y < k → k ≤ j → f_eu j x y = f_eu k x y
  | 0, _, x, y, h, h2, _ => by omega
  | k + 1, j, x, y, h, h2, hj => by
    obtain ⟨i, rfl⟩ : ∃ i, j = i + 1 := ⟨j - 1, by omega⟩
    unfold f_eu
    by_cases e : y = 0
    · rw [if_pos e, if_pos e]
    · rw [if_neg e, if_neg e]
      have m1 := Int.emod_nonneg x e
      have m2 := Int.emod_lt_of_pos x (show 0 < y by omega)
      exact f_eu_more k i y (x % y) m1 (by omega) (by omega)
theorem f_eu_pos : ∀ (k : Nat) (x y : Int), 1 ≤ x → 0 ≤ y → 1 ≤ f_eu k x y
  | 0, x, y, h, _ => h
  | k + 1, x, y, h, h2 => by
    unfold f_eu
    by_cases e : y = 0
    · rw [if_pos e]; exact h
    · rw [if_neg e]
      exact f_eu_pos k y (x % y) (by omega) (Int.emod_nonneg x e)
def g_lcm (a b : Int) : Int := a / f_eu 100 a b * b
theorem g_lcm_b {a b : Int} (ha : 1 ≤ a) (hb : 1 ≤ b ∧ b ≤ 60) : 1 ≤ f_eu 100 a b ∧ f_eu 100 a b ≤ a ∧ 1 ≤ a / f_eu 100 a b ∧ a / f_eu 100 a b ≤ a ∧ 1 ≤ g_lcm a b ∧ g_lcm a b ≤ a * 60 := by
  have h1 := f_eu_pos 100 a b ha (by omega)
  have h2 := (f_eu_dvd 100 a b (by omega) (by omega)).1
  have h3 := Int.le_of_dvd (by omega) h2
  have h4 : 1 ≤ a / f_eu 100 a b := (Int.le_ediv_iff_mul_le (by omega)).mpr (by omega)
  have h5 : a / f_eu 100 a b ≤ a := Int.ediv_le_self _ (by omega)
  refine ⟨h1, h3, h4, h5, ?_, ?_⟩
  · unfold g_lcm
    exact Int.mul_pos h4 (by omega)
  · unfold g_lcm
    exact Int.mul_le_mul h5 hb.2 (by omega) (by omega)
def g_tg (σ : Sg) (s : Int) : Int → Int → Nat → Int
  | c, _, 0 => c
  | c, i, k + 1 => g_tg σ s (if s_bit s i = 1 then g_lcm c (s_rd σ i) else c) (i + 1) k
def g_tog (σ : Sg) (s : Int) : Int := g_tg σ s 1 0 (s_n σ).toNat
theorem p60 {i : Int} (hi : 0 ≤ i ∧ i ≤ 8) : 1 ≤ (60 : Int) ^ i.toNat ∧ (60 : Int) ^ i.toNat ≤ 167961600000000 := by
  obtain ⟨k, rfl⟩ : ∃ k : Nat, i = k := ⟨i.toNat, by omega⟩
  have : ∀ k : Nat, k ≤ 8 → 1 ≤ (60 : Int) ^ k ∧ (60 : Int) ^ k ≤ 167961600000000 := by decide +kernel
  exact this k (by omega)
theorem p60_s {i : Int} (hi : 0 ≤ i) : (60 : Int) ^ (i + 1).toNat = 60 * 60 ^ i.toNat := by
  rw [show (i + 1).toNat = i.toNat + 1 by omega, Int.pow_succ]
  omega
theorem g_tg_b {σ : Sg} (h : SB σ) (s : Int) : ∀ (k : Nat) (c i : Int), 0 ≤ i → i + k = s_n σ → 1 ≤ c → c ≤ 60 ^ i.toNat → 1 ≤ g_tg σ s c i k ∧ g_tg σ s c i k ≤ 60 ^ (i + k).toNat
  | 0, c, i, _, _, h1, h2 => by simpa [g_tg] using ⟨h1, h2⟩
  | k + 1, c, i, h0, hk, h1, h2 => by
    have hb := sg_b h (a := i) (by omega)
    have hl := g_lcm_b (a := c) (b := s_rd σ i) h1 (by omega)
    have hp := p60_s h0
    have ih := g_tg_b h s k (if s_bit s i = 1 then g_lcm c (s_rd σ i) else c) (i + 1) (by omega) (by omega) (by split <;> omega) (by split <;> omega)
    rw [show i + ((k + 1 : Nat) : Int) = i + 1 + k by omega]
    exact ih
theorem g_tog_b {σ : Sg} (h : SB σ) (s : Int) : 1 ≤ g_tog σ s ∧ g_tog σ s ≤ 167961600000000 := by
  have hn := sb_nb h
  have h1 := g_tg_b h s (s_n σ).toNat 1 0 (by omega) (by omega) (by omega) (by decide)
  rw [show (0 : Int) + ((s_n σ).toNat : Int) = s_n σ by omega] at h1
  have h2 := p60 hn
  unfold g_tog
  omega
/-- the first day from a day on, in steps, on which a is at the start; -1 -/
def g_nx (σ : Sg) (a e : Int) : Int → Nat → Int
  | _, 0 => -1
  | d, k + 1 => if (s_pl σ a + d) % s_rd σ a = 0 then d else g_nx σ a e (d + e) k
def g_st (σ : Sg) (s : Int) : Int → Int → Int → Nat → Int
  | d, _, _, 0 => d
  | d, e, i, k + 1 => if s_bit s i = 1 then (if g_nx σ i e d (s_rd σ i).toNat < 0 then -2 else g_st σ s (g_nx σ i e d (s_rd σ i).toNat) (g_lcm e (s_rd σ i)) (i + 1) k) else g_st σ s d e (i + 1) k
def g_start (σ : Sg) (s : Int) : Int := g_st σ s 0 1 0 (s_n σ).toNat
theorem g_nx_b (σ : Sg) (a e : Int) (he : 0 ≤ e) : ∀ (k : Nat) (d : Int), 0 ≤ d → -1 ≤ g_nx σ a e d k ∧ (k = 0 ∨ g_nx σ a e d k ≤ d + e * ((k : Int) - 1))
  | 0, d, _ => ⟨by simp [g_nx], Or.inl rfl⟩
  | k + 1, d, hd => by
    have ih := g_nx_b σ a e he k (d + e) (by omega)
    have hx : 0 ≤ e * (k : Int) := Int.mul_nonneg he (by omega)
    have e1 : e * (((k + 1 : Nat) : Int) - 1) = e * (k : Int) := by congr 1; omega
    unfold g_nx
    split
    · exact ⟨by omega, Or.inr (by rw [e1]; omega)⟩
    · refine ⟨ih.1, Or.inr ?_⟩
      rw [e1]
      rcases ih.2 with q | q
      · subst q
        simp [g_nx]
        omega
      · have e2 : e * ((k : Int) - 1) = e * k - e := by rw [Int.mul_sub, Int.mul_one]
        omega
theorem c_metOn {sL : Nat} {xs : Nat → Int32} {d : Nat} {M : Am_M} {Q : Int32 → Am_M → Prop} (hd : 5 ≤ d) {σ : Sg} (hX : SX M σ) {a f0 : Int} (ha : 0 ≤ a ∧ a < s_n σ) (hf : 0 ≤ f0 ∧ f0 ≤ 101000) (hq : Q (z_I (g_met σ a f0)) M) : am_bi sL xs d 10 [.ref 14, .int (z_I a), .int (z_I f0)] M Q := by
  obtain ⟨d, rfl⟩ : ∃ e, d = e + 1 := ⟨d - 1, by omega⟩
  have hn := sb_nb hX.1
  have hnr := sb_nrb hX.1
  have hl : ∀ (k : Nat) (i c : Int), (0 ≤ i ∧ i + k = s_n σ ∧ 0 ≤ c ∧ c < 2 ^ i.toNat) → (Q (z_I (c + f_sum (g_mb σ a f0) i k)) M) → am_rw sL xs d am_pX1_metOn 1 5 [.ref 14, .int (z_I a), .int (z_I f0), .int (z_I c), .int (z_I i)] [] M (am_pi Q) := by
    intro k
    induction k with
    | zero =>
      intro i c hk hq
      have hps := z_pow_s hk.1
      refine am_r_iload4 (pc' := 7) rfl rfl ?_
      refine am_r_aload0 (pc' := 8) rfl rfl ?_
      refine am_r_getR (t := 1) (pc' := 11) rfl rfl rfl ?_
      refine am_r_getIv (f := 5) (pc' := 14) rfl rfl rfl (sx_n hX) ?_
      refine am_r_icmp_ge (pt := 50) (pf := 17) rfl rfl rfl (fun h14 => ?_) (fun h14 => ?_)
      · refine am_r_iload3 (pc' := 51) rfl rfl ?_
        refine am_r_iret rfl rfl ?_
        rw [f_sum_0] at hq; exact hq
      · exfalso; omega
    | succ k ih =>
      intro i c hk hq
      have hps := z_pow_s hk.1
      refine am_r_iload4 (pc' := 7) rfl rfl ?_
      refine am_r_aload0 (pc' := 8) rfl rfl ?_
      refine am_r_getR (t := 1) (pc' := 11) rfl rfl rfl ?_
      refine am_r_getIv (f := 5) (pc' := 14) rfl rfl rfl (sx_n hX) ?_
      refine am_r_icmp_ge (pt := 50) (pf := 17) rfl rfl rfl (fun h14 => ?_) (fun h14 => ?_)
      · exfalso; omega
      · refine am_r_iload4 (pc' := 19) rfl rfl ?_
        refine am_r_iload1 (pc' := 20) rfl rfl ?_
        refine am_r_icmp_eq (pt := 44) (pf := 23) rfl rfl rfl (fun h20 => ?_) (fun h20 => ?_)
        · refine am_r_iinc4 (pc' := 47) rfl rfl rfl ?_
          refine am_r_goto (pc' := 5) rfl rfl ?_
          first | exact ih _ _ (by omega) (by rw [f_sum_s, show g_mb σ a f0 i = 2 ^ i.toNat from if_pos ⟨h20, h34⟩] at hq; exact hq) | exact ih _ _ (by omega) (by rw [f_sum_s, show g_mb σ a f0 i = 0 from if_neg (fun z => h34 z.2), Int.add_zero] at hq; exact hq) | exact ih _ _ (by omega) (by rw [f_sum_s, show g_mb σ a f0 i = 0 from if_neg (fun z => z.1 h20), Int.add_zero] at hq; exact hq)
        · refine am_r_aload0 (pc' := 24) rfl rfl ?_
          refine am_r_getR (t := 1) (pc' := 27) rfl rfl rfl ?_
          refine am_r_iload1 (pc' := 28) rfl rfl ?_
          refine am_r_iload4 (pc' := 30) rfl rfl ?_
          refine am_r_iload2 (pc' := 31) rfl rfl ?_
          refine am_r_invI3 (pc' := 34) rfl rfl rfl (Nat.le_of_ble_eq_true rfl) (c_meetOn (by omega) hX (by omega) (by omega) (by omega) ?_)
          refine am_r_if_eqB (pt := 44) (pf := 37) rfl rfl rfl (fun h34 => ?_) (fun h34 => ?_)
          · refine am_r_iinc4 (pc' := 47) rfl rfl rfl ?_
            refine am_r_goto (pc' := 5) rfl rfl ?_
            first | exact ih _ _ (by omega) (by rw [f_sum_s, show g_mb σ a f0 i = 2 ^ i.toNat from if_pos ⟨h20, h34⟩] at hq; exact hq) | exact ih _ _ (by omega) (by rw [f_sum_s, show g_mb σ a f0 i = 0 from if_neg (fun z => h34 z.2), Int.add_zero] at hq; exact hq) | exact ih _ _ (by omega) (by rw [f_sum_s, show g_mb σ a f0 i = 0 from if_neg (fun z => z.1 h20), Int.add_zero] at hq; exact hq)
          · refine am_r_iload3 (pc' := 38) rfl rfl ?_
            refine am_r_iconst (pc' := 39) rfl rfl ?_
            refine am_r_iload4 (pc' := 41) rfl rfl ?_
            refine am_r_ishl (pc' := 42) rfl rfl ?_
            refine am_r_iorR (pc' := 43) rfl rfl ?_
            rw [z_shl1 (by omega), z_or (by omega) (by omega)]
            refine am_r_istore3 (pc' := 44) rfl rfl rfl ?_
            refine am_r_iinc4 (pc' := 47) rfl rfl rfl ?_
            refine am_r_goto (pc' := 5) rfl rfl ?_
            first | exact ih _ _ (by omega) (by rw [f_sum_s, show g_mb σ a f0 i = 2 ^ i.toNat from if_pos ⟨h20, h34⟩] at hq; exact hq) | exact ih _ _ (by omega) (by rw [f_sum_s, show g_mb σ a f0 i = 0 from if_neg (fun z => h34 z.2), Int.add_zero] at hq; exact hq) | exact ih _ _ (by omega) (by rw [f_sum_s, show g_mb σ a f0 i = 0 from if_neg (fun z => z.1 h20), Int.add_zero] at hq; exact hq)
  refine am_bi_of (P := am_pX1_metOn) (rt := 1) (nL := 5) (Nat.le_of_ble_eq_true rfl) rfl (Nat.le_of_ble_eq_true rfl) rfl rfl rfl ?_
  refine am_r_iconst (pc' := 1) rfl rfl ?_
  refine am_r_istore3 (pc' := 2) rfl rfl rfl ?_
  refine am_r_iconst (pc' := 3) rfl rfl ?_
  refine am_r_istore4 (pc' := 5) rfl rfl rfl ?_
  exact hl (s_n σ).toNat 0 0 (by refine ⟨by omega, by omega, by omega, ?_⟩; decide) (by rw [Int.zero_add]; exact hq)
theorem c_isFree {sL : Nat} {xs : Nat → Int32} {d : Nat} {M : Am_M} {Q : Int32 → Am_M → Prop} (hd : 6 ≤ d) {σ : Sg} (hX : SX M σ) {s f0 : Int} (hs : 0 ≤ s ∧ s < 256) (hf : 0 ≤ f0 ∧ f0 ≤ 101000) (hq : Q (z_b (g_free σ s f0 = true)) M) : am_bi sL xs d 11 [.ref 14, .int (z_I s), .int (z_I f0)] M Q := by
  obtain ⟨d, rfl⟩ : ∃ e, d = e + 1 := ⟨d - 1, by omega⟩
  have hn := sb_nb hX.1
  have hnr := sb_nrb hX.1
  have hl : ∀ (k : Nat) (i : Int), (0 ≤ i ∧ i + k = s_n σ) → (Q (z_b (f_all (g_fr σ s f0) i k = true)) M) → am_rw sL xs d am_pX1_isFree 2 2 [.ref 14, .int (z_I s), .int (z_I f0), .int (z_I i)] [] M (am_pi Q) := by
    intro k
    induction k with
    | zero =>
      intro i hk hq
      have hbt := s_bit01 s i
      refine am_r_iload3 (pc' := 3) rfl rfl ?_
      refine am_r_aload0 (pc' := 4) rfl rfl ?_
      refine am_r_getR (t := 1) (pc' := 7) rfl rfl rfl ?_
      refine am_r_getIv (f := 5) (pc' := 10) rfl rfl rfl (sx_n hX) ?_
      refine am_r_icmp_ge (pt := 39) (pf := 13) rfl rfl rfl (fun h10 => ?_) (fun h10 => ?_)
      · refine am_r_iconst (pc' := 40) rfl rfl ?_
        refine am_r_zret rfl rfl (by first | exact Or.inr rfl | exact Or.inl rfl | exact z_b_01 _ | assumption) ?_
        rw [show f_all (g_fr σ s f0) i 0 = true from rfl, z_bT rfl] at hq; exact hq
      · exfalso; omega
    | succ k ih =>
      intro i hk hq
      have hbt := s_bit01 s i
      refine am_r_iload3 (pc' := 3) rfl rfl ?_
      refine am_r_aload0 (pc' := 4) rfl rfl ?_
      refine am_r_getR (t := 1) (pc' := 7) rfl rfl rfl ?_
      refine am_r_getIv (f := 5) (pc' := 10) rfl rfl rfl (sx_n hX) ?_
      refine am_r_icmp_ge (pt := 39) (pf := 13) rfl rfl rfl (fun h10 => ?_) (fun h10 => ?_)
      · exfalso; omega
      · refine am_r_iload1 (pc' := 14) rfl rfl ?_
        refine am_r_iload3 (pc' := 15) rfl rfl ?_
        refine am_r_ishr (pc' := 16) rfl rfl ?_
        refine am_r_iconst (pc' := 17) rfl rfl ?_
        refine am_r_iandR (pc' := 18) rfl rfl ?_
        rw [z_bit (by omega) (by omega)]
        refine am_r_iconst (pc' := 19) rfl rfl ?_
        refine am_r_icmp_ne (pt := 33) (pf := 22) rfl rfl rfl (fun h19 => ?_) (fun h19 => ?_)
        · refine am_r_iinc3 (pc' := 36) rfl rfl rfl ?_
          refine am_r_goto (pc' := 2) rfl rfl ?_
          first | exact ih _ (by omega) (by rw [f_all_t (p := g_fr σ s f0) (by unfold g_fr; rw [decide_eq_true_eq]; omega)] at hq; exact hq)
        · refine am_r_aload0 (pc' := 23) rfl rfl ?_
          refine am_r_iload3 (pc' := 24) rfl rfl ?_
          refine am_r_iload2 (pc' := 25) rfl rfl ?_
          refine am_r_invI2 (pc' := 28) rfl rfl rfl (Nat.le_of_ble_eq_true rfl) (c_metOn (by omega) hX (by omega) (by omega) ?_)
          have hmb := g_met_b hX.1 i f0
          have hp8 := z_pow8 hn
          refine am_r_if_eq (pt := 33) (pf := 31) rfl rfl rfl (fun h28 => ?_) (fun h28 => ?_)
          · refine am_r_iinc3 (pc' := 36) rfl rfl rfl ?_
            refine am_r_goto (pc' := 2) rfl rfl ?_
            first | exact ih _ (by omega) (by rw [f_all_t (p := g_fr σ s f0) (by unfold g_fr; rw [decide_eq_true_eq]; omega)] at hq; exact hq)
          · refine am_r_iconst (pc' := 32) rfl rfl ?_
            refine am_r_zret rfl rfl (by first | exact Or.inr rfl | exact Or.inl rfl | exact z_b_01 _ | assumption) ?_
            first | (rw [f_all_f (p := g_fr σ s f0) (by unfold g_fr; rw [decide_eq_true_eq]; omega), z_bF (by decide)] at hq; exact hq)
  refine am_bi_of (P := am_pX1_isFree) (rt := 2) (nL := 4) (Nat.le_of_ble_eq_true rfl) rfl (Nat.le_of_ble_eq_true rfl) rfl rfl rfl ?_
  refine am_r_iconst (pc' := 1) rfl rfl ?_
  refine am_r_istore3 (pc' := 2) rfl rfl rfl ?_
  exact hl (s_n σ).toNat 0 (by omega) hq
theorem c_freeDaysIn {sL : Nat} {xs : Nat → Int32} {d : Nat} {M : Am_M} {Q : Int32 → Am_M → Prop} (hd : 7 ≤ d) {σ : Sg} (hX : SX M σ) {s f0 : Int} (hs : 0 ≤ s ∧ s < 256) (hf : 0 ≤ f0 ∧ f0 ≤ 100000) {n : Int} (hnn : 0 ≤ n ∧ n ≤ 999) (hq : Q (z_I (f_cnt (g_free σ s) f0 n.toNat)) M) : am_bi sL xs d 13 [.ref 14, .int (z_I s), .int (z_I f0), .int (z_I n)] M Q := by
  obtain ⟨d, rfl⟩ : ∃ e, d = e + 1 := ⟨d - 1, by omega⟩
  have hn := sb_nb hX.1
  have hnr := sb_nrb hX.1
  have hl : ∀ (k : Nat) (i c : Int), (f0 ≤ i ∧ i + k = f0 + n) → (Q (z_I (c + f_cnt (g_free σ s) i k)) M) → am_rw sL xs d am_pX1_freeDaysIn 1 6 [.ref 14, .int (z_I s), .int (z_I f0), .int (z_I n), .int (z_I c), .int (z_I i)] [] M (am_pi Q) := by
    intro k
    induction k with
    | zero =>
      intro i c hk hq
      refine am_r_iload5 (pc' := 8) rfl rfl ?_
      refine am_r_iload2 (pc' := 9) rfl rfl ?_
      refine am_r_iload3 (pc' := 10) rfl rfl ?_
      refine am_r_iadd (pc' := 11) rfl rfl ?_
      refine am_r_icmp_ge (pt := 33) (pf := 14) rfl rfl rfl (fun h11 => ?_) (fun h11 => ?_)
      · refine am_r_iload4 (pc' := 35) rfl rfl ?_
        refine am_r_iret rfl rfl ?_
        rw [f_cnt_0] at hq; exact hq
      · exfalso; omega
    | succ k ih =>
      intro i c hk hq
      refine am_r_iload5 (pc' := 8) rfl rfl ?_
      refine am_r_iload2 (pc' := 9) rfl rfl ?_
      refine am_r_iload3 (pc' := 10) rfl rfl ?_
      refine am_r_iadd (pc' := 11) rfl rfl ?_
      refine am_r_icmp_ge (pt := 33) (pf := 14) rfl rfl rfl (fun h11 => ?_) (fun h11 => ?_)
      · exfalso; omega
      · refine am_r_aload0 (pc' := 15) rfl rfl ?_
        refine am_r_iload1 (pc' := 16) rfl rfl ?_
        refine am_r_iload5 (pc' := 18) rfl rfl ?_
        refine am_r_invI2 (pc' := 21) rfl rfl rfl (Nat.le_of_ble_eq_true rfl) (c_isFree (by omega) hX (by omega) (by omega) ?_)
        refine am_r_if_eqB (pt := 27) (pf := 24) rfl rfl rfl (fun h21 => ?_) (fun h21 => ?_)
        · refine am_r_iinc5 (pc' := 30) rfl rfl rfl ?_
          refine am_r_goto (pc' := 6) rfl rfl ?_
          first | (rw [f_cnt_t (p := g_free σ s) h21] at hq; exact ih _ _ (by omega) hq) | (rw [f_cnt_f (p := g_free σ s) h21] at hq; exact ih _ _ (by omega) hq)
        · refine am_r_iinc4 (pc' := 27) rfl rfl rfl ?_
          refine am_r_iinc5 (pc' := 30) rfl rfl rfl ?_
          refine am_r_goto (pc' := 6) rfl rfl ?_
          first | (rw [f_cnt_t (p := g_free σ s) h21] at hq; exact ih _ _ (by omega) hq) | (rw [f_cnt_f (p := g_free σ s) h21] at hq; exact ih _ _ (by omega) hq)
  refine am_bi_of (P := am_pX1_freeDaysIn) (rt := 1) (nL := 6) (Nat.le_of_ble_eq_true rfl) rfl (Nat.le_of_ble_eq_true rfl) rfl rfl rfl ?_
  refine am_r_iconst (pc' := 1) rfl rfl ?_
  refine am_r_istore4 (pc' := 3) rfl rfl rfl ?_
  refine am_r_iload2 (pc' := 4) rfl rfl ?_
  refine am_r_istore5 (pc' := 6) rfl rfl rfl ?_
  exact hl n.toNat f0 0 (by omega) (by rw [Int.zero_add]; exact hq)
theorem c_leastCommon {sL : Nat} {xs : Nat → Int32} {d : Nat} {M : Am_M} {Q : Int64 → Am_M → Prop} (hd : 1 ≤ d) {a b : Int} (ha : 1 ≤ a ∧ a ≤ 2799360000000) (hb : 1 ≤ b ∧ b ≤ 60) (hq : Q (z_L (g_lcm a b)) M) : am_bl sL xs d 7 [.long (z_L a), .long (z_L b)] M Q := by
  obtain ⟨d, rfl⟩ : ∃ e, d = e + 1 := ⟨d - 1, by omega⟩
  have hl := g_lcm_b (a := a) (b := b) ha.1 hb
  have hend : ∀ (x i : Int) (y : Int) (w9 w10 : Value), x = f_eu 100 a b → am_rw sL xs d am_pX1_leastCommon 3 45 [.long (z_L a), .null, .long (z_L b), .null, .long (z_L x), .null, .long (z_L y), .null, .int (z_I i), w9, w10] [] M (am_pl Q) := by
    intro x i y w9 w10 hx
    rw [hx]
    refine am_r_lload4 (pc' := 47) rfl rfl ?_
    refine am_r_lconst (z := 0) (pc' := 48) rfl rfl rfl ?_
    refine am_r_lcmp (pc' := 49) rfl rfl ?_
    refine am_r_lif_ne (pt := 56) (pf := 52) rfl rfl rfl (fun h49 => ?_) (fun h49 => ?_)
    · refine am_r_lload0 (pc' := 57) rfl rfl ?_
      refine am_r_lload4 (pc' := 59) rfl rfl ?_
      refine am_r_ldiv (pc' := 60) rfl rfl ?_
      refine am_r_lload2 (pc' := 61) rfl rfl ?_
      refine am_r_lmul (pc' := 62) rfl rfl ?_
      refine am_r_lret rfl rfl ?_
      exact hq
    · exfalso; omega
  have hlp : ∀ (k : Nat) (i x y : Int) (w9 w10 : Value), (0 ≤ i ∧ i + k = 200 ∧ 0 ≤ y ∧ 1 ≤ x ∧ x ≤ 2799360000000 ∧ y ≤ 60 ∧ y + i < 200 ∧ f_eu k x y = f_eu 100 a b) → am_rw sL xs d am_pX1_leastCommon 3 9 [.long (z_L a), .null, .long (z_L b), .null, .long (z_L x), .null, .long (z_L y), .null, .int (z_I i), w9, w10] [] M (am_pl Q) := by
    intro k
    induction k with
    | zero => intro i x y w9 w10 hk; omega
    | succ k ih =>
      intro i x y w9 w10 hk
      have hm1 : y ≠ 0 → 0 ≤ x % y ∧ x % y < y := fun q => ⟨Int.emod_nonneg x q, Int.emod_lt_of_pos x (by omega)⟩
      refine am_r_iload8 (pc' := 11) rfl rfl ?_
      refine am_r_iconst (pc' := 14) rfl rfl ?_
      refine am_r_icmp_ge (pt := 45) (pf := 17) rfl rfl rfl (fun h14 => ?_) (fun h14 => ?_)
      · first | (exfalso; omega) | exact hend _ _ _ _ _ (by have e := hk.2.2.2.2.2.2.2; rw [show f_eu (k + 1) x y = x from if_pos (by omega)] at e; exact e)
      · refine am_r_lload6 (pc' := 19) rfl rfl ?_
        refine am_r_lconst (z := 0) (pc' := 20) rfl rfl rfl ?_
        refine am_r_lcmp (pc' := 21) rfl rfl ?_
        refine am_r_lif_eq (pt := 45) (pf := 24) rfl rfl rfl (fun h21 => ?_) (fun h21 => ?_)
        · first | (exfalso; omega) | exact hend _ _ _ _ _ (by have e := hk.2.2.2.2.2.2.2; rw [show f_eu (k + 1) x y = x from if_pos (by omega)] at e; exact e)
        · have hm1 := hm1 (by omega)
          refine am_r_lload4 (pc' := 26) rfl rfl ?_
          refine am_r_lload6 (pc' := 28) rfl rfl ?_
          refine am_r_lrem (pc' := 29) rfl rfl ?_
          refine am_r_lstore9 (pc' := 31) rfl rfl rfl ?_
          refine am_r_lload6 (pc' := 33) rfl rfl ?_
          refine am_r_lstore4 (pc' := 35) rfl rfl rfl ?_
          refine am_r_lload9 (pc' := 37) rfl rfl ?_
          refine am_r_lstore6 (pc' := 39) rfl rfl rfl ?_
          refine am_r_iinc8 (pc' := 42) rfl rfl rfl ?_
          refine am_r_goto (pc' := 9) rfl rfl ?_
          exact ih _ _ _ _ _ (by have e := hk.2.2.2.2.2.2.2; rw [show f_eu (k + 1) x y = f_eu k y (x % y) from if_neg (by omega)] at e; omega)
  refine am_bl_of (P := am_pX1_leastCommon) (rt := 3) (nL := 11) (Nat.le_of_ble_eq_true rfl) rfl (Nat.le_of_ble_eq_true rfl) rfl rfl rfl ?_
  refine am_r_lload0 (pc' := 1) rfl rfl ?_
  refine am_r_lstore4 (pc' := 3) rfl rfl rfl ?_
  refine am_r_lload2 (pc' := 4) rfl rfl ?_
  refine am_r_lstore6 (pc' := 6) rfl rfl rfl ?_
  refine am_r_iconst (pc' := 7) rfl rfl ?_
  refine am_r_istore8 (pc' := 9) rfl rfl rfl ?_
  exact hlp 200 _ _ _ _ _ (by refine ⟨by omega, by omega, by omega, by omega, by omega, by omega, by omega, ?_⟩; exact f_eu_more 100 200 a b (by omega) (by omega) (by omega))
theorem c_togetherAgain {sL : Nat} {xs : Nat → Int32} {d : Nat} {M : Am_M} {Q : Int64 → Am_M → Prop} (hd : 2 ≤ d) {σ : Sg} (hX : SX M σ) {s : Int} (hs : 0 ≤ s ∧ s < 256) (hq : Q (z_L (g_tog σ s)) M) : am_bl sL xs d 4 [.ref 14, .int (z_I s)] M Q := by
  obtain ⟨d, rfl⟩ : ∃ e, d = e + 1 := ⟨d - 1, by omega⟩
  have hn := sb_nb hX.1
  have hnr := sb_nrb hX.1
  have hl : ∀ (k : Nat) (i c : Int), (0 ≤ i ∧ i + k = s_n σ ∧ 1 ≤ c ∧ c ≤ 60 ^ i.toNat) → (Q (z_L (g_tg σ s c i k)) M) → am_rw sL xs d am_pX1_togetherAgain 3 5 [.ref 14, .int (z_I s), .long (z_L c), .null, .int (z_I i)] [] M (am_pl Q) := by
    intro k
    induction k with
    | zero =>
      intro i c hk hq
      have hbt := s_bit01 s i
      have hps := p60_s hk.1
      refine am_r_iload4 (pc' := 7) rfl rfl ?_
      refine am_r_aload0 (pc' := 8) rfl rfl ?_
      refine am_r_getR (t := 1) (pc' := 11) rfl rfl rfl ?_
      refine am_r_getIv (f := 5) (pc' := 14) rfl rfl rfl (sx_n hX) ?_
      refine am_r_icmp_ge (pt := 49) (pf := 17) rfl rfl rfl (fun h14 => ?_) (fun h14 => ?_)
      · refine am_r_lload2 (pc' := 50) rfl rfl ?_
        refine am_r_lret rfl rfl ?_
        exact hq
      · exfalso; omega
    | succ k ih =>
      intro i c hk hq
      have hbt := s_bit01 s i
      have hps := p60_s hk.1
      refine am_r_iload4 (pc' := 7) rfl rfl ?_
      refine am_r_aload0 (pc' := 8) rfl rfl ?_
      refine am_r_getR (t := 1) (pc' := 11) rfl rfl rfl ?_
      refine am_r_getIv (f := 5) (pc' := 14) rfl rfl rfl (sx_n hX) ?_
      refine am_r_icmp_ge (pt := 49) (pf := 17) rfl rfl rfl (fun h14 => ?_) (fun h14 => ?_)
      · exfalso; omega
      · refine am_r_iload1 (pc' := 18) rfl rfl ?_
        refine am_r_iload4 (pc' := 20) rfl rfl ?_
        refine am_r_ishr (pc' := 21) rfl rfl ?_
        refine am_r_iconst (pc' := 22) rfl rfl ?_
        refine am_r_iandR (pc' := 23) rfl rfl ?_
        rw [z_bit (by omega) (by omega)]
        refine am_r_iconst (pc' := 24) rfl rfl ?_
        refine am_r_icmp_ne (pt := 43) (pf := 27) rfl rfl rfl (fun h24 => ?_) (fun h24 => ?_)
        · refine am_r_iinc4 (pc' := 46) rfl rfl rfl ?_
          refine am_r_goto (pc' := 5) rfl rfl ?_
          first | exact ih _ _ (by omega) (by rw [show g_tg σ s c i (k + 1) = g_tg σ s (g_lcm c (s_rd σ i)) (i + 1) k by (rw [g_tg, if_pos (by omega)])] at hq; exact hq) | exact ih _ _ (by omega) (by rw [show g_tg σ s c i (k + 1) = g_tg σ s c (i + 1) k by (rw [g_tg, if_neg (by omega)])] at hq; exact hq)
        · have hbb := sg_b hX.1 (a := i) (by omega)
          have h8 := p60 (i := i + 1) (by omega)
          have hlb := g_lcm_b (a := c) (b := s_rd σ i) (by omega) (by omega)
          refine am_r_lload2 (pc' := 28) rfl rfl ?_
          refine am_r_aload0 (pc' := 29) rfl rfl ?_
          refine am_r_getR (t := 1) (pc' := 32) rfl rfl rfl ?_
          refine am_r_getR (t := 2) (pc' := 35) rfl rfl rfl ?_
          refine am_r_iload4 (pc' := 37) rfl rfl ?_
          refine am_r_iaZv (n := 8) (pc' := 38) rfl rfl rfl (by decide) (sx_rd hX (by omega)) ?_
          refine am_r_i2l (pc' := 39) rfl rfl ?_
          refine am_r_ivsL2 (pc' := 42) rfl rfl rfl (Nat.le_of_ble_eq_true rfl) (c_leastCommon (by omega) (by omega) (by omega) ?_)
          refine am_r_lstore2 (pc' := 43) rfl rfl rfl ?_
          refine am_r_iinc4 (pc' := 46) rfl rfl rfl ?_
          refine am_r_goto (pc' := 5) rfl rfl ?_
          first | exact ih _ _ (by omega) (by rw [show g_tg σ s c i (k + 1) = g_tg σ s (g_lcm c (s_rd σ i)) (i + 1) k by (rw [g_tg, if_pos (by omega)])] at hq; exact hq) | exact ih _ _ (by omega) (by rw [show g_tg σ s c i (k + 1) = g_tg σ s c (i + 1) k by (rw [g_tg, if_neg (by omega)])] at hq; exact hq)
  refine am_bl_of (P := am_pX1_togetherAgain) (rt := 3) (nL := 5) (Nat.le_of_ble_eq_true rfl) rfl (Nat.le_of_ble_eq_true rfl) rfl rfl rfl ?_
  refine am_r_lconst (z := 1) (pc' := 1) rfl rfl rfl ?_
  refine am_r_lstore2 (pc' := 2) rfl rfl rfl ?_
  refine am_r_iconst (pc' := 3) rfl rfl ?_
  refine am_r_istore4 (pc' := 5) rfl rfl rfl ?_
  exact hl (s_n σ).toNat 0 1 (by refine ⟨by omega, by omega, by omega, ?_⟩; decide) hq
theorem c_firstFreeDay {sL : Nat} {xs : Nat → Int32} {d : Nat} {M : Am_M} {Q : Int32 → Am_M → Prop} (hd : 7 ≤ d) {σ : Sg} (hX : SX M σ) {s f0 : Int} (hs : 0 ≤ s ∧ s < 256) (hf : 0 ≤ f0 ∧ f0 ≤ 99999) (hq : Q (z_I (f_first (g_free σ s) f0 (min 99999 (f0 + g_tog σ (2 ^ (s_n σ).toNat - 1)) - f0 + 1).toNat)) M) : am_bi sL xs d 12 [.ref 14, .int (z_I s), .int (z_I f0)] M Q := by
  obtain ⟨d, rfl⟩ : ∃ e, d = e + 1 := ⟨d - 1, by omega⟩
  have hn := sb_nb hX.1
  have hnr := sb_nrb hX.1
  have hp8 := z_pow8 hn
  have htb := g_tog_b hX.1 (2 ^ (s_n σ).toNat - 1)
  have hl : ∀ (k : Nat) (i l : Int), (0 ≤ i ∧ i + k = l + 1 ∧ l ≤ 99999) → (Q (z_I (f_first (g_free σ s) i k)) M) → am_rw sL xs d am_pX1_firstFreeDay 1 28 [.ref 14, .int (z_I s), .int (z_I f0), .long (z_L l), .null, .int (z_I i)] [] M (am_pi Q) := by
    intro k
    induction k with
    | zero =>
      intro i l hk hq
      refine am_r_iload5 (pc' := 30) rfl rfl ?_
      refine am_r_i2l (pc' := 31) rfl rfl ?_
      refine am_r_lload3 (pc' := 32) rfl rfl ?_
      refine am_r_lcmp (pc' := 33) rfl rfl ?_
      refine am_r_lif_gt (pt := 55) (pf := 36) rfl rfl rfl (fun h33 => ?_) (fun h33 => ?_)
      · refine am_r_iconst (pc' := 57) rfl rfl ?_
        refine am_r_iret rfl rfl ?_
        exact hq
      · exfalso; omega
    | succ k ih =>
      intro i l hk hq
      refine am_r_iload5 (pc' := 30) rfl rfl ?_
      refine am_r_i2l (pc' := 31) rfl rfl ?_
      refine am_r_lload3 (pc' := 32) rfl rfl ?_
      refine am_r_lcmp (pc' := 33) rfl rfl ?_
      refine am_r_lif_gt (pt := 55) (pf := 36) rfl rfl rfl (fun h33 => ?_) (fun h33 => ?_)
      · exfalso; omega
      · refine am_r_aload0 (pc' := 37) rfl rfl ?_
        refine am_r_iload1 (pc' := 38) rfl rfl ?_
        refine am_r_iload5 (pc' := 40) rfl rfl ?_
        refine am_r_invI2 (pc' := 43) rfl rfl rfl (Nat.le_of_ble_eq_true rfl) (c_isFree (by omega) hX (by omega) (by omega) ?_)
        refine am_r_if_eqB (pt := 49) (pf := 46) rfl rfl rfl (fun h43 => ?_) (fun h43 => ?_)
        · refine am_r_iinc5 (pc' := 52) rfl rfl rfl ?_
          refine am_r_goto (pc' := 28) rfl rfl ?_
          rw [f_first_f (p := g_free σ s) h43] at hq; exact ih _ _ (by omega) hq
        · refine am_r_iload5 (pc' := 48) rfl rfl ?_
          refine am_r_iret rfl rfl ?_
          rw [f_first_t (p := g_free σ s) h43] at hq; exact hq
  refine am_bi_of (P := am_pX1_firstFreeDay) (rt := 1) (nL := 6) (Nat.le_of_ble_eq_true rfl) rfl (Nat.le_of_ble_eq_true rfl) rfl rfl rfl ?_
  refine am_r_lconst (z := 99999) (pc' := 3) rfl rfl rfl ?_
  refine am_r_iload2 (pc' := 4) rfl rfl ?_
  refine am_r_i2l (pc' := 5) rfl rfl ?_
  refine am_r_aload0 (pc' := 6) rfl rfl ?_
  refine am_r_iconst (pc' := 7) rfl rfl ?_
  refine am_r_aload0 (pc' := 8) rfl rfl ?_
  refine am_r_getR (t := 1) (pc' := 11) rfl rfl rfl ?_
  refine am_r_getIv (f := 5) (pc' := 14) rfl rfl rfl (sx_n hX) ?_
  refine am_r_ishl (pc' := 15) rfl rfl ?_
  rw [z_shl1 (by omega)]
  refine am_r_iconst (pc' := 16) rfl rfl ?_
  refine am_r_isub (pc' := 17) rfl rfl ?_
  refine am_r_invL1 (pc' := 20) rfl rfl rfl (Nat.le_of_ble_eq_true rfl) (c_togetherAgain (by omega) hX (by omega) ?_)
  refine am_r_ladd (pc' := 21) rfl rfl ?_
  refine am_r_minL (pc' := 24) rfl rfl (Nat.le_of_ble_eq_true rfl) ?_
  refine am_r_lstore3 (pc' := 25) rfl rfl rfl ?_
  refine am_r_iload2 (pc' := 26) rfl rfl ?_
  refine am_r_istore5 (pc' := 28) rfl rfl rfl ?_
  exact hl _ _ _ (by omega) hq
theorem c_nextAtStart {sL : Nat} {xs : Nat → Int32} {d : Nat} {M : Am_M} {Q : Int64 → Am_M → Prop} (hd : 1 ≤ d) {σ : Sg} (hX : SX M σ) {a f0 e : Int} (ha : 0 ≤ a ∧ a < s_n σ) (hf : 0 ≤ f0 ∧ f0 ≤ 167961600000000) (he : 1 ≤ e ∧ e ≤ 2799360000000) (hq : Q (z_L (g_nx σ a e f0 (s_rd σ a).toNat)) M) : am_bl sL xs d 6 [.ref 14, .int (z_I a), .long (z_L f0), .long (z_L e)] M Q := by
  obtain ⟨d, rfl⟩ : ∃ e, d = e + 1 := ⟨d - 1, by omega⟩
  have hn := sb_nb hX.1
  have hnr := sb_nrb hX.1
  have hb := sg_b hX.1 ha
  have hee : e * ((s_rd σ a).toNat : Int) ≤ 2799360000000 * 60 := Int.mul_le_mul (by omega) (by omega) (by omega) (by omega)
  have hl : ∀ (k : Nat) (i g : Int), (0 ≤ i ∧ i + k = s_rd σ a ∧ 0 ≤ g ∧ g + e * k ≤ 1000000000000000) → (Q (z_L (g_nx σ a e g k)) M) → am_rw sL xs d am_pX1_nextAtStart 3 6 [.ref 14, .int (z_I a), .long (z_L f0), .null, .long (z_L e), .null, .long (z_L g), .null, .int (z_I i)] [] M (am_pl Q) := by
    intro k
    induction k with
    | zero =>
      intro i g hk hq
      have hek1 : e * ((0 : Nat) : Int) = 0 := (by simp)
      refine am_r_iload8 (pc' := 8) rfl rfl ?_
      refine am_r_aload0 (pc' := 9) rfl rfl ?_
      refine am_r_getR (t := 1) (pc' := 12) rfl rfl rfl ?_
      refine am_r_getR (t := 2) (pc' := 15) rfl rfl rfl ?_
      refine am_r_iload1 (pc' := 16) rfl rfl ?_
      refine am_r_iaZv (n := 8) (pc' := 17) rfl rfl rfl (by decide) (sx_rd hX (by omega)) ?_
      refine am_r_icmp_ge (pt := 65) (pf := 20) rfl rfl rfl (fun h17 => ?_) (fun h17 => ?_)
      · refine am_r_lconst (z := (-1)) (pc' := 68) rfl rfl rfl ?_
        refine am_r_lret rfl rfl ?_
        exact hq
      · exfalso; omega
    | succ k ih =>
      intro i g hk hq
      have hek : 0 ≤ e * (k : Int) := Int.mul_nonneg (by omega) (by omega)
      have hek1 : e * ((k + 1 : Nat) : Int) = e * k + e := (by rw [show ((k + 1 : Nat) : Int) = (k : Int) + 1 by omega, Int.mul_add, Int.mul_one])
      refine am_r_iload8 (pc' := 8) rfl rfl ?_
      refine am_r_aload0 (pc' := 9) rfl rfl ?_
      refine am_r_getR (t := 1) (pc' := 12) rfl rfl rfl ?_
      refine am_r_getR (t := 2) (pc' := 15) rfl rfl rfl ?_
      refine am_r_iload1 (pc' := 16) rfl rfl ?_
      refine am_r_iaZv (n := 8) (pc' := 17) rfl rfl rfl (by decide) (sx_rd hX (by omega)) ?_
      refine am_r_icmp_ge (pt := 65) (pf := 20) rfl rfl rfl (fun h17 => ?_) (fun h17 => ?_)
      · exfalso; omega
      · refine am_r_aload0 (pc' := 21) rfl rfl ?_
        refine am_r_getR (t := 1) (pc' := 24) rfl rfl rfl ?_
        refine am_r_getR (t := 3) (pc' := 27) rfl rfl rfl ?_
        refine am_r_iload1 (pc' := 28) rfl rfl ?_
        refine am_r_iaZv (n := 8) (pc' := 29) rfl rfl rfl (by decide) (sx_pl hX (by omega)) ?_
        refine am_r_i2l (pc' := 30) rfl rfl ?_
        refine am_r_lload6 (pc' := 32) rfl rfl ?_
        refine am_r_ladd (pc' := 33) rfl rfl ?_
        refine am_r_aload0 (pc' := 34) rfl rfl ?_
        refine am_r_getR (t := 1) (pc' := 37) rfl rfl rfl ?_
        refine am_r_getR (t := 2) (pc' := 40) rfl rfl rfl ?_
        refine am_r_iload1 (pc' := 41) rfl rfl ?_
        refine am_r_iaZv (n := 8) (pc' := 42) rfl rfl rfl (by decide) (sx_rd hX (by omega)) ?_
        refine am_r_i2l (pc' := 43) rfl rfl ?_
        refine am_r_lrem (pc' := 44) rfl rfl ?_
        have hmm1 := Int.emod_nonneg (s_pl σ a + g) (show s_rd σ a ≠ 0 by omega)
        have hmm2 := Int.emod_lt_of_pos (s_pl σ a + g) (show 0 < s_rd σ a by omega)
        refine am_r_lconst (z := 0) (pc' := 45) rfl rfl rfl ?_
        refine am_r_lcmp (pc' := 46) rfl rfl ?_
        refine am_r_lif_ne (pt := 52) (pf := 49) rfl rfl rfl (fun h46 => ?_) (fun h46 => ?_)
        · refine am_r_lload6 (pc' := 54) rfl rfl ?_
          refine am_r_lload4 (pc' := 56) rfl rfl ?_
          refine am_r_ladd (pc' := 57) rfl rfl ?_
          refine am_r_lstore6 (pc' := 59) rfl rfl rfl ?_
          refine am_r_iinc8 (pc' := 62) rfl rfl rfl ?_
          refine am_r_goto (pc' := 6) rfl rfl ?_
          exact ih _ _ (by omega) (by rw [show g_nx σ a e g (k + 1) = g_nx σ a e (g + e) k by (rw [g_nx, if_neg (by omega)])] at hq; exact hq)
        · refine am_r_lload6 (pc' := 51) rfl rfl ?_
          refine am_r_lret rfl rfl ?_
          rw [show g_nx σ a e g (k + 1) = g by (rw [g_nx, if_pos (by omega)])] at hq; exact hq
  refine am_bl_of (P := am_pX1_nextAtStart) (rt := 3) (nL := 9) (Nat.le_of_ble_eq_true rfl) rfl (Nat.le_of_ble_eq_true rfl) rfl rfl rfl ?_
  refine am_r_lload2 (pc' := 1) rfl rfl ?_
  refine am_r_lstore6 (pc' := 3) rfl rfl rfl ?_
  refine am_r_iconst (pc' := 4) rfl rfl ?_
  refine am_r_istore8 (pc' := 6) rfl rfl rfl ?_
  exact hl (s_rd σ a).toNat _ _ (by omega) hq
theorem g_nx_ub {σ : Sg} (h : SB σ) {a e d : Int} (ha : 0 ≤ a ∧ a < s_n σ) (he : 1 ≤ e) (hd : 0 ≤ d ∧ d ≤ e) : -1 ≤ g_nx σ a e d (s_rd σ a).toNat ∧ g_nx σ a e d (s_rd σ a).toNat ≤ 60 * e := by
  have hb := sg_b h ha
  have h1 := g_nx_b σ a e (by omega) (s_rd σ a).toNat d hd.1
  refine ⟨h1.1, ?_⟩
  rcases h1.2 with q | q
  · omega
  · have h2 : e * (((s_rd σ a).toNat : Int) - 1) ≤ e * 59 := Int.mul_le_mul_of_nonneg_left (by omega) (by omega)
    omega
theorem c_allAtStart {sL : Nat} {xs : Nat → Int32} {d : Nat} {M : Am_M} {Q : Int64 → Am_M → Prop} (hd : 2 ≤ d) {σ : Sg} (hX : SX M σ) {s : Int} (hs : 0 ≤ s ∧ s < 256) (hq : Q (z_L (g_start σ s)) M) : am_bl sL xs d 5 [.ref 14, .int (z_I s)] M Q := by
  obtain ⟨d, rfl⟩ : ∃ e, d = e + 1 := ⟨d - 1, by omega⟩
  have hn := sb_nb hX.1
  have hnr := sb_nrb hX.1
  have hl : ∀ (k : Nat) (i c e : Int), (0 ≤ i ∧ i + k = s_n σ ∧ 0 ≤ c ∧ c ≤ 60 ^ i.toNat ∧ 1 ≤ e ∧ e ≤ 60 ^ i.toNat) → (Q (z_L (g_st σ s c e i k)) M) → am_rw sL xs d am_pX1_allAtStart 3 8 [.ref 14, .int (z_I s), .long (z_L c), .null, .long (z_L e), .null, .int (z_I i)] [] M (am_pl Q) := by
    intro k
    induction k with
    | zero =>
      intro i c e hk hq
      have hbt := s_bit01 s i
      have hps := p60_s hk.1
      have h88 := p60 (i := i) (by omega)
      refine am_r_iload6 (pc' := 10) rfl rfl ?_
      refine am_r_aload0 (pc' := 11) rfl rfl ?_
      refine am_r_getR (t := 1) (pc' := 14) rfl rfl rfl ?_
      refine am_r_getIv (f := 5) (pc' := 17) rfl rfl rfl (sx_n hX) ?_
      refine am_r_icmp_ge (pt := 74) (pf := 20) rfl rfl rfl (fun h17 => ?_) (fun h17 => ?_)
      · refine am_r_lload2 (pc' := 75) rfl rfl ?_
        refine am_r_lret rfl rfl ?_
        exact hq
      · exfalso; omega
    | succ k ih =>
      intro i c e hk hq
      have hbt := s_bit01 s i
      have hps := p60_s hk.1
      have h88 := p60 (i := i) (by omega)
      refine am_r_iload6 (pc' := 10) rfl rfl ?_
      refine am_r_aload0 (pc' := 11) rfl rfl ?_
      refine am_r_getR (t := 1) (pc' := 14) rfl rfl rfl ?_
      refine am_r_getIv (f := 5) (pc' := 17) rfl rfl rfl (sx_n hX) ?_
      refine am_r_icmp_ge (pt := 74) (pf := 20) rfl rfl rfl (fun h17 => ?_) (fun h17 => ?_)
      · exfalso; omega
      · refine am_r_iload1 (pc' := 21) rfl rfl ?_
        refine am_r_iload6 (pc' := 23) rfl rfl ?_
        refine am_r_ishr (pc' := 24) rfl rfl ?_
        refine am_r_iconst (pc' := 25) rfl rfl ?_
        refine am_r_iandR (pc' := 26) rfl rfl ?_
        rw [z_bit (by omega) (by omega)]
        refine am_r_iconst (pc' := 27) rfl rfl ?_
        refine am_r_icmp_ne (pt := 68) (pf := 30) rfl rfl rfl (fun h27 => ?_) (fun h27 => ?_)
        · refine am_r_iinc6 (pc' := 71) rfl rfl rfl ?_
          refine am_r_goto (pc' := 8) rfl rfl ?_
          first | exact ih _ _ _ (by omega) (by rw [show g_st σ s c e i (k + 1) = g_st σ s (g_nx σ i e c (s_rd σ i).toNat) (g_lcm e (s_rd σ i)) (i + 1) k by (rw [g_st, if_pos (by omega), if_neg (by omega)])] at hq; exact hq) | exact ih _ _ _ (by omega) (by rw [show g_st σ s c e i (k + 1) = g_st σ s c e (i + 1) k by (rw [g_st, if_neg (by omega)])] at hq; exact hq)
        · have hbb := sg_b hX.1 (a := i) (by omega)
          have h8 := p60 (i := i + 1) (by omega)
          have hlb := g_lcm_b (a := e) (b := s_rd σ i) (by omega) (by omega)
          have hnb2 := g_nx_b σ i e (by omega) (s_rd σ i).toNat c (by omega)
          have hnx : g_nx σ i e c (s_rd σ i).toNat ≤ 60 * 60 ^ i.toNat := (by have q1 : e * (((s_rd σ i).toNat : Int) - 1) ≤ 60 ^ i.toNat * 59 := Int.mul_le_mul (by omega) (by omega) (by omega) (by omega); omega)
          refine am_r_aload0 (pc' := 31) rfl rfl ?_
          refine am_r_iload6 (pc' := 33) rfl rfl ?_
          refine am_r_lload2 (pc' := 34) rfl rfl ?_
          refine am_r_lload4 (pc' := 36) rfl rfl ?_
          refine am_r_invL3 (pc' := 39) rfl rfl rfl (Nat.le_of_ble_eq_true rfl) (c_nextAtStart (by omega) hX (by omega) (by omega) (by omega) ?_)
          refine am_r_lstore2 (pc' := 40) rfl rfl rfl ?_
          refine am_r_lload2 (pc' := 41) rfl rfl ?_
          refine am_r_lconst (z := 0) (pc' := 42) rfl rfl rfl ?_
          refine am_r_lcmp (pc' := 43) rfl rfl ?_
          refine am_r_lif_ge (pt := 50) (pf := 46) rfl rfl rfl (fun h43 => ?_) (fun h43 => ?_)
          · refine am_r_lload4 (pc' := 52) rfl rfl ?_
            refine am_r_aload0 (pc' := 53) rfl rfl ?_
            refine am_r_getR (t := 1) (pc' := 56) rfl rfl rfl ?_
            refine am_r_getR (t := 2) (pc' := 59) rfl rfl rfl ?_
            refine am_r_iload6 (pc' := 61) rfl rfl ?_
            refine am_r_iaZv (n := 8) (pc' := 62) rfl rfl rfl (by decide) (sx_rd hX (by omega)) ?_
            refine am_r_i2l (pc' := 63) rfl rfl ?_
            refine am_r_ivsL2 (pc' := 66) rfl rfl rfl (Nat.le_of_ble_eq_true rfl) (c_leastCommon (by omega) (by omega) (by omega) ?_)
            refine am_r_lstore4 (pc' := 68) rfl rfl rfl ?_
            refine am_r_iinc6 (pc' := 71) rfl rfl rfl ?_
            refine am_r_goto (pc' := 8) rfl rfl ?_
            first | exact ih _ _ _ (by omega) (by rw [show g_st σ s c e i (k + 1) = g_st σ s (g_nx σ i e c (s_rd σ i).toNat) (g_lcm e (s_rd σ i)) (i + 1) k by (rw [g_st, if_pos (by omega), if_neg (by omega)])] at hq; exact hq) | exact ih _ _ _ (by omega) (by rw [show g_st σ s c e i (k + 1) = g_st σ s c e (i + 1) k by (rw [g_st, if_neg (by omega)])] at hq; exact hq)
          · refine am_r_lconst (z := (-2)) (pc' := 49) rfl rfl rfl ?_
            refine am_r_lret rfl rfl ?_
            rw [show g_st σ s c e i (k + 1) = -2 by (rw [g_st, if_pos (by omega), if_pos (by omega)])] at hq; exact hq
  refine am_bl_of (P := am_pX1_allAtStart) (rt := 3) (nL := 7) (Nat.le_of_ble_eq_true rfl) rfl (Nat.le_of_ble_eq_true rfl) rfl rfl rfl ?_
  refine am_r_lconst (z := 0) (pc' := 1) rfl rfl rfl ?_
  refine am_r_lstore2 (pc' := 2) rfl rfl rfl ?_
  refine am_r_lconst (z := 1) (pc' := 3) rfl rfl rfl ?_
  refine am_r_lstore4 (pc' := 5) rfl rfl rfl ?_
  refine am_r_iconst (pc' := 6) rfl rfl ?_
  refine am_r_istore6 (pc' := 8) rfl rfl rfl ?_
  exact hl (s_n σ).toNat 0 0 1 (by refine ⟨by omega, by omega, by omega, ?_, by omega, ?_⟩ <;> decide) hq
/-- the least nudge -/
def g_nud (σ : Sg) (a b d : Int) : Int → Nat → Int
  | _, 0 => -1000
  | i, k + 1 => if g_mt σ a i b d = true then i else if g_mt σ a (-i) b d = true then -i else g_nud σ a b d (i + 1) k
/-- at place p of a it meets b on none of n days -/
def g_lnp (σ : Sg) (a p b d : Int) : Bool := ! g_mt σ a (p - s_pl σ a) b d
def g_lon (σ : Sg) (a b n p : Int) : Bool := f_all (g_lnp σ a p b) 0 n.toNat
theorem c_leastNudge {sL : Nat} {xs : Nat → Int32} {d : Nat} {M : Am_M} {Q : Int32 → Am_M → Prop} (hd : 5 ≤ d) {σ : Sg} (hX : SX M σ) {a b f0 : Int} (ha : 0 ≤ a ∧ a < s_n σ) (hb : 0 ≤ b ∧ b < s_n σ) (hf : 0 ≤ f0 ∧ f0 ≤ 100000) (hq : Q (z_I (g_nud σ a b f0 0 (s_rd σ a).toNat)) M) : am_bi sL xs d 14 [.ref 14, .int (z_I a), .int (z_I b), .int (z_I f0)] M Q := by
  obtain ⟨d, rfl⟩ : ∃ e, d = e + 1 := ⟨d - 1, by omega⟩
  have hn := sb_nb hX.1
  have hnr := sb_nrb hX.1
  have hba := sg_b hX.1 ha
  have hl : ∀ (k : Nat) (i : Int), (0 ≤ i ∧ i + k = s_rd σ a) → (Q (z_I (g_nud σ a b f0 i k)) M) → am_rw sL xs d am_pX1_leastNudge 1 3 [.ref 14, .int (z_I a), .int (z_I b), .int (z_I f0), .int (z_I i)] [] M (am_pi Q) := by
    intro k
    induction k with
    | zero =>
      intro i hk hq
      refine am_r_iload4 (pc' := 5) rfl rfl ?_
      refine am_r_aload0 (pc' := 6) rfl rfl ?_
      refine am_r_getR (t := 1) (pc' := 9) rfl rfl rfl ?_
      refine am_r_getR (t := 2) (pc' := 12) rfl rfl rfl ?_
      refine am_r_iload1 (pc' := 13) rfl rfl ?_
      refine am_r_iaZv (n := 8) (pc' := 14) rfl rfl rfl (by decide) (sx_rd hX (by omega)) ?_
      refine am_r_icmp_ge (pt := 61) (pf := 17) rfl rfl rfl (fun h14 => ?_) (fun h14 => ?_)
      · refine am_r_iconst (pc' := 64) rfl rfl ?_
        refine am_r_iret rfl rfl ?_
        exact hq
      · exfalso; omega
    | succ k ih =>
      intro i hk hq
      refine am_r_iload4 (pc' := 5) rfl rfl ?_
      refine am_r_aload0 (pc' := 6) rfl rfl ?_
      refine am_r_getR (t := 1) (pc' := 9) rfl rfl rfl ?_
      refine am_r_getR (t := 2) (pc' := 12) rfl rfl rfl ?_
      refine am_r_iload1 (pc' := 13) rfl rfl ?_
      refine am_r_iaZv (n := 8) (pc' := 14) rfl rfl rfl (by decide) (sx_rd hX (by omega)) ?_
      refine am_r_icmp_ge (pt := 61) (pf := 17) rfl rfl rfl (fun h14 => ?_) (fun h14 => ?_)
      · exfalso; omega
      · refine am_r_aload0 (pc' := 18) rfl rfl ?_
        refine am_r_getR (t := 1) (pc' := 21) rfl rfl rfl ?_
        refine am_r_iload1 (pc' := 22) rfl rfl ?_
        refine am_r_iload4 (pc' := 24) rfl rfl ?_
        refine am_r_iload2 (pc' := 25) rfl rfl ?_
        refine am_r_iload3 (pc' := 26) rfl rfl ?_
        refine am_r_invI4 (pc' := 29) rfl rfl rfl (Nat.le_of_ble_eq_true rfl) (c_meetMoved (by omega) hX (by omega) (by omega) (by omega) (by omega) ?_)
        refine am_r_if_eqB (pt := 35) (pf := 32) rfl rfl rfl (fun h29 => ?_) (fun h29 => ?_)
        · refine am_r_aload0 (pc' := 36) rfl rfl ?_
          refine am_r_getR (t := 1) (pc' := 39) rfl rfl rfl ?_
          refine am_r_iload1 (pc' := 40) rfl rfl ?_
          refine am_r_iload4 (pc' := 42) rfl rfl ?_
          refine am_r_ineg (pc' := 43) rfl rfl ?_
          refine am_r_iload2 (pc' := 44) rfl rfl ?_
          refine am_r_iload3 (pc' := 45) rfl rfl ?_
          refine am_r_invI4 (pc' := 48) rfl rfl rfl (Nat.le_of_ble_eq_true rfl) (c_meetMoved (by omega) hX (by omega) (by omega) (by omega) (by omega) ?_)
          refine am_r_if_eqB (pt := 55) (pf := 51) rfl rfl rfl (fun h48 => ?_) (fun h48 => ?_)
          · refine am_r_iinc4 (pc' := 58) rfl rfl rfl ?_
            refine am_r_goto (pc' := 3) rfl rfl ?_
            exact ih _ (by omega) (by rw [show g_nud σ a b f0 i (k + 1) = g_nud σ a b f0 (i + 1) k by (rw [g_nud, if_neg h29, if_neg h48])] at hq; exact hq)
          · refine am_r_iload4 (pc' := 53) rfl rfl ?_
            refine am_r_ineg (pc' := 54) rfl rfl ?_
            refine am_r_iret rfl rfl ?_
            rw [show g_nud σ a b f0 i (k + 1) = -i by (rw [g_nud, if_neg h29, if_pos h48])] at hq; exact hq
        · refine am_r_iload4 (pc' := 34) rfl rfl ?_
          refine am_r_iret rfl rfl ?_
          rw [show g_nud σ a b f0 i (k + 1) = i by (rw [g_nud, if_pos h29])] at hq; exact hq
  refine am_bi_of (P := am_pX1_leastNudge) (rt := 1) (nL := 5) (Nat.le_of_ble_eq_true rfl) rfl (Nat.le_of_ble_eq_true rfl) rfl rfl rfl ?_
  refine am_r_iconst (pc' := 1) rfl rfl ?_
  refine am_r_istore4 (pc' := 3) rfl rfl rfl ?_
  exact hl (s_rd σ a).toNat 0 (by omega) hq
theorem c_isLonely {sL : Nat} {xs : Nat → Int32} {d : Nat} {M : Am_M} {Q : Int32 → Am_M → Prop} (hd : 5 ≤ d) {σ : Sg} (hX : SX M σ) {a p b n : Int} (ha : 0 ≤ a ∧ a < s_n σ) (hp : 0 ≤ p ∧ p < s_rd σ a) (hb : 0 ≤ b ∧ b < s_n σ) (hnn : 0 ≤ n ∧ n ≤ 999) (hq : Q (z_b (g_lon σ a b n p = true)) M) : am_bi sL xs d 15 [.ref 14, .int (z_I a), .int (z_I p), .int (z_I b), .int (z_I n)] M Q := by
  obtain ⟨d, rfl⟩ : ∃ e, d = e + 1 := ⟨d - 1, by omega⟩
  have hn := sb_nb hX.1
  have hnr := sb_nrb hX.1
  have hba := sg_b hX.1 ha
  have hl : ∀ (k : Nat) (i : Int), (0 ≤ i ∧ i + k = n) → (Q (z_b (f_all (g_lnp σ a p b) i k = true)) M) → am_rw sL xs d am_pX1_isLonely 2 16 [.ref 14, .int (z_I a), .int (z_I p), .int (z_I b), .int (z_I n), .int (z_I (p - s_pl σ a)), .int (z_I i)] [] M (am_pi Q) := by
    intro k
    induction k with
    | zero =>
      intro i hk hq
      refine am_r_iload6 (pc' := 18) rfl rfl ?_
      refine am_r_iload4 (pc' := 20) rfl rfl ?_
      refine am_r_icmp_ge (pt := 47) (pf := 23) rfl rfl rfl (fun h20 => ?_) (fun h20 => ?_)
      · refine am_r_iconst (pc' := 48) rfl rfl ?_
        refine am_r_zret rfl rfl (by first | exact Or.inr rfl | exact Or.inl rfl | exact z_b_01 _ | assumption) ?_
        rw [show f_all (g_lnp σ a p b) i 0 = true from rfl, z_bT rfl] at hq; exact hq
      · exfalso; omega
    | succ k ih =>
      intro i hk hq
      refine am_r_iload6 (pc' := 18) rfl rfl ?_
      refine am_r_iload4 (pc' := 20) rfl rfl ?_
      refine am_r_icmp_ge (pt := 47) (pf := 23) rfl rfl rfl (fun h20 => ?_) (fun h20 => ?_)
      · exfalso; omega
      · refine am_r_aload0 (pc' := 24) rfl rfl ?_
        refine am_r_getR (t := 1) (pc' := 27) rfl rfl rfl ?_
        refine am_r_iload1 (pc' := 28) rfl rfl ?_
        refine am_r_iload5 (pc' := 30) rfl rfl ?_
        refine am_r_iload3 (pc' := 31) rfl rfl ?_
        refine am_r_iload6 (pc' := 33) rfl rfl ?_
        refine am_r_invI4 (pc' := 36) rfl rfl rfl (Nat.le_of_ble_eq_true rfl) (c_meetMoved (by omega) hX (by omega) (by omega) (by omega) (by omega) ?_)
        refine am_r_if_eqB (pt := 41) (pf := 39) rfl rfl rfl (fun h36 => ?_) (fun h36 => ?_)
        · refine am_r_iinc6 (pc' := 44) rfl rfl rfl ?_
          refine am_r_goto (pc' := 16) rfl rfl ?_
          exact ih _ (by omega) (by rw [f_all_t (p := g_lnp σ a p b) (by unfold g_lnp; simp [h36])] at hq; exact hq)
        · refine am_r_iconst (pc' := 40) rfl rfl ?_
          refine am_r_zret rfl rfl (by first | exact Or.inr rfl | exact Or.inl rfl | exact z_b_01 _ | assumption) ?_
          rw [f_all_f (p := g_lnp σ a p b) (by unfold g_lnp; simp [h36]), z_bF (by decide)] at hq; exact hq
  refine am_bi_of (P := am_pX1_isLonely) (rt := 2) (nL := 7) (Nat.le_of_ble_eq_true rfl) rfl (Nat.le_of_ble_eq_true rfl) rfl rfl rfl ?_
  refine am_r_iload2 (pc' := 1) rfl rfl ?_
  refine am_r_aload0 (pc' := 2) rfl rfl ?_
  refine am_r_getR (t := 1) (pc' := 5) rfl rfl rfl ?_
  refine am_r_getR (t := 3) (pc' := 8) rfl rfl rfl ?_
  refine am_r_iload1 (pc' := 9) rfl rfl ?_
  refine am_r_iaZv (n := 8) (pc' := 10) rfl rfl rfl (by decide) (sx_pl hX (by omega)) ?_
  refine am_r_isub (pc' := 11) rfl rfl ?_
  refine am_r_istore5 (pc' := 13) rfl rfl rfl ?_
  refine am_r_iconst (pc' := 14) rfl rfl ?_
  refine am_r_istore6 (pc' := 16) rfl rfl rfl ?_
  exact hl n.toNat 0 (by omega) hq
theorem c_lonelyPlaces {sL : Nat} {xs : Nat → Int32} {d : Nat} {M : Am_M} {Q : Int32 → Am_M → Prop} (hd : 6 ≤ d) {σ : Sg} (hX : SX M σ) {a b n : Int} (ha : 0 ≤ a ∧ a < s_n σ) (hb : 0 ≤ b ∧ b < s_n σ) (hnn : 0 ≤ n ∧ n ≤ 999) (hq : Q (z_I (f_cnt (g_lon σ a b n) 0 (s_rd σ a).toNat)) M) : am_bi sL xs d 16 [.ref 14, .int (z_I a), .int (z_I b), .int (z_I n)] M Q := by
  obtain ⟨d, rfl⟩ : ∃ e, d = e + 1 := ⟨d - 1, by omega⟩
  have hn := sb_nb hX.1
  have hnr := sb_nrb hX.1
  have hba := sg_b hX.1 ha
  have hl : ∀ (k : Nat) (i c : Int), (0 ≤ i ∧ i + k = s_rd σ a) → (Q (z_I (c + f_cnt (g_lon σ a b n) i k)) M) → am_rw sL xs d am_pX1_lonelyPlaces 1 6 [.ref 14, .int (z_I a), .int (z_I b), .int (z_I n), .int (z_I c), .int (z_I i)] [] M (am_pi Q) := by
    intro k
    induction k with
    | zero =>
      intro i c hk hq
      refine am_r_iload5 (pc' := 8) rfl rfl ?_
      refine am_r_aload0 (pc' := 9) rfl rfl ?_
      refine am_r_getR (t := 1) (pc' := 12) rfl rfl rfl ?_
      refine am_r_getR (t := 2) (pc' := 15) rfl rfl rfl ?_
      refine am_r_iload1 (pc' := 16) rfl rfl ?_
      refine am_r_iaZv (n := 8) (pc' := 17) rfl rfl rfl (by decide) (sx_rd hX (by omega)) ?_
      refine am_r_icmp_ge (pt := 41) (pf := 20) rfl rfl rfl (fun h17 => ?_) (fun h17 => ?_)
      · refine am_r_iload4 (pc' := 43) rfl rfl ?_
        refine am_r_iret rfl rfl ?_
        rw [f_cnt_0] at hq; exact hq
      · exfalso; omega
    | succ k ih =>
      intro i c hk hq
      refine am_r_iload5 (pc' := 8) rfl rfl ?_
      refine am_r_aload0 (pc' := 9) rfl rfl ?_
      refine am_r_getR (t := 1) (pc' := 12) rfl rfl rfl ?_
      refine am_r_getR (t := 2) (pc' := 15) rfl rfl rfl ?_
      refine am_r_iload1 (pc' := 16) rfl rfl ?_
      refine am_r_iaZv (n := 8) (pc' := 17) rfl rfl rfl (by decide) (sx_rd hX (by omega)) ?_
      refine am_r_icmp_ge (pt := 41) (pf := 20) rfl rfl rfl (fun h17 => ?_) (fun h17 => ?_)
      · exfalso; omega
      · refine am_r_aload0 (pc' := 21) rfl rfl ?_
        refine am_r_iload1 (pc' := 22) rfl rfl ?_
        refine am_r_iload5 (pc' := 24) rfl rfl ?_
        refine am_r_iload2 (pc' := 25) rfl rfl ?_
        refine am_r_iload3 (pc' := 26) rfl rfl ?_
        refine am_r_invI4 (pc' := 29) rfl rfl rfl (Nat.le_of_ble_eq_true rfl) (c_isLonely (by omega) hX (by omega) (by omega) (by omega) (by omega) ?_)
        refine am_r_if_eqB (pt := 35) (pf := 32) rfl rfl rfl (fun h29 => ?_) (fun h29 => ?_)
        · refine am_r_iinc5 (pc' := 38) rfl rfl rfl ?_
          refine am_r_goto (pc' := 6) rfl rfl ?_
          first | (rw [f_cnt_t (p := g_lon σ a b n) h29] at hq; exact ih _ _ (by omega) hq) | (rw [f_cnt_f (p := g_lon σ a b n) h29] at hq; exact ih _ _ (by omega) hq)
        · refine am_r_iinc4 (pc' := 35) rfl rfl rfl ?_
          refine am_r_iinc5 (pc' := 38) rfl rfl rfl ?_
          refine am_r_goto (pc' := 6) rfl rfl ?_
          first | (rw [f_cnt_t (p := g_lon σ a b n) h29] at hq; exact ih _ _ (by omega) hq) | (rw [f_cnt_f (p := g_lon σ a b n) h29] at hq; exact ih _ _ (by omega) hq)
  refine am_bi_of (P := am_pX1_lonelyPlaces) (rt := 1) (nL := 6) (Nat.le_of_ble_eq_true rfl) rfl (Nat.le_of_ble_eq_true rfl) rfl rfl rfl ?_
  refine am_r_iconst (pc' := 1) rfl rfl ?_
  refine am_r_istore4 (pc' := 3) rfl rfl rfl ?_
  refine am_r_iconst (pc' := 4) rfl rfl ?_
  refine am_r_istore5 (pc' := 6) rfl rfl rfl ?_
  exact hl (s_rd σ a).toNat 0 0 (by omega) (by rw [Int.zero_add]; exact hq)
theorem c_leastLonelyPlace {sL : Nat} {xs : Nat → Int32} {d : Nat} {M : Am_M} {Q : Int32 → Am_M → Prop} (hd : 6 ≤ d) {σ : Sg} (hX : SX M σ) {a b n : Int} (ha : 0 ≤ a ∧ a < s_n σ) (hb : 0 ≤ b ∧ b < s_n σ) (hnn : 0 ≤ n ∧ n ≤ 999) (hq : Q (z_I (f_first (g_lon σ a b n) 0 (s_rd σ a).toNat)) M) : am_bi sL xs d 17 [.ref 14, .int (z_I a), .int (z_I b), .int (z_I n)] M Q := by
  obtain ⟨d, rfl⟩ : ∃ e, d = e + 1 := ⟨d - 1, by omega⟩
  have hn := sb_nb hX.1
  have hnr := sb_nrb hX.1
  have hba := sg_b hX.1 ha
  have hl : ∀ (k : Nat) (i : Int), (0 ≤ i ∧ i + k = s_rd σ a) → (Q (z_I (f_first (g_lon σ a b n) i k)) M) → am_rw sL xs d am_pX1_leastLonelyPlace 1 3 [.ref 14, .int (z_I a), .int (z_I b), .int (z_I n), .int (z_I i)] [] M (am_pi Q) := by
    intro k
    induction k with
    | zero =>
      intro i hk hq
      refine am_r_iload4 (pc' := 5) rfl rfl ?_
      refine am_r_aload0 (pc' := 6) rfl rfl ?_
      refine am_r_getR (t := 1) (pc' := 9) rfl rfl rfl ?_
      refine am_r_getR (t := 2) (pc' := 12) rfl rfl rfl ?_
      refine am_r_iload1 (pc' := 13) rfl rfl ?_
      refine am_r_iaZv (n := 8) (pc' := 14) rfl rfl rfl (by decide) (sx_rd hX (by omega)) ?_
      refine am_r_icmp_ge (pt := 38) (pf := 17) rfl rfl rfl (fun h14 => ?_) (fun h14 => ?_)
      · refine am_r_iconst (pc' := 40) rfl rfl ?_
        refine am_r_iret rfl rfl ?_
        exact hq
      · exfalso; omega
    | succ k ih =>
      intro i hk hq
      refine am_r_iload4 (pc' := 5) rfl rfl ?_
      refine am_r_aload0 (pc' := 6) rfl rfl ?_
      refine am_r_getR (t := 1) (pc' := 9) rfl rfl rfl ?_
      refine am_r_getR (t := 2) (pc' := 12) rfl rfl rfl ?_
      refine am_r_iload1 (pc' := 13) rfl rfl ?_
      refine am_r_iaZv (n := 8) (pc' := 14) rfl rfl rfl (by decide) (sx_rd hX (by omega)) ?_
      refine am_r_icmp_ge (pt := 38) (pf := 17) rfl rfl rfl (fun h14 => ?_) (fun h14 => ?_)
      · exfalso; omega
      · refine am_r_aload0 (pc' := 18) rfl rfl ?_
        refine am_r_iload1 (pc' := 19) rfl rfl ?_
        refine am_r_iload4 (pc' := 21) rfl rfl ?_
        refine am_r_iload2 (pc' := 22) rfl rfl ?_
        refine am_r_iload3 (pc' := 23) rfl rfl ?_
        refine am_r_invI4 (pc' := 26) rfl rfl rfl (Nat.le_of_ble_eq_true rfl) (c_isLonely (by omega) hX (by omega) (by omega) (by omega) (by omega) ?_)
        refine am_r_if_eqB (pt := 32) (pf := 29) rfl rfl rfl (fun h26 => ?_) (fun h26 => ?_)
        · refine am_r_iinc4 (pc' := 35) rfl rfl rfl ?_
          refine am_r_goto (pc' := 3) rfl rfl ?_
          rw [f_first_f (p := g_lon σ a b n) h26] at hq; exact ih _ (by omega) hq
        · refine am_r_iload4 (pc' := 31) rfl rfl ?_
          refine am_r_iret rfl rfl ?_
          rw [f_first_t (p := g_lon σ a b n) h26] at hq; exact hq
  refine am_bi_of (P := am_pX1_leastLonelyPlace) (rt := 1) (nL := 5) (Nat.le_of_ble_eq_true rfl) rfl (Nat.le_of_ble_eq_true rfl) rfl rfl rfl ?_
  refine am_r_iconst (pc' := 1) rfl rfl ?_
  refine am_r_istore4 (pc' := 3) rfl rfl rfl ?_
  exact hl (s_rd σ a).toNat 0 (by omega) hq
def g_scn (σ : Sg) (a b i : Int) : Bool := decide (g_pl σ a (-i) * s_rd σ b = g_pl σ b (-i) * s_rd σ a)
theorem c_daysSinceScene {sL : Nat} {xs : Nat → Int32} {d : Nat} {M : Am_M} {Q : Int32 → Am_M → Prop} (hd : 3 ≤ d) {σ : Sg} (hX : SX M σ) {a b : Int} (ha : 0 ≤ a ∧ a < s_n σ) (hb : 0 ≤ b ∧ b < s_n σ) (hq : Q (z_I (f_first (g_scn σ a b) 1 3600)) M) : am_bi sL xs d 18 [.ref 14, .int (z_I a), .int (z_I b)] M Q := by
  obtain ⟨d, rfl⟩ : ∃ e, d = e + 1 := ⟨d - 1, by omega⟩
  have hn := sb_nb hX.1
  have hnr := sb_nrb hX.1
  have hba := sg_b hX.1 ha
  have hbb := sg_b hX.1 hb
  have hl : ∀ (k : Nat) (i : Int), (1 ≤ i ∧ i + k = 3601) → (Q (z_I (f_first (g_scn σ a b) i k)) M) → am_rw sL xs d am_pX1_daysSinceScene 1 2 [.ref 14, .int (z_I a), .int (z_I b), .int (z_I i)] [] M (am_pi Q) := by
    intro k
    induction k with
    | zero =>
      intro i hk hq
      refine am_r_iload3 (pc' := 3) rfl rfl ?_
      refine am_r_iconst (pc' := 6) rfl rfl ?_
      refine am_r_icmp_gt (pt := 60) (pf := 9) rfl rfl rfl (fun h6 => ?_) (fun h6 => ?_)
      · refine am_r_iconst (pc' := 62) rfl rfl ?_
        refine am_r_iret rfl rfl ?_
        exact hq
      · exfalso; omega
    | succ k ih =>
      intro i hk hq
      refine am_r_iload3 (pc' := 3) rfl rfl ?_
      refine am_r_iconst (pc' := 6) rfl rfl ?_
      refine am_r_icmp_gt (pt := 60) (pf := 9) rfl rfl rfl (fun h6 => ?_) (fun h6 => ?_)
      · exfalso; omega
      · refine am_r_aload0 (pc' := 10) rfl rfl ?_
        refine am_r_getR (t := 1) (pc' := 13) rfl rfl rfl ?_
        refine am_r_iload1 (pc' := 14) rfl rfl ?_
        refine am_r_iload3 (pc' := 15) rfl rfl ?_
        refine am_r_ineg (pc' := 16) rfl rfl ?_
        refine am_r_invI2 (pc' := 19) rfl rfl rfl (Nat.le_of_ble_eq_true rfl) (c_placeOn (by omega) hX (by omega) (by omega) ?_)
        refine am_r_aload0 (pc' := 20) rfl rfl ?_
        refine am_r_getR (t := 1) (pc' := 23) rfl rfl rfl ?_
        refine am_r_getR (t := 2) (pc' := 26) rfl rfl rfl ?_
        refine am_r_iload2 (pc' := 27) rfl rfl ?_
        refine am_r_iaZv (n := 8) (pc' := 28) rfl rfl rfl (by decide) (sx_rd hX (by omega)) ?_
        refine am_r_imul (pc' := 29) rfl rfl ?_
        refine am_r_aload0 (pc' := 30) rfl rfl ?_
        refine am_r_getR (t := 1) (pc' := 33) rfl rfl rfl ?_
        refine am_r_iload2 (pc' := 34) rfl rfl ?_
        refine am_r_iload3 (pc' := 35) rfl rfl ?_
        refine am_r_ineg (pc' := 36) rfl rfl ?_
        refine am_r_invI2 (pc' := 39) rfl rfl rfl (Nat.le_of_ble_eq_true rfl) (c_placeOn (by omega) hX (by omega) (by omega) ?_)
        refine am_r_aload0 (pc' := 40) rfl rfl ?_
        refine am_r_getR (t := 1) (pc' := 43) rfl rfl rfl ?_
        refine am_r_getR (t := 2) (pc' := 46) rfl rfl rfl ?_
        refine am_r_iload1 (pc' := 47) rfl rfl ?_
        refine am_r_iaZv (n := 8) (pc' := 48) rfl rfl rfl (by decide) (sx_rd hX (by omega)) ?_
        refine am_r_imul (pc' := 49) rfl rfl ?_
        have hpa := g_pl_b hX.1 ha (-i)
        have hpb := g_pl_b hX.1 hb (-i)
        have hm1 : g_pl σ a (-i) * s_rd σ b ≤ 60 * 60 := Int.mul_le_mul (by omega) (by omega) (by omega) (by omega)
        have hm2 : g_pl σ b (-i) * s_rd σ a ≤ 60 * 60 := Int.mul_le_mul (by omega) (by omega) (by omega) (by omega)
        have hm3 : 0 ≤ g_pl σ a (-i) * s_rd σ b := Int.mul_nonneg (by omega) (by omega)
        have hm4 : 0 ≤ g_pl σ b (-i) * s_rd σ a := Int.mul_nonneg (by omega) (by omega)
        refine am_r_icmp_ne (pt := 54) (pf := 52) rfl rfl rfl (fun h49 => ?_) (fun h49 => ?_)
        · refine am_r_iinc3 (pc' := 57) rfl rfl rfl ?_
          refine am_r_goto (pc' := 2) rfl rfl ?_
          rw [f_first_f (p := g_scn σ a b) (by unfold g_scn; rw [decide_eq_true_eq]; exact h49)] at hq; exact ih _ (by omega) hq
        · refine am_r_iload3 (pc' := 53) rfl rfl ?_
          refine am_r_iret rfl rfl ?_
          rw [f_first_t (p := g_scn σ a b) (by unfold g_scn; rw [decide_eq_true_eq]; exact h49)] at hq; exact hq
  refine am_bi_of (P := am_pX1_daysSinceScene) (rt := 1) (nL := 4) (Nat.le_of_ble_eq_true rfl) rfl (Nat.le_of_ble_eq_true rfl) rfl rfl rfl ?_
  refine am_r_iconst (pc' := 1) rfl rfl ?_
  refine am_r_istore3 (pc' := 2) rfl rfl rfl ?_
  exact hl 3600 1 (by omega) hq
theorem z_b_e1 {c : Prop} [Decidable c] : z_b c = z_I 1 ↔ c := by
  unfold z_b
  split
  · rename_i h; exact ⟨fun _ => h, fun _ => rfl⟩
  · rename_i h; exact ⟨fun q => absurd q (by decide), fun q => absurd q h⟩
theorem z_b_e0 {c : Prop} [Decidable c] : z_b c = z_I 0 ↔ ¬ c := by
  unfold z_b
  split
  · rename_i h; exact ⟨fun q => absurd q (by decide), fun q => absurd h q⟩
  · rename_i h; exact ⟨fun _ => h, fun _ => rfl⟩
def g_ev (f : Int → Bool) (w : Bool) : Int → Nat → Bool
  | _, 0 => !w
  | v, k + 1 => if f v = w then w else g_ev f w (v + 1) k
/-- by turns: t nudges are left, the next one wants w -/
def g_ends (σ : Sg) (a b d : Int) : Nat → Bool → Int → Bool
  | 0, _, m => g_mt σ a m b d
  | t + 1, w, m => g_ev (fun v => g_ends σ a b d t (!w) (m + v)) w (-1) 3
def g_win (σ : Sg) (a b d : Int) (t : Nat) : Int := f_first (fun v => g_ends σ a b d t false v) (-1) 3
/-! BY TURNS backwards over bits: bit 6 + m, the one moved by m -/
def tw_b (x : Int32) (i : Nat) : Bool := x.toBitVec.getLsbD i
theorem tw_or (x y : Int32) (i : Nat) : tw_b (x ||| y) i = (tw_b x i || tw_b y i) := by unfold tw_b; rw [Int32.toBitVec_or, BitVec.getLsbD_or]
theorem tw_and (x y : Int32) (i : Nat) : tw_b (x &&& y) i = (tw_b x i && tw_b y i) := by unfold tw_b; rw [Int32.toBitVec_and, BitVec.getLsbD_and]
theorem tw_sl : ∀ n : Nat, n < 32 → ((z_I (n : Int) &&& 31).toBitVec.smod 32).toNat = n := by decide +kernel
theorem tw_shl1 (x : Int32) {i : Nat} (hi : i < 32) : tw_b (x <<< (z_I 1 &&& 31)) i = (decide (1 ≤ i) && tw_b x (i - 1)) := by
  unfold tw_b
  rw [Int32.toBitVec_shiftLeft]
  show (x.toBitVec <<< ((z_I ((1 : Nat) : Int) &&& 31).toBitVec.smod 32).toNat).getLsbD i = _
  rw [tw_sl 1 (by omega), BitVec.getLsbD_shiftLeft]
  rcases Nat.lt_or_ge i 1 with h | h
  · simp [h, Nat.not_le.mpr h]
  · simp [hi, h, Nat.not_lt.mpr h]
theorem tw_shr1 (x : Int32) {i : Nat} (hi : i < 31) : tw_b (x >>> (z_I 1 &&& 31)) i = tw_b x (i + 1) := by
  unfold tw_b
  rw [Int32.toBitVec_shiftRight]
  show (x.toBitVec.sshiftRight ((z_I ((1 : Nat) : Int) &&& 31).toBitVec.smod 32).toNat).getLsbD i = _
  rw [tw_sl 1 (by omega), BitVec.getLsbD_sshiftRight, if_pos (by omega), decide_eq_false (show ¬ 32 ≤ i by omega), Nat.add_comm 1 i]
  rfl
theorem tw_one : ∀ n : Nat, n < 13 → ∀ i, i < 32 → tw_b (z_I 1 <<< (z_I (n : Int) &&& 31)) i = decide (i = n) := by decide +kernel
theorem tw_zero : ∀ i, i < 32 → tw_b (z_I 0) i = false := by decide +kernel
theorem tw_bit (x : Int32) (n : Nat) (hn : n < 32) : ((x >>> (z_I (n : Int) &&& 31)) &&& z_I 1) = z_I 1 ↔ tw_b x n = true := by
  have e1 : z_I 1 = (1 : Int32) := by decide
  unfold tw_b
  rw [e1, ← Int32.toBitVec_inj, Int32.toBitVec_and, Int32.toBitVec_shiftRight]
  show (x.toBitVec.sshiftRight ((z_I (n : Int) &&& 31).toBitVec.smod 32).toNat &&& 1#32) = 1#32 ↔ _
  rw [tw_sl n hn, BitVec.and_one_eq_setWidth_ofBool_getLsbD, BitVec.getLsbD_sshiftRight, if_pos (by omega), Nat.add_zero]
  cases hb : x.toBitVec.getLsbD n
  · exact ⟨fun z => absurd z (by decide), fun z => absurd z (by decide)⟩
  · exact ⟨fun _ => rfl, fun _ => by decide⟩
def tw_mv (σ : Sg) (a b d : Int) : Nat → Int32
  | 0 => z_I 0
  | n + 1 => if g_mt σ a ((n : Int) - 6) b d = true then tw_mv σ a b d n ||| (z_I 1 <<< (z_I (n : Int) &&& 31)) else tw_mv σ a b d n
theorem tw_mv_t {σ : Sg} {a b d i : Int} (h : g_mt σ a i b d = true) (hi : -6 ≤ i) : tw_mv σ a b d (i + 1 + 6).toNat = tw_mv σ a b d (i + 6).toNat ||| (z_I 1 <<< (z_I (6 + i) &&& 31)) := by
  obtain ⟨n, rfl⟩ : ∃ n : Nat, i = (n : Int) - 6 := ⟨(i + 6).toNat, by omega⟩
  rw [show ((n : Int) - 6 + 1 + 6).toNat = n + 1 by omega, show ((n : Int) - 6 + 6).toNat = n by omega, show 6 + ((n : Int) - 6) = n by omega, tw_mv, if_pos h]
theorem tw_mv_f {σ : Sg} {a b d i : Int} (h : ¬ g_mt σ a i b d = true) (hi : -6 ≤ i) : tw_mv σ a b d (i + 1 + 6).toNat = tw_mv σ a b d (i + 6).toNat := by
  obtain ⟨n, rfl⟩ : ∃ n : Nat, i = (n : Int) - 6 := ⟨(i + 6).toNat, by omega⟩
  rw [show ((n : Int) - 6 + 1 + 6).toNat = n + 1 by omega, show ((n : Int) - 6 + 6).toNat = n by omega, tw_mv, if_neg h]
theorem tw_lt {i n : Nat} (h : ¬ i = n) : decide (i < n) = decide (i < n + 1) := by
  by_cases z : i < n
  · rw [decide_eq_true z, decide_eq_true (by omega)]
  · rw [decide_eq_false z, decide_eq_false (by omega)]
theorem tw_mv_b (σ : Sg) (a b d : Int) : ∀ n : Nat, n ≤ 13 → ∀ i : Nat, i < 32 → tw_b (tw_mv σ a b d n) i = (decide (i < n) && g_mt σ a ((i : Int) - 6) b d) := by
  intro n
  induction n with
  | zero =>
    intro _ i hi
    rw [tw_mv, tw_zero i hi, decide_eq_false (by omega), Bool.false_and]
  | succ n ih =>
    intro hn i hi
    have e := ih (by omega) i hi
    by_cases q : g_mt σ a ((n : Int) - 6) b d = true
    · rw [tw_mv, if_pos q, tw_or, e, tw_one n (by omega) i hi]
      by_cases r : i = n
      · subst r
        rw [q, decide_eq_true (show i < i + 1 by omega), decide_eq_true (show i = i from rfl), Bool.or_true]
        rfl
      · rw [decide_eq_false r, Bool.or_false, tw_lt r]
    · rw [tw_mv, if_neg q, e]
      by_cases r : i = n
      · subst r
        rw [Bool.eq_false_iff.mpr q, Bool.and_false, Bool.and_false]
      · rw [tw_lt r]
/-- the bits tell who ends met, t nudges before the end, the next one wants w -/
def tw_H (σ : Sg) (a b d : Int) (t : Nat) (w : Bool) (W : Int32) : Prop := ∀ m : Int, -6 + (t : Int) ≤ m → m ≤ 6 - (t : Int) → tw_b W (6 + m).toNat = g_ends σ a b d t w m
theorem tw_h0 (σ : Sg) (a b d T : Int) (w : Bool) : tw_H σ a b d (T - T).toNat w (tw_mv σ a b d 13) := by
  rw [show (T - T).toNat = 0 by omega]
  intro m h1 h2
  obtain ⟨n, rfl⟩ : ∃ n : Nat, m = (n : Int) - 6 := ⟨(m + 6).toNat, by omega⟩
  rw [show (6 + ((n : Int) - 6)).toNat = n by omega, tw_mv_b σ a b d 13 (by omega) n (by omega), decide_eq_true (show n < 13 by omega)]
  rfl
theorem tw_ev3 (F : Int → Bool) (w : Bool) : g_ev F w (-1) 3 = if F (-1) = w then w else if F 0 = w then w else if F 1 = w then w else !w := rfl
theorem tw_sT {σ : Sg} {a b d : Int} {s : Nat} {W : Int32} (h : tw_H σ a b d s (!true) W) (hs : s ≤ 4) : tw_H σ a b d (s + 1) true (W ||| (W <<< (z_I 1 &&& 31)) ||| (W >>> (z_I 1 &&& 31))) := by
  intro m h1 h2
  have e1 := h (m + -1) (by omega) (by omega)
  have e2 := h (m + 0) (by omega) (by omega)
  have e3 := h (m + 1) (by omega) (by omega)
  obtain ⟨n, hn⟩ : ∃ n : Nat, 6 + m = (n : Int) + 1 := ⟨(5 + m).toNat, by omega⟩
  rw [show (6 + (m + -1)).toNat = n by omega] at e1
  rw [show (6 + (m + 0)).toNat = n + 1 by omega] at e2
  rw [show (6 + (m + 1)).toNat = n + 1 + 1 by omega] at e3
  rw [show (6 + m).toNat = n + 1 by omega, tw_or, tw_or, tw_shl1 W (by omega), tw_shr1 W (by omega), decide_eq_true (show 1 ≤ n + 1 by omega), Bool.true_and, show n + 1 - 1 = n by omega, e1, e2, e3, show g_ends σ a b d (s + 1) true m = g_ev (fun v => g_ends σ a b d s (!true) (m + v)) true (-1) 3 from rfl, tw_ev3]
  generalize g_ends σ a b d s (!true) (m + -1) = x
  generalize g_ends σ a b d s (!true) (m + 0) = y
  generalize g_ends σ a b d s (!true) (m + 1) = z
  cases x <;> cases y <;> cases z <;> rfl
theorem tw_sF {σ : Sg} {a b d : Int} {s : Nat} {W : Int32} (h : tw_H σ a b d s (!false) W) (hs : s ≤ 4) : tw_H σ a b d (s + 1) false (W &&& (W <<< (z_I 1 &&& 31)) &&& (W >>> (z_I 1 &&& 31))) := by
  intro m h1 h2
  have e1 := h (m + -1) (by omega) (by omega)
  have e2 := h (m + 0) (by omega) (by omega)
  have e3 := h (m + 1) (by omega) (by omega)
  obtain ⟨n, hn⟩ : ∃ n : Nat, 6 + m = (n : Int) + 1 := ⟨(5 + m).toNat, by omega⟩
  rw [show (6 + (m + -1)).toNat = n by omega] at e1
  rw [show (6 + (m + 0)).toNat = n + 1 by omega] at e2
  rw [show (6 + (m + 1)).toNat = n + 1 + 1 by omega] at e3
  rw [show (6 + m).toNat = n + 1 by omega, tw_and, tw_and, tw_shl1 W (by omega), tw_shr1 W (by omega), decide_eq_true (show 1 ≤ n + 1 by omega), Bool.true_and, show n + 1 - 1 = n by omega, e1, e2, e3, show g_ends σ a b d (s + 1) false m = g_ev (fun v => g_ends σ a b d s (!false) (m + v)) false (-1) 3 from rfl, tw_ev3]
  generalize g_ends σ a b d s (!false) (m + -1) = x
  generalize g_ends σ a b d s (!false) (m + 0) = y
  generalize g_ends σ a b d s (!false) (m + 1) = z
  cases x <;> cases y <;> cases z <;> rfl
theorem tw_s1 {σ : Sg} {a b d i : Int} {t : Nat} {W : Int32} (h : tw_H σ a b d ((t : Int) + 1 - i).toNat (decide (i % 2 = 0)) W) (hi : 2 ≤ i ∧ i ≤ (t : Int) + 1) (ht : t ≤ 5) (h1 : i % 2 = 1) : tw_H σ a b d ((t : Int) + 1 - (i + -1)).toNat (decide ((i + -1) % 2 = 0)) (W ||| (W <<< (z_I 1 &&& 31)) ||| (W >>> (z_I 1 &&& 31))) := by
  rw [decide_eq_false (show ¬ i % 2 = 0 by omega)] at h
  rw [decide_eq_true (show (i + -1) % 2 = 0 by omega), show ((t : Int) + 1 - (i + -1)).toNat = ((t : Int) + 1 - i).toNat + 1 by omega]
  exact tw_sT h (by omega)
theorem tw_s0 {σ : Sg} {a b d i : Int} {t : Nat} {W : Int32} (h : tw_H σ a b d ((t : Int) + 1 - i).toNat (decide (i % 2 = 0)) W) (hi : 2 ≤ i ∧ i ≤ (t : Int) + 1) (ht : t ≤ 5) (h1 : ¬ i % 2 = 1) : tw_H σ a b d ((t : Int) + 1 - (i + -1)).toNat (decide ((i + -1) % 2 = 0)) (W &&& (W <<< (z_I 1 &&& 31)) &&& (W >>> (z_I 1 &&& 31))) := by
  rw [decide_eq_true (show i % 2 = 0 by omega)] at h
  rw [decide_eq_false (show ¬ (i + -1) % 2 = 0 by omega), show ((t : Int) + 1 - (i + -1)).toNat = ((t : Int) + 1 - i).toNat + 1 by omega]
  exact tw_sF h (by omega)
theorem tw_at {σ : Sg} {a b d v : Int} {t : Nat} {w : Bool} {W : Int32} (h : tw_H σ a b d t w W) (ht : t ≤ 5) (hv : -1 ≤ v ∧ v ≤ 1) : ((W >>> (z_I (6 + v) &&& 31)) &&& z_I 1) = z_I 1 ↔ g_ends σ a b d t w v = true := by
  rw [← h v (by omega) (by omega)]
  obtain ⟨n, hn⟩ : ∃ n : Nat, 6 + v = (n : Int) := ⟨(6 + v).toNat, by omega⟩
  rw [hn, show ((n : Int)).toNat = n by omega]
  exact tw_bit W n (by omega)
theorem c_movesToMeet {sL : Nat} {xs : Nat → Int32} {d : Nat} {M : Am_M} {Q : Int32 → Am_M → Prop} (hd : 5 ≤ d) {σ : Sg} (hX : SX M σ) {a b f0 : Int} (ha : 0 ≤ a ∧ a < s_n σ) (hb : 0 ≤ b ∧ b < s_n σ) (hf : 0 ≤ f0 ∧ f0 ≤ 100000) (hq : Q (tw_mv σ a b f0 13) M) : am_bi sL xs d 20 [.ref 14, .int (z_I a), .int (z_I b), .int (z_I f0)] M Q := by
  obtain ⟨d, rfl⟩ : ∃ e, d = e + 1 := ⟨d - 1, by omega⟩
  have hn := sb_nb hX.1
  have hnr := sb_nrb hX.1
  have hl : ∀ (k : Nat) (i : Int), (-6 ≤ i ∧ i + k = 7) → (Q (tw_mv σ a b f0 13) M) → am_rw sL xs d am_pX1_movesToMeet 1 7 [.ref 14, .int (z_I a), .int (z_I b), .int (z_I f0), .int (tw_mv σ a b f0 (i + 6).toNat), .int (z_I i)] [] M (am_pi Q) := by
    intro k
    induction k with
    | zero =>
      intro i hk hq
      refine am_r_iload5 (pc' := 9) rfl rfl ?_
      refine am_r_iconst (pc' := 11) rfl rfl ?_
      refine am_r_icmp_gt (pt := 47) (pf := 14) rfl rfl rfl (fun h11 => ?_) (fun h11 => ?_)
      · refine am_r_iload4 (pc' := 49) rfl rfl ?_
        refine am_r_iret rfl rfl ?_
        rw [show (i + 6).toNat = 13 by omega]; exact hq
      · exfalso; omega
    | succ k ih =>
      intro i hk hq
      refine am_r_iload5 (pc' := 9) rfl rfl ?_
      refine am_r_iconst (pc' := 11) rfl rfl ?_
      refine am_r_icmp_gt (pt := 47) (pf := 14) rfl rfl rfl (fun h11 => ?_) (fun h11 => ?_)
      · exfalso; omega
      · refine am_r_aload0 (pc' := 15) rfl rfl ?_
        refine am_r_getR (t := 1) (pc' := 18) rfl rfl rfl ?_
        refine am_r_iload1 (pc' := 19) rfl rfl ?_
        refine am_r_iload5 (pc' := 21) rfl rfl ?_
        refine am_r_iload2 (pc' := 22) rfl rfl ?_
        refine am_r_iload3 (pc' := 23) rfl rfl ?_
        refine am_r_invI4 (pc' := 26) rfl rfl rfl (Nat.le_of_ble_eq_true rfl) (c_meetMoved (by omega) hX (by omega) (by omega) (by omega) (by omega) ?_)
        refine am_r_if_eqB (pt := 41) (pf := 29) rfl rfl rfl (fun h26 => ?_) (fun h26 => ?_)
        · refine am_r_iinc5 (pc' := 44) rfl rfl rfl ?_
          refine am_r_goto (pc' := 7) rfl rfl ?_
          have z := ih (i + 1) (by omega) hq
          first | (rw [tw_mv_t h26 (by omega)] at z; exact z) | (rw [tw_mv_f h26 (by omega)] at z; exact z)
        · refine am_r_iload4 (pc' := 31) rfl rfl ?_
          refine am_r_iconst (pc' := 32) rfl rfl ?_
          refine am_r_iconst (pc' := 34) rfl rfl ?_
          refine am_r_iload5 (pc' := 36) rfl rfl ?_
          refine am_r_iadd (pc' := 37) rfl rfl ?_
          refine am_r_ishl (pc' := 38) rfl rfl ?_
          refine am_r_iorR (pc' := 39) rfl rfl ?_
          refine am_r_istore4 (pc' := 41) rfl rfl rfl ?_
          refine am_r_iinc5 (pc' := 44) rfl rfl rfl ?_
          refine am_r_goto (pc' := 7) rfl rfl ?_
          have z := ih (i + 1) (by omega) hq
          first | (rw [tw_mv_t h26 (by omega)] at z; exact z) | (rw [tw_mv_f h26 (by omega)] at z; exact z)
  refine am_bi_of (P := am_pX1_movesToMeet) (rt := 1) (nL := 6) (Nat.le_of_ble_eq_true rfl) rfl (Nat.le_of_ble_eq_true rfl) rfl rfl rfl ?_
  refine am_r_iconst (pc' := 1) rfl rfl ?_
  refine am_r_istore4 (pc' := 3) rfl rfl rfl ?_
  refine am_r_iconst (pc' := 5) rfl rfl ?_
  refine am_r_istore5 (pc' := 7) rfl rfl rfl ?_
  have z := hl 13 (-6) (by omega) hq
  rw [show tw_mv σ a b f0 ((-6 : Int) + 6).toNat = z_I 0 from rfl] at z
  exact z
theorem c_firstWinningNudge {sL : Nat} {xs : Nat → Int32} {d : Nat} {M : Am_M} {Q : Int32 → Am_M → Prop} {t : Nat} (hd : 6 ≤ d) {σ : Sg} (hX : SX M σ) {a b f0 : Int} (ha : 0 ≤ a ∧ a < s_n σ) (hb : 0 ≤ b ∧ b < s_n σ) (hf : 0 ≤ f0 ∧ f0 ≤ 100000) (ht : t ≤ 5) (hq : Q (z_I (g_win σ a b f0 t)) M) : am_bi sL xs d 19 [.ref 14, .int (z_I a), .int (z_I b), .int (z_I f0), .int (z_I ((t : Int) + 1))] M Q := by
  obtain ⟨d, rfl⟩ : ∃ e, d = e + 1 := ⟨d - 1, by omega⟩
  have hn := sb_nb hX.1
  have hnr := sb_nrb hX.1
  have hv : ∀ (k : Nat) (v : Int) (W : Int32) (w7 w8 : Value), (-1 ≤ v ∧ v + k = 2 ∧ tw_H σ a b f0 t false W) → (Q (z_I (f_first (fun v => g_ends σ a b f0 t false v) v k)) M) → am_rw sL xs d am_pX1_firstWinningNudge 1 69 [.ref 14, .int (z_I a), .int (z_I b), .int (z_I f0), .int (z_I ((t : Int) + 1)), .int W, .int (z_I v), w7, w8] [] M (am_pi Q) := by
    intro k
    induction k with
    | zero =>
      intro v W w7 w8 hk hq
      refine am_r_iload6 (pc' := 71) rfl rfl ?_
      refine am_r_iconst (pc' := 72) rfl rfl ?_
      refine am_r_icmp_gt (pt := 98) (pf := 75) rfl rfl rfl (fun h72 => ?_) (fun h72 => ?_)
      · refine am_r_iconst (pc' := 100) rfl rfl ?_
        refine am_r_iret rfl rfl ?_
        exact hq
      · exfalso; omega
    | succ k ih =>
      intro v W w7 w8 hk hq
      refine am_r_iload6 (pc' := 71) rfl rfl ?_
      refine am_r_iconst (pc' := 72) rfl rfl ?_
      refine am_r_icmp_gt (pt := 98) (pf := 75) rfl rfl rfl (fun h72 => ?_) (fun h72 => ?_)
      · exfalso; omega
      · refine am_r_iload5 (pc' := 77) rfl rfl ?_
        refine am_r_iconst (pc' := 79) rfl rfl ?_
        refine am_r_iload6 (pc' := 81) rfl rfl ?_
        refine am_r_iadd (pc' := 82) rfl rfl ?_
        refine am_r_ishr (pc' := 83) rfl rfl ?_
        refine am_r_iconst (pc' := 84) rfl rfl ?_
        refine am_r_iandR (pc' := 85) rfl rfl ?_
        refine am_r_iconst (pc' := 86) rfl rfl ?_
        refine am_r_icmp_neR (pt := 92) (pf := 89) rfl rfl rfl (fun h86 => ?_) (fun h86 => ?_)
        · refine am_r_iinc6 (pc' := 95) rfl rfl rfl ?_
          refine am_r_goto (pc' := 69) rfl rfl ?_
          rw [f_first_f (p := fun v => g_ends σ a b f0 t false v) (fun z => h86 ((tw_at hk.2.2 ht (by omega)).mpr z))] at hq; exact ih _ _ _ _ ⟨by omega, by omega, hk.2.2⟩ hq
        · refine am_r_iload6 (pc' := 91) rfl rfl ?_
          refine am_r_iret rfl rfl ?_
          rw [f_first_t (p := fun v => g_ends σ a b f0 t false v) ((tw_at hk.2.2 ht (by omega)).mp (Classical.not_not.mp h86))] at hq; exact hq
  have hw : ∀ (k : Nat) (i : Int) (W : Int32) (w7 w8 : Value), (1 ≤ i ∧ i = k + 1 ∧ i ≤ (t : Int) + 1 ∧ tw_H σ a b f0 ((t : Int) + 1 - i).toNat (decide (i % 2 = 0)) W) → (Q (z_I (g_win σ a b f0 t)) M) → am_rw sL xs d am_pX1_firstWinningNudge 1 13 [.ref 14, .int (z_I a), .int (z_I b), .int (z_I f0), .int (z_I ((t : Int) + 1)), .int W, .int (z_I i), w7, w8] [] M (am_pi Q) := by
    intro k
    induction k with
    | zero =>
      intro i W w7 w8 hk hq
      have hW := hk.2.2.2
      obtain rfl : i = 1 := by omega
      rw [show ((t : Int) + 1 - 1).toNat = t by omega, show decide ((1 : Int) % 2 = 0) = false from rfl] at hW
      refine am_r_iload6 (pc' := 15) rfl rfl ?_
      refine am_r_iconst (pc' := 16) rfl rfl ?_
      refine am_r_icmp_le (pt := 66) (pf := 19) rfl rfl rfl (fun h16 => ?_) (fun h16 => ?_)
      · refine am_r_iconst (pc' := 67) rfl rfl ?_
        refine am_r_istore6 (pc' := 69) rfl rfl rfl ?_
        exact hv 3 (-1) W w7 w8 ⟨by omega, by omega, hW⟩ hq
      · exfalso; omega
    | succ k ih =>
      intro i W w7 w8 hk hq
      refine am_r_iload6 (pc' := 15) rfl rfl ?_
      refine am_r_iconst (pc' := 16) rfl rfl ?_
      refine am_r_icmp_le (pt := 66) (pf := 19) rfl rfl rfl (fun h16 => ?_) (fun h16 => ?_)
      · exfalso; omega
      · refine am_r_iload5 (pc' := 21) rfl rfl ?_
        refine am_r_iconst (pc' := 22) rfl rfl ?_
        refine am_r_ishl (pc' := 23) rfl rfl ?_
        refine am_r_istore7 (pc' := 25) rfl rfl rfl ?_
        refine am_r_iload5 (pc' := 27) rfl rfl ?_
        refine am_r_iconst (pc' := 28) rfl rfl ?_
        refine am_r_ishr (pc' := 29) rfl rfl ?_
        refine am_r_istore8 (pc' := 31) rfl rfl rfl ?_
        refine am_r_iload6 (pc' := 33) rfl rfl ?_
        refine am_r_iconst (pc' := 34) rfl rfl ?_
        refine am_r_irem (pc' := 35) rfl rfl ?_
        refine am_r_iconst (pc' := 36) rfl rfl ?_
        refine am_r_icmp_ne (pt := 50) (pf := 39) rfl rfl rfl (fun h36 => ?_) (fun h36 => ?_)
        · refine am_r_iload5 (pc' := 52) rfl rfl ?_
          refine am_r_iload7 (pc' := 54) rfl rfl ?_
          refine am_r_iandR (pc' := 55) rfl rfl ?_
          refine am_r_iload8 (pc' := 57) rfl rfl ?_
          refine am_r_iandR (pc' := 58) rfl rfl ?_
          refine am_r_istore5 (pc' := 60) rfl rfl rfl ?_
          refine am_r_iinc6 (pc' := 63) rfl rfl rfl ?_
          refine am_r_goto (pc' := 13) rfl rfl ?_
          first | exact ih _ _ _ _ ⟨by omega, by omega, by omega, tw_s1 hk.2.2.2 (by omega) ht h36⟩ hq | exact ih _ _ _ _ ⟨by omega, by omega, by omega, tw_s0 hk.2.2.2 (by omega) ht h36⟩ hq
        · refine am_r_iload5 (pc' := 41) rfl rfl ?_
          refine am_r_iload7 (pc' := 43) rfl rfl ?_
          refine am_r_iorR (pc' := 44) rfl rfl ?_
          refine am_r_iload8 (pc' := 46) rfl rfl ?_
          refine am_r_iorR (pc' := 47) rfl rfl ?_
          refine am_r_goto (pc' := 58) rfl rfl ?_
          refine am_r_istore5 (pc' := 60) rfl rfl rfl ?_
          refine am_r_iinc6 (pc' := 63) rfl rfl rfl ?_
          refine am_r_goto (pc' := 13) rfl rfl ?_
          first | exact ih _ _ _ _ ⟨by omega, by omega, by omega, tw_s1 hk.2.2.2 (by omega) ht h36⟩ hq | exact ih _ _ _ _ ⟨by omega, by omega, by omega, tw_s0 hk.2.2.2 (by omega) ht h36⟩ hq
  refine am_bi_of (P := am_pX1_firstWinningNudge) (rt := 1) (nL := 9) (Nat.le_of_ble_eq_true rfl) rfl (Nat.le_of_ble_eq_true rfl) rfl rfl rfl ?_
  refine am_r_aload0 (pc' := 1) rfl rfl ?_
  refine am_r_iload1 (pc' := 2) rfl rfl ?_
  refine am_r_iload2 (pc' := 3) rfl rfl ?_
  refine am_r_iload3 (pc' := 4) rfl rfl ?_
  refine am_r_invI3 (pc' := 7) rfl rfl rfl (Nat.le_of_ble_eq_true rfl) (c_movesToMeet (by omega) hX ha hb hf ?_)
  refine am_r_istore5 (pc' := 9) rfl rfl rfl ?_
  refine am_r_iload4 (pc' := 11) rfl rfl ?_
  refine am_r_istore6 (pc' := 13) rfl rfl rfl ?_
  exact hw t ((t : Int) + 1) _ _ _ ⟨by omega, by omega, by omega, tw_h0 σ a b f0 _ _⟩ hq
/-- from a on: the longest way on to any other of a set -/
def g_af (σ : Sg) (s a d : Int) : Int → Int → Nat → Int
  | c, _, 0 => c
  | c, i, k + 1 => if s_bit s i = 1 then g_af σ s a d (max c ((g_dg σ i d - g_dg σ a d) % 360)) (i + 1) k else g_af σ s a d c (i + 1) k
def g_arcf (σ : Sg) (s a d : Int) : Int := g_af σ s a d 0 0 (s_n σ).toNat
def g_la (σ : Sg) (s d : Int) : Int → Int → Nat → Int
  | c, _, 0 => c
  | c, i, k + 1 => if s_bit s i = 1 then g_la σ s d (min c (g_arcf σ s i d)) (i + 1) k else g_la σ s d c (i + 1) k
def g_arc (σ : Sg) (s d : Int) : Int := if s = 0 then 0 else g_la σ s d 360 0 (s_n σ).toNat
theorem g_af_b (σ : Sg) (s a d : Int) : ∀ (k : Nat) (c i : Int), 0 ≤ c ∧ c < 360 → 0 ≤ g_af σ s a d c i k ∧ g_af σ s a d c i k < 360
  | 0, c, i, h => h
  | k + 1, c, i, h => by
    have h1 := Int.emod_nonneg (g_dg σ i d - g_dg σ a d) (show (360 : Int) ≠ 0 by omega)
    have h2 := Int.emod_lt_of_pos (g_dg σ i d - g_dg σ a d) (show (0 : Int) < 360 by omega)
    unfold g_af
    split
    · exact g_af_b σ s a d k _ _ (by omega)
    · exact g_af_b σ s a d k _ _ h
theorem g_arcf_b (σ : Sg) (s a d : Int) : 0 ≤ g_arcf σ s a d ∧ g_arcf σ s a d < 360 := g_af_b σ s a d _ 0 0 (by omega)
theorem c_arcFrom {sL : Nat} {xs : Nat → Int32} {d : Nat} {M : Am_M} {Q : Int32 → Am_M → Prop} (hd : 4 ≤ d) {σ : Sg} (hX : SX M σ) {a s f0 : Int} (ha : 0 ≤ a ∧ a < s_n σ) (hs : 0 ≤ s ∧ s < 256) (hf : 0 ≤ f0 ∧ f0 ≤ 100000) (hq : Q (z_I (g_arcf σ s a f0)) M) : am_bi sL xs d 22 [.ref 14, .int (z_I a), .int (z_I s), .int (z_I f0)] M Q := by
  obtain ⟨d, rfl⟩ : ∃ e, d = e + 1 := ⟨d - 1, by omega⟩
  have hn := sb_nb hX.1
  have hnr := sb_nrb hX.1
  have hl : ∀ (k : Nat) (i c : Int), (0 ≤ i ∧ i + k = s_n σ ∧ 0 ≤ c ∧ c < 360) → (Q (z_I (g_af σ s a f0 c i k)) M) → am_rw sL xs d am_pX1_arcFrom 1 17 [.ref 14, .int (z_I a), .int (z_I s), .int (z_I f0), .int (z_I (g_dg σ a f0)), .int (z_I c), .int (z_I i)] [] M (am_pi Q) := by
    intro k
    induction k with
    | zero =>
      intro i c hk hq
      have hbt := s_bit01 s i
      refine am_r_iload6 (pc' := 19) rfl rfl ?_
      refine am_r_aload0 (pc' := 20) rfl rfl ?_
      refine am_r_getR (t := 1) (pc' := 23) rfl rfl rfl ?_
      refine am_r_getIv (f := 5) (pc' := 26) rfl rfl rfl (sx_n hX) ?_
      refine am_r_icmp_ge (pt := 71) (pf := 29) rfl rfl rfl (fun h26 => ?_) (fun h26 => ?_)
      · refine am_r_iload5 (pc' := 73) rfl rfl ?_
        refine am_r_iret rfl rfl ?_
        exact hq
      · exfalso; omega
    | succ k ih =>
      intro i c hk hq
      have hbt := s_bit01 s i
      refine am_r_iload6 (pc' := 19) rfl rfl ?_
      refine am_r_aload0 (pc' := 20) rfl rfl ?_
      refine am_r_getR (t := 1) (pc' := 23) rfl rfl rfl ?_
      refine am_r_getIv (f := 5) (pc' := 26) rfl rfl rfl (sx_n hX) ?_
      refine am_r_icmp_ge (pt := 71) (pf := 29) rfl rfl rfl (fun h26 => ?_) (fun h26 => ?_)
      · exfalso; omega
      · refine am_r_iload2 (pc' := 30) rfl rfl ?_
        refine am_r_iload6 (pc' := 32) rfl rfl ?_
        refine am_r_ishr (pc' := 33) rfl rfl ?_
        refine am_r_iconst (pc' := 34) rfl rfl ?_
        refine am_r_iandR (pc' := 35) rfl rfl ?_
        rw [z_bit (by omega) (by omega)]
        refine am_r_iconst (pc' := 36) rfl rfl ?_
        refine am_r_icmp_ne (pt := 65) (pf := 39) rfl rfl rfl (fun h36 => ?_) (fun h36 => ?_)
        · refine am_r_iinc6 (pc' := 68) rfl rfl rfl ?_
          refine am_r_goto (pc' := 17) rfl rfl ?_
          first | exact ih _ _ (by omega) (by rw [show g_af σ s a f0 c i (k + 1) = g_af σ s a f0 (max c ((g_dg σ i f0 - g_dg σ a f0) % 360)) (i + 1) k by (rw [g_af, if_pos (by omega)])] at hq; exact hq) | exact ih _ _ (by omega) (by rw [show g_af σ s a f0 c i (k + 1) = g_af σ s a f0 c (i + 1) k by (rw [g_af, if_neg (by omega)])] at hq; exact hq)
        · have hda := g_dg_b hX.1 ha f0
          have hdi := g_dg_b hX.1 (a := i) (by omega) f0
          have hm1 := Int.emod_nonneg (g_dg σ i f0 - g_dg σ a f0) (show (360 : Int) ≠ 0 by omega)
          have hm2 := Int.emod_lt_of_pos (g_dg σ i f0 - g_dg σ a f0) (show (0 : Int) < 360 by omega)
          refine am_r_iload5 (pc' := 41) rfl rfl ?_
          refine am_r_aload0 (pc' := 42) rfl rfl ?_
          refine am_r_getR (t := 1) (pc' := 45) rfl rfl rfl ?_
          refine am_r_iload6 (pc' := 47) rfl rfl ?_
          refine am_r_iload3 (pc' := 48) rfl rfl ?_
          refine am_r_invI2 (pc' := 51) rfl rfl rfl (Nat.le_of_ble_eq_true rfl) (c_degreesOn (by omega) hX (by omega) (by omega) ?_)
          refine am_r_iload4 (pc' := 53) rfl rfl ?_
          refine am_r_isub (pc' := 54) rfl rfl ?_
          refine am_r_iconst (pc' := 57) rfl rfl ?_
          refine am_r_ivsI2 (pc' := 60) rfl rfl rfl (Nat.le_of_ble_eq_true rfl) (c_floorMod (by omega) (by omega) (by omega) ?_)
          refine am_r_maxZ (pc' := 63) rfl rfl (Nat.le_of_ble_eq_true rfl) ?_
          refine am_r_istore5 (pc' := 65) rfl rfl rfl ?_
          refine am_r_iinc6 (pc' := 68) rfl rfl rfl ?_
          refine am_r_goto (pc' := 17) rfl rfl ?_
          first | exact ih _ _ (by omega) (by rw [show g_af σ s a f0 c i (k + 1) = g_af σ s a f0 (max c ((g_dg σ i f0 - g_dg σ a f0) % 360)) (i + 1) k by (rw [g_af, if_pos (by omega)])] at hq; exact hq) | exact ih _ _ (by omega) (by rw [show g_af σ s a f0 c i (k + 1) = g_af σ s a f0 c (i + 1) k by (rw [g_af, if_neg (by omega)])] at hq; exact hq)
  refine am_bi_of (P := am_pX1_arcFrom) (rt := 1) (nL := 7) (Nat.le_of_ble_eq_true rfl) rfl (Nat.le_of_ble_eq_true rfl) rfl rfl rfl ?_
  refine am_r_aload0 (pc' := 1) rfl rfl ?_
  refine am_r_getR (t := 1) (pc' := 4) rfl rfl rfl ?_
  refine am_r_iload1 (pc' := 5) rfl rfl ?_
  refine am_r_iload3 (pc' := 6) rfl rfl ?_
  refine am_r_invI2 (pc' := 9) rfl rfl rfl (Nat.le_of_ble_eq_true rfl) (c_degreesOn (by omega) hX (by omega) (by omega) ?_)
  refine am_r_istore4 (pc' := 11) rfl rfl rfl ?_
  refine am_r_iconst (pc' := 12) rfl rfl ?_
  refine am_r_istore5 (pc' := 14) rfl rfl rfl ?_
  refine am_r_iconst (pc' := 15) rfl rfl ?_
  refine am_r_istore6 (pc' := 17) rfl rfl rfl ?_
  exact hl (s_n σ).toNat 0 0 (by omega) hq
theorem c_leastArc {sL : Nat} {xs : Nat → Int32} {d : Nat} {M : Am_M} {Q : Int32 → Am_M → Prop} (hd : 5 ≤ d) {σ : Sg} (hX : SX M σ) {s f0 : Int} (hs : 0 ≤ s ∧ s < 256) (hf : 0 ≤ f0 ∧ f0 ≤ 100000) (hq : Q (z_I (g_arc σ s f0)) M) : am_bi sL xs d 21 [.ref 14, .int (z_I s), .int (z_I f0)] M Q := by
  obtain ⟨d, rfl⟩ : ∃ e, d = e + 1 := ⟨d - 1, by omega⟩
  have hn := sb_nb hX.1
  have hnr := sb_nrb hX.1
  have hl : ∀ (k : Nat) (i c : Int), (0 ≤ i ∧ i + k = s_n σ ∧ 0 ≤ c ∧ c ≤ 360) → (Q (z_I (if s = 0 then 0 else g_la σ s f0 c i k)) M) → am_rw sL xs d am_pX1_leastArc 1 7 [.ref 14, .int (z_I s), .int (z_I f0), .int (z_I c), .int (z_I i)] [] M (am_pi Q) := by
    intro k
    induction k with
    | zero =>
      intro i c hk hq
      have hbt := s_bit01 s i
      refine am_r_iload4 (pc' := 9) rfl rfl ?_
      refine am_r_aload0 (pc' := 10) rfl rfl ?_
      refine am_r_getR (t := 1) (pc' := 13) rfl rfl rfl ?_
      refine am_r_getIv (f := 5) (pc' := 16) rfl rfl rfl (sx_n hX) ?_
      refine am_r_icmp_ge (pt := 48) (pf := 19) rfl rfl rfl (fun h16 => ?_) (fun h16 => ?_)
      · refine am_r_iload1 (pc' := 49) rfl rfl ?_
        refine am_r_if_ne (pt := 56) (pf := 52) rfl rfl rfl (fun h49 => ?_) (fun h49 => ?_)
        · refine am_r_iload3 (pc' := 57) rfl rfl ?_
          refine am_r_iret rfl rfl ?_
          first | (rw [if_neg (by omega)] at hq; exact hq) | (rw [if_pos (by omega)] at hq; exact hq)
        · refine am_r_iconst (pc' := 53) rfl rfl ?_
          refine am_r_goto (pc' := 57) rfl rfl ?_
          refine am_r_iret rfl rfl ?_
          first | (rw [if_neg (by omega)] at hq; exact hq) | (rw [if_pos (by omega)] at hq; exact hq)
      · exfalso; omega
    | succ k ih =>
      intro i c hk hq
      have hbt := s_bit01 s i
      refine am_r_iload4 (pc' := 9) rfl rfl ?_
      refine am_r_aload0 (pc' := 10) rfl rfl ?_
      refine am_r_getR (t := 1) (pc' := 13) rfl rfl rfl ?_
      refine am_r_getIv (f := 5) (pc' := 16) rfl rfl rfl (sx_n hX) ?_
      refine am_r_icmp_ge (pt := 48) (pf := 19) rfl rfl rfl (fun h16 => ?_) (fun h16 => ?_)
      · exfalso; omega
      · refine am_r_iload1 (pc' := 20) rfl rfl ?_
        refine am_r_iload4 (pc' := 22) rfl rfl ?_
        refine am_r_ishr (pc' := 23) rfl rfl ?_
        refine am_r_iconst (pc' := 24) rfl rfl ?_
        refine am_r_iandR (pc' := 25) rfl rfl ?_
        rw [z_bit (by omega) (by omega)]
        refine am_r_iconst (pc' := 26) rfl rfl ?_
        refine am_r_icmp_ne (pt := 42) (pf := 29) rfl rfl rfl (fun h26 => ?_) (fun h26 => ?_)
        · refine am_r_iinc4 (pc' := 45) rfl rfl rfl ?_
          refine am_r_goto (pc' := 7) rfl rfl ?_
          first | exact ih _ _ (by omega) (by rw [show g_la σ s f0 c i (k + 1) = g_la σ s f0 (min c (g_arcf σ s i f0)) (i + 1) k by (rw [g_la, if_pos (by omega)])] at hq; exact hq) | exact ih _ _ (by omega) (by rw [show g_la σ s f0 c i (k + 1) = g_la σ s f0 c (i + 1) k by (rw [g_la, if_neg (by omega)])] at hq; exact hq)
        · have hab := g_arcf_b σ s i f0
          refine am_r_iload3 (pc' := 30) rfl rfl ?_
          refine am_r_aload0 (pc' := 31) rfl rfl ?_
          refine am_r_iload4 (pc' := 33) rfl rfl ?_
          refine am_r_iload1 (pc' := 34) rfl rfl ?_
          refine am_r_iload2 (pc' := 35) rfl rfl ?_
          refine am_r_invI3 (pc' := 38) rfl rfl rfl (Nat.le_of_ble_eq_true rfl) (c_arcFrom (by omega) hX (by omega) (by omega) (by omega) ?_)
          refine am_r_minZ (pc' := 41) rfl rfl (Nat.le_of_ble_eq_true rfl) ?_
          refine am_r_istore3 (pc' := 42) rfl rfl rfl ?_
          refine am_r_iinc4 (pc' := 45) rfl rfl rfl ?_
          refine am_r_goto (pc' := 7) rfl rfl ?_
          first | exact ih _ _ (by omega) (by rw [show g_la σ s f0 c i (k + 1) = g_la σ s f0 (min c (g_arcf σ s i f0)) (i + 1) k by (rw [g_la, if_pos (by omega)])] at hq; exact hq) | exact ih _ _ (by omega) (by rw [show g_la σ s f0 c i (k + 1) = g_la σ s f0 c (i + 1) k by (rw [g_la, if_neg (by omega)])] at hq; exact hq)
  refine am_bi_of (P := am_pX1_leastArc) (rt := 1) (nL := 5) (Nat.le_of_ble_eq_true rfl) rfl (Nat.le_of_ble_eq_true rfl) rfl rfl rfl ?_
  refine am_r_iconst (pc' := 3) rfl rfl ?_
  refine am_r_istore3 (pc' := 4) rfl rfl rfl ?_
  refine am_r_iconst (pc' := 5) rfl rfl ?_
  refine am_r_istore4 (pc' := 7) rfl rfl rfl ?_
  exact hl (s_n σ).toNat 0 360 (by omega) hq
