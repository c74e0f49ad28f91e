/-! both ways of asking come to the same -/
theorem f_all_iff {p : Int → Bool} : ∀ (k : Nat) (i : Int), f_all p i k = true ↔ ∀ j, i ≤ j → j < i + k → p j = true
  | 0, i => ⟨fun _ j h1 h2 => by omega, fun _ => rfl⟩
  | k + 1, i => by
    simp only [f_all, Bool.and_eq_true]
    rw [f_all_iff k (i + 1)]
    constructor
    · rintro ⟨h1, h2⟩ j h3 h4
      by_cases e : j = i
      · rw [e]; exact h1
      · exact h2 j (by omega) (by omega)
    · intro h
      exact ⟨h i (by omega) (by omega), fun j h1 h2 => h j (by omega) (by omega)⟩
theorem f_first_none {p : Int → Bool} : ∀ (k : Nat) (i : Int), (∀ j, i ≤ j → j < i + k → ¬ p j = true) → f_first p i k = -2
  | 0, _, _ => rfl
  | k + 1, i, h => by
    rw [f_first_f (h i (by omega) (by omega))]
    exact f_first_none k (i + 1) (fun j h1 h2 => h j (by omega) (by omega))
theorem f_first_more {p : Int → Bool} : ∀ (k : Nat) (m : Nat) (i : Int), (f_first p i k ≠ -2 ∨ ∀ j, i + k ≤ j → j < i + k + m → ¬ p j = true) → -1 ≤ i → f_first p i (k + m) = f_first p i k
  | 0, m, i, h, _ => by
    rcases h with h | h
    · exact absurd rfl h
    · rw [Nat.zero_add]
      exact f_first_none m i (fun j h1 h2 => h j (by omega) (by omega))
  | k + 1, m, i, h, hi => by
    rw [show k + 1 + m = (k + m) + 1 by omega]
    by_cases q : p i = true
    · rw [f_first_t q, f_first_t q]
    · rw [f_first_f q, f_first_f q]
      refine f_first_more k m (i + 1) ?_ (by omega)
      rcases h with h | h
      · rw [f_first_f q] at h; exact Or.inl h
      · exact Or.inr (fun j h1 h2 => h j (by omega) (by omega))
theorem f_first_all {p : Int → Bool} : ∀ (k : Nat) (i : Int), -1 ≤ i → f_first p i k = -2 → ∀ j, i ≤ j → j < i + k → ¬ p j = true
  | 0, i, _, _, j, h1, h2 => by omega
  | k + 1, i, hi, h, j, h1, h2 => by
    by_cases q : p i = true
    · rw [f_first_t q] at h; omega
    · rw [f_first_f q] at h
      by_cases e : j = i
      · rw [e]; exact q
      · exact f_first_all k (i + 1) (by omega) h j (by omega) (by omega)
theorem f_per {p : Int → Bool} {P : Nat} (hp : ∀ d, p (d + P) = p d) : ∀ (m : Nat) (d : Int), p (d + (P * m : Nat)) = p d
  | 0, d => by simp
  | m + 1, d => by
    rw [show (d : Int) + ((P * (m + 1) : Nat) : Int) = d + (P * m : Nat) + P by rw [Nat.mul_add, Nat.mul_one]; omega, hp, f_per hp m d]
/-- a period's days are enough -/
theorem f_first_per {p : Int → Bool} {P : Nat} (h1 : 1 ≤ P) (hp : ∀ d, p (d + P) = p d) (i : Int) (hi : -1 ≤ i) (k : Nat) (hk : P ≤ k) : f_first p i k = f_first p i P := by
  obtain ⟨m, rfl⟩ : ∃ m, k = P + m := ⟨k - P, by omega⟩
  refine f_first_more P m i ?_ hi
  by_cases q : f_first p i P = -2
  · refine Or.inr (fun j h2 h3 hj => ?_)
    have hd := Nat.div_add_mod (j - i).toNat P
    have hm := Nat.mod_lt (j - i).toNat (show 0 < P by omega)
    have e := f_per hp ((j - i).toNat / P) (i + ((j - i).toNat % P : Nat))
    rw [show i + (((j - i).toNat % P : Nat) : Int) + ((P * ((j - i).toNat / P) : Nat) : Int) = j by omega] at e
    rw [hj] at e
    exact f_first_all P i hi q (i + ((j - i).toNat % P : Nat)) (by omega) (by omega) e.symm
  · exact Or.inl q
theorem f_first_per2 {p : Int → Bool} {P : Nat} (h1 : 1 ≤ P) (hp : ∀ d, p (d + P) = p d) (i : Int) (hi : -1 ≤ i) (k k' : Nat) (hk : P ≤ k ∧ P ≤ k' ∨ k = k') : f_first p i k = f_first p i k' := by
  rcases hk with ⟨h2, h3⟩ | rfl
  · rw [f_first_per h1 hp i hi k h2, f_first_per h1 hp i hi k' h3]
  · rfl
theorem g_pl_per (σ : Sg) (a d : Int) {P : Int} (h : s_rd σ a ∣ P) : g_pl σ a (d + P) = g_pl σ a d := by
  unfold g_pl
  obtain ⟨c, rfl⟩ := h
  rw [show s_pl σ a + (d + s_rd σ a * c) = s_pl σ a + d + s_rd σ a * c by omega, Int.add_mul_emod_self_left]
theorem g_dg_per (σ : Sg) (a d : Int) {P : Int} (h : s_rd σ a ∣ P) : g_dg σ a (d + P) = g_dg σ a d := by
  unfold g_dg
  rw [g_pl_per σ a d h]
theorem g_mt_per (σ : Sg) (a m b d : Int) {P : Int} (ha : s_rd σ a ∣ P) (hb : s_rd σ b ∣ P) : g_mt σ a m b (d + P) = g_mt σ a m b d := by
  unfold g_mt
  rw [g_dg_per σ b d hb, show m + (d + P) = m + d + P by omega, g_dg_per σ a (m + d) ha]
theorem r_meets_e {σ : Sg} (h : SB σ) (ab f0 : Int) : r_meets σ ab f0 (min 99999 (f0 + s_rd σ (ab / 10) * s_rd σ (ab % 10)) - f0 + 1).toNat = r_meets σ ab f0 (min (100000 - f0) 3600).toNat := by
  unfold r_meets
  split
  · rename_i q
    have ha := sg_b h (a := ab / 10) (by omega)
    have hb := sg_b h (a := ab % 10) (by omega)
    have hrr : 1 ≤ s_rd σ (ab / 10) * s_rd σ (ab % 10) ∧ s_rd σ (ab / 10) * s_rd σ (ab % 10) ≤ 3600 := ⟨Int.mul_pos (by omega) (by omega), by have := Int.mul_le_mul (show s_rd σ (ab / 10) ≤ 60 by omega) (show s_rd σ (ab % 10) ≤ 60 by omega) (by omega) (by omega); omega⟩
    refine f_first_per2 (P := (s_rd σ (ab / 10) * s_rd σ (ab % 10)).toNat) (by omega) (fun d => ?_) f0 (by omega) _ _ (by omega)
    refine g_mt_per σ _ _ _ d ?_ ?_
    · exact ⟨s_rd σ (ab % 10), by omega⟩
    · refine ⟨s_rd σ (ab / 10), ?_⟩
      rw [Int.mul_comm (s_rd σ (ab % 10))]
      omega
  · rfl
theorem f_sum_z {f : Int → Int} (hf : ∀ i, 0 ≤ f i) : ∀ (k : Nat) (i : Int), f_sum f i k = 0 ↔ ∀ j, i ≤ j → j < i + k → f j = 0
  | 0, i => ⟨fun _ j h1 h2 => by omega, fun _ => rfl⟩
  | k + 1, i => by
    have hn : ∀ (k : Nat) (i : Int), 0 ≤ f_sum f i k := by
      intro k
      induction k with
      | zero => intro i; exact Int.le_refl 0
      | succ k ih => intro i; have := hf i; have := ih (i + 1); simp only [f_sum]; omega
    have h1 := hf i
    have h2 := hn k (i + 1)
    have ih := f_sum_z hf k (i + 1)
    simp only [f_sum]
    constructor
    · intro q j h3 h4
      by_cases e : j = i
      · rw [e]; omega
      · exact ih.mp (by omega) j (by omega) (by omega)
    · intro q
      have e1 := q i (by omega) (by omega)
      have e2 := ih.mpr (fun j h3 h4 => q j (by omega) (by omega))
      omega
theorem g_free_e {σ : Sg} (h : SB σ) (s d : Int) : g_free σ s d = g_quiet σ s d := by
  have hn := sb_nb h
  have hmb : ∀ b, (g_met σ b d = 0 ↔ ∀ o, 0 ≤ o → o < s_n σ → ¬ (o ≠ b ∧ g_mt σ b 0 o d = true)) := by
    intro b
    unfold g_met
    rw [f_sum_z (fun i => (g_mb_b σ b d i).1)]
    constructor
    · intro q o h1 h2 c
      have := q o h1 (by omega)
      rw [g_mb, if_pos c] at this
      have := z_pow_p o.toNat
      omega
    · intro q o h1 h2
      rw [g_mb, if_neg (q o h1 (by omega))]
  rw [Bool.eq_iff_iff]
  unfold g_free g_quiet
  rw [f_all_iff, f_all_iff]
  constructor
  · intro q b h1 h2
    have q1 := q b h1 h2
    unfold g_qb
    rw [f_all_iff]
    intro o h3 h4
    unfold g_fr at q1
    unfold g_qo
    rw [decide_eq_true_eq] at q1 ⊢
    rintro ⟨c1, c2, c3⟩
    refine q1 ⟨c1, fun c => ?_⟩
    exact (hmb b).mp c o h3 (by omega) ⟨c2, c3⟩
  · intro q b h1 h2
    have q1 := q b h1 h2
    unfold g_qb at q1
    rw [f_all_iff] at q1
    unfold g_fr
    rw [decide_eq_true_eq]
    rintro ⟨c1, c2⟩
    refine c2 ((hmb b).mpr (fun o h3 h4 c => ?_))
    have q2 := q1 o h3 (by omega)
    unfold g_qo at q2
    rw [decide_eq_true_eq] at q2
    exact q2 ⟨c1, c.1, c.2⟩
theorem g_lcm_dvd {a b : Int} (hb : 0 ≤ b ∧ b < 100) : a ∣ g_lcm a b ∧ b ∣ g_lcm a b := by
  have h := f_eu_dvd 100 a b hb.1 hb.2
  unfold g_lcm
  refine ⟨?_, ⟨a / f_eu 100 a b, by rw [Int.mul_comm]⟩⟩
  obtain ⟨c, hc⟩ := h.2
  refine ⟨c, ?_⟩
  have e := Int.ediv_mul_cancel h.1
  calc a / f_eu 100 a b * b = a / f_eu 100 a b * (f_eu 100 a b * c) := by rw [← hc]
    _ = a / f_eu 100 a b * f_eu 100 a b * c := by rw [Int.mul_assoc]
    _ = a * c := by rw [e]
theorem g_tg_dvd {σ : Sg} (h : SB σ) (s : Int) : ∀ (k : Nat) (c i : Int), 0 ≤ i → i + k = s_n σ → c ∣ g_tg σ s c i k ∧ ∀ j, i ≤ j → j < s_n σ → s_bit s j = 1 → s_rd σ j ∣ g_tg σ s c i k
  | 0, c, i, _, hk => ⟨Int.dvd_refl c, fun j h1 h2 => by omega⟩
  | k + 1, c, i, h0, hk => by
    have hb := sg_b h (a := i) (by omega)
    have hl := g_lcm_dvd (a := c) (b := s_rd σ i) (by omega)
    unfold g_tg
    split
    · have ih := g_tg_dvd h s k (g_lcm c (s_rd σ i)) (i + 1) (by omega) (by omega)
      refine ⟨Int.dvd_trans hl.1 ih.1, fun j h1 h2 h3 => ?_⟩
      by_cases e : j = i
      · rw [e]; exact Int.dvd_trans hl.2 ih.1
      · exact ih.2 j (by omega) h2 h3
    · rename_i q
      have ih := g_tg_dvd h s k c (i + 1) (by omega) (by omega)
      refine ⟨ih.1, fun j h1 h2 h3 => ?_⟩
      by_cases e : j = i
      · rw [e] at h3; exact absurd h3 q
      · exact ih.2 j (by omega) h2 h3
theorem s_bit_all {n j : Int} (h : 0 ≤ n ∧ n ≤ 8) (hj : 0 ≤ j ∧ j < n) : s_bit (2 ^ n.toNat - 1) j = 1 := by
  obtain ⟨a, rfl⟩ : ∃ a : Nat, n = a := ⟨n.toNat, by omega⟩
  obtain ⟨b, rfl⟩ : ∃ b : Nat, j = b := ⟨j.toNat, by omega⟩
  have q : ∀ a : Nat, a < 9 → ∀ b : Nat, b < a → s_bit (2 ^ a - 1) (b : Int) = 1 := by decide
  exact q a (by omega) b (by omega)
theorem g_quiet_per {σ : Sg} (h : SB σ) (s d : Int) : g_quiet σ s (d + g_tog σ (2 ^ (s_n σ).toNat - 1)) = g_quiet σ s d := by
  have hn := sb_nb h
  have ht := (g_tg_dvd h (2 ^ (s_n σ).toNat - 1) (s_n σ).toNat 1 0 (by omega) (by omega)).2
  rw [Bool.eq_iff_iff]
  unfold g_quiet
  have e : ∀ b o, 0 ≤ b → b < s_n σ → 0 ≤ o → o < s_n σ → g_mt σ b 0 o (d + g_tog σ (2 ^ (s_n σ).toNat - 1)) = g_mt σ b 0 o d := fun b o h1 h2 h3 h4 =>
    g_mt_per σ b 0 o d (ht b h1 h2 (s_bit_all hn ⟨h1, h2⟩)) (ht o h3 h4 (s_bit_all hn ⟨h3, h4⟩))
  rw [f_all_iff, f_all_iff]
  constructor <;>
  · intro q b h1 h2
    have q1 := q b h1 h2
    unfold g_qb at q1 ⊢
    rw [f_all_iff] at q1 ⊢
    intro o h3 h4
    have q2 := q1 o h3 h4
    unfold g_qo at q2 ⊢
    first | (rw [e b o h1 (by omega) h3 (by omega)] at q2; exact q2) | (rw [e b o h1 (by omega) h3 (by omega)]; exact q2)
theorem r_sign_e {σ : Sg} (h : SB σ) (s f0 n : Int) : r_sign σ s f0 n (g_free σ s) (min 99999 (f0 + g_tog σ (2 ^ (s_n σ).toNat - 1)) - f0 + 1).toNat = r_sign σ s f0 n (g_quiet σ s) (100000 - f0).toNat := by
  have e : g_free σ s = g_quiet σ s := by funext d; exact g_free_e h s d
  have hb := g_tog_b h (2 ^ (s_n σ).toNat - 1)
  rw [e]
  unfold r_sign
  split
  · split
    · refine f_first_per2 (P := (g_tog σ (2 ^ (s_n σ).toNat - 1)).toNat) (by omega) (fun d => ?_) f0 (by omega) _ _ (by omega)
      rw [show (((g_tog σ (2 ^ (s_n σ).toNat - 1)).toNat : Nat) : Int) = g_tog σ (2 ^ (s_n σ).toNat - 1) by omega]
      exact g_quiet_per h s d
    · rfl
  · rfl
theorem g_nud_more (σ : Sg) (a b d : Int) : ∀ (k : Nat) (i : Int), ¬ g_mt σ a (i + k) b d = true → ¬ g_mt σ a (-(i + k)) b d = true → g_nud σ a b d i (k + 1) = g_nud σ a b d i k
  | 0, i, h1, h2 => by
    simp only [Int.natCast_zero, Int.add_zero] at h1 h2
    unfold g_nud
    rw [if_neg h1, if_neg h2]
    rfl
  | k + 1, i, h1, h2 => by
    rw [show i + ((k + 1 : Nat) : Int) = i + 1 + k by omega] at h1 h2
    have ih := g_nud_more σ a b d k (i + 1) h1 h2
    unfold g_nud
    rw [ih]
theorem g_mt_mv (σ : Sg) (a b d m : Int) (h : s_rd σ a ∣ m) : g_mt σ a m b d = g_mt σ a 0 b d := by
  unfold g_mt
  rw [Int.add_comm m d, g_dg_per σ a d h, Int.zero_add]
theorem r_nudge_e {σ : Sg} (h : SB σ) (ab f0 : Int) : r_nudge σ ab f0 (s_rd σ (ab / 10)).toNat = r_nudge σ ab f0 (s_rd σ (ab / 10) + 1).toNat := by
  unfold r_nudge
  split
  · rename_i q
    have ha := sg_b h (a := ab / 10) (by omega)
    obtain ⟨k, hk⟩ : ∃ k : Nat, s_rd σ (ab / 10) = (k : Int) + 1 := ⟨(s_rd σ (ab / 10) - 1).toNat, by omega⟩
    rw [show (s_rd σ (ab / 10)).toNat = k + 1 by omega, show (s_rd σ (ab / 10) + 1).toNat = k + 1 + 1 by omega]
    by_cases c : g_mt σ (ab / 10) 0 (ab % 10) f0 = true
    · rw [show ∀ k, g_nud σ (ab / 10) (ab % 10) f0 0 (k + 1) = 0 from fun k => by rw [g_nud, if_pos c], show ∀ k, g_nud σ (ab / 10) (ab % 10) f0 0 (k + 1) = 0 from fun k => by rw [g_nud, if_pos c]]
    · refine (g_nud_more σ _ _ _ _ _ ?_ ?_).symm
      · rw [g_mt_mv]
        · exact c
        · exact ⟨1, by omega⟩
      · rw [g_mt_mv]
        · exact c
        · exact ⟨-1, by omega⟩
  · rfl
