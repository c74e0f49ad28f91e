/-! BY THE CLOCK, the class: loops over days and bodies -/
def f_first (p : Int → Bool) : Int → Nat → Int
  | _, 0 => -2
  | i, k + 1 => if p i = true then i else f_first p (i + 1) k
def f_cnt (p : Int → Bool) : Int → Nat → Int
  | _, 0 => 0
  | i, k + 1 => (if p i = true then 1 else 0) + f_cnt p (i + 1) k
def f_sum (f : Int → Int) : Int → Nat → Int
  | _, 0 => 0
  | i, k + 1 => f i + f_sum f (i + 1) k
def f_all (p : Int → Bool) : Int → Nat → Bool
  | _, 0 => true
  | i, k + 1 => p i && f_all p (i + 1) k
theorem f_first_t {p : Int → Bool} {i : Int} {k : Nat} (h : p i = true) : f_first p i (k + 1) = i := if_pos h
theorem f_first_f {p : Int → Bool} {i : Int} {k : Nat} (h : ¬ p i = true) : f_first p i (k + 1) = f_first p (i + 1) k := if_neg h
theorem f_cnt_t {p : Int → Bool} {i acc : Int} {k : Nat} (h : p i = true) : acc + f_cnt p i (k + 1) = (acc + 1) + f_cnt p (i + 1) k := by
  simp only [f_cnt, h, if_true]; omega
theorem f_cnt_f {p : Int → Bool} {i acc : Int} {k : Nat} (h : ¬ p i = true) : acc + f_cnt p i (k + 1) = acc + f_cnt p (i + 1) k := by
  simp only [f_cnt, if_neg h]; omega
theorem f_cnt_0 {p : Int → Bool} {i acc : Int} : acc + f_cnt p i 0 = acc := by simp [f_cnt]
theorem f_sum_s {f : Int → Int} {i acc : Int} {k : Nat} : acc + f_sum f i (k + 1) = (acc + f i) + f_sum f (i + 1) k := by
  simp only [f_sum]; omega
theorem f_sum_0 {f : Int → Int} {i acc : Int} : acc + f_sum f i 0 = acc := by simp [f_sum]
theorem f_all_f {p : Int → Bool} {i : Int} {k : Nat} (h : ¬ p i = true) : f_all p i (k + 1) = false := by simp [f_all, h]
theorem f_all_t {p : Int → Bool} {i : Int} {k : Nat} (h : p i = true) : f_all p i (k + 1) = f_all p (i + 1) k := by simp [f_all, h]
/-- the mood of a on a day; whom a meets, by bits; a set is free of meetings -/
def g_ms (σ : Sg) (a d o : Int) : Int := if o ≠ a ∧ g_mt σ a 0 o d = true then s_lk σ a o else 0
def g_mood (σ : Sg) (a d : Int) : Int := f_sum (g_ms σ a d) 0 (s_n σ).toNat
def g_mb (σ : Sg) (a d o : Int) : Int := if o ≠ a ∧ g_mt σ a 0 o d = true then 2 ^ o.toNat else 0
def g_met (σ : Sg) (a d : Int) : Int := f_sum (g_mb σ a d) 0 (s_n σ).toNat
theorem c_firstMeeting {sL : Nat} {xs : Nat → Int32} {d : Nat} {M : Am_M} {Q : Int32 → Am_M → Prop} (hd : 5 ≤ d) {σ : Sg} (hX : SX M σ) {a b f0 : Int} (ha : 0 ≤ a ∧ a < s_n σ) (hb : 0 ≤ b ∧ b < s_n σ) (hf : 0 ≤ f0 ∧ f0 ≤ 100000) (hq : Q (z_I (f_first (g_mt σ a 0 b) f0 (min 99999 (f0 + s_rd σ a * s_rd σ b) - f0 + 1).toNat)) M) : am_bi sL xs d 2 [.ref 14, .int (z_I a), .int (z_I b), .int (z_I f0)] M Q := by
  obtain ⟨d, rfl⟩ : ∃ e, d = e + 1 := ⟨d - 1, by omega⟩
  have hn := sb_nb hX.1
  have hnr := sb_nrb hX.1
  have hba := sg_b hX.1 ha
  have hbb := sg_b hX.1 hb
  have hrr : 1 ≤ s_rd σ a * s_rd σ b ∧ s_rd σ a * s_rd σ b ≤ 3600 := ⟨Int.mul_pos (by omega) (by omega), by have := Int.mul_le_mul (show s_rd σ a ≤ 60 by omega) (show s_rd σ b ≤ 60 by omega) (by omega) (by omega); omega⟩
  have hl : ∀ (k : Nat) (i l : Int), (0 ≤ i ∧ i + k = l + 1 ∧ l ≤ 99999) → (Q (z_I (f_first (g_mt σ a 0 b) i k)) M) → am_rw sL xs d am_pX1_firstMeeting 1 31 [.ref 14, .int (z_I a), .int (z_I b), .int (z_I f0), .int (z_I l), .int (z_I i)] [] M (am_pi Q) := by
    intro k
    induction k with
    | zero =>
      intro i l hk hq
      refine am_r_iload5 (pc' := 33) rfl rfl ?_
      refine am_r_iload4 (pc' := 35) rfl rfl ?_
      refine am_r_icmp_gt (pt := 61) (pf := 38) rfl rfl rfl (fun h35 => ?_) (fun h35 => ?_)
      · refine am_r_iconst (pc' := 63) rfl rfl ?_
        refine am_r_iret rfl rfl ?_
        exact hq
      · exfalso; omega
    | succ k ih =>
      intro i l hk hq
      refine am_r_iload5 (pc' := 33) rfl rfl ?_
      refine am_r_iload4 (pc' := 35) rfl rfl ?_
      refine am_r_icmp_gt (pt := 61) (pf := 38) rfl rfl rfl (fun h35 => ?_) (fun h35 => ?_)
      · exfalso; omega
      · refine am_r_aload0 (pc' := 39) rfl rfl ?_
        refine am_r_getR (t := 1) (pc' := 42) rfl rfl rfl ?_
        refine am_r_iload1 (pc' := 43) rfl rfl ?_
        refine am_r_iload2 (pc' := 44) rfl rfl ?_
        refine am_r_iload5 (pc' := 46) rfl rfl ?_
        refine am_r_invI3 (pc' := 49) rfl rfl rfl (Nat.le_of_ble_eq_true rfl) (c_meetOn (by omega) hX (by omega) (by omega) (by omega) ?_)
        refine am_r_if_eqB (pt := 55) (pf := 52) rfl rfl rfl (fun h49 => ?_) (fun h49 => ?_)
        · refine am_r_iinc5 (pc' := 58) rfl rfl rfl ?_
          refine am_r_goto (pc' := 31) rfl rfl ?_
          rw [f_first_f (p := g_mt σ a 0 b) h49] at hq; exact ih _ _ (by omega) hq
        · refine am_r_iload5 (pc' := 54) rfl rfl ?_
          refine am_r_iret rfl rfl ?_
          rw [f_first_t (p := g_mt σ a 0 b) h49] at hq; exact hq
  refine am_bi_of (P := am_pX1_firstMeeting) (rt := 1) (nL := 6) (Nat.le_of_ble_eq_true rfl) rfl (Nat.le_of_ble_eq_true rfl) rfl rfl rfl ?_
  refine am_r_iconst (pc' := 2) rfl rfl ?_
  refine am_r_iload3 (pc' := 3) rfl rfl ?_
  refine am_r_aload0 (pc' := 4) rfl rfl ?_
  refine am_r_getR (t := 1) (pc' := 7) rfl rfl rfl ?_
  refine am_r_getR (t := 2) (pc' := 10) rfl rfl rfl ?_
  refine am_r_iload1 (pc' := 11) rfl rfl ?_
  refine am_r_iaZv (n := 8) (pc' := 12) rfl rfl rfl (by decide) (sx_rd hX (by omega)) ?_
  refine am_r_aload0 (pc' := 13) rfl rfl ?_
  refine am_r_getR (t := 1) (pc' := 16) rfl rfl rfl ?_
  refine am_r_getR (t := 2) (pc' := 19) rfl rfl rfl ?_
  refine am_r_iload2 (pc' := 20) rfl rfl ?_
  refine am_r_iaZv (n := 8) (pc' := 21) rfl rfl rfl (by decide) (sx_rd hX (by omega)) ?_
  refine am_r_imul (pc' := 22) rfl rfl ?_
  refine am_r_iadd (pc' := 23) rfl rfl ?_
  refine am_r_minZ (pc' := 26) rfl rfl (Nat.le_of_ble_eq_true rfl) ?_
  refine am_r_istore4 (pc' := 28) rfl rfl rfl ?_
  refine am_r_iload3 (pc' := 29) rfl rfl ?_
  refine am_r_istore5 (pc' := 31) rfl rfl rfl ?_
  exact hl _ _ _ (by omega) hq
theorem c_meetingsIn {sL : Nat} {xs : Nat → Int32} {d : Nat} {M : Am_M} {Q : Int32 → Am_M → Prop} (hd : 5 ≤ d) {σ : Sg} (hX : SX M σ) {a b f0 : Int} (ha : 0 ≤ a ∧ a < s_n σ) (hb : 0 ≤ b ∧ b < s_n σ) (hf : 0 ≤ f0 ∧ f0 ≤ 100000) {n : Int} (hnn : 0 ≤ n ∧ n ≤ 999) (hq : Q (z_I (f_cnt (g_mt σ a 0 b) f0 n.toNat)) M) : am_bi sL xs d 3 [.ref 14, .int (z_I a), .int (z_I b), .int (z_I f0), .int (z_I n)] M Q := by
  obtain ⟨d, rfl⟩ : ∃ e, d = e + 1 := ⟨d - 1, by omega⟩
  have hn := sb_nb hX.1
  have hnr := sb_nrb hX.1
  have hl : ∀ (k : Nat) (i c : Int), (f0 ≤ i ∧ i + k = f0 + n) → (Q (z_I (c + f_cnt (g_mt σ a 0 b) i k)) M) → am_rw sL xs d am_pX1_meetingsIn 1 6 [.ref 14, .int (z_I a), .int (z_I b), .int (z_I f0), .int (z_I n), .int (z_I c), .int (z_I i)] [] M (am_pi Q) := by
    intro k
    induction k with
    | zero =>
      intro i c hk hq
      refine am_r_iload6 (pc' := 8) rfl rfl ?_
      refine am_r_iload3 (pc' := 9) rfl rfl ?_
      refine am_r_iload4 (pc' := 11) rfl rfl ?_
      refine am_r_iadd (pc' := 12) rfl rfl ?_
      refine am_r_icmp_ge (pt := 38) (pf := 15) rfl rfl rfl (fun h12 => ?_) (fun h12 => ?_)
      · refine am_r_iload5 (pc' := 40) rfl rfl ?_
        refine am_r_iret rfl rfl ?_
        rw [f_cnt_0] at hq; exact hq
      · exfalso; omega
    | succ k ih =>
      intro i c hk hq
      refine am_r_iload6 (pc' := 8) rfl rfl ?_
      refine am_r_iload3 (pc' := 9) rfl rfl ?_
      refine am_r_iload4 (pc' := 11) rfl rfl ?_
      refine am_r_iadd (pc' := 12) rfl rfl ?_
      refine am_r_icmp_ge (pt := 38) (pf := 15) rfl rfl rfl (fun h12 => ?_) (fun h12 => ?_)
      · exfalso; omega
      · refine am_r_aload0 (pc' := 16) rfl rfl ?_
        refine am_r_getR (t := 1) (pc' := 19) rfl rfl rfl ?_
        refine am_r_iload1 (pc' := 20) rfl rfl ?_
        refine am_r_iload2 (pc' := 21) rfl rfl ?_
        refine am_r_iload6 (pc' := 23) rfl rfl ?_
        refine am_r_invI3 (pc' := 26) rfl rfl rfl (Nat.le_of_ble_eq_true rfl) (c_meetOn (by omega) hX (by omega) (by omega) (by omega) ?_)
        refine am_r_if_eqB (pt := 32) (pf := 29) rfl rfl rfl (fun h26 => ?_) (fun h26 => ?_)
        · refine am_r_iinc6 (pc' := 35) rfl rfl rfl ?_
          refine am_r_goto (pc' := 6) rfl rfl ?_
          first | (rw [f_cnt_t (p := g_mt σ a 0 b) h26] at hq; exact ih _ _ (by omega) hq) | (rw [f_cnt_f (p := g_mt σ a 0 b) h26] at hq; exact ih _ _ (by omega) hq)
        · refine am_r_iinc5 (pc' := 32) rfl rfl rfl ?_
          refine am_r_iinc6 (pc' := 35) rfl rfl rfl ?_
          refine am_r_goto (pc' := 6) rfl rfl ?_
          first | (rw [f_cnt_t (p := g_mt σ a 0 b) h26] at hq; exact ih _ _ (by omega) hq) | (rw [f_cnt_f (p := g_mt σ a 0 b) h26] at hq; exact ih _ _ (by omega) hq)
  refine am_bi_of (P := am_pX1_meetingsIn) (rt := 1) (nL := 7) (Nat.le_of_ble_eq_true rfl) rfl (Nat.le_of_ble_eq_true rfl) rfl rfl rfl ?_
  refine am_r_iconst (pc' := 1) rfl rfl ?_
  refine am_r_istore5 (pc' := 3) rfl rfl rfl ?_
  refine am_r_iload3 (pc' := 4) rfl rfl ?_
  refine am_r_istore6 (pc' := 6) rfl rfl rfl ?_
  exact hl n.toNat f0 0 (by omega) (by rw [Int.zero_add]; exact hq)
theorem c_moodOn {sL : Nat} {xs : Nat → Int32} {d : Nat} {M : Am_M} {Q : Int32 → Am_M → Prop} (hd : 5 ≤ d) {σ : Sg} (hX : SX M σ) {a f0 : Int} (ha : 0 ≤ a ∧ a < s_n σ) (hf : 0 ≤ f0 ∧ f0 ≤ 101000) (hq : Q (z_I (g_mood σ a f0)) M) : am_bi sL xs d 8 [.ref 14, .int (z_I a), .int (z_I f0)] M Q := by
  obtain ⟨d, rfl⟩ : ∃ e, d = e + 1 := ⟨d - 1, by omega⟩
  have hn := sb_nb hX.1
  have hnr := sb_nrb hX.1
  have hl : ∀ (k : Nat) (i c : Int), (0 ≤ i ∧ i + k = s_n σ) → (Q (z_I (c + f_sum (g_ms σ a f0) i k)) M) → am_rw sL xs d am_pX1_moodOn 1 5 [.ref 14, .int (z_I a), .int (z_I f0), .int (z_I c), .int (z_I i)] [] M (am_pi Q) := by
    intro k
    induction k with
    | zero =>
      intro i c hk hq
      refine am_r_iload4 (pc' := 7) rfl rfl ?_
      refine am_r_aload0 (pc' := 8) rfl rfl ?_
      refine am_r_getR (t := 1) (pc' := 11) rfl rfl rfl ?_
      refine am_r_getIv (f := 5) (pc' := 14) rfl rfl rfl (sx_n hX) ?_
      refine am_r_icmp_ge (pt := 58) (pf := 17) rfl rfl rfl (fun h14 => ?_) (fun h14 => ?_)
      · refine am_r_iload3 (pc' := 59) rfl rfl ?_
        refine am_r_iret rfl rfl ?_
        rw [f_sum_0] at hq; exact hq
      · exfalso; omega
    | succ k ih =>
      intro i c hk hq
      refine am_r_iload4 (pc' := 7) rfl rfl ?_
      refine am_r_aload0 (pc' := 8) rfl rfl ?_
      refine am_r_getR (t := 1) (pc' := 11) rfl rfl rfl ?_
      refine am_r_getIv (f := 5) (pc' := 14) rfl rfl rfl (sx_n hX) ?_
      refine am_r_icmp_ge (pt := 58) (pf := 17) rfl rfl rfl (fun h14 => ?_) (fun h14 => ?_)
      · exfalso; omega
      · refine am_r_iload4 (pc' := 19) rfl rfl ?_
        refine am_r_iload1 (pc' := 20) rfl rfl ?_
        refine am_r_icmp_eq (pt := 52) (pf := 23) rfl rfl rfl (fun h20 => ?_) (fun h20 => ?_)
        · refine am_r_iinc4 (pc' := 55) rfl rfl rfl ?_
          refine am_r_goto (pc' := 5) rfl rfl ?_
          first | exact ih _ _ (by omega) (by rw [f_sum_s, show g_ms σ a f0 i = s_lk σ a i from if_pos ⟨h20, h34⟩] at hq; exact hq) | exact ih _ _ (by omega) (by rw [f_sum_s, show g_ms σ a f0 i = 0 from if_neg (fun z => h34 z.2), Int.add_zero] at hq; exact hq) | exact ih _ _ (by omega) (by rw [f_sum_s, show g_ms σ a f0 i = 0 from if_neg (fun z => z.1 h20), Int.add_zero] at hq; exact hq)
        · refine am_r_aload0 (pc' := 24) rfl rfl ?_
          refine am_r_getR (t := 1) (pc' := 27) rfl rfl rfl ?_
          refine am_r_iload1 (pc' := 28) rfl rfl ?_
          refine am_r_iload4 (pc' := 30) rfl rfl ?_
          refine am_r_iload2 (pc' := 31) rfl rfl ?_
          refine am_r_invI3 (pc' := 34) rfl rfl rfl (Nat.le_of_ble_eq_true rfl) (c_meetOn (by omega) hX (by omega) (by omega) (by omega) ?_)
          refine am_r_if_eqB (pt := 52) (pf := 37) rfl rfl rfl (fun h34 => ?_) (fun h34 => ?_)
          · refine am_r_iinc4 (pc' := 55) rfl rfl rfl ?_
            refine am_r_goto (pc' := 5) rfl rfl ?_
            first | exact ih _ _ (by omega) (by rw [f_sum_s, show g_ms σ a f0 i = s_lk σ a i from if_pos ⟨h20, h34⟩] at hq; exact hq) | exact ih _ _ (by omega) (by rw [f_sum_s, show g_ms σ a f0 i = 0 from if_neg (fun z => h34 z.2), Int.add_zero] at hq; exact hq) | exact ih _ _ (by omega) (by rw [f_sum_s, show g_ms σ a f0 i = 0 from if_neg (fun z => z.1 h20), Int.add_zero] at hq; exact hq)
          · refine am_r_iload3 (pc' := 38) rfl rfl ?_
            refine am_r_aload0 (pc' := 39) rfl rfl ?_
            refine am_r_getR (t := 1) (pc' := 42) rfl rfl rfl ?_
            refine am_r_getR (t := 5) (pc' := 45) rfl rfl rfl ?_
            refine am_r_iload1 (pc' := 46) rfl rfl ?_
            refine am_r_aaZ (n := 8) (t := 6) (pc' := 47) rfl rfl rfl rfl (by decide) ?_
            refine am_r_iload4 (pc' := 49) rfl rfl ?_
            refine am_r_iaZv (n := 8) (pc' := 50) rfl rfl (am_row8z (by omega)) (by decide) (sx_lk hX (by omega) (by omega)) ?_
            refine am_r_iadd (pc' := 51) rfl rfl ?_
            refine am_r_istore3 (pc' := 52) rfl rfl rfl ?_
            refine am_r_iinc4 (pc' := 55) rfl rfl rfl ?_
            refine am_r_goto (pc' := 5) rfl rfl ?_
            first | exact ih _ _ (by omega) (by rw [f_sum_s, show g_ms σ a f0 i = s_lk σ a i from if_pos ⟨h20, h34⟩] at hq; exact hq) | exact ih _ _ (by omega) (by rw [f_sum_s, show g_ms σ a f0 i = 0 from if_neg (fun z => h34 z.2), Int.add_zero] at hq; exact hq) | exact ih _ _ (by omega) (by rw [f_sum_s, show g_ms σ a f0 i = 0 from if_neg (fun z => z.1 h20), Int.add_zero] at hq; exact hq)
  refine am_bi_of (P := am_pX1_moodOn) (rt := 1) (nL := 5) (Nat.le_of_ble_eq_true rfl) rfl (Nat.le_of_ble_eq_true rfl) rfl rfl rfl ?_
  refine am_r_iconst (pc' := 1) rfl rfl ?_
  refine am_r_istore3 (pc' := 2) rfl rfl rfl ?_
  refine am_r_iconst (pc' := 3) rfl rfl ?_
  refine am_r_istore4 (pc' := 5) rfl rfl rfl ?_
  exact hl (s_n σ).toNat 0 0 (by omega) (by rw [Int.zero_add]; exact hq)
theorem g_ms_b {σ : Sg} (h : SB σ) {a d i : Int} (ha : 0 ≤ a ∧ a < s_n σ) (hi : 0 ≤ i ∧ i < 8) : -9 ≤ g_ms σ a d i ∧ g_ms σ a d i ≤ 9 := by
  have hn := sb_nb h
  have := sb_lk h (a := a) (b := i) (by omega) hi
  unfold g_ms
  split <;> omega
theorem f_sum_b {f : Int → Int} {m : Int} (hm : 0 ≤ m) : ∀ (k : Nat) (i : Int), (∀ j, i ≤ j → j < i + k → -m ≤ f j ∧ f j ≤ m) → -(m * k) ≤ f_sum f i k ∧ f_sum f i k ≤ m * k
  | 0, i, _ => by simp [f_sum]
  | k + 1, i, h => by
    have h1 := h i (by omega) (by omega)
    have h2 := f_sum_b hm k (i + 1) (fun j a b => h j (by omega) (by omega))
    simp only [f_sum]
    have e : m * ((k + 1 : Nat) : Int) = m * (k : Int) + m := by
      rw [show ((k + 1 : Nat) : Int) = (k : Int) + 1 by omega, Int.mul_add, Int.mul_one]
    rw [e]
    omega
theorem g_mood_b {σ : Sg} (h : SB σ) {a d : Int} (ha : 0 ≤ a ∧ a < s_n σ) : -72 ≤ g_mood σ a d ∧ g_mood σ a d ≤ 72 := by
  have hn := sb_nb h
  have := f_sum_b (f := g_ms σ a d) (m := 9) (by omega) (s_n σ).toNat 0 (fun j h1 h2 => g_ms_b h ha (by omega))
  unfold g_mood
  omega
/-- the day of the greatest mood: day and mood so far -/
def g_bst (σ : Sg) (a : Int) : Int → Int → Int → Nat → Int
  | b, _, _, 0 => b
  | b, v, i, k + 1 => if v < g_mood σ a i then g_bst σ a i (g_mood σ a i) (i + 1) k else g_bst σ a b v (i + 1) k
def g_best (σ : Sg) (a f0 n : Int) : Int := g_bst σ a f0 (g_mood σ a f0) (f0 + 1) (n - 1).toNat
theorem c_bestDay {sL : Nat} {xs : Nat → Int32} {d : Nat} {M : Am_M} {Q : Int32 → Am_M → Prop} (hd : 6 ≤ d) {σ : Sg} (hX : SX M σ) {a f0 : Int} (ha : 0 ≤ a ∧ a < s_n σ) (hf : 0 ≤ f0 ∧ f0 ≤ 10000) {n : Int} (hnn : 1 ≤ n ∧ n ≤ 999) (hq : Q (z_I (g_best σ a f0 n)) M) : am_bi sL xs d 9 [.ref 14, .int (z_I a), .int (z_I f0), .int (z_I n)] M Q := by
  obtain ⟨d, rfl⟩ : ∃ e, d = e + 1 := ⟨d - 1, by omega⟩
  have hn := sb_nb hX.1
  have hnr := sb_nrb hX.1
  have hmb0 := g_mood_b hX.1 (a := a) (d := f0) ha
  have hl : ∀ (k : Nat) (i c v : Int) (w8 : Value), (f0 + 1 ≤ i ∧ i + k = f0 + n ∧ -72 ≤ v ∧ v ≤ 72) → (Q (z_I (g_bst σ a c v i k)) M) → am_rw sL xs d am_pX1_bestDay 1 16 [.ref 14, .int (z_I a), .int (z_I f0), .int (z_I n), .int (z_I c), .int (z_I v), .int (z_I i), w8] [] M (am_pi Q) := by
    intro k
    induction k with
    | zero =>
      intro i c v w8 hk hq
      refine am_r_iload6 (pc' := 18) rfl rfl ?_
      refine am_r_iload2 (pc' := 19) rfl rfl ?_
      refine am_r_iload3 (pc' := 20) rfl rfl ?_
      refine am_r_iadd (pc' := 21) rfl rfl ?_
      refine am_r_icmp_ge (pt := 54) (pf := 24) rfl rfl rfl (fun h21 => ?_) (fun h21 => ?_)
      · refine am_r_iload4 (pc' := 56) rfl rfl ?_
        refine am_r_iret rfl rfl ?_
        exact hq
      · exfalso; omega
    | succ k ih =>
      intro i c v w8 hk hq
      refine am_r_iload6 (pc' := 18) rfl rfl ?_
      refine am_r_iload2 (pc' := 19) rfl rfl ?_
      refine am_r_iload3 (pc' := 20) rfl rfl ?_
      refine am_r_iadd (pc' := 21) rfl rfl ?_
      refine am_r_icmp_ge (pt := 54) (pf := 24) rfl rfl rfl (fun h21 => ?_) (fun h21 => ?_)
      · exfalso; omega
      · refine am_r_aload0 (pc' := 25) rfl rfl ?_
        refine am_r_iload1 (pc' := 26) rfl rfl ?_
        refine am_r_iload6 (pc' := 28) rfl rfl ?_
        refine am_r_invI2 (pc' := 31) rfl rfl rfl (Nat.le_of_ble_eq_true rfl) (c_moodOn (by omega) hX (by omega) (by omega) ?_)
        have hmb := g_mood_b hX.1 (a := a) (d := i) ha
        refine am_r_istore7 (pc' := 33) rfl rfl rfl ?_
        refine am_r_iload7 (pc' := 35) rfl rfl ?_
        refine am_r_iload5 (pc' := 37) rfl rfl ?_
        refine am_r_icmp_le (pt := 48) (pf := 40) rfl rfl rfl (fun h37 => ?_) (fun h37 => ?_)
        · refine am_r_iinc6 (pc' := 51) rfl rfl rfl ?_
          refine am_r_goto (pc' := 16) rfl rfl ?_
          first | exact ih _ _ _ _ (by omega) (by rw [show g_bst σ a c v i (k + 1) = g_bst σ a i (g_mood σ a i) (i + 1) k from if_pos (by omega)] at hq; exact hq) | exact ih _ _ _ _ (by omega) (by rw [show g_bst σ a c v i (k + 1) = g_bst σ a c v (i + 1) k from if_neg (by omega)] at hq; exact hq)
        · refine am_r_iload6 (pc' := 42) rfl rfl ?_
          refine am_r_istore4 (pc' := 44) rfl rfl rfl ?_
          refine am_r_iload7 (pc' := 46) rfl rfl ?_
          refine am_r_istore5 (pc' := 48) rfl rfl rfl ?_
          refine am_r_iinc6 (pc' := 51) rfl rfl rfl ?_
          refine am_r_goto (pc' := 16) rfl rfl ?_
          first | exact ih _ _ _ _ (by omega) (by rw [show g_bst σ a c v i (k + 1) = g_bst σ a i (g_mood σ a i) (i + 1) k from if_pos (by omega)] at hq; exact hq) | exact ih _ _ _ _ (by omega) (by rw [show g_bst σ a c v i (k + 1) = g_bst σ a c v (i + 1) k from if_neg (by omega)] at hq; exact hq)
  refine am_bi_of (P := am_pX1_bestDay) (rt := 1) (nL := 8) (Nat.le_of_ble_eq_true rfl) rfl (Nat.le_of_ble_eq_true rfl) rfl rfl rfl ?_
  refine am_r_iload2 (pc' := 1) rfl rfl ?_
  refine am_r_istore4 (pc' := 3) rfl rfl rfl ?_
  refine am_r_aload0 (pc' := 4) rfl rfl ?_
  refine am_r_iload1 (pc' := 5) rfl rfl ?_
  refine am_r_iload2 (pc' := 6) rfl rfl ?_
  refine am_r_invI2 (pc' := 9) rfl rfl rfl (Nat.le_of_ble_eq_true rfl) (c_moodOn (by omega) hX (by omega) (by omega) ?_)
  refine am_r_istore5 (pc' := 11) rfl rfl rfl ?_
  refine am_r_iload2 (pc' := 12) rfl rfl ?_
  refine am_r_iconst (pc' := 13) rfl rfl ?_
  refine am_r_iadd (pc' := 14) rfl rfl ?_
  refine am_r_istore6 (pc' := 16) rfl rfl rfl ?_
  exact hl (n - 1).toNat _ _ _ _ (by omega) hq
