/-! THE SKY: what the class's cells hold; its methods -/
/-- bodies, rounds, places, weights, likes, near -/
abbrev Sg : Type := Int × (Int → Int) × (Int → Int) × (Int → Int) × (Int → Int → Int) × Int
def s_n (σ : Sg) : Int := σ.1
def s_rd (σ : Sg) : Int → Int := σ.2.1
def s_pl (σ : Sg) : Int → Int := σ.2.2.1
def s_wt (σ : Sg) : Int → Int := σ.2.2.2.1
def s_lk (σ : Sg) : Int → Int → Int := σ.2.2.2.2.1
def s_nr (σ : Sg) : Int := σ.2.2.2.2.2
/-- the numbers are as the document has them -/
def SB (σ : Sg) : Prop := (0 ≤ s_n σ ∧ s_n σ ≤ 8) ∧ (0 ≤ s_nr σ ∧ s_nr σ ≤ 90) ∧ (∀ a, 0 ≤ a ∧ a < s_n σ → 1 ≤ s_rd σ a ∧ s_rd σ a ≤ 60 ∧ 0 ≤ s_pl σ a ∧ s_pl σ a < s_rd σ a ∧ 0 ≤ s_wt σ a ∧ s_wt σ a ≤ 9) ∧ (∀ a b, 0 ≤ a ∧ a < 8 → 0 ≤ b ∧ b < 8 → -9 ≤ s_lk σ a b ∧ s_lk σ a b ≤ 9)
def SX (M : Am_M) (σ : Sg) : Prop := SB σ ∧ M.1 1 5 = z_I (s_n σ) ∧ M.1 1 4 = z_I (s_nr σ) ∧ (∀ a, 0 ≤ a ∧ a < s_n σ → M.1 2 a.toNat = z_I (s_rd σ a)) ∧ (∀ a, 0 ≤ a ∧ a < s_n σ → M.1 3 a.toNat = z_I (s_pl σ a)) ∧ (∀ a, 0 ≤ a ∧ a < s_n σ → M.1 4 a.toNat = z_I (s_wt σ a)) ∧ (∀ a b, 0 ≤ a ∧ a < 8 → 0 ≤ b ∧ b < 8 → M.1 (6 + a.toNat) b.toNat = z_I (s_lk σ a b))
theorem sb_nb {σ : Sg} (h : SB σ) : 0 ≤ s_n σ ∧ s_n σ ≤ 8 := h.1
theorem sb_nrb {σ : Sg} (h : SB σ) : 0 ≤ s_nr σ ∧ s_nr σ ≤ 90 := h.2.1
theorem sg_b {σ : Sg} (h : SB σ) {a : Int} (ha : 0 ≤ a ∧ a < s_n σ) : 1 ≤ s_rd σ a ∧ s_rd σ a ≤ 60 ∧ 0 ≤ s_pl σ a ∧ s_pl σ a < s_rd σ a ∧ 0 ≤ s_wt σ a ∧ s_wt σ a ≤ 9 := h.2.2.1 a ha
theorem sb_lk {σ : Sg} (h : SB σ) {a b : Int} (ha : 0 ≤ a ∧ a < 8) (hb : 0 ≤ b ∧ b < 8) : -9 ≤ s_lk σ a b ∧ s_lk σ a b ≤ 9 := h.2.2.2 a b ha hb
theorem sx_n {M : Am_M} {σ : Sg} (h : SX M σ) : M.1 1 5 = z_I (s_n σ) := h.2.1
theorem sx_nr {M : Am_M} {σ : Sg} (h : SX M σ) : M.1 1 4 = z_I (s_nr σ) := h.2.2.1
theorem sx_rd {M : Am_M} {σ : Sg} (h : SX M σ) {a : Int} (ha : 0 ≤ a ∧ a < s_n σ) : M.1 2 a.toNat = z_I (s_rd σ a) := h.2.2.2.1 a ha
theorem sx_pl {M : Am_M} {σ : Sg} (h : SX M σ) {a : Int} (ha : 0 ≤ a ∧ a < s_n σ) : M.1 3 a.toNat = z_I (s_pl σ a) := h.2.2.2.2.1 a ha
theorem sx_wt {M : Am_M} {σ : Sg} (h : SX M σ) {a : Int} (ha : 0 ≤ a ∧ a < s_n σ) : M.1 4 a.toNat = z_I (s_wt σ a) := h.2.2.2.2.2.1 a ha
theorem sx_lk {M : Am_M} {σ : Sg} (h : SX M σ) {a b : Int} (ha : 0 ≤ a ∧ a < 8) (hb : 0 ≤ b ∧ b < 8) : M.1 (6 + a.toNat) b.toNat = z_I (s_lk σ a b) := h.2.2.2.2.2.2 a b ha hb
/-- degrees of a at a place; its place on a day; how far apart -/
def g_deg (σ : Sg) (a p : Int) : Int := 360 * p / s_rd σ a
def g_pl (σ : Sg) (a d : Int) : Int := (s_pl σ a + d) % s_rd σ a
def g_gap (x y : Int) : Int := min (if 0 ≤ x - y then x - y else -(x - y)) (360 - (if 0 ≤ x - y then x - y else -(x - y)))
def g_dg (σ : Sg) (a d : Int) : Int := g_deg σ a (g_pl σ a d)
/-- they would meet on day d, were a moved on by m now -/
def g_mt (σ : Sg) (a m b d : Int) : Bool := decide (g_gap (g_dg σ a (m + d)) (g_dg σ b d) ≤ s_nr σ)
theorem g_pl_b {σ : Sg} (h : SB σ) {a : Int} (ha : 0 ≤ a ∧ a < s_n σ) (d : Int) : 0 ≤ g_pl σ a d ∧ g_pl σ a d < s_rd σ a := by
  have := sg_b h ha
  exact ⟨Int.emod_nonneg _ (by omega), Int.emod_lt_of_pos _ (by omega)⟩
theorem g_deg_b {σ : Sg} (h : SB σ) {a p : Int} (ha : 0 ≤ a ∧ a < s_n σ) (hp : 0 ≤ p ∧ p < s_rd σ a) : 0 ≤ g_deg σ a p ∧ g_deg σ a p < 360 := by
  have := sg_b h ha
  exact ⟨Int.ediv_nonneg (by omega) (by omega), Int.ediv_lt_of_lt_mul (by omega) (by omega)⟩
theorem g_dg_b {σ : Sg} (h : SB σ) {a : Int} (ha : 0 ≤ a ∧ a < s_n σ) (d : Int) : 0 ≤ g_dg σ a d ∧ g_dg σ a d < 360 := g_deg_b h ha (g_pl_b h ha d)
theorem g_gap_b {x y : Int} (hx : 0 ≤ x ∧ x < 360) (hy : 0 ≤ y ∧ y < 360) : 0 ≤ g_gap x y ∧ g_gap x y ≤ 180 := by
  unfold g_gap
  split <;> omega
theorem z_xor0 {a b : Int} (ha : -2147483648 ≤ a ∧ a < 2147483648) (hb : -2147483648 ≤ b ∧ b < 2147483648) : 0 ≤ z_I a ^^^ z_I b ↔ (a < 0 ↔ b < 0) := by
  have key : ∀ x : Int32, 0 ≤ x ↔ x.toBitVec.msb = false := by
    intro x
    rw [Int32.le_iff_toInt_le]
    have h := BitVec.msb_eq_toInt (x := x.toBitVec)
    have h2 : x.toBitVec.toInt = x.toInt := rfl
    rw [h2] at h
    rw [h]
    simp
  have k2 : ∀ z : Int, (-2147483648 ≤ z ∧ z < 2147483648) → ((z_I z).toBitVec.msb = true ↔ z < 0) := by
    intro z hz
    have h := key (z_I z)
    rw [Int32.le_iff_toInt_le, z_toInt hz] at h
    have h0 : (0 : Int32).toInt = 0 := rfl
    rw [h0] at h
    cases hm : (z_I z).toBitVec.msb <;> simp [hm] at h ⊢ <;> omega
  rw [key, Int32.toBitVec_xor, BitVec.msb_xor]
  have e1 := k2 a ha
  have e2 := k2 b hb
  cases h1 : (z_I a).toBitVec.msb <;> cases h2 : (z_I b).toBitVec.msb <;> simp [h1, h2] at e1 e2 ⊢ <;> omega
theorem c_floorMod {sL : Nat} {xs : Nat → Int32} {d : Nat} {M : Am_M} {Q : Int32 → Am_M → Prop} (hd : 1 ≤ d) {a b : Int} (ha : -2147483648 ≤ a ∧ a < 2147483648) (hb : 0 < b ∧ b < 2147483648) (hq : Q (z_I (a % b)) M) : am_bi sL xs d 261 [.int (z_I a), .int (z_I b)] M Q := by
  obtain ⟨d, rfl⟩ : ∃ e, d = e + 1 := ⟨d - 1, by omega⟩
  have hm := Int.emod_nonneg a (show b ≠ 0 by omega)
  have hm2 := Int.emod_lt_of_pos a (show 0 < b by omega)
  have hte := Int.tmod_eq_emod (a := a) (b := b)
  have hnb : (b.natAbs : Int) = b := by omega
  have htb : -b < a.tmod b ∧ a.tmod b < b := by split at hte <;> omega
  refine am_bi_of (P := am_pJ9_floorMod_7cf53) (rt := 1) (nL := 3) (Nat.le_of_ble_eq_true rfl) rfl (Nat.le_of_ble_eq_true rfl) rfl rfl rfl ?_
  refine am_r_iload0 (pc' := 1) rfl rfl ?_
  refine am_r_iload1 (pc' := 2) rfl rfl ?_
  refine am_r_iremT (pc' := 3) rfl rfl ?_
  refine am_r_istore2 (pc' := 4) rfl rfl rfl ?_
  refine am_r_iload0 (pc' := 5) rfl rfl ?_
  refine am_r_iload1 (pc' := 6) rfl rfl ?_
  refine am_r_ixorR (pc' := 7) rfl rfl ?_
  have hx7 : (0 : Int32) ≤ z_I a ^^^ z_I b ↔ (a < 0 ↔ b < 0) := z_xor0 ha (by omega)
  refine am_r_if_geR (pt := 18) (pf := 10) rfl rfl rfl (fun h7 => ?_) (fun h7 => ?_)
  · refine am_r_iload2 (pc' := 19) rfl rfl ?_
    refine am_r_iret rfl rfl ?_
    (have e : a.tmod b = a % b := (by rw [hx7] at h7; split at hte <;> omega)); rw [e]; exact hq
  · refine am_r_iload2 (pc' := 11) rfl rfl ?_
    refine am_r_if_eq (pt := 18) (pf := 14) rfl rfl rfl (fun h11 => ?_) (fun h11 => ?_)
    · refine am_r_iload2 (pc' := 19) rfl rfl ?_
      refine am_r_iret rfl rfl ?_
      (have e : a.tmod b = a % b := (by rw [hx7] at h7; split at hte <;> omega)); rw [e]; exact hq
    · refine am_r_iload2 (pc' := 15) rfl rfl ?_
      refine am_r_iload1 (pc' := 16) rfl rfl ?_
      refine am_r_iadd (pc' := 17) rfl rfl ?_
      refine am_r_iret rfl rfl ?_
      (have e : a.tmod b + b = a % b := (by rw [hx7] at h7; split at hte <;> omega)); rw [e]; exact hq
theorem c_has {sL : Nat} {xs : Nat → Int32} {d : Nat} {M : Am_M} {Q : Int32 → Am_M → Prop} (hd : 1 ≤ d) {σ : Sg} (hX : SX M σ) {a : Int} (ha : -2147483648 ≤ a ∧ a < 2147483648)  (hq : Q (z_b (0 ≤ a ∧ a < s_n σ)) M) : am_bi sL xs d 71 [.ref 1, .int (z_I a)] M Q := by
  obtain ⟨d, rfl⟩ : ∃ e, d = e + 1 := ⟨d - 1, by omega⟩
  have hn := sb_nb hX.1
  have hnr := sb_nrb hX.1
  refine am_bi_of (P := am_pX7_has) (rt := 2) (nL := 2) (Nat.le_of_ble_eq_true rfl) rfl (Nat.le_of_ble_eq_true rfl) rfl rfl rfl ?_
  refine am_r_iload1 (pc' := 1) rfl rfl ?_
  refine am_r_if_lt (pt := 16) (pf := 4) rfl rfl rfl (fun h1 => ?_) (fun h1 => ?_)
  · refine am_r_iconst (pc' := 17) rfl rfl ?_
    refine am_r_zret rfl rfl (by first | exact Or.inr rfl | exact Or.inl rfl | exact z_b_01 _ | assumption) ?_
    first | (rw [z_bT (by omega)] at hq; exact hq) | (rw [z_bF (by omega)] at hq; exact hq)
  · refine am_r_iload1 (pc' := 5) rfl rfl ?_
    refine am_r_aload0 (pc' := 6) rfl rfl ?_
    refine am_r_getIv (f := 5) (pc' := 9) rfl rfl rfl (sx_n hX) ?_
    refine am_r_icmp_ge (pt := 16) (pf := 12) rfl rfl rfl (fun h9 => ?_) (fun h9 => ?_)
    · refine am_r_iconst (pc' := 17) rfl rfl ?_
      refine am_r_zret rfl rfl (by first | exact Or.inr rfl | exact Or.inl rfl | exact z_b_01 _ | assumption) ?_
      first | (rw [z_bT (by omega)] at hq; exact hq) | (rw [z_bF (by omega)] at hq; exact hq)
    · refine am_r_iconst (pc' := 13) rfl rfl ?_
      refine am_r_goto (pc' := 17) rfl rfl ?_
      refine am_r_zret rfl rfl (by first | exact Or.inr rfl | exact Or.inl rfl | exact z_b_01 _ | assumption) ?_
      first | (rw [z_bT (by omega)] at hq; exact hq) | (rw [z_bF (by omega)] at hq; exact hq)
theorem c_hasPair {sL : Nat} {xs : Nat → Int32} {d : Nat} {M : Am_M} {Q : Int32 → Am_M → Prop} (hd : 2 ≤ d) {σ : Sg} (hX : SX M σ) {a : Int} (ha : -2147483648 ≤ a ∧ a < 2147483648)  (hq : Q (z_b (0 ≤ a ∧ a / 10 < s_n σ ∧ a % 10 < s_n σ ∧ a / 10 ≠ a % 10)) M) : am_bi sL xs d 72 [.ref 1, .int (z_I a)] M Q := by
  obtain ⟨d, rfl⟩ : ∃ e, d = e + 1 := ⟨d - 1, by omega⟩
  have hn := sb_nb hX.1
  have hnr := sb_nrb hX.1
  refine am_bi_of (P := am_pX7_hasPair) (rt := 2) (nL := 2) (Nat.le_of_ble_eq_true rfl) rfl (Nat.le_of_ble_eq_true rfl) rfl rfl rfl ?_
  refine am_r_iload1 (pc' := 1) rfl rfl ?_
  refine am_r_if_lt (pt := 41) (pf := 4) rfl rfl rfl (fun h1 => ?_) (fun h1 => ?_)
  · refine am_r_iconst (pc' := 42) rfl rfl ?_
    refine am_r_zret rfl rfl (by first | exact Or.inr rfl | exact Or.inl rfl | exact z_b_01 _ | assumption) ?_
    first | (rw [z_bT (by omega)] at hq; exact hq) | (rw [z_bF (by omega)] at hq; exact hq)
  · refine am_r_aload0 (pc' := 5) rfl rfl ?_
    refine am_r_iload1 (pc' := 6) rfl rfl ?_
    refine am_r_iconst (pc' := 8) rfl rfl ?_
    refine am_r_idiv (pc' := 9) rfl rfl ?_
    refine am_r_invI1 (pc' := 12) rfl rfl rfl (Nat.le_of_ble_eq_true rfl) (c_has (by omega) hX (by omega) ?_)
    refine am_r_if_eqB (pt := 41) (pf := 15) rfl rfl rfl (fun h12 => ?_) (fun h12 => ?_)
    · refine am_r_iconst (pc' := 42) rfl rfl ?_
      refine am_r_zret rfl rfl (by first | exact Or.inr rfl | exact Or.inl rfl | exact z_b_01 _ | assumption) ?_
      first | (rw [z_bT (by omega)] at hq; exact hq) | (rw [z_bF (by omega)] at hq; exact hq)
    · refine am_r_aload0 (pc' := 16) rfl rfl ?_
      refine am_r_iload1 (pc' := 17) rfl rfl ?_
      refine am_r_iconst (pc' := 19) rfl rfl ?_
      refine am_r_irem (pc' := 20) rfl rfl ?_
      refine am_r_invI1 (pc' := 23) rfl rfl rfl (Nat.le_of_ble_eq_true rfl) (c_has (by omega) hX (by omega) ?_)
      refine am_r_if_eqB (pt := 41) (pf := 26) rfl rfl rfl (fun h23 => ?_) (fun h23 => ?_)
      · refine am_r_iconst (pc' := 42) rfl rfl ?_
        refine am_r_zret rfl rfl (by first | exact Or.inr rfl | exact Or.inl rfl | exact z_b_01 _ | assumption) ?_
        first | (rw [z_bT (by omega)] at hq; exact hq) | (rw [z_bF (by omega)] at hq; exact hq)
      · refine am_r_iload1 (pc' := 27) rfl rfl ?_
        refine am_r_iconst (pc' := 29) rfl rfl ?_
        refine am_r_idiv (pc' := 30) rfl rfl ?_
        refine am_r_iload1 (pc' := 31) rfl rfl ?_
        refine am_r_iconst (pc' := 33) rfl rfl ?_
        refine am_r_irem (pc' := 34) rfl rfl ?_
        refine am_r_icmp_eq (pt := 41) (pf := 37) rfl rfl rfl (fun h34 => ?_) (fun h34 => ?_)
        · refine am_r_iconst (pc' := 42) rfl rfl ?_
          refine am_r_zret rfl rfl (by first | exact Or.inr rfl | exact Or.inl rfl | exact z_b_01 _ | assumption) ?_
          first | (rw [z_bT (by omega)] at hq; exact hq) | (rw [z_bF (by omega)] at hq; exact hq)
        · refine am_r_iconst (pc' := 38) rfl rfl ?_
          refine am_r_goto (pc' := 42) rfl rfl ?_
          refine am_r_zret rfl rfl (by first | exact Or.inr rfl | exact Or.inl rfl | exact z_b_01 _ | assumption) ?_
          first | (rw [z_bT (by omega)] at hq; exact hq) | (rw [z_bF (by omega)] at hq; exact hq)
theorem z_shl1 {n : Int} (h : 0 ≤ n ∧ n < 31) : z_I 1 <<< (z_I n &&& 31) = z_I (2 ^ n.toNat) := by
  obtain ⟨k, rfl⟩ : ∃ k : Nat, n = k := ⟨n.toNat, by omega⟩
  have hk : k < 31 := by omega
  have : ∀ k : Nat, k < 31 → z_I 1 <<< (z_I (k : Int) &&& 31) = z_I (2 ^ k) := by decide +kernel
  exact this k hk
theorem z_pow8 {n : Int} (h : 0 ≤ n ∧ n ≤ 8) : 1 ≤ (2 : Int) ^ n.toNat ∧ (2 : Int) ^ n.toNat ≤ 256 := by
  obtain ⟨k, rfl⟩ : ∃ k : Nat, n = k := ⟨n.toNat, by omega⟩
  have : ∀ k : Nat, k ≤ 8 → 1 ≤ (2 : Int) ^ k ∧ (2 : Int) ^ k ≤ 256 := by decide +kernel
  exact this k (by omega)
theorem c_hasAll {sL : Nat} {xs : Nat → Int32} {d : Nat} {M : Am_M} {Q : Int32 → Am_M → Prop} (hd : 1 ≤ d) {σ : Sg} (hX : SX M σ) {a : Int} (ha : -2147483648 ≤ a ∧ a < 2147483648)  (hq : Q (z_b (0 ≤ a ∧ a < 2 ^ (s_n σ).toNat)) M) : am_bi sL xs d 73 [.ref 1, .int (z_I a)] M Q := by
  obtain ⟨d, rfl⟩ : ∃ e, d = e + 1 := ⟨d - 1, by omega⟩
  have hn := sb_nb hX.1
  have hnr := sb_nrb hX.1
  have hp := z_pow8 hn
  refine am_bi_of (P := am_pX7_hasAll) (rt := 2) (nL := 2) (Nat.le_of_ble_eq_true rfl) rfl (Nat.le_of_ble_eq_true rfl) rfl rfl rfl ?_
  refine am_r_iload1 (pc' := 1) rfl rfl ?_
  refine am_r_if_lt (pt := 18) (pf := 4) rfl rfl rfl (fun h1 => ?_) (fun h1 => ?_)
  · refine am_r_iconst (pc' := 19) rfl rfl ?_
    refine am_r_zret rfl rfl (by first | exact Or.inr rfl | exact Or.inl rfl | exact z_b_01 _ | assumption) ?_
    first | (rw [z_bT (by omega)] at hq; exact hq) | (rw [z_bF (by omega)] at hq; exact hq)
  · refine am_r_iload1 (pc' := 5) rfl rfl ?_
    refine am_r_iconst (pc' := 6) rfl rfl ?_
    refine am_r_aload0 (pc' := 7) rfl rfl ?_
    refine am_r_getIv (f := 5) (pc' := 10) rfl rfl rfl (sx_n hX) ?_
    refine am_r_ishl (pc' := 11) rfl rfl ?_
    rw [z_shl1 (by omega)]
    refine am_r_icmp_ge (pt := 18) (pf := 14) rfl rfl rfl (fun h11 => ?_) (fun h11 => ?_)
    · refine am_r_iconst (pc' := 19) rfl rfl ?_
      refine am_r_zret rfl rfl (by first | exact Or.inr rfl | exact Or.inl rfl | exact z_b_01 _ | assumption) ?_
      first | (rw [z_bT (by omega)] at hq; exact hq) | (rw [z_bF (by omega)] at hq; exact hq)
    · refine am_r_iconst (pc' := 15) rfl rfl ?_
      refine am_r_goto (pc' := 19) rfl rfl ?_
      refine am_r_zret rfl rfl (by first | exact Or.inr rfl | exact Or.inl rfl | exact z_b_01 _ | assumption) ?_
      first | (rw [z_bT (by omega)] at hq; exact hq) | (rw [z_bF (by omega)] at hq; exact hq)
theorem c_degrees {sL : Nat} {xs : Nat → Int32} {d : Nat} {M : Am_M} {Q : Int32 → Am_M → Prop} (hd : 1 ≤ d) {σ : Sg} (hX : SX M σ) {a p : Int} (ha : 0 ≤ a ∧ a < s_n σ) (hp : 0 ≤ p ∧ p < s_rd σ a) (hq : Q (z_I (g_deg σ a p)) M) : am_bi sL xs d 78 [.ref 1, .int (z_I a), .int (z_I p)] M Q := by
  obtain ⟨d, rfl⟩ : ∃ e, d = e + 1 := ⟨d - 1, by omega⟩
  have hn := sb_nb hX.1
  have hnr := sb_nrb hX.1
  have hb := sg_b hX.1 ha
  refine am_bi_of (P := am_pX7_degrees) (rt := 1) (nL := 3) (Nat.le_of_ble_eq_true rfl) rfl (Nat.le_of_ble_eq_true rfl) rfl rfl rfl ?_
  refine am_r_iconst (pc' := 3) rfl rfl ?_
  refine am_r_iload2 (pc' := 4) rfl rfl ?_
  refine am_r_imul (pc' := 5) rfl rfl ?_
  refine am_r_aload0 (pc' := 6) rfl rfl ?_
  refine am_r_getR (t := 2) (pc' := 9) rfl rfl rfl ?_
  refine am_r_iload1 (pc' := 10) rfl rfl ?_
  refine am_r_iaZv (n := 8) (pc' := 11) rfl rfl rfl (by decide) (sx_rd hX (by omega)) ?_
  refine am_r_idiv (pc' := 12) rfl rfl ?_
  refine am_r_iret rfl rfl ?_
  exact hq
theorem c_gap {sL : Nat} {xs : Nat → Int32} {d : Nat} {M : Am_M} {Q : Int32 → Am_M → Prop} (hd : 1 ≤ d) {x y : Int} (hx : 0 ≤ x ∧ x < 360) (hy : 0 ≤ y ∧ y < 360) (hq : Q (z_I (g_gap x y)) M) : am_bi sL xs d 79 [.int (z_I x), .int (z_I y)] M Q := by
  obtain ⟨d, rfl⟩ : ∃ e, d = e + 1 := ⟨d - 1, by omega⟩
  refine am_bi_of (P := am_pX7_gap) (rt := 1) (nL := 3) (Nat.le_of_ble_eq_true rfl) rfl (Nat.le_of_ble_eq_true rfl) rfl rfl rfl ?_
  refine am_r_iload0 (pc' := 1) rfl rfl ?_
  refine am_r_iload1 (pc' := 2) rfl rfl ?_
  refine am_r_isub (pc' := 3) rfl rfl ?_
  have hab : 0 ≤ (if 0 ≤ x - y then x - y else -(x - y)) ∧ (if 0 ≤ x - y then x - y else -(x - y)) < 360 := by split <;> omega
  refine am_r_absZ (pc' := 6) rfl rfl (Nat.le_of_ble_eq_true rfl) ?_
  refine am_r_istore2 (pc' := 7) rfl rfl rfl ?_
  refine am_r_iload2 (pc' := 8) rfl rfl ?_
  refine am_r_iconst (pc' := 11) rfl rfl ?_
  refine am_r_iload2 (pc' := 12) rfl rfl ?_
  refine am_r_isub (pc' := 13) rfl rfl ?_
  refine am_r_minZ (pc' := 16) rfl rfl (Nat.le_of_ble_eq_true rfl) ?_
  refine am_r_iret rfl rfl ?_
  exact hq
theorem c_placeOn {sL : Nat} {xs : Nat → Int32} {d : Nat} {M : Am_M} {Q : Int32 → Am_M → Prop} (hd : 2 ≤ d) {σ : Sg} (hX : SX M σ) {a d0 : Int} (ha : 0 ≤ a ∧ a < s_n σ) (hdd : -1000000 ≤ d0 ∧ d0 ≤ 1000000) (hq : Q (z_I (g_pl σ a d0)) M) : am_bi sL xs d 80 [.ref 1, .int (z_I a), .int (z_I d0)] M Q := by
  obtain ⟨d, rfl⟩ : ∃ e, d = e + 1 := ⟨d - 1, by omega⟩
  have hn := sb_nb hX.1
  have hnr := sb_nrb hX.1
  have hb := sg_b hX.1 ha
  refine am_bi_of (P := am_pX7_placeOn) (rt := 1) (nL := 3) (Nat.le_of_ble_eq_true rfl) rfl (Nat.le_of_ble_eq_true rfl) rfl rfl rfl ?_
  refine am_r_aload0 (pc' := 1) rfl rfl ?_
  refine am_r_getR (t := 3) (pc' := 4) rfl rfl rfl ?_
  refine am_r_iload1 (pc' := 5) rfl rfl ?_
  refine am_r_iaZv (n := 8) (pc' := 6) rfl rfl rfl (by decide) (sx_pl hX (by omega)) ?_
  refine am_r_iload2 (pc' := 7) rfl rfl ?_
  refine am_r_iadd (pc' := 8) rfl rfl ?_
  refine am_r_aload0 (pc' := 9) rfl rfl ?_
  refine am_r_getR (t := 2) (pc' := 12) rfl rfl rfl ?_
  refine am_r_iload1 (pc' := 13) rfl rfl ?_
  refine am_r_iaZv (n := 8) (pc' := 14) rfl rfl rfl (by decide) (sx_rd hX (by omega)) ?_
  refine am_r_ivsI2 (pc' := 17) rfl rfl rfl (Nat.le_of_ble_eq_true rfl) (c_floorMod (by omega) (by omega) (by omega) ?_)
  refine am_r_iret rfl rfl ?_
  exact hq
theorem c_degreesOn {sL : Nat} {xs : Nat → Int32} {d : Nat} {M : Am_M} {Q : Int32 → Am_M → Prop} (hd : 3 ≤ d) {σ : Sg} (hX : SX M σ) {a d0 : Int} (ha : 0 ≤ a ∧ a < s_n σ) (hdd : -1000000 ≤ d0 ∧ d0 ≤ 1000000) (hq : Q (z_I (g_dg σ a d0)) M) : am_bi sL xs d 81 [.ref 1, .int (z_I a), .int (z_I d0)] M Q := by
  obtain ⟨d, rfl⟩ : ∃ e, d = e + 1 := ⟨d - 1, by omega⟩
  have hn := sb_nb hX.1
  have hnr := sb_nrb hX.1
  have hb := sg_b hX.1 ha
  refine am_bi_of (P := am_pX7_degreesOn) (rt := 1) (nL := 3) (Nat.le_of_ble_eq_true rfl) rfl (Nat.le_of_ble_eq_true rfl) rfl rfl rfl ?_
  refine am_r_aload0 (pc' := 1) rfl rfl ?_
  refine am_r_iload1 (pc' := 2) rfl rfl ?_
  refine am_r_aload0 (pc' := 3) rfl rfl ?_
  refine am_r_iload1 (pc' := 4) rfl rfl ?_
  refine am_r_iload2 (pc' := 5) rfl rfl ?_
  refine am_r_invI2 (pc' := 8) rfl rfl rfl (Nat.le_of_ble_eq_true rfl) (c_placeOn (by omega) hX (by omega) (by omega) ?_)
  refine am_r_invI2 (pc' := 11) rfl rfl rfl (Nat.le_of_ble_eq_true rfl) (c_degrees (by omega) hX (by omega) (g_pl_b hX.1 (by omega) _) ?_)
  refine am_r_iret rfl rfl ?_
  exact hq
theorem c_gapOn {sL : Nat} {xs : Nat → Int32} {d : Nat} {M : Am_M} {Q : Int32 → Am_M → Prop} (hd : 4 ≤ d) {σ : Sg} (hX : SX M σ) {a b d0 : Int} (ha : 0 ≤ a ∧ a < s_n σ) (hb : 0 ≤ b ∧ b < s_n σ) (hdd : -1000000 ≤ d0 ∧ d0 ≤ 1000000) (hq : Q (z_I (g_gap (g_dg σ a d0) (g_dg σ b d0))) M) : am_bi sL xs d 82 [.ref 1, .int (z_I a), .int (z_I b), .int (z_I d0)] M Q := by
  obtain ⟨d, rfl⟩ : ∃ e, d = e + 1 := ⟨d - 1, by omega⟩
  have hn := sb_nb hX.1
  have hnr := sb_nrb hX.1
  refine am_bi_of (P := am_pX7_gapOn) (rt := 1) (nL := 4) (Nat.le_of_ble_eq_true rfl) rfl (Nat.le_of_ble_eq_true rfl) rfl rfl rfl ?_
  refine am_r_aload0 (pc' := 1) rfl rfl ?_
  refine am_r_iload1 (pc' := 2) rfl rfl ?_
  refine am_r_iload3 (pc' := 3) rfl rfl ?_
  refine am_r_invI2 (pc' := 6) rfl rfl rfl (Nat.le_of_ble_eq_true rfl) (c_degreesOn (by omega) hX (by omega) (by omega) ?_)
  refine am_r_aload0 (pc' := 7) rfl rfl ?_
  refine am_r_iload2 (pc' := 8) rfl rfl ?_
  refine am_r_iload3 (pc' := 9) rfl rfl ?_
  refine am_r_invI2 (pc' := 12) rfl rfl rfl (Nat.le_of_ble_eq_true rfl) (c_degreesOn (by omega) hX (by omega) (by omega) ?_)
  refine am_r_ivsI2 (pc' := 15) rfl rfl rfl (Nat.le_of_ble_eq_true rfl) (c_gap (by omega) (g_dg_b hX.1 (by omega) _) (g_dg_b hX.1 (by omega) _) ?_)
  refine am_r_iret rfl rfl ?_
  exact hq
theorem c_meetOn {sL : Nat} {xs : Nat → Int32} {d : Nat} {M : Am_M} {Q : Int32 → Am_M → Prop} (hd : 4 ≤ d) {σ : Sg} (hX : SX M σ) {a b d0 : Int} (ha : 0 ≤ a ∧ a < s_n σ) (hb : 0 ≤ b ∧ b < s_n σ) (hdd : -1000000 ≤ d0 ∧ d0 ≤ 1000000) (hq : Q (z_b (g_mt σ a 0 b d0 = true)) M) : am_bi sL xs d 83 [.ref 1, .int (z_I a), .int (z_I b), .int (z_I d0)] M Q := by
  obtain ⟨d, rfl⟩ : ∃ e, d = e + 1 := ⟨d - 1, by omega⟩
  have hn := sb_nb hX.1
  have hnr := sb_nrb hX.1
  have hgap := g_gap_b (g_dg_b hX.1 ha d0) (g_dg_b hX.1 hb d0)
  refine am_bi_of (P := am_pX7_meetOn) (rt := 2) (nL := 4) (Nat.le_of_ble_eq_true rfl) rfl (Nat.le_of_ble_eq_true rfl) rfl rfl rfl ?_
  refine am_r_aload0 (pc' := 1) rfl rfl ?_
  refine am_r_iload1 (pc' := 2) rfl rfl ?_
  refine am_r_iload3 (pc' := 3) rfl rfl ?_
  refine am_r_invI2 (pc' := 6) rfl rfl rfl (Nat.le_of_ble_eq_true rfl) (c_degreesOn (by omega) hX (by omega) (by omega) ?_)
  refine am_r_aload0 (pc' := 7) rfl rfl ?_
  refine am_r_iload2 (pc' := 8) rfl rfl ?_
  refine am_r_iload3 (pc' := 9) rfl rfl ?_
  refine am_r_invI2 (pc' := 12) rfl rfl rfl (Nat.le_of_ble_eq_true rfl) (c_degreesOn (by omega) hX (by omega) (by omega) ?_)
  refine am_r_ivsI2 (pc' := 15) rfl rfl rfl (Nat.le_of_ble_eq_true rfl) (c_gap (by omega) (g_dg_b hX.1 (by omega) _) (g_dg_b hX.1 (by omega) _) ?_)
  refine am_r_aload0 (pc' := 16) rfl rfl ?_
  refine am_r_getIv (f := 4) (pc' := 19) rfl rfl rfl (sx_nr hX) ?_
  refine am_r_icmp_gt (pt := 26) (pf := 22) rfl rfl rfl (fun h19 => ?_) (fun h19 => ?_)
  · refine am_r_iconst (pc' := 27) rfl rfl ?_
    refine am_r_zret rfl rfl (by first | exact Or.inr rfl | exact Or.inl rfl | exact z_b_01 _ | assumption) ?_
    first | (rw [show g_mt σ a 0 b d0 = true from by unfold g_mt; simp only [Int.zero_add, decide_eq_true_eq]; omega] at hq; exact hq) | (rw [show g_mt σ a 0 b d0 = false from by unfold g_mt; simp only [Int.zero_add, decide_eq_false_iff_not]; omega] at hq; exact hq)
  · refine am_r_iconst (pc' := 23) rfl rfl ?_
    refine am_r_goto (pc' := 27) rfl rfl ?_
    refine am_r_zret rfl rfl (by first | exact Or.inr rfl | exact Or.inl rfl | exact z_b_01 _ | assumption) ?_
    first | (rw [show g_mt σ a 0 b d0 = true from by unfold g_mt; simp only [Int.zero_add, decide_eq_true_eq]; omega] at hq; exact hq) | (rw [show g_mt σ a 0 b d0 = false from by unfold g_mt; simp only [Int.zero_add, decide_eq_false_iff_not]; omega] at hq; exact hq)
theorem c_meetMoved {sL : Nat} {xs : Nat → Int32} {d : Nat} {M : Am_M} {Q : Int32 → Am_M → Prop} (hd : 4 ≤ d) {σ : Sg} (hX : SX M σ) {a m b d0 : Int} (ha : 0 ≤ a ∧ a < s_n σ) (hm : -1000 ≤ m ∧ m ≤ 1000) (hb : 0 ≤ b ∧ b < s_n σ) (hdd : -200000 ≤ d0 ∧ d0 ≤ 200000) (hq : Q (z_b (g_mt σ a m b d0 = true)) M) : am_bi sL xs d 84 [.ref 1, .int (z_I a), .int (z_I m), .int (z_I b), .int (z_I d0)] M Q := by
  obtain ⟨d, rfl⟩ : ∃ e, d = e + 1 := ⟨d - 1, by omega⟩
  have hn := sb_nb hX.1
  have hnr := sb_nrb hX.1
  have hgap := g_gap_b (g_dg_b hX.1 ha (m + d0)) (g_dg_b hX.1 hb d0)
  refine am_bi_of (P := am_pX7_meetMoved) (rt := 2) (nL := 5) (Nat.le_of_ble_eq_true rfl) rfl (Nat.le_of_ble_eq_true rfl) rfl rfl rfl ?_
  refine am_r_aload0 (pc' := 1) rfl rfl ?_
  refine am_r_iload1 (pc' := 2) rfl rfl ?_
  refine am_r_iload2 (pc' := 3) rfl rfl ?_
  refine am_r_iload4 (pc' := 5) rfl rfl ?_
  refine am_r_iadd (pc' := 6) rfl rfl ?_
  refine am_r_invI2 (pc' := 9) rfl rfl rfl (Nat.le_of_ble_eq_true rfl) (c_degreesOn (by omega) hX (by omega) (by omega) ?_)
  refine am_r_aload0 (pc' := 10) rfl rfl ?_
  refine am_r_iload3 (pc' := 11) rfl rfl ?_
  refine am_r_iload4 (pc' := 13) rfl rfl ?_
  refine am_r_invI2 (pc' := 16) rfl rfl rfl (Nat.le_of_ble_eq_true rfl) (c_degreesOn (by omega) hX (by omega) (by omega) ?_)
  refine am_r_ivsI2 (pc' := 19) rfl rfl rfl (Nat.le_of_ble_eq_true rfl) (c_gap (by omega) (g_dg_b hX.1 (by omega) _) (g_dg_b hX.1 (by omega) _) ?_)
  refine am_r_aload0 (pc' := 20) rfl rfl ?_
  refine am_r_getIv (f := 4) (pc' := 23) rfl rfl rfl (sx_nr hX) ?_
  refine am_r_icmp_gt (pt := 30) (pf := 26) rfl rfl rfl (fun h23 => ?_) (fun h23 => ?_)
  · refine am_r_iconst (pc' := 31) rfl rfl ?_
    refine am_r_zret rfl rfl (by first | exact Or.inr rfl | exact Or.inl rfl | exact z_b_01 _ | assumption) ?_
    first | (rw [show g_mt σ a m b d0 = true from by unfold g_mt; simp only [Int.zero_add, decide_eq_true_eq]; omega] at hq; exact hq) | (rw [show g_mt σ a m b d0 = false from by unfold g_mt; simp only [Int.zero_add, decide_eq_false_iff_not]; omega] at hq; exact hq)
  · refine am_r_iconst (pc' := 27) rfl rfl ?_
    refine am_r_goto (pc' := 31) rfl rfl ?_
    refine am_r_zret rfl rfl (by first | exact Or.inr rfl | exact Or.inl rfl | exact z_b_01 _ | assumption) ?_
    first | (rw [show g_mt σ a m b d0 = true from by unfold g_mt; simp only [Int.zero_add, decide_eq_true_eq]; omega] at hq; exact hq) | (rw [show g_mt σ a m b d0 = false from by unfold g_mt; simp only [Int.zero_add, decide_eq_false_iff_not]; omega] at hq; exact hq)
theorem z_b_cg {c c' : Prop} [Decidable c] [Decidable c'] {Q : Int32 → Am_M → Prop} {M : Am_M} (h : c ↔ c') (hq : Q (z_b c) M) : Q (z_b c') M := by
  have e : z_b c = z_b c' := by
    unfold z_b
    by_cases hc : c
    · rw [if_pos hc, if_pos (h.mp hc)]
    · rw [if_neg hc, if_neg (fun z => hc (h.mpr z))]
  rw [← e]
  exact hq
theorem c_hasNumber {sL : Nat} {xs : Nat → Int32} {d : Nat} {M : Am_M} {Q : Int32 → Am_M → Prop} (hd : 3 ≤ d) {σ : Sg} (hX : SX M σ) {a : Int} (ha : -2147483648 ≤ a ∧ a < 2147483648) {w : Int} (hw : -2147483648 ≤ w ∧ w < 2147483648)  (hq : Q (z_b ((w = 0 ∧ 0 ≤ a ∧ a < s_n σ) ∨ (w = 1 ∧ 0 ≤ a ∧ a < s_n σ) ∨ (w = 2 ∧ 0 ≤ a ∧ a / 10 < s_n σ ∧ a % 10 < s_n σ ∧ a / 10 ≠ a % 10) ∨ (w = 3 ∧ a = 0))) M) : am_bi sL xs d 74 [.ref 1, .int (z_I a), .int (z_I w)] M Q := by
  obtain ⟨d, rfl⟩ : ∃ e, d = e + 1 := ⟨d - 1, by omega⟩
  have hn := sb_nb hX.1
  have hnr := sb_nrb hX.1
  refine am_bi_of (P := am_pX7_hasNumber) (rt := 2) (nL := 3) (Nat.le_of_ble_eq_true rfl) rfl (Nat.le_of_ble_eq_true rfl) rfl rfl rfl ?_
  refine am_r_iload2 (pc' := 1) rfl rfl ?_
  rcases (show w = 0 ∨ w = 1 ∨ w = 2 ∨ w = 3 ∨ (¬ w = 0 ∧ ¬ w = 1 ∧ ¬ w = 2 ∧ ¬ w = 3) by omega) with rfl | rfl | rfl | rfl | hsw1
  · refine am_r_tsw (t := 32) rfl rfl ?_
    refine am_r_aload0 (pc' := 33) rfl rfl ?_
    refine am_r_iload1 (pc' := 34) rfl rfl ?_
    refine am_r_invI1 (pc' := 37) rfl rfl rfl (Nat.le_of_ble_eq_true rfl) (c_has (by omega) hX (by omega) ?_)
    refine am_r_zret rfl rfl (by first | exact Or.inr rfl | exact Or.inl rfl | exact z_b_01 _ | assumption) ?_
    first | (rw [z_bT (by omega)] at hq; exact hq) | (rw [z_bF (by omega)] at hq; exact hq) | (exact z_b_cg (by omega) hq)
  · refine am_r_tsw (t := 38) rfl rfl ?_
    refine am_r_aload0 (pc' := 39) rfl rfl ?_
    refine am_r_iload1 (pc' := 40) rfl rfl ?_
    refine am_r_invI1 (pc' := 43) rfl rfl rfl (Nat.le_of_ble_eq_true rfl) (c_has (by omega) hX (by omega) ?_)
    refine am_r_zret rfl rfl (by first | exact Or.inr rfl | exact Or.inl rfl | exact z_b_01 _ | assumption) ?_
    first | (rw [z_bT (by omega)] at hq; exact hq) | (rw [z_bF (by omega)] at hq; exact hq) | (exact z_b_cg (by omega) hq)
  · refine am_r_tsw (t := 44) rfl rfl ?_
    refine am_r_aload0 (pc' := 45) rfl rfl ?_
    refine am_r_iload1 (pc' := 46) rfl rfl ?_
    refine am_r_invI1 (pc' := 49) rfl rfl rfl (Nat.le_of_ble_eq_true rfl) (c_hasPair (by omega) hX (by omega) ?_)
    refine am_r_zret rfl rfl (by first | exact Or.inr rfl | exact Or.inl rfl | exact z_b_01 _ | assumption) ?_
    first | (rw [z_bT (by omega)] at hq; exact hq) | (rw [z_bF (by omega)] at hq; exact hq) | (exact z_b_cg (by omega) hq)
  · refine am_r_tsw (t := 50) rfl rfl ?_
    refine am_r_iload1 (pc' := 51) rfl rfl ?_
    refine am_r_if_ne (pt := 58) (pf := 54) rfl rfl rfl (fun h51 => ?_) (fun h51 => ?_)
    · refine am_r_iconst (pc' := 59) rfl rfl ?_
      refine am_r_zret rfl rfl (by first | exact Or.inr rfl | exact Or.inl rfl | exact z_b_01 _ | assumption) ?_
      first | (rw [z_bT (by omega)] at hq; exact hq) | (rw [z_bF (by omega)] at hq; exact hq) | (exact z_b_cg (by omega) hq)
    · refine am_r_iconst (pc' := 55) rfl rfl ?_
      refine am_r_goto (pc' := 59) rfl rfl ?_
      refine am_r_zret rfl rfl (by first | exact Or.inr rfl | exact Or.inl rfl | exact z_b_01 _ | assumption) ?_
      first | (rw [z_bT (by omega)] at hq; exact hq) | (rw [z_bF (by omega)] at hq; exact hq) | (exact z_b_cg (by omega) hq)
  · refine am_r_tsw (t := 60) rfl (by rw [if_pos (by omega)]; rfl) ?_
    refine am_r_iconst (pc' := 61) rfl rfl ?_
    refine am_r_zret rfl rfl (by first | exact Or.inr rfl | exact Or.inl rfl | exact z_b_01 _ | assumption) ?_
    first | (rw [z_bT (by omega)] at hq; exact hq) | (rw [z_bF (by omega)] at hq; exact hq) | (exact z_b_cg (by omega) hq)
theorem c_fitsNumber {sL : Nat} {xs : Nat → Int32} {d : Nat} {M : Am_M} {Q : Int32 → Am_M → Prop} (hd : 1 ≤ d) {σ : Sg} (hX : SX M σ) {a w v : Int} (hh : ((w = 0 ∧ 0 ≤ a ∧ a < s_n σ) ∨ (w = 1 ∧ 0 ≤ a ∧ a < s_n σ) ∨ (w = 2 ∧ 0 ≤ a ∧ a / 10 < s_n σ ∧ a % 10 < s_n σ ∧ a / 10 ≠ a % 10) ∨ (w = 3 ∧ a = 0))) (hv : -2147483648 ≤ v ∧ v < 2147483648)  (hq : Q (z_b ((w = 0 ∧ 0 ≤ v ∧ v < s_rd σ a) ∨ (w = 1 ∧ 0 ≤ v ∧ v ≤ 9) ∨ (w = 2 ∧ -9 ≤ v ∧ v ≤ 9) ∨ (w = 3 ∧ 0 ≤ v ∧ v ≤ 90))) M) : am_bi sL xs d 75 [.ref 1, .int (z_I a), .int (z_I w), .int (z_I v)] M Q := by
  obtain ⟨d, rfl⟩ : ∃ e, d = e + 1 := ⟨d - 1, by omega⟩
  have hn := sb_nb hX.1
  have hnr := sb_nrb hX.1
  have hb := fun q => sg_b hX.1 (a := a) q
  refine am_bi_of (P := am_pX7_fitsNumber) (rt := 2) (nL := 4) (Nat.le_of_ble_eq_true rfl) rfl (Nat.le_of_ble_eq_true rfl) rfl rfl rfl ?_
  refine am_r_iload2 (pc' := 1) rfl rfl ?_
  rcases (show w = 0 ∨ w = 1 ∨ w = 2 ∨ w = 3 ∨ (¬ w = 0 ∧ ¬ w = 1 ∧ ¬ w = 2 ∧ ¬ w = 3) by omega) with rfl | rfl | rfl | rfl | hsw1
  · refine am_r_tsw (t := 32) rfl rfl ?_
    refine am_r_iload3 (pc' := 33) rfl rfl ?_
    refine am_r_if_lt (pt := 50) (pf := 36) rfl rfl rfl (fun h33 => ?_) (fun h33 => ?_)
    · refine am_r_iconst (pc' := 51) rfl rfl ?_
      refine am_r_zret rfl rfl (by first | exact Or.inr rfl | exact Or.inl rfl | exact z_b_01 _ | assumption) ?_
      first | (rw [z_bT (by omega)] at hq; exact hq) | (rw [z_bF (by omega)] at hq; exact hq)
    · refine am_r_iload3 (pc' := 37) rfl rfl ?_
      refine am_r_aload0 (pc' := 38) rfl rfl ?_
      refine am_r_getR (t := 2) (pc' := 41) rfl rfl rfl ?_
      refine am_r_iload1 (pc' := 42) rfl rfl ?_
      have hb := hb (by omega)
      refine am_r_iaZv (n := 8) (pc' := 43) rfl rfl rfl (by decide) (sx_rd hX (by omega)) ?_
      refine am_r_icmp_ge (pt := 50) (pf := 46) rfl rfl rfl (fun h43 => ?_) (fun h43 => ?_)
      · refine am_r_iconst (pc' := 51) rfl rfl ?_
        refine am_r_zret rfl rfl (by first | exact Or.inr rfl | exact Or.inl rfl | exact z_b_01 _ | assumption) ?_
        first | (rw [z_bT (by omega)] at hq; exact hq) | (rw [z_bF (by omega)] at hq; exact hq)
      · refine am_r_iconst (pc' := 47) rfl rfl ?_
        refine am_r_goto (pc' := 51) rfl rfl ?_
        refine am_r_zret rfl rfl (by first | exact Or.inr rfl | exact Or.inl rfl | exact z_b_01 _ | assumption) ?_
        first | (rw [z_bT (by omega)] at hq; exact hq) | (rw [z_bF (by omega)] at hq; exact hq)
  · refine am_r_tsw (t := 52) rfl rfl ?_
    refine am_r_iload3 (pc' := 53) rfl rfl ?_
    refine am_r_if_lt (pt := 66) (pf := 56) rfl rfl rfl (fun h53 => ?_) (fun h53 => ?_)
    · refine am_r_iconst (pc' := 67) rfl rfl ?_
      refine am_r_zret rfl rfl (by first | exact Or.inr rfl | exact Or.inl rfl | exact z_b_01 _ | assumption) ?_
      first | (rw [z_bT (by omega)] at hq; exact hq) | (rw [z_bF (by omega)] at hq; exact hq)
    · refine am_r_iload3 (pc' := 57) rfl rfl ?_
      refine am_r_iconst (pc' := 59) rfl rfl ?_
      refine am_r_icmp_gt (pt := 66) (pf := 62) rfl rfl rfl (fun h59 => ?_) (fun h59 => ?_)
      · refine am_r_iconst (pc' := 67) rfl rfl ?_
        refine am_r_zret rfl rfl (by first | exact Or.inr rfl | exact Or.inl rfl | exact z_b_01 _ | assumption) ?_
        first | (rw [z_bT (by omega)] at hq; exact hq) | (rw [z_bF (by omega)] at hq; exact hq)
      · refine am_r_iconst (pc' := 63) rfl rfl ?_
        refine am_r_goto (pc' := 67) rfl rfl ?_
        refine am_r_zret rfl rfl (by first | exact Or.inr rfl | exact Or.inl rfl | exact z_b_01 _ | assumption) ?_
        first | (rw [z_bT (by omega)] at hq; exact hq) | (rw [z_bF (by omega)] at hq; exact hq)
  · refine am_r_tsw (t := 68) rfl rfl ?_
    refine am_r_iload3 (pc' := 69) rfl rfl ?_
    refine am_r_iconst (pc' := 71) rfl rfl ?_
    refine am_r_icmp_lt (pt := 84) (pf := 74) rfl rfl rfl (fun h71 => ?_) (fun h71 => ?_)
    · refine am_r_iconst (pc' := 85) rfl rfl ?_
      refine am_r_zret rfl rfl (by first | exact Or.inr rfl | exact Or.inl rfl | exact z_b_01 _ | assumption) ?_
      first | (rw [z_bT (by omega)] at hq; exact hq) | (rw [z_bF (by omega)] at hq; exact hq)
    · refine am_r_iload3 (pc' := 75) rfl rfl ?_
      refine am_r_iconst (pc' := 77) rfl rfl ?_
      refine am_r_icmp_gt (pt := 84) (pf := 80) rfl rfl rfl (fun h77 => ?_) (fun h77 => ?_)
      · refine am_r_iconst (pc' := 85) rfl rfl ?_
        refine am_r_zret rfl rfl (by first | exact Or.inr rfl | exact Or.inl rfl | exact z_b_01 _ | assumption) ?_
        first | (rw [z_bT (by omega)] at hq; exact hq) | (rw [z_bF (by omega)] at hq; exact hq)
      · refine am_r_iconst (pc' := 81) rfl rfl ?_
        refine am_r_goto (pc' := 85) rfl rfl ?_
        refine am_r_zret rfl rfl (by first | exact Or.inr rfl | exact Or.inl rfl | exact z_b_01 _ | assumption) ?_
        first | (rw [z_bT (by omega)] at hq; exact hq) | (rw [z_bF (by omega)] at hq; exact hq)
  · refine am_r_tsw (t := 86) rfl rfl ?_
    refine am_r_iload3 (pc' := 87) rfl rfl ?_
    refine am_r_if_lt (pt := 100) (pf := 90) rfl rfl rfl (fun h87 => ?_) (fun h87 => ?_)
    · refine am_r_iconst (pc' := 101) rfl rfl ?_
      refine am_r_zret rfl rfl (by first | exact Or.inr rfl | exact Or.inl rfl | exact z_b_01 _ | assumption) ?_
      first | (rw [z_bT (by omega)] at hq; exact hq) | (rw [z_bF (by omega)] at hq; exact hq)
    · refine am_r_iload3 (pc' := 91) rfl rfl ?_
      refine am_r_iconst (pc' := 93) rfl rfl ?_
      refine am_r_icmp_gt (pt := 100) (pf := 96) rfl rfl rfl (fun h93 => ?_) (fun h93 => ?_)
      · refine am_r_iconst (pc' := 101) rfl rfl ?_
        refine am_r_zret rfl rfl (by first | exact Or.inr rfl | exact Or.inl rfl | exact z_b_01 _ | assumption) ?_
        first | (rw [z_bT (by omega)] at hq; exact hq) | (rw [z_bF (by omega)] at hq; exact hq)
      · refine am_r_iconst (pc' := 97) rfl rfl ?_
        refine am_r_goto (pc' := 101) rfl rfl ?_
        refine am_r_zret rfl rfl (by first | exact Or.inr rfl | exact Or.inl rfl | exact z_b_01 _ | assumption) ?_
        first | (rw [z_bT (by omega)] at hq; exact hq) | (rw [z_bF (by omega)] at hq; exact hq)
  · refine am_r_tsw (t := 102) rfl (by rw [if_pos (by omega)]; rfl) ?_
    refine am_r_iconst (pc' := 103) rfl rfl ?_
    refine am_r_zret rfl rfl (by first | exact Or.inr rfl | exact Or.inl rfl | exact z_b_01 _ | assumption) ?_
    first | (rw [z_bT (by omega)] at hq; exact hq) | (rw [z_bF (by omega)] at hq; exact hq)
def t_old (σ : Sg) (a w : Int) : Int := if w = 0 then s_pl σ a else if w = 1 then s_wt σ a else if w = 2 then s_lk σ (a / 10) (a % 10) else s_nr σ
def s_setPl (σ : Sg) (a v : Int) : Sg := (σ.1, σ.2.1, fun x => if x = a then v else σ.2.2.1 x, σ.2.2.2)
def s_setWt (σ : Sg) (a v : Int) : Sg := (σ.1, σ.2.1, σ.2.2.1, fun x => if x = a then v else σ.2.2.2.1 x, σ.2.2.2.2)
def s_setLk (σ : Sg) (a b v : Int) : Sg := (σ.1, σ.2.1, σ.2.2.1, σ.2.2.2.1, fun x y => if x = a ∧ y = b then v else σ.2.2.2.2.1 x y, σ.2.2.2.2.2)
def s_setNr (σ : Sg) (v : Int) : Sg := (σ.1, σ.2.1, σ.2.2.1, σ.2.2.2.1, σ.2.2.2.2.1, v)
def t_new (σ : Sg) (a w v : Int) : Sg := if w = 0 then s_setPl σ a v else if w = 1 then s_setWt σ a v else if w = 2 then s_setLk σ (a / 10) (a % 10) v else s_setNr σ v
def s_add (σ : Sg) (r p w : Int) : Sg := (σ.1 + 1, fun x => if x = σ.1 then r else σ.2.1 x, fun x => if x = σ.1 then p else σ.2.2.1 x, fun x => if x = σ.1 then w else σ.2.2.2.1 x, σ.2.2.2.2)
/-- only cells lo .. hi changed -/
def am_fr (lo hi : Nat) (M M' : Am_M) : Prop := ∀ k, k < lo ∨ hi < k → M'.1 k = M.1 k ∧ M'.2 k = M.2 k
theorem am_fr_rf (lo hi : Nat) (M : Am_M) : am_fr lo hi M M := fun _ _ => ⟨rfl, rfl⟩
theorem am_fr_upI {lo hi k i : Nat} {x : Int32} {M M' : Am_M} (h : am_fr lo hi M M') (hk : lo ≤ k ∧ k ≤ hi) : am_fr lo hi M (am_upI M' k i x) := fun j hj => ⟨by funext q; simp only [am_upI]; rw [if_neg (by omega)]; rw [(h j hj).1], (h j hj).2⟩
theorem am_fr_upL {lo hi k i : Nat} {x : Int64} {M M' : Am_M} (h : am_fr lo hi M M') (hk : lo ≤ k ∧ k ≤ hi) : am_fr lo hi M (am_upL M' k i x) := fun j hj => ⟨(h j hj).1, by funext q; simp only [am_upL]; rw [if_neg (by omega)]; rw [(h j hj).2]⟩
theorem am_fr_tr {lo hi lo1 hi1 lo2 hi2 : Nat} {M M' M'' : Am_M} (h : am_fr lo1 hi1 M M') (h2 : am_fr lo2 hi2 M' M'') (e1 : lo ≤ lo1 ∧ hi1 ≤ hi) (e2 : lo ≤ lo2 ∧ hi2 ≤ hi) : am_fr lo hi M M'' := fun k hk => ⟨(h2 k (by omega)).1.trans (h k (by omega)).1, (h2 k (by omega)).2.trans (h k (by omega)).2⟩
theorem am_fr_w {lo hi lo1 hi1 : Nat} {M M' : Am_M} (h : am_fr lo1 hi1 M M') (e1 : lo ≤ lo1 ∧ hi1 ≤ hi) : am_fr lo hi M M' := fun k hk => h k (by omega)
theorem sx_fr {M M' : Am_M} {σ : Sg} {lo hi : Nat} (h : SX M σ) (hf : am_fr lo hi M M') (hh : 13 < lo ∨ hi < 1) : SX M' σ := by
  obtain ⟨h0, h1, h2, h3, h4, h5, h6⟩ := h
  have e : ∀ k, 1 ≤ k → k ≤ 13 → M'.1 k = M.1 k := fun k a b => (hf k (by omega)).1
  refine ⟨h0, by rw [e 1 (by omega) (by omega)]; exact h1, by rw [e 1 (by omega) (by omega)]; exact h2, ?_, ?_, ?_, ?_⟩
  · intro a ha
    rw [e 2 (by omega) (by omega)]
    exact h3 a ha
  · intro a ha
    rw [e 3 (by omega) (by omega)]
    exact h4 a ha
  · intro a ha
    rw [e 4 (by omega) (by omega)]
    exact h5 a ha
  · intro a b ha hb
    rw [e (6 + a.toNat) (by omega) (by omega)]
    exact h6 a b ha hb
theorem sx_setPl {M : Am_M} {σ : Sg} (h : SX M σ) {a v : Int} (ha : 0 ≤ a ∧ a < s_n σ) (hv : 0 ≤ v ∧ v < s_rd σ a) : SX (am_upI M 3 a.toNat (z_I v)) (s_setPl σ a v) := by
  obtain ⟨h0, h1, h2, h3, h4, h5, h6⟩ := h
  refine ⟨⟨h0.1, h0.2.1, fun x hx => ?_, h0.2.2.2⟩, h1, h2, fun x hx => h3 x hx, fun x hx => ?_, fun x hx => h5 x hx, fun x y hx hy => ?_⟩
  · have hb := h0.2.2.1 x hx
    refine ⟨hb.1, hb.2.1, ?_, ?_, hb.2.2.2.2.1, hb.2.2.2.2.2⟩
    · show 0 ≤ (if x = a then v else σ.2.2.1 x)
      split
      · exact hv.1
      · exact hb.2.2.1
    · show (if x = a then v else σ.2.2.1 x) < s_rd σ x
      split
      · rename_i e; subst e; exact hv.2
      · exact hb.2.2.2.1
  · show (if 3 = 3 ∧ x.toNat = a.toNat then z_I v else M.1 3 x.toNat) = z_I (if x = a then v else σ.2.2.1 x)
    have hx1 : 0 ≤ x := hx.1
    by_cases e : x = a
    · rw [if_pos ⟨rfl, by rw [e]⟩, if_pos e]
    · rw [if_neg (by omega), if_neg e]
      exact h4 x hx
  · show (if 6 + x.toNat = 3 ∧ _ then z_I v else M.1 (6 + x.toNat) y.toNat) = _
    rw [if_neg (by omega)]
    exact h6 x y hx hy
theorem sx_setWt {M : Am_M} {σ : Sg} (h : SX M σ) {a v : Int} (ha : 0 ≤ a ∧ a < s_n σ) (hv : 0 ≤ v ∧ v ≤ 9) : SX (am_upI M 4 a.toNat (z_I v)) (s_setWt σ a v) := by
  obtain ⟨h0, h1, h2, h3, h4, h5, h6⟩ := h
  refine ⟨⟨h0.1, h0.2.1, fun x hx => ?_, h0.2.2.2⟩, h1, h2, fun x hx => h3 x hx, fun x hx => h4 x hx, fun x hx => ?_, fun x y hx hy => ?_⟩
  · have hb := h0.2.2.1 x hx
    refine ⟨hb.1, hb.2.1, hb.2.2.1, hb.2.2.2.1, ?_, ?_⟩
    · show 0 ≤ (if x = a then v else σ.2.2.2.1 x)
      split
      · exact hv.1
      · exact hb.2.2.2.2.1
    · show (if x = a then v else σ.2.2.2.1 x) ≤ 9
      split
      · exact hv.2
      · exact hb.2.2.2.2.2
  · show (if 4 = 4 ∧ x.toNat = a.toNat then z_I v else M.1 4 x.toNat) = z_I (if x = a then v else σ.2.2.2.1 x)
    have hx1 : 0 ≤ x := hx.1
    by_cases e : x = a
    · rw [if_pos ⟨rfl, by rw [e]⟩, if_pos e]
    · rw [if_neg (by omega), if_neg e]
      exact h5 x hx
  · show (if 6 + x.toNat = 4 ∧ _ then z_I v else M.1 (6 + x.toNat) y.toNat) = _
    rw [if_neg (by omega)]
    exact h6 x y hx hy
theorem sx_setLk {M : Am_M} {σ : Sg} (h : SX M σ) {a b v : Int} (ha : 0 ≤ a ∧ a < 8) (hb : 0 ≤ b ∧ b < 8) (hv : -9 ≤ v ∧ v ≤ 9) : SX (am_upI M (6 + a.toNat) b.toNat (z_I v)) (s_setLk σ a b v) := by
  obtain ⟨h0, h1, h2, h3, h4, h5, h6⟩ := h
  have hne : ∀ k j : Nat, k < 6 → (am_upI M (6 + a.toNat) b.toNat (z_I v)).1 k j = M.1 k j := fun k j hk => by
    show (if k = 6 + a.toNat ∧ _ then _ else _) = _
    rw [if_neg (by omega)]
  refine ⟨⟨h0.1, h0.2.1, fun x hx => h0.2.2.1 x hx, fun x y hx hy => ?_⟩, by rw [hne 1 5 (by omega)]; exact h1, by rw [hne 1 4 (by omega)]; exact h2, fun x hx => by rw [hne 2 _ (by omega)]; exact h3 x hx, fun x hx => by rw [hne 3 _ (by omega)]; exact h4 x hx, fun x hx => by rw [hne 4 _ (by omega)]; exact h5 x hx, fun x y hx hy => ?_⟩
  · have hbb := h0.2.2.2 x y hx hy
    show -9 ≤ (if x = a ∧ y = b then v else σ.2.2.2.2.1 x y) ∧ (if x = a ∧ y = b then v else σ.2.2.2.2.1 x y) ≤ 9
    split
    · exact hv
    · exact hbb
  · show (if 6 + x.toNat = 6 + a.toNat ∧ y.toNat = b.toNat then z_I v else M.1 (6 + x.toNat) y.toNat) = z_I (if x = a ∧ y = b then v else σ.2.2.2.2.1 x y)
    by_cases e : x = a ∧ y = b
    · rw [if_pos ⟨by rw [e.1], by rw [e.2]⟩, if_pos e]
    · rw [if_neg (by omega), if_neg e]
      exact h6 x y hx hy
theorem sx_setNr {M : Am_M} {σ : Sg} (h : SX M σ) {v : Int} (hv : 0 ≤ v ∧ v ≤ 90) : SX (am_upI M 1 4 (z_I v)) (s_setNr σ v) := by
  obtain ⟨h0, h1, h2, h3, h4, h5, h6⟩ := h
  refine ⟨⟨h0.1, hv, fun x hx => h0.2.2.1 x hx, h0.2.2.2⟩, h1, rfl, fun x hx => h3 x hx, fun x hx => h4 x hx, fun x hx => h5 x hx, fun x y hx hy => ?_⟩
  show (if 6 + x.toNat = 1 ∧ _ then _ else M.1 (6 + x.toNat) y.toNat) = _
  rw [if_neg (by omega)]
  exact h6 x y hx hy
theorem sx_add {M : Am_M} {σ : Sg} (h : SX M σ) {r p w : Int} (hn : s_n σ < 8) (hr : 1 ≤ r ∧ r ≤ 60) (hp : 0 ≤ p ∧ p < r) (hw : 0 ≤ w ∧ w ≤ 9) : SX (am_upI (am_upI (am_upI (am_upI M 2 (s_n σ).toNat (z_I r)) 3 (s_n σ).toNat (z_I p)) 4 (s_n σ).toNat (z_I w)) 1 5 (z_I (s_n σ + 1))) (s_add σ r p w) := by
  obtain ⟨h0, h1, h2, h3, h4, h5, h6⟩ := h
  have hn0 := h0.1
  have en : s_n (s_add σ r p w) = s_n σ + 1 := rfl
  refine ⟨⟨by rw [en]; omega, h0.2.1, fun x hx => ?_, h0.2.2.2⟩, rfl, h2, fun x hx => ?_, fun x hx => ?_, fun x hx => ?_, fun x y hx hy => ?_⟩
  · show 1 ≤ (if x = s_n σ then r else s_rd σ x) ∧ (if x = s_n σ then r else s_rd σ x) ≤ 60 ∧ 0 ≤ (if x = s_n σ then p else s_pl σ x) ∧ (if x = s_n σ then p else s_pl σ x) < (if x = s_n σ then r else s_rd σ x) ∧ 0 ≤ (if x = s_n σ then w else s_wt σ x) ∧ (if x = s_n σ then w else s_wt σ x) ≤ 9
    by_cases e : x = s_n σ
    · simp only [if_pos e]
      omega
    · simp only [if_neg e]
      exact h0.2.2.1 x (by rw [en] at hx; omega)
  · show (if 2 = 2 ∧ x.toNat = (s_n σ).toNat then z_I r else M.1 2 x.toNat) = z_I (if x = s_n σ then r else s_rd σ x)
    rw [en] at hx
    by_cases e : x = s_n σ
    · rw [if_pos ⟨rfl, by rw [e]⟩, if_pos e]
    · rw [if_neg (by omega), if_neg e]
      exact h3 x (by omega)
  · show (if 3 = 3 ∧ x.toNat = (s_n σ).toNat then z_I p else M.1 3 x.toNat) = z_I (if x = s_n σ then p else s_pl σ x)
    rw [en] at hx
    by_cases e : x = s_n σ
    · rw [if_pos ⟨rfl, by rw [e]⟩, if_pos e]
    · rw [if_neg (by omega), if_neg e]
      exact h4 x (by omega)
  · show (if 4 = 4 ∧ x.toNat = (s_n σ).toNat then z_I w else M.1 4 x.toNat) = z_I (if x = s_n σ then w else s_wt σ x)
    rw [en] at hx
    by_cases e : x = s_n σ
    · rw [if_pos ⟨rfl, by rw [e]⟩, if_pos e]
    · rw [if_neg (by omega), if_neg e]
      exact h5 x (by omega)
  · show (if 6 + x.toNat = 1 ∧ _ then _ else (if 6 + x.toNat = 4 ∧ _ then _ else (if 6 + x.toNat = 3 ∧ _ then _ else (if 6 + x.toNat = 2 ∧ _ then _ else M.1 (6 + x.toNat) y.toNat)))) = _
    rw [if_neg (by omega), if_neg (by omega), if_neg (by omega), if_neg (by omega)]
    exact h6 x y hx hy
theorem am_row8 : ∀ i : Nat, i < 8 → am_okA (6 + i) 0 8 = true := by decide +kernel
theorem am_row8z {a : Int} (h : 0 ≤ a ∧ a < 8) : am_okA (6 + a.toNat) 0 8 = true := am_row8 a.toNat (by omega)
theorem c_told {sL : Nat} {xs : Nat → Int32} {d : Nat} {M : Am_M} {Q : Int32 → Am_M → Prop} (hd : 1 ≤ d) {σ : Sg} (hX : SX M σ) {a w : Int} (hh : ((w = 0 ∧ 0 ≤ a ∧ a < s_n σ) ∨ (w = 1 ∧ 0 ≤ a ∧ a < s_n σ) ∨ (w = 2 ∧ 0 ≤ a ∧ a / 10 < s_n σ ∧ a % 10 < s_n σ ∧ a / 10 ≠ a % 10) ∨ (w = 3 ∧ a = 0)))  (hq : Q (z_I (t_old σ a w)) M) : am_bi sL xs d 76 [.ref 1, .int (z_I a), .int (z_I w)] M Q := by
  obtain ⟨d, rfl⟩ : ∃ e, d = e + 1 := ⟨d - 1, by omega⟩
  have hn := sb_nb hX.1
  have hnr := sb_nrb hX.1
  refine am_bi_of (P := am_pX7_told) (rt := 1) (nL := 3) (Nat.le_of_ble_eq_true rfl) rfl (Nat.le_of_ble_eq_true rfl) rfl rfl rfl ?_
  refine am_r_iload2 (pc' := 1) rfl rfl ?_
  rcases (show w = 0 ∨ w = 1 ∨ w = 2 ∨ (¬ w = 0 ∧ ¬ w = 1 ∧ ¬ w = 2) by omega) with rfl | rfl | rfl | hsw1
  · refine am_r_tsw (t := 28) rfl rfl ?_
    refine am_r_aload0 (pc' := 29) rfl rfl ?_
    refine am_r_getR (t := 3) (pc' := 32) rfl rfl rfl ?_
    refine am_r_iload1 (pc' := 33) rfl rfl ?_
    refine am_r_iaZv (n := 8) (pc' := 34) rfl rfl rfl (by decide) (sx_pl hX (by omega)) ?_
    refine am_r_iret rfl rfl ?_
    exact hq
  · refine am_r_tsw (t := 35) rfl rfl ?_
    refine am_r_aload0 (pc' := 36) rfl rfl ?_
    refine am_r_getR (t := 4) (pc' := 39) rfl rfl rfl ?_
    refine am_r_iload1 (pc' := 40) rfl rfl ?_
    refine am_r_iaZv (n := 8) (pc' := 41) rfl rfl rfl (by decide) (sx_wt hX (by omega)) ?_
    refine am_r_iret rfl rfl ?_
    exact hq
  · refine am_r_tsw (t := 42) rfl rfl ?_
    refine am_r_aload0 (pc' := 43) rfl rfl ?_
    refine am_r_getR (t := 5) (pc' := 46) rfl rfl rfl ?_
    refine am_r_iload1 (pc' := 47) rfl rfl ?_
    refine am_r_iconst (pc' := 49) rfl rfl ?_
    refine am_r_idiv (pc' := 50) rfl rfl ?_
    refine am_r_aaZ (n := 8) (t := 6) (pc' := 51) rfl rfl rfl rfl (by decide) ?_
    refine am_r_iload1 (pc' := 52) rfl rfl ?_
    refine am_r_iconst (pc' := 54) rfl rfl ?_
    refine am_r_irem (pc' := 55) rfl rfl ?_
    refine am_r_iaZv (n := 8) (pc' := 56) rfl rfl (am_row8z (by omega)) (by decide) (sx_lk hX (by omega) (by omega)) ?_
    refine am_r_iret rfl rfl ?_
    exact hq
  · refine am_r_tsw (t := 57) rfl (by rw [if_pos (by omega)]; rfl) ?_
    refine am_r_aload0 (pc' := 58) rfl rfl ?_
    refine am_r_getIv (f := 4) (pc' := 61) rfl rfl rfl (sx_nr hX) ?_
    refine am_r_iret rfl rfl ?_
    (have e : t_old σ a w = s_nr σ := (by unfold t_old; rw [if_neg (by omega), if_neg (by omega), if_neg (by omega)])); rw [e] at hq; exact hq
theorem c_tell {sL : Nat} {xs : Nat → Int32} {d : Nat} {M : Am_M} {Q : Am_M → Prop} (hd : 1 ≤ d) {σ : Sg} (hX : SX M σ) {a w v : Int} (hh : ((w = 0 ∧ 0 ≤ a ∧ a < s_n σ) ∨ (w = 1 ∧ 0 ≤ a ∧ a < s_n σ) ∨ (w = 2 ∧ 0 ≤ a ∧ a / 10 < s_n σ ∧ a % 10 < s_n σ ∧ a / 10 ≠ a % 10) ∨ (w = 3 ∧ a = 0))) (hf : ((w = 0 ∧ 0 ≤ v ∧ v < s_rd σ a) ∨ (w = 1 ∧ 0 ≤ v ∧ v ≤ 9) ∨ (w = 2 ∧ -9 ≤ v ∧ v ≤ 9) ∨ (w = 3 ∧ 0 ≤ v ∧ v ≤ 90))) (hq : ∀ M' : Am_M, am_fr 1 13 M M' → SX M' (t_new σ a w v) → Q M') : am_bv sL xs d 77 [.ref 1, .int (z_I a), .int (z_I w), .int (z_I v)] M Q := by
  obtain ⟨d, rfl⟩ : ∃ e, d = e + 1 := ⟨d - 1, by omega⟩
  have hn := sb_nb hX.1
  have hnr := sb_nrb hX.1
  refine am_bv_of (P := am_pX7_tell) (rt := 0) (nL := 4) (Nat.le_of_ble_eq_true rfl) rfl (Nat.le_of_ble_eq_true rfl) rfl rfl rfl ?_
  refine am_r_iload2 (pc' := 1) rfl rfl ?_
  rcases (show w = 0 ∨ w = 1 ∨ w = 2 ∨ (¬ w = 0 ∧ ¬ w = 1 ∧ ¬ w = 2) by omega) with rfl | rfl | rfl | hsw1
  · refine am_r_tsw (t := 28) rfl rfl ?_
    refine am_r_aload0 (pc' := 29) rfl rfl ?_
    refine am_r_getR (t := 3) (pc' := 32) rfl rfl rfl ?_
    refine am_r_iload1 (pc' := 33) rfl rfl ?_
    refine am_r_iload3 (pc' := 34) rfl rfl ?_
    refine am_r_iast (n := 8) (pc' := 35) rfl rfl (rfl) (by decide) ?_
    refine am_r_goto (pc' := 71) rfl rfl ?_
    refine am_r_vret rfl rfl ?_
    first | exact hq _ (am_fr_upI (am_fr_rf _ _ _) (by omega)) (sx_setPl hX (by omega) (by omega)) | exact hq _ (am_fr_upI (am_fr_rf _ _ _) (by omega)) (sx_setWt hX (by omega) (by omega)) | exact hq _ (am_fr_upI (am_fr_rf _ _ _) (by omega)) (sx_setLk hX (by omega) (by omega) (by omega)) | exact hq _ (am_fr_upI (am_fr_rf _ _ _) (by omega)) (by have e : t_new σ a w v = s_setNr σ v := (by unfold t_new; rw [if_neg (by omega), if_neg (by omega), if_neg (by omega)]); rw [e]; exact sx_setNr hX (by omega))
  · refine am_r_tsw (t := 38) rfl rfl ?_
    refine am_r_aload0 (pc' := 39) rfl rfl ?_
    refine am_r_getR (t := 4) (pc' := 42) rfl rfl rfl ?_
    refine am_r_iload1 (pc' := 43) rfl rfl ?_
    refine am_r_iload3 (pc' := 44) rfl rfl ?_
    refine am_r_iast (n := 8) (pc' := 45) rfl rfl (rfl) (by decide) ?_
    refine am_r_goto (pc' := 71) rfl rfl ?_
    refine am_r_vret rfl rfl ?_
    first | exact hq _ (am_fr_upI (am_fr_rf _ _ _) (by omega)) (sx_setPl hX (by omega) (by omega)) | exact hq _ (am_fr_upI (am_fr_rf _ _ _) (by omega)) (sx_setWt hX (by omega) (by omega)) | exact hq _ (am_fr_upI (am_fr_rf _ _ _) (by omega)) (sx_setLk hX (by omega) (by omega) (by omega)) | exact hq _ (am_fr_upI (am_fr_rf _ _ _) (by omega)) (by have e : t_new σ a w v = s_setNr σ v := (by unfold t_new; rw [if_neg (by omega), if_neg (by omega), if_neg (by omega)]); rw [e]; exact sx_setNr hX (by omega))
  · refine am_r_tsw (t := 48) rfl rfl ?_
    refine am_r_aload0 (pc' := 49) rfl rfl ?_
    refine am_r_getR (t := 5) (pc' := 52) rfl rfl rfl ?_
    refine am_r_iload1 (pc' := 53) rfl rfl ?_
    refine am_r_iconst (pc' := 55) rfl rfl ?_
    refine am_r_idiv (pc' := 56) rfl rfl ?_
    refine am_r_aaZ (n := 8) (t := 6) (pc' := 57) rfl rfl rfl rfl (by decide) ?_
    refine am_r_iload1 (pc' := 58) rfl rfl ?_
    refine am_r_iconst (pc' := 60) rfl rfl ?_
    refine am_r_irem (pc' := 61) rfl rfl ?_
    refine am_r_iload3 (pc' := 62) rfl rfl ?_
    refine am_r_iast (n := 8) (pc' := 63) rfl rfl (am_row8z (by omega)) (by decide) ?_
    refine am_r_goto (pc' := 71) rfl rfl ?_
    refine am_r_vret rfl rfl ?_
    first | exact hq _ (am_fr_upI (am_fr_rf _ _ _) (by omega)) (sx_setPl hX (by omega) (by omega)) | exact hq _ (am_fr_upI (am_fr_rf _ _ _) (by omega)) (sx_setWt hX (by omega) (by omega)) | exact hq _ (am_fr_upI (am_fr_rf _ _ _) (by omega)) (sx_setLk hX (by omega) (by omega) (by omega)) | exact hq _ (am_fr_upI (am_fr_rf _ _ _) (by omega)) (by have e : t_new σ a w v = s_setNr σ v := (by unfold t_new; rw [if_neg (by omega), if_neg (by omega), if_neg (by omega)]); rw [e]; exact sx_setNr hX (by omega))
  · refine am_r_tsw (t := 66) rfl (by rw [if_pos (by omega)]; rfl) ?_
    refine am_r_aload0 (pc' := 67) rfl rfl ?_
    refine am_r_iload3 (pc' := 68) rfl rfl ?_
    refine am_r_putI (f := 4) (pc' := 71) rfl rfl rfl (by decide) ?_
    refine am_r_vret rfl rfl ?_
    first | exact hq _ (am_fr_upI (am_fr_rf _ _ _) (by omega)) (sx_setPl hX (by omega) (by omega)) | exact hq _ (am_fr_upI (am_fr_rf _ _ _) (by omega)) (sx_setWt hX (by omega) (by omega)) | exact hq _ (am_fr_upI (am_fr_rf _ _ _) (by omega)) (sx_setLk hX (by omega) (by omega) (by omega)) | exact hq _ (am_fr_upI (am_fr_rf _ _ _) (by omega)) (by have e : t_new σ a w v = s_setNr σ v := (by unfold t_new; rw [if_neg (by omega), if_neg (by omega), if_neg (by omega)]); rw [e]; exact sx_setNr hX (by omega))
theorem c_fitsBody {sL : Nat} {xs : Nat → Int32} {d : Nat} {M : Am_M} {Q : Int32 → Am_M → Prop} (hd : 1 ≤ d) {r : Int} (hr : -2147483648 ≤ r ∧ r < 2147483648) {p : Int} (hp : -2147483648 ≤ p ∧ p < 2147483648) {w : Int} (hw : -2147483648 ≤ w ∧ w < 2147483648)  (hq : Q (z_b (1 ≤ r ∧ r ≤ 60 ∧ 0 ≤ p ∧ p < r ∧ 0 ≤ w ∧ w ≤ 9)) M) : am_bi sL xs d 69 [.int (z_I r), .int (z_I p), .int (z_I w)] M Q := by
  obtain ⟨d, rfl⟩ : ∃ e, d = e + 1 := ⟨d - 1, by omega⟩
  refine am_bi_of (P := am_pX7_fitsBody) (rt := 2) (nL := 3) (Nat.le_of_ble_eq_true rfl) rfl (Nat.le_of_ble_eq_true rfl) rfl rfl rfl ?_
  refine am_r_iload0 (pc' := 1) rfl rfl ?_
  refine am_r_iconst (pc' := 2) rfl rfl ?_
  refine am_r_icmp_lt (pt := 34) (pf := 5) rfl rfl rfl (fun h2 => ?_) (fun h2 => ?_)
  · refine am_r_iconst (pc' := 35) rfl rfl ?_
    refine am_r_zret rfl rfl (by first | exact Or.inr rfl | exact Or.inl rfl | exact z_b_01 _ | assumption) ?_
    first | (rw [z_bT (by omega)] at hq; exact hq) | (rw [z_bF (by omega)] at hq; exact hq)
  · refine am_r_iload0 (pc' := 6) rfl rfl ?_
    refine am_r_iconst (pc' := 8) rfl rfl ?_
    refine am_r_icmp_gt (pt := 34) (pf := 11) rfl rfl rfl (fun h8 => ?_) (fun h8 => ?_)
    · refine am_r_iconst (pc' := 35) rfl rfl ?_
      refine am_r_zret rfl rfl (by first | exact Or.inr rfl | exact Or.inl rfl | exact z_b_01 _ | assumption) ?_
      first | (rw [z_bT (by omega)] at hq; exact hq) | (rw [z_bF (by omega)] at hq; exact hq)
    · refine am_r_iload1 (pc' := 12) rfl rfl ?_
      refine am_r_if_lt (pt := 34) (pf := 15) rfl rfl rfl (fun h12 => ?_) (fun h12 => ?_)
      · refine am_r_iconst (pc' := 35) rfl rfl ?_
        refine am_r_zret rfl rfl (by first | exact Or.inr rfl | exact Or.inl rfl | exact z_b_01 _ | assumption) ?_
        first | (rw [z_bT (by omega)] at hq; exact hq) | (rw [z_bF (by omega)] at hq; exact hq)
      · refine am_r_iload1 (pc' := 16) rfl rfl ?_
        refine am_r_iload0 (pc' := 17) rfl rfl ?_
        refine am_r_icmp_ge (pt := 34) (pf := 20) rfl rfl rfl (fun h17 => ?_) (fun h17 => ?_)
        · refine am_r_iconst (pc' := 35) rfl rfl ?_
          refine am_r_zret rfl rfl (by first | exact Or.inr rfl | exact Or.inl rfl | exact z_b_01 _ | assumption) ?_
          first | (rw [z_bT (by omega)] at hq; exact hq) | (rw [z_bF (by omega)] at hq; exact hq)
        · refine am_r_iload2 (pc' := 21) rfl rfl ?_
          refine am_r_if_lt (pt := 34) (pf := 24) rfl rfl rfl (fun h21 => ?_) (fun h21 => ?_)
          · refine am_r_iconst (pc' := 35) rfl rfl ?_
            refine am_r_zret rfl rfl (by first | exact Or.inr rfl | exact Or.inl rfl | exact z_b_01 _ | assumption) ?_
            first | (rw [z_bT (by omega)] at hq; exact hq) | (rw [z_bF (by omega)] at hq; exact hq)
          · refine am_r_iload2 (pc' := 25) rfl rfl ?_
            refine am_r_iconst (pc' := 27) rfl rfl ?_
            refine am_r_icmp_gt (pt := 34) (pf := 30) rfl rfl rfl (fun h27 => ?_) (fun h27 => ?_)
            · refine am_r_iconst (pc' := 35) rfl rfl ?_
              refine am_r_zret rfl rfl (by first | exact Or.inr rfl | exact Or.inl rfl | exact z_b_01 _ | assumption) ?_
              first | (rw [z_bT (by omega)] at hq; exact hq) | (rw [z_bF (by omega)] at hq; exact hq)
            · refine am_r_iconst (pc' := 31) rfl rfl ?_
              refine am_r_goto (pc' := 35) rfl rfl ?_
              refine am_r_zret rfl rfl (by first | exact Or.inr rfl | exact Or.inl rfl | exact z_b_01 _ | assumption) ?_
              first | (rw [z_bT (by omega)] at hq; exact hq) | (rw [z_bF (by omega)] at hq; exact hq)
theorem c_added {sL : Nat} {xs : Nat → Int32} {d : Nat} {M : Am_M} {Q : Int32 → Am_M → Prop} (hd : 1 ≤ d) {σ : Sg} (hX : SX M σ) {r p w : Int} (hr : 1 ≤ r ∧ r ≤ 60) (hp : 0 ≤ p ∧ p < r) (hw : 0 ≤ w ∧ w ≤ 9) (hq1 : 8 ≤ s_n σ → Q (z_I (-3)) M) (hq : ∀ M' : Am_M, s_n σ < 8 → am_fr 1 13 M M' → SX M' (s_add σ r p w) → Q (z_I (s_n σ)) M') : am_bi sL xs d 70 [.ref 1, .int (z_I r), .int (z_I p), .int (z_I w)] M Q := by
  obtain ⟨d, rfl⟩ : ∃ e, d = e + 1 := ⟨d - 1, by omega⟩
  have hn := sb_nb hX.1
  have hnr := sb_nrb hX.1
  refine am_bi_of (P := am_pX7_added) (rt := 1) (nL := 4) (Nat.le_of_ble_eq_true rfl) rfl (Nat.le_of_ble_eq_true rfl) rfl rfl rfl ?_
  refine am_r_aload0 (pc' := 1) rfl rfl ?_
  refine am_r_getIv (f := 5) (pc' := 4) rfl rfl rfl (sx_n hX) ?_
  refine am_r_iconst (pc' := 6) rfl rfl ?_
  refine am_r_icmp_lt (pt := 12) (pf := 9) rfl rfl rfl (fun h6 => ?_) (fun h6 => ?_)
  · refine am_r_aload0 (pc' := 13) rfl rfl ?_
    refine am_r_getR (t := 2) (pc' := 16) rfl rfl rfl ?_
    refine am_r_aload0 (pc' := 17) rfl rfl ?_
    refine am_r_getIv (f := 5) (pc' := 20) rfl rfl rfl (sx_n hX) ?_
    refine am_r_iload1 (pc' := 21) rfl rfl ?_
    refine am_r_iast (n := 8) (pc' := 22) rfl rfl (rfl) (by decide) ?_
    refine am_r_aload0 (pc' := 23) rfl rfl ?_
    refine am_r_getR (t := 3) (pc' := 26) rfl rfl rfl ?_
    refine am_r_aload0 (pc' := 27) rfl rfl ?_
    refine am_r_getIv (f := 5) (pc' := 30) rfl rfl rfl ((sx_n hX : M.1 1 5 = z_I (s_n σ))) ?_
    refine am_r_iload2 (pc' := 31) rfl rfl ?_
    refine am_r_iast (n := 8) (pc' := 32) rfl rfl (rfl) (by decide) ?_
    refine am_r_aload0 (pc' := 33) rfl rfl ?_
    refine am_r_getR (t := 4) (pc' := 36) rfl rfl rfl ?_
    refine am_r_aload0 (pc' := 37) rfl rfl ?_
    refine am_r_getIv (f := 5) (pc' := 40) rfl rfl rfl ((sx_n hX : M.1 1 5 = z_I (s_n σ))) ?_
    refine am_r_iload3 (pc' := 41) rfl rfl ?_
    refine am_r_iast (n := 8) (pc' := 42) rfl rfl (rfl) (by decide) ?_
    refine am_r_aload0 (pc' := 43) rfl rfl ?_
    refine am_r_dup (pc' := 44) rfl rfl rfl ?_
    refine am_r_getIv (f := 5) (pc' := 47) rfl rfl rfl ((sx_n hX : M.1 1 5 = z_I (s_n σ))) ?_
    refine am_r_iconst (pc' := 48) rfl rfl ?_
    refine am_r_iadd (pc' := 49) rfl rfl ?_
    refine am_r_putI (f := 5) (pc' := 52) rfl rfl rfl (by decide) ?_
    refine am_r_aload0 (pc' := 53) rfl rfl ?_
    refine am_r_getIv (f := 5) (pc' := 56) rfl rfl rfl (rfl) ?_
    refine am_r_iconst (pc' := 57) rfl rfl ?_
    refine am_r_isub (pc' := 58) rfl rfl ?_
    (have e : s_n σ + 1 - 1 = s_n σ := by omega); rw [e]
    refine am_r_iret rfl rfl ?_
    exact hq _ (by omega) (am_fr_upI (am_fr_upI (am_fr_upI (am_fr_upI (am_fr_rf _ _ _) (by omega)) (by omega)) (by omega)) (by omega)) (sx_add hX (by omega) hr hp hw)
  · refine am_r_iconst (pc' := 11) rfl rfl ?_
    refine am_r_iret rfl rfl ?_
    exact hq1 (by omega)
