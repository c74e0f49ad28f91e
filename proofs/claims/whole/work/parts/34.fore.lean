/-! PUSHED, the class: days one behind another -/
theorem z_sh6 {c p : Int} (hc : 0 ≤ c ∧ c < 4503599627370496) (hp : 0 ≤ p ∧ p < 64) : z_L c <<< ((z_I 6).toInt64 &&& 63) ||| z_L p = z_L (c * 64 + p) := by
  obtain ⟨m, rfl⟩ : ∃ m : Nat, c = m := ⟨c.toNat, by omega⟩
  obtain ⟨q, rfl⟩ : ∃ q : Nat, p = q := ⟨p.toNat, by omega⟩
  have e : ((m : Int) * 64 + (q : Int)) = ((m * 64 + q : Nat) : Int) := by omega
  unfold z_L
  rw [e, Int64.ofInt_eq_ofNat, Int64.ofInt_eq_ofNat, Int64.ofInt_eq_ofNat]
  have hy : ((z_I 6).toInt64 &&& 63).toBitVec.smod 64 = BitVec.ofNat 64 6 := by decide +kernel
  have h1 : Int64.ofNat m <<< ((z_I 6).toInt64 &&& 63) = Int64.ofNat (m * 64) := by
    apply Int64.toBitVec_inj.mp
    rw [Int64.toBitVec_shiftLeft, hy]
    apply BitVec.eq_of_toNat_eq
    have hb : (Int64.ofNat m).toBitVec.toNat = m := Nat.mod_eq_of_lt (by omega)
    have h : ((Int64.ofNat m).toBitVec <<< BitVec.ofNat 64 6).toNat = (m * 2 ^ 6) % 2 ^ 64 := by
      have hk' : (BitVec.ofNat 64 6).toNat = 6 := by decide
      simp only [BitVec.shiftLeft_eq', BitVec.toNat_shiftLeft, hb, hk', Nat.shiftLeft_eq]
    exact h
  rw [h1]
  have h2 : m * 64 ||| q = m * 64 + q := by rw [show m * 64 = m * 2 ^ 6 by omega, ← Nat.shiftLeft_eq, Nat.shiftLeft_add_eq_or_of_lt (by omega)]
  have ut : ∀ n : Nat, n < 2 ^ 64 → (UInt64.ofNat n).toNat = n := fun n h => Nat.mod_eq_of_lt h
  have h3 : UInt64.ofNat (m * 64) ||| UInt64.ofNat q = UInt64.ofNat (m * 64 + q) := UInt64.toNat_inj.mp (by rw [UInt64.toNat_or, ut _ (by omega), ut _ (by omega), ut _ (by omega), h2])
  exact congrArg UInt64.toInt64 h3
/-- all places in one number -/
def y_cd (π : y_P) : Int → Int → Nat → Int
  | c, _, 0 => c
  | c, i, k + 1 => y_cd π (c * 64 + π i) (i + 1) k
def y_code (σ : Sg) (π : y_P) : Int := y_cd π 0 0 (s_n σ).toNat
theorem p64_s {i : Int} (hi : 0 ≤ i) : (64 : Int) ^ (i + 1).toNat = 64 * 64 ^ i.toNat := by
  rw [show (i + 1).toNat = i.toNat + 1 by omega, Int.pow_succ]
  omega
theorem p64_b {i : Int} (hi : 0 ≤ i ∧ i ≤ 8) : 1 ≤ (64 : Int) ^ i.toNat ∧ (64 : Int) ^ i.toNat ≤ 281474976710656 := by
  obtain ⟨j, rfl⟩ : ∃ j : Nat, i = j := ⟨i.toNat, by omega⟩
  have h : ∀ j : Nat, j < 9 → 1 ≤ (64 : Int) ^ j ∧ (64 : Int) ^ j ≤ 281474976710656 := by decide +kernel
  exact h j (by omega)
theorem y_cd_b {σ : Sg} (h : SB σ) {π : y_P} (hp : y_B σ π) : ∀ (k : Nat) (c i : Int), 0 ≤ i ∧ i + k = s_n σ → 0 ≤ c ∧ c < 64 ^ i.toNat → 0 ≤ y_cd π c i k ∧ y_cd π c i k < 64 ^ (s_n σ).toNat
  | 0, c, i, h1, h2 => by rw [show i = s_n σ by omega] at h2; exact h2
  | k + 1, c, i, h1, h2 => by
    have hg := sg_b h (a := i) (by omega)
    have := hp i (by omega)
    exact y_cd_b h hp k (c * 64 + π i) (i + 1) (by omega) (by rw [p64_s h1.1]; omega)
theorem y_code_b {σ : Sg} (h : SB σ) {π : y_P} (hp : y_B σ π) : 0 ≤ y_code σ π ∧ y_code σ π < 281474976710656 := by
  have hn := sb_nb h
  have h1 := y_cd_b h hp (s_n σ).toNat 0 0 (by omega) (by decide)
  have h2 := p64_b hn
  unfold y_code
  omega
theorem y_cd_e {π π' : y_P} : ∀ (k : Nat) (c c' i : Int), (∀ j, i ≤ j → j < i + k → (0 ≤ π j ∧ π j < 64) ∧ (0 ≤ π' j ∧ π' j < 64)) → (y_cd π c i k = y_cd π' c' i k ↔ c = c' ∧ ∀ j, i ≤ j → j < i + k → π j = π' j)
  | 0, c, c', i, _ => ⟨fun q => ⟨q, fun j a b => by omega⟩, fun q => q.1⟩
  | k + 1, c, c', i, h => by
    have hi := h i (by omega) (by omega)
    have ih := y_cd_e k (c * 64 + π i) (c' * 64 + π' i) (i + 1) (fun j a b => h j (by omega) (by omega))
    show y_cd π (c * 64 + π i) (i + 1) k = y_cd π' (c' * 64 + π' i) (i + 1) k ↔ _
    rw [ih]
    constructor
    · rintro ⟨q1, q2⟩
      refine ⟨by omega, fun j a b => ?_⟩
      by_cases e : j = i
      · rw [e]; omega
      · exact q2 j (by omega) (by omega)
    · rintro ⟨q1, q2⟩
      have := q2 i (by omega) (by omega)
      exact ⟨by omega, fun j a b => q2 j (by omega) (by omega)⟩
/-- all stand as once -/
def y_eq (π π' : y_P) (b : Int) : Bool := decide (π b = π' b)
def y_sm (σ : Sg) (π π' : y_P) : Bool := f_all (y_eq π π') 0 (s_n σ).toNat
theorem y_code_e {σ : Sg} (h : SB σ) {π π' : y_P} (hp : y_B σ π) (hp' : y_B σ π') : y_code σ π = y_code σ π' ↔ y_sm σ π π' = true := by
  have hn := sb_nb h
  unfold y_code y_sm
  rw [y_cd_e (s_n σ).toNat 0 0 0 (fun j a b => by have := sg_b h (a := j) (by omega); have := hp j (by omega); have := hp' j (by omega); omega), f_all_iff]
  exact ⟨fun q j a b => decide_eq_true (q.2 j a b), fun q => ⟨rfl, fun j a b => of_decide_eq_true (q j a b)⟩⟩
def y_is0 (π : y_P) (b : Int) : Bool := decide (π b = 0)
def y_z0 (σ : Sg) (π : y_P) : Bool := f_all (y_is0 π) 0 (s_n σ).toNat
theorem y_cd_00 : ∀ (k : Nat) (i : Int), y_cd (fun _ => 0) 0 i k = 0
  | 0, _ => rfl
  | k + 1, i => y_cd_00 k (i + 1)
theorem y_code_0 {σ : Sg} (h : SB σ) {π : y_P} (hp : y_B σ π) : y_code σ π = 0 ↔ y_z0 σ π = true := by
  have hn := sb_nb h
  have h0 : y_code σ (fun _ => 0) = 0 := y_cd_00 _ _
  have hb : y_B σ (fun _ => 0) := fun a ha => by have := sg_b h ha; simp only; omega
  rw [← h0, y_code_e h hp hb]
  unfold y_sm y_z0
  rw [f_all_iff, f_all_iff]
  exact Iff.rfl
/-- the places behind k days -/
def y_at (σ : Sg) (χ : q_X) : Nat → y_P
  | 0 => s_pl σ
  | k + 1 => y_nx σ χ (y_at σ χ k) (k : Int)
theorem y_at_B {σ : Sg} (h : SB σ) (χ : q_X) : ∀ k : Nat, y_B σ (y_at σ χ k)
  | 0 => s_pl_B h
  | k + 1 => y_nx_B h χ _ _
def y_pd (σ : Sg) (χ : q_X) (d : Int) : Int := y_pu σ χ (y_at σ χ d.toNat) d
def y_pdp (σ : Sg) (χ : q_X) (d : Int) : Bool := decide (0 < y_pd σ χ d)
def y_md (σ : Sg) (χ : q_X) (a b d : Int) : Bool := y_mt σ (y_at σ χ d.toNat) a b
def y_sd (σ : Sg) (χ : q_X) (n m : Int) : Bool := y_sm σ (y_at σ χ m.toNat) (y_at σ χ n.toNat)
theorem y_c_b (σ : Sg) (χ : q_X) (π : y_P) (t a b : Int) : -1 ≤ y_c σ χ π t a b ∧ y_c σ χ π t a b ≤ 1 := by unfold y_c; split <;> omega
theorem y_cs_b {σ : Sg} (h : SB σ) (χ : q_X) (π : y_P) (t a : Int) : -8 ≤ y_cs σ χ π t a ∧ y_cs σ χ π t a ≤ 8 := by
  have hn := sb_nb h
  have := f_sum_b (f := y_c σ χ π t a) (m := 1) (by omega) (s_n σ).toNat 0 (fun j _ _ => y_c_b σ χ π t a j)
  unfold y_cs
  omega
theorem y_pu_b {σ : Sg} (h : SB σ) (χ : q_X) (π : y_P) (t : Int) : -64 ≤ y_pu σ χ π t ∧ y_pu σ χ π t ≤ 64 := by
  have hn := sb_nb h
  have := f_sum_b (f := y_cs σ χ π t) (m := 8) (by omega) (s_n σ).toNat 0 (fun j _ _ => y_cs_b h χ π t j)
  unfold y_pu
  omega
theorem y_cs_0 (σ : Sg) (χ : q_X) (π : y_P) (t a : Int) : 0 ≤ y_cs σ χ π t a := by
  have key : ∀ (k : Nat) (i : Int), 0 ≤ f_sum (y_c σ χ π t a) i k := by
    intro k
    induction k with
    | zero => intro i; exact Int.le_refl 0
    | succ k ih =>
      intro i
      have h1 : 0 ≤ y_c σ χ π t a i := by unfold y_c; split <;> omega
      have h2 := ih (i + 1)
      show 0 ≤ y_c σ χ π t a i + f_sum (y_c σ χ π t a) (i + 1) k
      omega
  exact key _ _
theorem y_pu_0 (σ : Sg) (χ : q_X) (π : y_P) (t : Int) : 0 ≤ y_pu σ χ π t := by
  have key : ∀ (k : Nat) (i : Int), 0 ≤ f_sum (y_cs σ χ π t) i k := by
    intro k
    induction k with
    | zero => intro i; exact Int.le_refl 0
    | succ k ih =>
      intro i
      have h1 := y_cs_0 σ χ π t i
      have h2 := ih (i + 1)
      show 0 ≤ y_cs σ χ π t i + f_sum (y_cs σ χ π t) (i + 1) k
      omega
  exact key _ _
theorem c_allPlaces {sL : Nat} {xs : Nat → Int32} {d : Nat} {M : Am_M} {Q : Int64 → Am_M → Prop} (hd : 1 ≤ d) {σ : Sg} {π : y_P} (hW : WX M σ π) (hq : Q (z_L (y_code σ π)) M) : am_bl sL xs d 105 [.ref 24] M Q := by
  obtain ⟨d, rfl⟩ : ∃ e, d = e + 1 := ⟨d - 1, by omega⟩
  have hX := hW.1
  have hn := sb_nb hX.1
  have hloop : ∀ (k : Nat) (i c : Int), 0 ≤ i ∧ i + k = s_n σ → 0 ≤ c ∧ c < 64 ^ i.toNat → y_cd π c i k = y_code σ π → am_rw sL xs d am_pX9_allPlaces 3 4 [.ref 24, .long (z_L c), .null, .int (z_I i)] [] M (am_pl Q) := by
    intro k
    induction k with
    | zero =>
      intro i c hk hc he
      refine am_r_iload3 (pc' := 5) rfl rfl ?_
      refine am_r_aload0 (pc' := 6) rfl rfl ?_
      refine am_r_getR (t := 1) (pc' := 9) rfl rfl rfl ?_
      refine am_r_getIv (f := 5) (pc' := 12) rfl rfl rfl (sx_n hX) ?_
      refine am_r_icmp_ge (pt := 34) (pf := 15) rfl rfl rfl (fun h12 => ?_) (fun h12 => ?_)
      · refine am_r_lload1 (pc' := 35) rfl rfl ?_
        refine am_r_lret rfl rfl ?_
        rw [← he] at hq; exact hq
      · exfalso; omega
    | succ k ih =>
      intro i c hk hc he
      have hg := sg_b hX.1 (a := i) (by omega)
      have hpi := wx_b hW (a := i) (by omega)
      have hp6 := p64_b (i := i) (by omega)
      refine am_r_iload3 (pc' := 5) rfl rfl ?_
      refine am_r_aload0 (pc' := 6) rfl rfl ?_
      refine am_r_getR (t := 1) (pc' := 9) rfl rfl rfl ?_
      refine am_r_getIv (f := 5) (pc' := 12) rfl rfl rfl (sx_n hX) ?_
      refine am_r_icmp_ge (pt := 34) (pf := 15) rfl rfl rfl (fun h12 => ?_) (fun h12 => ?_)
      · exfalso; omega
      · refine am_r_lload1 (pc' := 16) rfl rfl ?_
        refine am_r_iconst (pc' := 18) rfl rfl ?_
        refine am_r_lshl (pc' := 19) rfl rfl ?_
        refine am_r_aload0 (pc' := 20) rfl rfl ?_
        refine am_r_getR (t := 25) (pc' := 23) rfl rfl rfl ?_
        refine am_r_iload3 (pc' := 24) rfl rfl ?_
        refine am_r_iaZv (n := 8) (pc' := 25) rfl rfl rfl (by decide) (wx_pl hW (by omega)) ?_
        refine am_r_i2l (pc' := 26) rfl rfl ?_
        refine am_r_lorR (pc' := 27) rfl rfl ?_
        rw [z_sh6 (by omega) (by omega)]
        refine am_r_lstore1 (pc' := 28) rfl rfl rfl ?_
        refine am_r_iinc3 (pc' := 31) rfl rfl rfl ?_
        refine am_r_goto (pc' := 4) rfl rfl ?_
        exact ih _ _ (by omega) (by rw [p64_s hk.1]; omega) he
  refine am_bl_of (P := am_pX9_allPlaces) (rt := 3) (nL := 4) (Nat.le_of_ble_eq_true rfl) rfl (Nat.le_of_ble_eq_true rfl) rfl rfl rfl ?_
  refine am_r_lconst (z := 0) (pc' := 1) rfl rfl rfl ?_
  refine am_r_lstore1 (pc' := 2) rfl rfl rfl ?_
  refine am_r_iconst (pc' := 3) rfl rfl ?_
  refine am_r_istore3 (pc' := 4) rfl rfl rfl ?_
  exact hloop (s_n σ).toNat 0 0 (by omega) (by decide) rfl
theorem c_areAllAtStart {sL : Nat} {xs : Nat → Int32} {d : Nat} {M : Am_M} {Q : Int32 → Am_M → Prop} (hd : 2 ≤ d) {σ : Sg} {π : y_P} (hW : WX M σ π) (hq : Q (z_b (y_z0 σ π = true)) M) : am_bi sL xs d 106 [.ref 24] M Q := by
  obtain ⟨d, rfl⟩ : ∃ e, d = e + 1 := ⟨d - 1, by omega⟩
  have hX := hW.1
  have hcb := y_code_b hX.1 hW.2.1
  have h0 := y_code_0 hX.1 hW.2.1
  refine am_bi_of (P := am_pX9_areAllAtStart) (rt := 2) (nL := 1) (Nat.le_of_ble_eq_true rfl) rfl (Nat.le_of_ble_eq_true rfl) rfl rfl rfl ?_
  refine am_r_aload0 (pc' := 1) rfl rfl ?_
  refine am_r_invL0 (pc' := 4) rfl rfl rfl (Nat.le_of_ble_eq_true rfl) (c_allPlaces (by omega) hW ?_)
  refine am_r_lconst (z := 0) (pc' := 5) rfl rfl rfl ?_
  refine am_r_lcmp (pc' := 6) rfl rfl ?_
  refine am_r_lif_ne (pt := 13) (pf := 9) rfl rfl rfl (fun h6 => ?_) (fun h6 => ?_)
  · refine am_r_iconst (pc' := 14) rfl rfl ?_
    refine am_r_zret rfl rfl (by first | exact Or.inr rfl | exact Or.inl rfl | exact z_b_01 _ | assumption) ?_
    first | (rw [z_bT (h0.mp (by omega))] at hq; exact hq) | (rw [z_bF (fun z => absurd (h0.mpr z) (by omega))] at hq; exact hq)
  · refine am_r_iconst (pc' := 10) rfl rfl ?_
    refine am_r_goto (pc' := 14) rfl rfl ?_
    refine am_r_zret rfl rfl (by first | exact Or.inr rfl | exact Or.inl rfl | exact z_b_01 _ | assumption) ?_
    first | (rw [z_bT (h0.mp (by omega))] at hq; exact hq) | (rw [z_bF (fun z => absurd (h0.mpr z) (by omega))] at hq; exact hq)
theorem c_placeBehind {sL : Nat} {xs : Nat → Int32} {d : Nat} {M : Am_M} {Q : Int32 → Am_M → Prop} (hd : 6 ≤ d) {σ : Sg} {χ : q_X} (hX : SX M σ) (hL : CL M χ) {a n : Int} (ha : 0 ≤ a ∧ a < s_n σ) (hnn : 0 ≤ n ∧ n ≤ 200) (hq : ∀ M', am_fr 22 28 M M' → Q (z_I (y_at σ χ n.toNat a)) M') : am_bi sL xs d 25 [.ref 29, .int (z_I a), .int (z_I n)] M Q := by
  obtain ⟨d, rfl⟩ : ∃ e, d = e + 1 := ⟨d - 1, by omega⟩
  have hn := sb_nb hX.1
  have hloop : ∀ (k i : Nat) (N : Am_M), (i : Int) + k = n → am_fr 22 28 M N → WX N σ (y_at σ χ i) → am_rw sL xs d am_pX3_placeBehind 1 9 [.ref 29, .int (z_I a), .int (z_I n), .int (z_I (i : Int))] [] N (am_pi Q) := by
    intro k
    induction k with
    | zero =>
      intro i N hk hF hW
      have hX := hW.1
      have hL := cl_fr hL hF (by omega)
      refine am_r_iload3 (pc' := 10) rfl rfl ?_
      refine am_r_iload2 (pc' := 11) rfl rfl ?_
      refine am_r_icmp_ge (pt := 28) (pf := 14) rfl rfl rfl (fun h11 => ?_) (fun h11 => ?_)
      · refine am_r_aload0 (pc' := 29) rfl rfl ?_
        refine am_r_getR (t := 24) (pc' := 32) rfl rfl rfl ?_
        refine am_r_getR (t := 25) (pc' := 35) rfl rfl rfl ?_
        refine am_r_iload1 (pc' := 36) rfl rfl ?_
        refine am_r_iaZv (n := 8) (pc' := 37) rfl rfl rfl (by decide) (wx_pl hW (by omega)) ?_
        refine am_r_iret rfl rfl ?_
        rw [show n.toNat = i by omega] at hq
        exact hq N hF
      · exfalso; omega
    | succ k ih =>
      intro i N hk hF hW
      have hX := hW.1
      have hL := cl_fr hL hF (by omega)
      refine am_r_iload3 (pc' := 10) rfl rfl ?_
      refine am_r_iload2 (pc' := 11) rfl rfl ?_
      refine am_r_icmp_ge (pt := 28) (pf := 14) rfl rfl rfl (fun h11 => ?_) (fun h11 => ?_)
      · exfalso; omega
      · refine am_r_aload0 (pc' := 15) rfl rfl ?_
        refine am_r_getR (t := 24) (pc' := 18) rfl rfl rfl ?_
        refine am_r_iload3 (pc' := 19) rfl rfl ?_
        refine am_r_invV1 (pc' := 22) rfl rfl rfl (Nat.le_of_ble_eq_true rfl) (c_pass (χ := χ) (t := (i : Int)) (by omega) hW hL ?_)
        · intro M4 hf4 hW4 hme4 hpu4 hb4
          have hF := am_fr_tr (lo := 22) (hi := 28) hF hf4 (by omega) (by omega)
          refine am_r_iinc3 (pc' := 25) rfl rfl rfl ?_
          refine am_r_goto (pc' := 9) rfl rfl ?_
          exact ih (i + 1) M4 (by omega) hF hW4
  refine am_bi_of (P := am_pX3_placeBehind) (rt := 1) (nL := 4) (Nat.le_of_ble_eq_true rfl) rfl (Nat.le_of_ble_eq_true rfl) rfl rfl rfl ?_
  refine am_r_aload0 (pc' := 1) rfl rfl ?_
  refine am_r_getR (t := 24) (pc' := 4) rfl rfl rfl ?_
  refine am_r_invV0 (pc' := 7) rfl rfl rfl (Nat.le_of_ble_eq_true rfl) (c_begin (by omega) hX ?_)
  · intro M2 hf2 hW2
    have hF : am_fr 22 28 M M2 := am_fr_w hf2 (by omega)
    refine am_r_iconst (pc' := 8) rfl rfl ?_
    refine am_r_istore3 (pc' := 9) rfl rfl rfl ?_
    exact hloop n.toNat 0 M2 (by omega) hF hW2
theorem c_pushesIn {sL : Nat} {xs : Nat → Int32} {d : Nat} {M : Am_M} {Q : Int32 → Am_M → Prop} (hd : 6 ≤ d) {σ : Sg} {χ : q_X} (hX : SX M σ) (hL : CL M χ) {n : Int} (hnn : 0 ≤ n ∧ n ≤ 200) (hq : ∀ M', am_fr 22 28 M M' → Q (z_I (f_sum (y_pd σ χ) 0 n.toNat)) M') : am_bi sL xs d 26 [.ref 29, .int (z_I n)] M Q := by
  obtain ⟨d, rfl⟩ : ∃ e, d = e + 1 := ⟨d - 1, by omega⟩
  have hn := sb_nb hX.1
  have hloop : ∀ (k i : Nat) (s : Int) (N : Am_M), (i : Int) + k = n → am_fr 22 28 M N → WX N σ (y_at σ χ i) → (∀ M', am_fr 22 28 M M' → Q (z_I (s + f_sum (y_pd σ χ) (i : Int) k)) M') → am_rw sL xs d am_pX3_pushesIn 1 11 [.ref 29, .int (z_I n), .int (z_I s), .int (z_I (i : Int))] [] N (am_pi Q) := by
    intro k
    induction k with
    | zero =>
      intro i s N hk hF hW hq
      have hX := hW.1
      have hL := cl_fr hL hF (by omega)
      refine am_r_iload3 (pc' := 12) rfl rfl ?_
      refine am_r_iload1 (pc' := 13) rfl rfl ?_
      refine am_r_icmp_ge (pt := 40) (pf := 16) rfl rfl rfl (fun h13 => ?_) (fun h13 => ?_)
      · refine am_r_iload2 (pc' := 41) rfl rfl ?_
        refine am_r_iret rfl rfl ?_
        have := hq N hF
        rw [f_sum_0] at this
        exact this
      · exfalso; omega
    | succ k ih =>
      intro i s N hk hF hW hq
      have hX := hW.1
      have hL := cl_fr hL hF (by omega)
      refine am_r_iload3 (pc' := 12) rfl rfl ?_
      refine am_r_iload1 (pc' := 13) rfl rfl ?_
      refine am_r_icmp_ge (pt := 40) (pf := 16) rfl rfl rfl (fun h13 => ?_) (fun h13 => ?_)
      · exfalso; omega
      · refine am_r_aload0 (pc' := 17) rfl rfl ?_
        refine am_r_getR (t := 24) (pc' := 20) rfl rfl rfl ?_
        refine am_r_iload3 (pc' := 21) rfl rfl ?_
        refine am_r_invV1 (pc' := 24) rfl rfl rfl (Nat.le_of_ble_eq_true rfl) (c_pass (χ := χ) (t := (i : Int)) (by omega) hW hL ?_)
        · intro M4 hf4 hW4 hme4 hpu4 hb4
          have hF := am_fr_tr (lo := 22) (hi := 28) hF hf4 (by omega) (by omega)
          refine am_r_iload2 (pc' := 25) rfl rfl ?_
          refine am_r_aload0 (pc' := 26) rfl rfl ?_
          refine am_r_getR (t := 24) (pc' := 29) rfl rfl rfl ?_
          refine am_r_getIv (f := 7) (pc' := 32) rfl rfl rfl (hpu4) ?_
          refine am_r_iadd (pc' := 33) rfl rfl ?_
          refine am_r_istore2 (pc' := 34) rfl rfl rfl ?_
          refine am_r_iinc3 (pc' := 37) rfl rfl rfl ?_
          refine am_r_goto (pc' := 11) rfl rfl ?_
          exact ih (i + 1) _ M4 (by omega) hF hW4 (fun M5 h5 => by have := hq M5 h5; rw [f_sum_s] at this; exact this)
  refine am_bi_of (P := am_pX3_pushesIn) (rt := 1) (nL := 4) (Nat.le_of_ble_eq_true rfl) rfl (Nat.le_of_ble_eq_true rfl) rfl rfl rfl ?_
  refine am_r_iconst (pc' := 1) rfl rfl ?_
  refine am_r_istore2 (pc' := 2) rfl rfl rfl ?_
  refine am_r_aload0 (pc' := 3) rfl rfl ?_
  refine am_r_getR (t := 24) (pc' := 6) rfl rfl rfl ?_
  refine am_r_invV0 (pc' := 9) rfl rfl rfl (Nat.le_of_ble_eq_true rfl) (c_begin (by omega) hX ?_)
  · intro M2 hf2 hW2
    have hF : am_fr 22 28 M M2 := am_fr_w hf2 (by omega)
    refine am_r_iconst (pc' := 10) rfl rfl ?_
    refine am_r_istore3 (pc' := 11) rfl rfl rfl ?_
    exact hloop n.toNat 0 0 M2 (by omega) hF hW2 (fun M5 h5 => by rw [Int.zero_add]; exact hq M5 h5)
theorem c_firstPushIn {sL : Nat} {xs : Nat → Int32} {d : Nat} {M : Am_M} {Q : Int32 → Am_M → Prop} (hd : 6 ≤ d) {σ : Sg} {χ : q_X} (hX : SX M σ) (hL : CL M χ) {n : Int} (hnn : 0 ≤ n ∧ n ≤ 200) (hq : ∀ M', am_fr 22 28 M M' → Q (z_I (f_first (y_pdp σ χ) 0 n.toNat)) M') : am_bi sL xs d 27 [.ref 29, .int (z_I n)] M Q := by
  obtain ⟨d, rfl⟩ : ∃ e, d = e + 1 := ⟨d - 1, by omega⟩
  have hn := sb_nb hX.1
  have hloop : ∀ (k i : Nat) (N : Am_M), (i : Int) + k = n → am_fr 22 28 M N → WX N σ (y_at σ χ i) → (∀ M', am_fr 22 28 M M' → Q (z_I (f_first (y_pdp σ χ) (i : Int) k)) M') → am_rw sL xs d am_pX3_firstPushIn 1 9 [.ref 29, .int (z_I n), .int (z_I (i : Int))] [] N (am_pi Q) := by
    intro k
    induction k with
    | zero =>
      intro i N hk hF hW hq
      have hX := hW.1
      have hL := cl_fr hL hF (by omega)
      refine am_r_iload2 (pc' := 10) rfl rfl ?_
      refine am_r_iload1 (pc' := 11) rfl rfl ?_
      refine am_r_icmp_ge (pt := 40) (pf := 14) rfl rfl rfl (fun h11 => ?_) (fun h11 => ?_)
      · refine am_r_iconst (pc' := 42) rfl rfl ?_
        refine am_r_iret rfl rfl ?_
        exact hq N hF
      · exfalso; omega
    | succ k ih =>
      intro i N hk hF hW hq
      have hX := hW.1
      have hL := cl_fr hL hF (by omega)
      have hpb := y_pu_b hX.1 χ (y_at σ χ i) (i : Int)
      refine am_r_iload2 (pc' := 10) rfl rfl ?_
      refine am_r_iload1 (pc' := 11) rfl rfl ?_
      refine am_r_icmp_ge (pt := 40) (pf := 14) rfl rfl rfl (fun h11 => ?_) (fun h11 => ?_)
      · exfalso; omega
      · refine am_r_aload0 (pc' := 15) rfl rfl ?_
        refine am_r_getR (t := 24) (pc' := 18) rfl rfl rfl ?_
        refine am_r_iload2 (pc' := 19) rfl rfl ?_
        refine am_r_invV1 (pc' := 22) rfl rfl rfl (Nat.le_of_ble_eq_true rfl) (c_pass (χ := χ) (t := (i : Int)) (by omega) hW hL ?_)
        · intro M4 hf4 hW4 hme4 hpu4 hb4
          have hF := am_fr_tr (lo := 22) (hi := 28) hF hf4 (by omega) (by omega)
          refine am_r_aload0 (pc' := 23) rfl rfl ?_
          refine am_r_getR (t := 24) (pc' := 26) rfl rfl rfl ?_
          refine am_r_getIv (f := 7) (pc' := 29) rfl rfl rfl (hpu4) ?_
          refine am_r_if_le (pt := 34) (pf := 32) rfl rfl rfl (fun h29 => ?_) (fun h29 => ?_)
          · refine am_r_iinc2 (pc' := 37) rfl rfl rfl ?_
            refine am_r_goto (pc' := 9) rfl rfl ?_
            exact ih (i + 1) M4 (by omega) hF hW4 (fun M5 h5 => by have := hq M5 h5; rw [f_first_f (by unfold y_pdp; rw [decide_eq_true_eq]; exact Int.not_lt.mpr h29)] at this; exact this)
          · refine am_r_iload2 (pc' := 33) rfl rfl ?_
            refine am_r_iret rfl rfl ?_
            have := hq M4 hF
            rw [f_first_t (by unfold y_pdp; exact decide_eq_true h29)] at this
            exact this
  refine am_bi_of (P := am_pX3_firstPushIn) (rt := 1) (nL := 3) (Nat.le_of_ble_eq_true rfl) rfl (Nat.le_of_ble_eq_true rfl) rfl rfl rfl ?_
  refine am_r_aload0 (pc' := 1) rfl rfl ?_
  refine am_r_getR (t := 24) (pc' := 4) rfl rfl rfl ?_
  refine am_r_invV0 (pc' := 7) rfl rfl rfl (Nat.le_of_ble_eq_true rfl) (c_begin (by omega) hX ?_)
  · intro M2 hf2 hW2
    have hF : am_fr 22 28 M M2 := am_fr_w hf2 (by omega)
    refine am_r_iconst (pc' := 8) rfl rfl ?_
    refine am_r_istore2 (pc' := 9) rfl rfl rfl ?_
    exact hloop n.toNat 0 M2 (by omega) hF hW2 hq
theorem c_foreMeetingsIn {sL : Nat} {xs : Nat → Int32} {d : Nat} {M : Am_M} {Q : Int32 → Am_M → Prop} (hd : 6 ≤ d) {σ : Sg} {χ : q_X} (hX : SX M σ) (hL : CL M χ) {a b n : Int} (ha : 0 ≤ a ∧ a < s_n σ) (hb : 0 ≤ b ∧ b < s_n σ) (hab : a ≠ b) (hnn : 0 ≤ n ∧ n ≤ 200) (hq : ∀ M', am_fr 22 28 M M' → Q (z_I (f_cnt (y_md σ χ a b) 0 n.toNat)) M') : am_bi sL xs d 28 [.ref 29, .int (z_I a), .int (z_I b), .int (z_I n)] M Q := by
  obtain ⟨d, rfl⟩ : ∃ e, d = e + 1 := ⟨d - 1, by omega⟩
  have hn := sb_nb hX.1
  have hloop : ∀ (k i : Nat) (s : Int) (N : Am_M), (i : Int) + k = n → am_fr 22 28 M N → WX N σ (y_at σ χ i) → (∀ M', am_fr 22 28 M M' → Q (z_I (s + f_cnt (y_md σ χ a b) (i : Int) k)) M') → am_rw sL xs d am_pX3_meetingsIn 1 13 [.ref 29, .int (z_I a), .int (z_I b), .int (z_I n), .int (z_I s), .int (z_I (i : Int))] [] N (am_pi Q) := by
    intro k
    induction k with
    | zero =>
      intro i s N hk hF hW hq
      have hX := hW.1
      have hL := cl_fr hL hF (by omega)
      refine am_r_iload5 (pc' := 15) rfl rfl ?_
      refine am_r_iload3 (pc' := 16) rfl rfl ?_
      refine am_r_icmp_ge (pt := 52) (pf := 19) rfl rfl rfl (fun h16 => ?_) (fun h16 => ?_)
      · refine am_r_iload4 (pc' := 54) rfl rfl ?_
        refine am_r_iret rfl rfl ?_
        have := hq N hF
        rw [f_cnt_0] at this
        exact this
      · exfalso; omega
    | succ k ih =>
      intro i s N hk hF hW hq
      have hX := hW.1
      have hL := cl_fr hL hF (by omega)
      have hwb := y_bits_b hX.1 (y_at σ χ i) a
      have hbt := y_bits_bit σ (y_at σ χ i) (a := a) (b := b) hb
      have h01 := s_bit01 (y_bits σ (y_at σ χ i) a) b
      refine am_r_iload5 (pc' := 15) rfl rfl ?_
      refine am_r_iload3 (pc' := 16) rfl rfl ?_
      refine am_r_icmp_ge (pt := 52) (pf := 19) rfl rfl rfl (fun h16 => ?_) (fun h16 => ?_)
      · exfalso; omega
      · refine am_r_aload0 (pc' := 20) rfl rfl ?_
        refine am_r_getR (t := 24) (pc' := 23) rfl rfl rfl ?_
        refine am_r_iload5 (pc' := 25) rfl rfl ?_
        refine am_r_invV1 (pc' := 28) rfl rfl rfl (Nat.le_of_ble_eq_true rfl) (c_pass (χ := χ) (t := (i : Int)) (by omega) hW hL ?_)
        · intro M4 hf4 hW4 hme4 hpu4 hb4
          have hF := am_fr_tr (lo := 22) (hi := 28) hF hf4 (by omega) (by omega)
          refine am_r_iload4 (pc' := 30) rfl rfl ?_
          refine am_r_aload0 (pc' := 31) rfl rfl ?_
          refine am_r_getR (t := 24) (pc' := 34) rfl rfl rfl ?_
          refine am_r_getR (t := 28) (pc' := 37) rfl rfl rfl ?_
          refine am_r_iload1 (pc' := 38) rfl rfl ?_
          refine am_r_iaZv (n := 8) (pc' := 39) rfl rfl rfl (by decide) (hb4 a (by omega)) ?_
          refine am_r_iload2 (pc' := 40) rfl rfl ?_
          refine am_r_ishr (pc' := 41) rfl rfl ?_
          refine am_r_iconst (pc' := 42) rfl rfl ?_
          refine am_r_iandR (pc' := 43) rfl rfl ?_
          rw [z_bit (by omega) (by omega)]
          refine am_r_iadd (pc' := 44) rfl rfl ?_
          refine am_r_istore4 (pc' := 46) rfl rfl rfl ?_
          refine am_r_iinc5 (pc' := 49) rfl rfl rfl ?_
          refine am_r_goto (pc' := 13) rfl rfl ?_
          refine ih (i + 1) _ M4 (by omega) hF hW4 (fun M5 h5 => ?_)
          have := hq M5 h5
          by_cases e : y_mt σ (y_at σ χ i) a b = true
          · rw [f_cnt_t (show y_md σ χ a b (i : Int) = true from e)] at this
            rw [hbt.mpr ⟨fun z => hab z.symm, e⟩]
            exact this
          · rw [f_cnt_f (show ¬ y_md σ χ a b (i : Int) = true from e)] at this
            have e0 : s_bit (y_bits σ (y_at σ χ i) a) b = 0 := by
              rcases h01 with h | h
              · exact h
              · exact absurd (hbt.mp h).2 e
            rw [e0, Int.add_zero]
            exact this
  refine am_bi_of (P := am_pX3_meetingsIn) (rt := 1) (nL := 6) (Nat.le_of_ble_eq_true rfl) rfl (Nat.le_of_ble_eq_true rfl) rfl rfl rfl ?_
  refine am_r_iconst (pc' := 1) rfl rfl ?_
  refine am_r_istore4 (pc' := 3) rfl rfl rfl ?_
  refine am_r_aload0 (pc' := 4) rfl rfl ?_
  refine am_r_getR (t := 24) (pc' := 7) rfl rfl rfl ?_
  refine am_r_invV0 (pc' := 10) rfl rfl rfl (Nat.le_of_ble_eq_true rfl) (c_begin (by omega) hX ?_)
  · intro M2 hf2 hW2
    have hF : am_fr 22 28 M M2 := am_fr_w hf2 (by omega)
    refine am_r_iconst (pc' := 11) rfl rfl ?_
    refine am_r_istore5 (pc' := 13) rfl rfl rfl ?_
    exact hloop n.toNat 0 0 M2 (by omega) hF hW2 (fun M5 h5 => by rw [Int.zero_add]; exact hq M5 h5)
theorem f_first_n {p : Int → Bool} {i : Int} {k : Nat} (h : f_first p i k = -2) (hi : -1 ≤ i) : ∀ j, i ≤ j → j < i + k → ¬ p j = true := f_first_all k i hi h
/-- the first of the days ahead of n on which all stood as on day n; n: none -/
def y_fs (σ : Sg) (χ : q_X) (n i : Int) (k : Nat) : Int := if f_first (y_sd σ χ n) i k = -2 then n else f_first (y_sd σ χ n) i k
def SN (M : Am_M) (σ : Sg) (χ : q_X) (n : Int) : Prop := ∀ m, 0 ≤ m → m ≤ n → M.2 30 m.toNat = z_L (y_code σ (y_at σ χ m.toNat))
theorem c_firstSeen {sL : Nat} {xs : Nat → Int32} {d : Nat} {M : Am_M} {Q : Int32 → Am_M → Prop} (hd : 1 ≤ d) {σ : Sg} {χ : q_X} (hB : SB σ) {n : Int} (hnn : 0 ≤ n ∧ n ≤ 300) (hS : SN M σ χ n) (hq : Q (z_I (y_fs σ χ n 0 n.toNat)) M) : am_bi sL xs d 30 [.ref 29, .int (z_I n)] M Q := by
  obtain ⟨d, rfl⟩ : ∃ e, d = e + 1 := ⟨d - 1, by omega⟩
  have hloop : ∀ (k : Nat) (i : Int), 0 ≤ i ∧ i + k = n → Q (z_I (y_fs σ χ n i k)) M → am_rw sL xs d am_pX3_firstSeen 1 2 [.ref 29, .int (z_I n), .int (z_I i)] [] M (am_pi Q) := by
    intro k
    induction k with
    | zero =>
      intro i hk hq
      refine am_r_iload2 (pc' := 3) rfl rfl ?_
      refine am_r_iload1 (pc' := 4) rfl rfl ?_
      refine am_r_icmp_ge (pt := 31) (pf := 7) rfl rfl rfl (fun h4 => ?_) (fun h4 => ?_)
      · refine am_r_iload1 (pc' := 32) rfl rfl ?_
        refine am_r_iret rfl rfl ?_
        rw [show y_fs σ χ n i 0 = n from if_pos rfl] at hq; exact hq
      · exfalso; omega
    | succ k ih =>
      intro i hk hq
      have hc1 := y_code_b hB (y_at_B hB χ i.toNat)
      have hc2 := y_code_b hB (y_at_B hB χ n.toNat)
      have he := y_code_e hB (y_at_B hB χ i.toNat) (y_at_B hB χ n.toNat)
      refine am_r_iload2 (pc' := 3) rfl rfl ?_
      refine am_r_iload1 (pc' := 4) rfl rfl ?_
      refine am_r_icmp_ge (pt := 31) (pf := 7) rfl rfl rfl (fun h4 => ?_) (fun h4 => ?_)
      · exfalso; omega
      · refine am_r_aload0 (pc' := 8) rfl rfl ?_
        refine am_r_getR (t := 30) (pc' := 11) rfl rfl rfl ?_
        refine am_r_iload2 (pc' := 12) rfl rfl ?_
        refine am_r_laZv (n := 301) (pc' := 13) rfl rfl rfl (by decide) (hS i (by omega) (by omega)) ?_
        refine am_r_aload0 (pc' := 14) rfl rfl ?_
        refine am_r_getR (t := 30) (pc' := 17) rfl rfl rfl ?_
        refine am_r_iload1 (pc' := 18) rfl rfl ?_
        refine am_r_laZv (n := 301) (pc' := 19) rfl rfl rfl (by decide) (hS n (by omega) (by omega)) ?_
        refine am_r_lcmp (pc' := 20) rfl rfl ?_
        refine am_r_lif_ne (pt := 25) (pf := 23) rfl rfl rfl (fun h20 => ?_) (fun h20 => ?_)
        · refine am_r_iinc2 (pc' := 28) rfl rfl rfl ?_
          refine am_r_goto (pc' := 2) rfl rfl ?_
          exact ih _ (by omega) (by
            have e : f_first (y_sd σ χ n) i (k + 1) = f_first (y_sd σ χ n) (i + 1) k := f_first_f (fun q => by have := he.mpr q; omega)
            unfold y_fs at hq
            rw [e] at hq
            exact hq)
        · refine am_r_iload2 (pc' := 24) rfl rfl ?_
          refine am_r_iret rfl rfl ?_
          have e : f_first (y_sd σ χ n) i (k + 1) = i := f_first_t (he.mp (by omega))
          rw [show y_fs σ χ n i (k + 1) = i by unfold y_fs; rw [e, if_neg (by omega)]] at hq
          exact hq
  refine am_bi_of (P := am_pX3_firstSeen) (rt := 1) (nL := 3) (Nat.le_of_ble_eq_true rfl) rfl (Nat.le_of_ble_eq_true rfl) rfl rfl rfl ?_
  refine am_r_iconst (pc' := 1) rfl rfl ?_
  refine am_r_istore2 (pc' := 2) rfl rfl rfl ?_
  exact hloop n.toNat 0 (by omega) hq
theorem y_fs_b (σ : Sg) (χ : q_X) (n : Int) (k : Nat) (h : (k : Int) = n) : 0 ≤ y_fs σ χ n 0 k ∧ y_fs σ χ n 0 k ≤ n := by
  have := f_first_b (y_sd σ χ n) k 0
  unfold y_fs
  split <;> omega
/-- the first day from i on (k of them) on which all stand as once ahead: that, or that once -/
def y_ag (σ : Sg) (χ : q_X) (w : Int) : Nat → Nat → Int
  | _, 0 => -2
  | i, k + 1 => if y_fs σ χ (i : Int) 0 i < (i : Int) then (if w = 0 then (i : Int) else y_fs σ χ (i : Int) 0 i) else y_ag σ χ w (i + 1) k
def am_fs (M M' : Am_M) : Prop := am_fr 22 30 M M' ∧ M'.1 29 = M.1 29
theorem c_roundAgain {sL : Nat} {xs : Nat → Int32} {d : Nat} {M : Am_M} {Q : Int32 → Am_M → Prop} (hd : 6 ≤ d) {σ : Sg} {χ : q_X} (hX : SX M σ) (hL : CL M χ) {w : Int} (hw : w = 0 ∨ w = 1) (hq : ∀ M', am_fr 22 30 M M' → Q (z_I (y_ag σ χ w 1 300)) M') : am_bi sL xs d 29 [.ref 29, .int (z_I w)] M Q := by
  obtain ⟨d, rfl⟩ : ∃ e, d = e + 1 := ⟨d - 1, by omega⟩
  have hn := sb_nb hX.1
  have hloop : ∀ (k i : Nat) (N : Am_M) (w3 : Value), i + k = 301 ∧ 1 ≤ i → am_fr 22 30 M N → WX N σ (y_at σ χ (i - 1)) → SN N σ χ ((i : Int) - 1) → (∀ M', am_fr 22 30 M M' → Q (z_I (y_ag σ χ w i k)) M') → am_rw sL xs d am_pX3_roundAgain 1 22 [.ref 29, .int (z_I w), .int (z_I (i : Int)), w3] [] N (am_pi Q) := by
    intro k
    induction k with
    | zero =>
      intro i N w3 hk hF hW hS hq
      refine am_r_iload2 (pc' := 23) rfl rfl ?_
      refine am_r_iconst (pc' := 26) rfl rfl ?_
      refine am_r_icmp_gt (pt := 79) (pf := 29) rfl rfl rfl (fun h26 => ?_) (fun h26 => ?_)
      · refine am_r_iconst (pc' := 81) rfl rfl ?_
        refine am_r_iret rfl rfl ?_
        exact hq N hF
      · exfalso; omega
    | succ k ih =>
      intro i N w3 hk hF hW hS hq
      have hX := hW.1
      have hL := cl_fr hL hF (by omega)
      have hfb := y_fs_b σ χ (i : Int) i rfl
      have e1 : ((i : Int) - 1).toNat = i - 1 := by omega
      refine am_r_iload2 (pc' := 23) rfl rfl ?_
      refine am_r_iconst (pc' := 26) rfl rfl ?_
      refine am_r_icmp_gt (pt := 79) (pf := 29) rfl rfl rfl (fun h26 => ?_) (fun h26 => ?_)
      · exfalso; omega
      · refine am_r_aload0 (pc' := 30) rfl rfl ?_
        refine am_r_getR (t := 24) (pc' := 33) rfl rfl rfl ?_
        refine am_r_iload2 (pc' := 34) rfl rfl ?_
        refine am_r_iconst (pc' := 35) rfl rfl ?_
        refine am_r_isub (pc' := 36) rfl rfl ?_
        refine am_r_invV1 (pc' := 39) rfl rfl rfl (Nat.le_of_ble_eq_true rfl) (c_pass (χ := χ) (t := (i : Int) - 1) (by omega) hW hL ?_)
        · intro M4 hf4 hW4 hme4 hpu4 hb4
          have hF := am_fr_tr (lo := 22) (hi := 30) hF hf4 (by omega) (by omega)
          have hW : WX M4 σ (y_at σ χ i) := by
            have e2 : y_at σ χ i = y_nx σ χ (y_at σ χ (i - 1)) ((i : Int) - 1) := by
              obtain ⟨j, rfl⟩ : ∃ j, i = j + 1 := ⟨i - 1, by omega⟩
              rw [show ((j + 1 : Nat) : Int) - 1 = (j : Int) by omega]; rfl
            rw [e2]; exact hW4
          refine am_r_aload0 (pc' := 40) rfl rfl ?_
          refine am_r_getR (t := 30) (pc' := 43) rfl rfl rfl ?_
          refine am_r_iload2 (pc' := 44) rfl rfl ?_
          refine am_r_aload0 (pc' := 45) rfl rfl ?_
          refine am_r_getR (t := 24) (pc' := 48) rfl rfl rfl ?_
          refine am_r_invL0 (pc' := 51) rfl rfl rfl (Nat.le_of_ble_eq_true rfl) (c_allPlaces (by omega) hW ?_)
          refine am_r_last (n := 301) (pc' := 52) rfl rfl (rfl) (by decide) ?_
          have hS : SN (am_upL M4 30 ((i : Int)).toNat (z_L (y_code σ (y_at σ χ i)))) σ χ (i : Int) := fun m h0 h1 => by
            by_cases e : m = (i : Int)
            · rw [e]; simp [am_upL]
            · have e3 : ¬ m.toNat = i := by omega
              have := hS m h0 (by omega)
              rw [← (hf4 30 (by omega)).2] at this
              simpa [am_upL, e3] using this
          have hF := am_fr_upL (k := 30) (i := ((i : Int)).toNat) (x := z_L (y_code σ (y_at σ χ i))) hF (by omega)
          have hW : WX (am_upL M4 30 ((i : Int)).toNat (z_L (y_code σ (y_at σ χ i)))) σ (y_at σ χ i) := wx_fr hW (am_fr_upL (am_fr_rf 30 30 _) (by omega)) (by omega) rfl
          have hX := hW.1
          refine am_r_aload0 (pc' := 53) rfl rfl ?_
          refine am_r_iload2 (pc' := 54) rfl rfl ?_
          refine am_r_invI1 (pc' := 57) rfl rfl rfl (Nat.le_of_ble_eq_true rfl) (c_firstSeen (n := (i : Int)) (by omega) hX.1 (by omega) hS ?_)
          refine am_r_istore3 (pc' := 58) rfl rfl rfl ?_
          rw [show ((i : Int)).toNat = i from rfl]
          refine am_r_iload3 (pc' := 59) rfl rfl ?_
          refine am_r_iload2 (pc' := 60) rfl rfl ?_
          refine am_r_icmp_ge (pt := 73) (pf := 63) rfl rfl rfl (fun h60 => ?_) (fun h60 => ?_)
          · refine am_r_iinc2 (pc' := 76) rfl rfl rfl ?_
            refine am_r_goto (pc' := 22) rfl rfl ?_
            refine ih (i + 1) _ _ (by omega) hF hW (by rw [show ((i + 1 : Nat) : Int) - 1 = (i : Int) by omega]; exact hS) (fun M5 h5 => ?_)
            have := hq M5 h5
            rw [show y_ag σ χ w i (k + 1) = y_ag σ χ w (i + 1) k from if_neg (by omega)] at this
            exact this
          · refine am_r_iload1 (pc' := 64) rfl rfl ?_
            refine am_r_if_eq (pt := 71) (pf := 67) rfl rfl rfl (fun h64 => ?_) (fun h64 => ?_)
            · refine am_r_iload2 (pc' := 72) rfl rfl ?_
              refine am_r_iret rfl rfl ?_
              have := hq _ hF
              rw [show y_ag σ χ w i (k + 1) = (if w = 0 then (i : Int) else y_fs σ χ (i : Int) 0 i) from if_pos h60] at this
              first
              | (rw [if_pos (by omega)] at this; exact this)
              | (rw [if_neg (by omega)] at this; exact this)
            · refine am_r_iload3 (pc' := 68) rfl rfl ?_
              refine am_r_goto (pc' := 72) rfl rfl ?_
              refine am_r_iret rfl rfl ?_
              have := hq _ hF
              rw [show y_ag σ χ w i (k + 1) = (if w = 0 then (i : Int) else y_fs σ χ (i : Int) 0 i) from if_pos h60] at this
              first
              | (rw [if_pos (by omega)] at this; exact this)
              | (rw [if_neg (by omega)] at this; exact this)
  refine am_bi_of (P := am_pX3_roundAgain) (rt := 1) (nL := 4) (Nat.le_of_ble_eq_true rfl) rfl (Nat.le_of_ble_eq_true rfl) rfl rfl rfl ?_
  refine am_r_aload0 (pc' := 1) rfl rfl ?_
  refine am_r_getR (t := 24) (pc' := 4) rfl rfl rfl ?_
  refine am_r_invV0 (pc' := 7) rfl rfl rfl (Nat.le_of_ble_eq_true rfl) (c_begin (by omega) hX ?_)
  · intro M2 hf2 hW2
    have hW := hW2
    have hF : am_fr 22 30 M M2 := am_fr_w hf2 (by omega)
    refine am_r_aload0 (pc' := 8) rfl rfl ?_
    refine am_r_getR (t := 30) (pc' := 11) rfl rfl rfl ?_
    refine am_r_iconst (pc' := 12) rfl rfl ?_
    refine am_r_aload0 (pc' := 13) rfl rfl ?_
    refine am_r_getR (t := 24) (pc' := 16) rfl rfl rfl ?_
    refine am_r_invL0 (pc' := 19) rfl rfl rfl (Nat.le_of_ble_eq_true rfl) (c_allPlaces (by omega) hW ?_)
    refine am_r_last (n := 301) (pc' := 20) rfl rfl (rfl) (by decide) ?_
    refine am_r_iconst (pc' := 21) rfl rfl ?_
    refine am_r_istore2 (pc' := 22) rfl rfl rfl ?_
    exact hloop 300 1 _ _ (by omega) (am_fr_upL hF (by omega)) (wx_fr hW (am_fr_upL (am_fr_rf 30 30 _) (by omega)) (by omega) rfl) (fun m h0 h1 => by
      have e : m = 0 := by omega
      rw [e]
      simp [am_upL]
      rfl) hq
