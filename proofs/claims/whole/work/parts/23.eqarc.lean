/-! the least arc, both ways -/
def e_D (σ : Sg) (d a j : Int) : Int := (g_dg σ j d - g_dg σ a d) % 360
theorem g_af_s (σ : Sg) (s a d : Int) : ∀ (k : Nat) (c i : Int), c ≤ g_af σ s a d c i k ∧ (∀ j, i ≤ j → j < i + k → s_bit s j = 1 → e_D σ d a j ≤ g_af σ s a d c i k) ∧ (g_af σ s a d c i k = c ∨ ∃ j, i ≤ j ∧ j < i + k ∧ s_bit s j = 1 ∧ g_af σ s a d c i k = e_D σ d a j)
  | 0, c, i => ⟨Int.le_refl _, fun j h1 h2 => by omega, Or.inl rfl⟩
  | k + 1, c, i => by
    unfold g_af
    rw [show (g_dg σ i d - g_dg σ a d) % 360 = e_D σ d a i from rfl]
    split
    · rename_i q
      obtain ⟨h1, h2, h3⟩ := g_af_s σ s a d k (max c (e_D σ d a i)) (i + 1)
      refine ⟨by omega, fun j h4 h5 h6 => ?_, ?_⟩
      · by_cases e : j = i
        · rw [e]; omega
        · exact h2 j (by omega) (by omega) h6
      · rcases h3 with h3 | ⟨j, h4, h5, h6, h7⟩
        · rcases (show max c (e_D σ d a i) = c ∨ max c (e_D σ d a i) = e_D σ d a i by omega) with e | e
          · exact Or.inl (h3.trans e)
          · exact Or.inr ⟨i, by omega, by omega, q, h3.trans e⟩
        · exact Or.inr ⟨j, by omega, by omega, h6, h7⟩
    · rename_i q
      obtain ⟨h1, h2, h3⟩ := g_af_s σ s a d k c (i + 1)
      refine ⟨h1, fun j h4 h5 h6 => ?_, ?_⟩
      · by_cases e : j = i
        · rw [e] at h6; exact absurd h6 q
        · exact h2 j (by omega) (by omega) h6
      · rcases h3 with h3 | ⟨j, h4, h5, h6, h7⟩
        · exact Or.inl h3
        · exact Or.inr ⟨j, by omega, by omega, h6, h7⟩
theorem g_la_s (σ : Sg) (s d : Int) : ∀ (k : Nat) (c i : Int), g_la σ s d c i k ≤ c ∧ (∀ j, i ≤ j → j < i + k → s_bit s j = 1 → g_la σ s d c i k ≤ g_arcf σ s j d) ∧ (g_la σ s d c i k = c ∨ ∃ j, i ≤ j ∧ j < i + k ∧ s_bit s j = 1 ∧ g_la σ s d c i k = g_arcf σ s j d)
  | 0, c, i => ⟨Int.le_refl _, fun j h1 h2 => by omega, Or.inl rfl⟩
  | k + 1, c, i => by
    unfold g_la
    split
    · rename_i q
      obtain ⟨h1, h2, h3⟩ := g_la_s σ s d k (min c (g_arcf σ s i d)) (i + 1)
      refine ⟨by omega, fun j h4 h5 h6 => ?_, ?_⟩
      · by_cases e : j = i
        · rw [e]; omega
        · exact h2 j (by omega) (by omega) h6
      · rcases h3 with h3 | ⟨j, h4, h5, h6, h7⟩
        · rcases (show min c (g_arcf σ s i d) = c ∨ min c (g_arcf σ s i d) = g_arcf σ s i d by omega) with e | e
          · exact Or.inl (h3.trans e)
          · exact Or.inr ⟨i, by omega, by omega, q, h3.trans e⟩
        · exact Or.inr ⟨j, by omega, by omega, h6, h7⟩
    · rename_i q
      obtain ⟨h1, h2, h3⟩ := g_la_s σ s d k c (i + 1)
      refine ⟨h1, fun j h4 h5 h6 => ?_, ?_⟩
      · by_cases e : j = i
        · rw [e] at h6; exact absurd h6 q
        · exact h2 j (by omega) (by omega) h6
      · rcases h3 with h3 | ⟨j, h4, h5, h6, h7⟩
        · exact Or.inl h3
        · exact Or.inr ⟨j, by omega, by omega, h6, h7⟩
theorem b_gp_s (σ : Sg) (s b d : Int) : ∀ (k : Nat) (c i : Int), b_gp σ s b d c i k ≤ c ∧ (∀ j, i ≤ j → j < i + k → s_bit s j = 1 → 0 < e_D σ d b j → b_gp σ s b d c i k ≤ e_D σ d b j) ∧ (b_gp σ s b d c i k = c ∨ ∃ j, i ≤ j ∧ j < i + k ∧ s_bit s j = 1 ∧ 0 < e_D σ d b j ∧ b_gp σ s b d c i k = e_D σ d b j)
  | 0, c, i => ⟨Int.le_refl _, fun j h1 h2 => by omega, Or.inl rfl⟩
  | k + 1, c, i => by
    unfold b_gp
    rw [show (g_dg σ i d - g_dg σ b d) % 360 = e_D σ d b i from rfl]
    split
    · rename_i q
      obtain ⟨h1, h2, h3⟩ := b_gp_s σ s b d k (if 0 < e_D σ d b i ∧ e_D σ d b i < c then e_D σ d b i else c) (i + 1)
      by_cases e0 : 0 < e_D σ d b i ∧ e_D σ d b i < c
      · rw [if_pos e0] at h1 h2 h3 ⊢
        refine ⟨by omega, fun j h4 h5 h6 h8 => ?_, ?_⟩
        · by_cases e : j = i
          · rw [e]; omega
          · exact h2 j (by omega) (by omega) h6 h8
        · rcases h3 with h3 | ⟨j, h4, h5, h6, h7⟩
          · exact Or.inr ⟨i, by omega, by omega, q, e0.1, h3⟩
          · exact Or.inr ⟨j, by omega, by omega, h6, h7⟩
      · rw [if_neg e0] at h1 h2 h3 ⊢
        refine ⟨by omega, fun j h4 h5 h6 h8 => ?_, ?_⟩
        · by_cases e : j = i
          · rw [e] at h8 ⊢; omega
          · exact h2 j (by omega) (by omega) h6 h8
        · rcases h3 with h3 | ⟨j, h4, h5, h6, h7⟩
          · exact Or.inl h3
          · exact Or.inr ⟨j, by omega, by omega, h6, h7⟩
    · rename_i q
      obtain ⟨h1, h2, h3⟩ := b_gp_s σ s b d k c (i + 1)
      refine ⟨h1, fun j h4 h5 h6 h8 => ?_, ?_⟩
      · by_cases e : j = i
        · rw [e] at h6; exact absurd h6 q
        · exact h2 j (by omega) (by omega) h6 h8
      · rcases h3 with h3 | ⟨j, h4, h5, h6, h7⟩
        · exact Or.inl h3
        · exact Or.inr ⟨j, by omega, by omega, h6, h7⟩
theorem b_wd_s (σ : Sg) (s d : Int) : ∀ (k : Nat) (c i : Int), c ≤ b_wd σ s d c i k ∧ (∀ j, i ≤ j → j < i + k → s_bit s j = 1 → b_gap σ s j d ≤ b_wd σ s d c i k) ∧ (b_wd σ s d c i k = c ∨ ∃ j, i ≤ j ∧ j < i + k ∧ s_bit s j = 1 ∧ b_wd σ s d c i k = b_gap σ s j d)
  | 0, c, i => ⟨Int.le_refl _, fun j h1 h2 => by omega, Or.inl rfl⟩
  | k + 1, c, i => by
    unfold b_wd
    split
    · rename_i q
      obtain ⟨h1, h2, h3⟩ := b_wd_s σ s d k (max c (b_gap σ s i d)) (i + 1)
      refine ⟨by omega, fun j h4 h5 h6 => ?_, ?_⟩
      · by_cases e : j = i
        · rw [e]; omega
        · exact h2 j (by omega) (by omega) h6
      · rcases h3 with h3 | ⟨j, h4, h5, h6, h7⟩
        · rcases (show max c (b_gap σ s i d) = c ∨ max c (b_gap σ s i d) = b_gap σ s i d by omega) with e | e
          · exact Or.inl (h3.trans e)
          · exact Or.inr ⟨i, by omega, by omega, q, h3.trans e⟩
        · exact Or.inr ⟨j, by omega, by omega, h6, h7⟩
    · rename_i q
      obtain ⟨h1, h2, h3⟩ := b_wd_s σ s d k c (i + 1)
      refine ⟨h1, fun j h4 h5 h6 => ?_, ?_⟩
      · by_cases e : j = i
        · rw [e] at h6; exact absurd h6 q
        · exact h2 j (by omega) (by omega) h6
      · rcases h3 with h3 | ⟨j, h4, h5, h6, h7⟩
        · exact Or.inl h3
        · exact Or.inr ⟨j, by omega, by omega, h6, h7⟩
theorem s_bit_ex {n s : Int} (h : 0 ≤ n ∧ n ≤ 8) (hs : 0 ≤ s ∧ s < 2 ^ n.toNat) (h0 : s ≠ 0) : ∃ j, 0 ≤ j ∧ j < n ∧ s_bit s j = 1 := by
  obtain ⟨a, rfl⟩ : ∃ a : Nat, n = a := ⟨n.toNat, by omega⟩
  obtain ⟨e, rfl⟩ : ∃ e : Nat, s = e := ⟨s.toNat, by omega⟩
  have q : ∀ a : Nat, a < 9 → ∀ e : Nat, e < 2 ^ a → e = 0 ∨ ∃ b, b < a ∧ s_bit (e : Int) (b : Int) = 1 := by decide +kernel
  rcases q a (by omega) e (by have := hs.2; simp only [Int.toNat_natCast] at this; exact_mod_cast this) with q | ⟨b, q1, q2⟩
  · omega
  · exact ⟨b, by omega, by omega, q2⟩
theorem s_bit_z (j : Int) : s_bit 0 j = 0 := by unfold s_bit; simp
theorem g_arc_e {σ : Sg} (h : SB σ) (s d : Int) (hs : 0 ≤ s ∧ s < 2 ^ (s_n σ).toNat) : g_arc σ s d = b_arc σ s d := by
  have hn := sb_nb h
  have hN : (0 : Int) + ((s_n σ).toNat : Int) = s_n σ := by omega
  obtain ⟨w1, w2, w3⟩ := b_wd_s σ s d (s_n σ).toNat 0 0
  obtain ⟨l1, l2, l3⟩ := g_la_s σ s d (s_n σ).toNat 360 0
  rw [hN] at w2 w3 l2 l3
  by_cases h0 : s = 0
  · unfold g_arc b_arc
    rw [if_pos h0, if_pos]
    rcases w3 with w3 | ⟨j, q1, q2, q3, q4⟩
    · exact w3
    · rw [h0, s_bit_z] at q3; omega
  · obtain ⟨j0, e1, e2, e3⟩ := s_bit_ex hn hs h0
    have hg0 := b_gap_b σ s j0 d
    have hw0 := w2 j0 e1 e2 e3
    unfold g_arc b_arc
    rw [if_neg h0, if_neg (by omega)]
    have hdg : ∀ a, 0 ≤ a → a < s_n σ → 0 ≤ g_dg σ a d ∧ g_dg σ a d < 360 := fun a h1 h2 => g_dg_b h ⟨h1, h2⟩ d
    have hlow : ∀ a, 0 ≤ a → a < s_n σ → s_bit s a = 1 → 360 - b_wd σ s d 0 0 (s_n σ).toNat ≤ g_arcf σ s a d := by
      intro a a1 a2 a3
      obtain ⟨f1, f2, f3⟩ := g_af_s σ s a d (s_n σ).toNat 0 0
      rw [hN] at f2 f3
      rw [show g_af σ s a d 0 0 (s_n σ).toNat = g_arcf σ s a d from rfl] at f1 f2 f3
      have key : ∀ i, 0 ≤ i → i < s_n σ → s_bit s i = 1 → g_arcf σ s a d = e_D σ d a i → 360 - g_arcf σ s a d ≤ b_gap σ s i d := by
        intro i i1 i2 i3 i4
        obtain ⟨p1, p2, p3⟩ := b_gp_s σ s i d (s_n σ).toNat 360 0
        rw [hN] at p2 p3
        rw [show b_gp σ s i d 360 0 (s_n σ).toNat = b_gap σ s i d from rfl] at p1 p2 p3
        rcases p3 with p3 | ⟨j, j1, j2, j3, j4, j5⟩
        · omega
        · have k1 := f2 j j1 j2 j3
          have g1 := hdg a a1 a2
          have g2 := hdg i i1 i2
          have g3 := hdg j j1 j2
          rw [i4] at k1 ⊢
          rw [j5]
          unfold e_D at *
          omega
      have hh : ∃ i, 0 ≤ i ∧ i < s_n σ ∧ s_bit s i = 1 ∧ g_arcf σ s a d = e_D σ d a i := by
        rcases f3 with f3 | ⟨i, i1, i2, i3, i4⟩
        · exact ⟨a, a1, a2, a3, by rw [f3]; unfold e_D; omega⟩
        · exact ⟨i, i1, i2, i3, i4⟩
      obtain ⟨i, i1, i2, i3, i4⟩ := hh
      have := key i i1 i2 i3 i4
      have := w2 i i1 i2 i3
      omega
    have hup : g_la σ s d 360 0 (s_n σ).toNat ≤ 360 - b_wd σ s d 0 0 (s_n σ).toNat := by
      rcases w3 with w3 | ⟨i, i1, i2, i3, i4⟩
      · omega
      · rw [i4]
        obtain ⟨p1, p2, p3⟩ := b_gp_s σ s i d (s_n σ).toNat 360 0
        rw [hN] at p2 p3
        rw [show b_gp σ s i d 360 0 (s_n σ).toNat = b_gap σ s i d from rfl] at p1 p2 p3
        rcases p3 with p3 | ⟨a, a1, a2, a3, a4, a5⟩
        · have k1 := l2 i i1 i2 i3
          obtain ⟨f1, f2, f3⟩ := g_af_s σ s i d (s_n σ).toNat 0 0
          rw [hN] at f3
          rw [show g_af σ s i d 0 0 (s_n σ).toNat = g_arcf σ s i d from rfl] at f3
          rcases f3 with f3 | ⟨j, j1, j2, j3, j4⟩
          · omega
          · have z1 : 0 ≤ e_D σ d i j ∧ e_D σ d i j < 360 := by unfold e_D; omega
            by_cases z : 0 < e_D σ d i j
            · have := p2 j j1 j2 j3 z
              omega
            · omega
        · have k1 := l2 a a1 a2 a3
          obtain ⟨f1, f2, f3⟩ := g_af_s σ s a d (s_n σ).toNat 0 0
          rw [hN] at f3
          rw [show g_af σ s a d 0 0 (s_n σ).toNat = g_arcf σ s a d from rfl] at f3
          rcases f3 with f3 | ⟨j, j1, j2, j3, j4⟩
          · have z1 : e_D σ d i a < 360 := by unfold e_D; omega
            omega
          · have g1 := hdg a a1 a2
            have g2 := hdg i i1 i2
            have g3 := hdg j j1 j2
            have p4 := p2 j j1 j2 j3
            rw [a5] at p4 ⊢
            rw [j4] at k1
            unfold e_D at *
            omega
    have hlo2 : 360 - b_wd σ s d 0 0 (s_n σ).toNat ≤ g_la σ s d 360 0 (s_n σ).toNat := by
      rcases l3 with l3 | ⟨a, a1, a2, a3, a4⟩
      · omega
      · rw [a4]
        exact hlow a a1 a2 a3
    omega
theorem r_arc_e {σ : Sg} (h : SB σ) (s f0 : Int) : r_arc σ s f0 (g_arc σ s f0) = r_arc σ s f0 (b_arc σ s f0) := by
  unfold r_arc
  split
  · rename_i q
    exact g_arc_e h s f0 q.1
  · rfl
