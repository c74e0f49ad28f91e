/-! THE LAW of the class: its steps at work -/
def q_bl (l : List (Int × Int)) : Prop := ∀ x, x ∈ l → 0 ≤ x.1 ∧ x.1 ≤ 255 ∧ 0 ≤ x.2 ∧ x.2 ≤ 10000
theorem q_bl_app {l l' : List (Int × Int)} (h : q_bl l) (h' : q_bl l') : q_bl (l ++ l') := fun x hx => by
  rcases List.mem_append.mp hx with q | q
  · exact h x q
  · exact h' x q
theorem q_bl_1 {a b : Int} (h : 0 ≤ a ∧ a ≤ 255 ∧ 0 ≤ b ∧ b ≤ 10000) : q_bl [(a, b)] := fun x hx => by
  rw [List.mem_singleton.mp hx]; exact h
theorem q_bl_0 : q_bl [] := fun x hx => absurd hx (by simp)
def q_bd (n : Int) (f : Int → q_R) : Prop := ∀ p, 0 ≤ p → p ≤ n → q_bl (f p).2.2.1
theorem q_lt {c : Int → Int} {n p : Int} (hc : q_C c n) (h0 : 0 ≤ p) (h : ¬ c p = -1) : p < n ∧ 0 ≤ c p ∧ c p ≤ 255 := by
  by_cases e : p < n
  · have := (hc p h0).1 e
    omega
  · exact absurd ((hc p h0).2 (by omega)) h
theorem q_chain_bd {c : Int → Int} {n : Int} (hc : q_C c n) {sub : Int → q_R} (hg : q_gd n sub) (hs : q_bd n sub) {is : Int → Bool} (hi : is (-1) = false) : ∀ (k : Nat) (a : q_R), 0 ≤ a.2.1 → a.2.1 ≤ n → q_bl a.2.2.1 → q_bl (q_chain sub is c k a).2.2.1
  | 0, a, _, _, h => h
  | k + 1, a, h0, h1, h => by
    unfold q_chain
    split
    · rename_i q
      have hl := q_lt hc h0 (fun z => by have := q.2; rw [z, hi] at this; exact absurd this (by decide))
      have g := hg (a.2.1 + 1) (by omega) (by omega)
      split
      · refine q_chain_bd hc hg hs hi k _ ?_ g.2.1 (q_bl_app (q_bl_app h (hs _ (by omega) (by omega))) (q_bl_1 (by omega)))
        simp only; omega
      · exact q_bl_0
    · exact h
theorem q_lev_bd {c : Int → Int} {n : Int} (hc : q_C c n) {sub : Int → q_R} (hg : q_gd n sub) (hs : q_bd n sub) {is : Int → Bool} (hi : is (-1) = false) : q_bd n (q_lev sub is c) := fun p h0 h1 =>
  q_chain_bd hc hg hs hi 120 _ (by have := hg p h0 h1; omega) (hg p h0 h1).2.1 (hs p h0 h1)
theorem q_cmp_bd {c : Int → Int} {n : Int} (hc : q_C c n) {sub : Int → q_R} (hg : q_gd n sub) (hs : q_bd n sub) : q_bd n (q_cmp sub c) := fun p h0 h1 => by
  have g := hg p h0 h1
  unfold q_cmp
  split
  · rename_i q
    have hl := q_lt hc (p := (sub p).2.1) (by omega) (by omega)
    split
    · exact q_bl_app (q_bl_app (hs p h0 h1) (hs _ (by omega) (by omega))) (q_bl_1 (by omega))
    · exact q_bl_0
  · exact hs p h0 h1
theorem q_ei_bd {c : Int → Int} {n : Int} (hc : q_C c n) {one : Int → q_R} (hg : q_gd n one) (hs : q_bd n one) : q_bd n (q_ei one c) := by
  obtain ⟨g1, g2, g3, g4, _⟩ := q_ei_gd hc hg
  exact q_lev_bd hc g4 (q_lev_bd hc g3 (q_cmp_bd hc g2 (q_lev_bd hc g1 (q_lev_bd hc hg hs (by decide)) (by decide))) (by decide)) (by decide)
theorem q_prim_bd {c : Int → Int} {n p : Int} (hc : q_C c n) (h0 : 0 ≤ p) (h1 : p ≤ n) {nest : q_R} (hn : q_bl nest.2.2.1) : q_bl (q_prim c p nest).2.2.1 := by
  unfold q_prim
  split
  · rename_i q
    have := q_num_1 hc p h0 h1 q
    exact q_bl_1 (by omega)
  · split
    · have := q_nm_b (c p)
      exact q_bl_1 (by omega)
    · exact hn
theorem q_one_bd {c : Int → Int} {n : Int} (hc : q_C c n) : ∀ m : Nat, q_bd n (q_one c m)
  | 0 => fun p h0 h1 => by
    unfold q_one
    exact q_prim_bd hc h0 h1 q_bl_0
  | m + 1 => fun p h0 h1 => by
    have ih := q_one_bd hc m
    have ie := q_ei_bd hc (q_one_gd hc m) ih
    unfold q_one
    refine q_prim_bd hc h0 h1 ?_
    split
    · rename_i q
      have hl := q_lt hc h0 (show ¬ c p = -1 by omega)
      unfold q_close
      split
      · exact ie _ (by omega) (by omega)
      · exact q_bl_0
    · split
      · rename_i q
        have hl := q_lt hc h0 (show ¬ c p = -1 by omega)
        unfold q_turn
        split
        · exact q_bl_app (ih _ (by omega) (by omega)) (q_bl_1 (by split <;> omega))
        · exact q_bl_0
      · exact q_bl_0
theorem q_e_bd {c : Int → Int} {n : Int} (hc : q_C c n) : q_bd n (q_e c) := q_ei_bd hc (q_one_gd hc 6) (q_one_bd hc 6)
theorem q_ln_bd {c : Int → Int} {n p : Int} (hc : q_C c n) (hn : n ≤ 120) (L : Nat) (h0 : 0 ≤ p) (h1 : p ≤ n) (hL : (L : Int) ≤ p) : q_bl (q_ln (q_e c) c L p).2.2.1 := by
  have g := q_e_gd hc p h0 h1
  unfold q_ln
  split
  · rename_i q
    have g3 := g.2.2 q
    split
    · rename_i r
      have hl := q_lt hc (p := (q_e c p).2.1) (by omega) (by omega)
      have g4 := q_e_gd hc ((q_e c p).2.1 + 1) (by omega) (by omega)
      split
      · rename_i t
        have g5 := g4.2.2 t
        exact q_bl_app (q_bl_app (q_bl_app (q_e_bd hc p h0 h1) (q_bl_1 (by omega))) (q_e_bd hc _ (by omega) (by omega))) (q_bl_1 (by omega))
      · exact q_bl_0
    · exact q_bl_app (q_e_bd hc p h0 h1) (q_bl_1 (by omega))
  · exact q_bl_0
theorem q_tx_bd {c : Int → Int} {n : Int} (hc : q_C c n) (hn : n ≤ 120) : ∀ (k : Nat) (a : q_T), 0 ≤ a.2.1 → a.2.1 ≤ n → (a.2.2.1.length : Int) ≤ a.2.1 + 1 → q_bl a.2.2.1 → q_bl (q_tx (q_e c) c k a).2.2.1 ∧ ((q_tx (q_e c) c k a).2.2.1.length : Int) ≤ n + 1
  | 0, a, h0, h1, h2, h => ⟨h, by show (a.2.2.1.length : Int) ≤ n + 1; omega⟩
  | k + 1, a, h0, h1, h2, h => by
    unfold q_tx
    split
    · rename_i q
      have hl := q_lt hc h0 (show ¬ c a.2.1 = -1 by omega)
      have g := q_ln_gd hc a.2.2.1.length (p := a.2.1 + 1) (by omega) (by omega)
      split
      · rename_i r
        have g3 := g.2.2 r
        refine q_tx_bd hc hn k _ ?_ g.2.1 ?_ (q_bl_app h (q_ln_bd hc hn _ (by omega) (by omega) (by omega)))
        · simp only; omega
        · simp only [List.length_append]; omega
      · exact ⟨q_bl_0, by simp only [q_nt, List.length_nil]; omega⟩
    · exact ⟨h, by omega⟩
theorem q_all_bd {c : Int → Int} {n : Int} (hc : q_C c n) (h0 : 0 ≤ n) (hn : n ≤ 120) : q_bl (q_all c).2.2.1 ∧ ((q_all c).2.2.1.length : Int) ≤ n + 1 := by
  have g := q_ln_gd hc 0 (p := 0) (by omega) h0
  by_cases q : (q_ln (q_e c) c 0 0).1 = true
  · have g3 := g.2.2 q
    exact q_tx_bd hc hn 120 _ g.1 g.2.1 (by omega) (q_ln_bd hc hn 0 (by omega) h0 (by omega))
  · have e : q_all c = q_ln (q_e c) c 0 0 := by
      unfold q_all
      rw [q_tx, if_neg (fun z => q z.1)]
    have e2 : (q_ln (q_e c) c 0 0).2.2.1 = [] := by
      unfold q_ln at q ⊢
      split
      · rename_i r
        rw [if_pos r] at q
        split
        · rename_i t
          rw [if_pos t] at q
          split
          · rename_i u
            rw [if_pos u] at q
            exact absurd rfl q
          · rfl
        · rename_i t
          rw [if_neg t] at q
          exact absurd rfl q
      · rfl
    rw [e, e2]
    exact ⟨q_bl_0, by simp only [List.length_nil]; omega⟩
def CX (M : Am_M) (l : List (Int × Int)) : Prop := M.1 19 2 = z_I (l.length : Int) ∧ l.length ≤ 121 ∧ q_bl l ∧ (∀ i x, l[i]? = some x → M.1 20 i = z_I x.1 ∧ M.1 21 i = z_I x.2)
theorem cx_s {M : Am_M} {l : List (Int × Int)} (h : CX M l) : M.1 19 2 = z_I (l.length : Int) := h.1
theorem cx_fr {M M' : Am_M} {l : List (Int × Int)} {lo hi : Nat} (h : CX M l) (hf : am_fr lo hi M M') (hh : hi < 19 ∨ 21 < lo) : CX M' l := by
  obtain ⟨h1, h2, h3, h4⟩ := h
  refine ⟨by rw [(hf 19 (by omega)).1]; exact h1, h2, h3, fun i x e => ?_⟩
  rw [(hf 20 (by omega)).1, (hf 21 (by omega)).1]
  exact h4 i x e
/-- the law's stack, its top first -/
def SK (N : Am_M) : List Int32 → Prop
  | [] => True
  | x :: r => N.1 23 r.length = x ∧ SK N r
theorem sk_up {N : Am_M} {v : Int32} {k : Nat} : ∀ (st : List Int32), st.length ≤ k → SK N st → SK (am_upI N 23 k v) st
  | [], _, _ => trivial
  | x :: r, h, hs => by
    simp only [List.length_cons] at h
    refine ⟨?_, sk_up r (by omega) hs.2⟩
    have : r.length ≠ k := by omega
    simp [am_upI, this, hs.1]
theorem sk_push {N : Am_M} {st : List Int32} (hs : SK N st) {v : Int32} {k : Nat} (hk : k = st.length) : SK (am_upI N 23 k v) (v :: st) := by
  subst hk
  exact ⟨by simp [am_upI], sk_up st (Nat.le_refl _) hs⟩
theorem sk_at {N : Am_M} {x : Int32} {r : List Int32} (hs : SK N (x :: r)) {k : Nat} (hk : k = r.length) : N.1 23 k = x := by rw [hk]; exact hs.1
theorem c_joined {sL : Nat} {xs : Nat → Int32} {d : Nat} {M : Am_M} {Q : Int32 → Am_M → Prop} (hd : 1 ≤ d) {op : Int} {x y : Int32} (hop : 0 ≤ op ∧ op ≤ 255) (hq : Q (q_join op x y) M) : am_bi sL xs d 41 [.int (z_I op), .int x, .int y] M Q := by
  obtain ⟨d, rfl⟩ : ∃ e, d = e + 1 := ⟨d - 1, by omega⟩
  refine am_bi_of (P := am_pX4_joined) (rt := 1) (nL := 3) (Nat.le_of_ble_eq_true rfl) rfl (Nat.le_of_ble_eq_true rfl) rfl rfl rfl ?_
  refine am_r_iload0 (pc' := 1) rfl rfl ?_
  rcases (show op = 37 ∨ op = 38 ∨ op = 42 ∨ op = 43 ∨ op = 45 ∨ op = 47 ∨ op = 60 ∨ op = 61 ∨ op = 62 ∨ op = 124 ∨ (¬ op = 37 ∧ ¬ op = 38 ∧ ¬ op = 42 ∧ ¬ op = 43 ∧ ¬ op = 45 ∧ ¬ op = 47 ∧ ¬ op = 60 ∧ ¬ op = 61 ∧ ¬ op = 62 ∧ ¬ op = 124) by omega) with rfl | rfl | rfl | rfl | rfl | rfl | rfl | rfl | rfl | rfl | hsw1
  · refine am_r_lsw (t := 177) rfl rfl ?_
    refine am_r_iload2 (pc' := 178) rfl rfl ?_
    refine am_r_if_neR (pt := 185) (pf := 181) rfl rfl rfl (fun h178 => ?_) (fun h178 => ?_)
    · refine am_r_iload1 (pc' := 186) rfl rfl ?_
      refine am_r_iload2 (pc' := 187) rfl rfl ?_
      refine am_r_iremR (pc' := 188) rfl rfl (by assumption) ?_
      refine am_r_iret rfl rfl ?_
      refine am_q2 ?_ hq
      first | (simp_all [q_join]; done) | (simp_all [q_join]; intro z; exact absurd z (Int32.not_lt.mpr (by assumption))) | (unfold q_join; simp_all [Int32.not_le]; done)
    · refine am_r_iconst (pc' := 182) rfl rfl ?_
      refine am_r_goto (pc' := 188) rfl rfl ?_
      refine am_r_iret rfl rfl ?_
      refine am_q2 ?_ hq
      first | (simp_all [q_join]; done) | (simp_all [q_join]; intro z; exact absurd z (Int32.not_lt.mpr (by assumption))) | (unfold q_join; simp_all [Int32.not_le]; done)
  · refine am_r_lsw (t := 106) rfl rfl ?_
    refine am_r_iload1 (pc' := 107) rfl rfl ?_
    refine am_r_if_eqR (pt := 118) (pf := 110) rfl rfl rfl (fun h107 => ?_) (fun h107 => ?_)
    · refine am_r_iconst (pc' := 119) rfl rfl ?_
      refine am_r_iret rfl rfl ?_
      refine am_q2 ?_ hq
      first | (simp_all [q_join]; done) | (simp_all [q_join]; intro z; exact absurd z (Int32.not_lt.mpr (by assumption))) | (unfold q_join; simp_all [Int32.not_le]; done)
    · refine am_r_iload2 (pc' := 111) rfl rfl ?_
      refine am_r_if_eqR (pt := 118) (pf := 114) rfl rfl rfl (fun h111 => ?_) (fun h111 => ?_)
      · refine am_r_iconst (pc' := 119) rfl rfl ?_
        refine am_r_iret rfl rfl ?_
        refine am_q2 ?_ hq
        first | (simp_all [q_join]; done) | (simp_all [q_join]; intro z; exact absurd z (Int32.not_lt.mpr (by assumption))) | (unfold q_join; simp_all [Int32.not_le]; done)
      · refine am_r_iconst (pc' := 115) rfl rfl ?_
        refine am_r_goto (pc' := 119) rfl rfl ?_
        refine am_r_iret rfl rfl ?_
        refine am_q2 ?_ hq
        first | (simp_all [q_join]; done) | (simp_all [q_join]; intro z; exact absurd z (Int32.not_lt.mpr (by assumption))) | (unfold q_join; simp_all [Int32.not_le]; done)
  · refine am_r_lsw (t := 161) rfl rfl ?_
    refine am_r_iload1 (pc' := 162) rfl rfl ?_
    refine am_r_iload2 (pc' := 163) rfl rfl ?_
    refine am_r_imulR (pc' := 164) rfl rfl ?_
    refine am_r_iret rfl rfl ?_
    refine am_q2 ?_ hq
    first | (simp_all [q_join]; done) | (simp_all [q_join]; intro z; exact absurd z (Int32.not_lt.mpr (by assumption))) | (unfold q_join; simp_all [Int32.not_le]; done)
  · refine am_r_lsw (t := 153) rfl rfl ?_
    refine am_r_iload1 (pc' := 154) rfl rfl ?_
    refine am_r_iload2 (pc' := 155) rfl rfl ?_
    refine am_r_iaddR (pc' := 156) rfl rfl ?_
    refine am_r_iret rfl rfl ?_
    refine am_q2 ?_ hq
    first | (simp_all [q_join]; done) | (simp_all [q_join]; intro z; exact absurd z (Int32.not_lt.mpr (by assumption))) | (unfold q_join; simp_all [Int32.not_le]; done)
  · refine am_r_lsw (t := 157) rfl rfl ?_
    refine am_r_iload1 (pc' := 158) rfl rfl ?_
    refine am_r_iload2 (pc' := 159) rfl rfl ?_
    refine am_r_isubR (pc' := 160) rfl rfl ?_
    refine am_r_iret rfl rfl ?_
    refine am_q2 ?_ hq
    first | (simp_all [q_join]; done) | (simp_all [q_join]; intro z; exact absurd z (Int32.not_lt.mpr (by assumption))) | (unfold q_join; simp_all [Int32.not_le]; done)
  · refine am_r_lsw (t := 165) rfl rfl ?_
    refine am_r_iload2 (pc' := 166) rfl rfl ?_
    refine am_r_if_neR (pt := 173) (pf := 169) rfl rfl rfl (fun h166 => ?_) (fun h166 => ?_)
    · refine am_r_iload1 (pc' := 174) rfl rfl ?_
      refine am_r_iload2 (pc' := 175) rfl rfl ?_
      refine am_r_idivR (pc' := 176) rfl rfl (by assumption) ?_
      refine am_r_iret rfl rfl ?_
      refine am_q2 ?_ hq
      first | (simp_all [q_join]; done) | (simp_all [q_join]; intro z; exact absurd z (Int32.not_lt.mpr (by assumption))) | (unfold q_join; simp_all [Int32.not_le]; done)
    · refine am_r_iconst (pc' := 170) rfl rfl ?_
      refine am_r_goto (pc' := 176) rfl rfl ?_
      refine am_r_iret rfl rfl ?_
      refine am_q2 ?_ hq
      first | (simp_all [q_join]; done) | (simp_all [q_join]; intro z; exact absurd z (Int32.not_lt.mpr (by assumption))) | (unfold q_join; simp_all [Int32.not_le]; done)
  · refine am_r_lsw (t := 120) rfl rfl ?_
    refine am_r_iload1 (pc' := 121) rfl rfl ?_
    refine am_r_iload2 (pc' := 122) rfl rfl ?_
    refine am_r_icmp_geR (pt := 129) (pf := 125) rfl rfl rfl (fun h122 => ?_) (fun h122 => ?_)
    · refine am_r_iconst (pc' := 130) rfl rfl ?_
      refine am_r_iret rfl rfl ?_
      refine am_q2 ?_ hq
      first | (simp_all [q_join]; done) | (simp_all [q_join]; intro z; exact absurd z (Int32.not_lt.mpr (by assumption))) | (unfold q_join; simp_all [Int32.not_le]; done)
    · refine am_r_iconst (pc' := 126) rfl rfl ?_
      refine am_r_goto (pc' := 130) rfl rfl ?_
      refine am_r_iret rfl rfl ?_
      refine am_q2 ?_ hq
      first | (simp_all [q_join]; done) | (simp_all [q_join]; intro z; exact absurd z (Int32.not_lt.mpr (by assumption))) | (unfold q_join; simp_all [Int32.not_le]; done)
  · refine am_r_lsw (t := 131) rfl rfl ?_
    refine am_r_iload1 (pc' := 132) rfl rfl ?_
    refine am_r_iload2 (pc' := 133) rfl rfl ?_
    refine am_r_icmp_neR (pt := 140) (pf := 136) rfl rfl rfl (fun h133 => ?_) (fun h133 => ?_)
    · refine am_r_iconst (pc' := 141) rfl rfl ?_
      refine am_r_iret rfl rfl ?_
      refine am_q2 ?_ hq
      first | (simp_all [q_join]; done) | (simp_all [q_join]; intro z; exact absurd z (Int32.not_lt.mpr (by assumption))) | (unfold q_join; simp_all [Int32.not_le]; done)
    · refine am_r_iconst (pc' := 137) rfl rfl ?_
      refine am_r_goto (pc' := 141) rfl rfl ?_
      refine am_r_iret rfl rfl ?_
      refine am_q2 ?_ hq
      first | (simp_all [q_join]; done) | (simp_all [q_join]; intro z; exact absurd z (Int32.not_lt.mpr (by assumption))) | (unfold q_join; simp_all [Int32.not_le]; done)
  · refine am_r_lsw (t := 142) rfl rfl ?_
    refine am_r_iload1 (pc' := 143) rfl rfl ?_
    refine am_r_iload2 (pc' := 144) rfl rfl ?_
    refine am_r_icmp_leR (pt := 151) (pf := 147) rfl rfl rfl (fun h144 => ?_) (fun h144 => ?_)
    · refine am_r_iconst (pc' := 152) rfl rfl ?_
      refine am_r_iret rfl rfl ?_
      refine am_q2 ?_ hq
      first | (simp_all [q_join]; done) | (simp_all [q_join]; intro z; exact absurd z (Int32.not_lt.mpr (by assumption))) | (unfold q_join; simp_all [Int32.not_le]; done)
    · refine am_r_iconst (pc' := 148) rfl rfl ?_
      refine am_r_goto (pc' := 152) rfl rfl ?_
      refine am_r_iret rfl rfl ?_
      refine am_q2 ?_ hq
      first | (simp_all [q_join]; done) | (simp_all [q_join]; intro z; exact absurd z (Int32.not_lt.mpr (by assumption))) | (unfold q_join; simp_all [Int32.not_le]; done)
  · refine am_r_lsw (t := 92) rfl rfl ?_
    refine am_r_iload1 (pc' := 93) rfl rfl ?_
    refine am_r_if_neR (pt := 100) (pf := 96) rfl rfl rfl (fun h93 => ?_) (fun h93 => ?_)
    · refine am_r_iconst (pc' := 101) rfl rfl ?_
      refine am_r_goto (pc' := 105) rfl rfl ?_
      refine am_r_iret rfl rfl ?_
      refine am_q2 ?_ hq
      first | (simp_all [q_join]; done) | (simp_all [q_join]; intro z; exact absurd z (Int32.not_lt.mpr (by assumption))) | (unfold q_join; simp_all [Int32.not_le]; done)
    · refine am_r_iload2 (pc' := 97) rfl rfl ?_
      refine am_r_if_eqR (pt := 104) (pf := 100) rfl rfl rfl (fun h97 => ?_) (fun h97 => ?_)
      · refine am_r_iconst (pc' := 105) rfl rfl ?_
        refine am_r_iret rfl rfl ?_
        refine am_q2 ?_ hq
        first | (simp_all [q_join]; done) | (simp_all [q_join]; intro z; exact absurd z (Int32.not_lt.mpr (by assumption))) | (unfold q_join; simp_all [Int32.not_le]; done)
      · refine am_r_iconst (pc' := 101) rfl rfl ?_
        refine am_r_goto (pc' := 105) rfl rfl ?_
        refine am_r_iret rfl rfl ?_
        refine am_q2 ?_ hq
        first | (simp_all [q_join]; done) | (simp_all [q_join]; intro z; exact absurd z (Int32.not_lt.mpr (by assumption))) | (unfold q_join; simp_all [Int32.not_le]; done)
  · refine am_r_lsw (t := 189) rfl (by simp only [am_sw]; rw [if_neg (by omega), if_neg (by omega), if_neg (by omega), if_neg (by omega), if_neg (by omega), if_neg (by omega), if_neg (by omega), if_neg (by omega), if_neg (by omega), if_neg (by omega)]; rfl) ?_
    refine am_r_iconst (pc' := 190) rfl rfl ?_
    refine am_r_iret rfl rfl ?_
    refine am_q2 ?_ hq
    first | (simp_all [q_join]; done) | (simp_all [q_join]; intro z; exact absurd z (Int32.not_lt.mpr (by assumption))) | (unfold q_join; simp_all [Int32.not_le]; done)
theorem c_turned {sL : Nat} {xs : Nat → Int32} {d : Nat} {M : Am_M} {Q : Int32 → Am_M → Prop} (hd : 1 ≤ d) {op : Int} {x : Int32} (hop : 0 ≤ op ∧ op ≤ 255) (hq : Q (if op = 4 then -x else if x = 0 then z_I 1 else z_I 0) M) : am_bi sL xs d 40 [.int (z_I op), .int x] M Q := by
  obtain ⟨d, rfl⟩ : ∃ e, d = e + 1 := ⟨d - 1, by omega⟩
  refine am_bi_of (P := am_pX4_turned) (rt := 1) (nL := 2) (Nat.le_of_ble_eq_true rfl) rfl (Nat.le_of_ble_eq_true rfl) rfl rfl rfl ?_
  refine am_r_iload0 (pc' := 1) rfl rfl ?_
  refine am_r_iconst (pc' := 2) rfl rfl ?_
  refine am_r_icmp_ne (pt := 8) (pf := 5) rfl rfl rfl (fun h2 => ?_) (fun h2 => ?_)
  · refine am_r_iload1 (pc' := 9) rfl rfl ?_
    refine am_r_if_neR (pt := 16) (pf := 12) rfl rfl rfl (fun h9 => ?_) (fun h9 => ?_)
    · refine am_r_iconst (pc' := 17) rfl rfl ?_
      refine am_r_iret rfl rfl ?_
      first | (rw [if_pos (by omega)] at hq; exact hq) | (rw [if_neg (by omega), if_neg h9] at hq; exact hq) | (rw [if_neg (by omega), if_pos (Classical.not_not.mp h9)] at hq; exact hq)
    · refine am_r_iconst (pc' := 13) rfl rfl ?_
      refine am_r_goto (pc' := 17) rfl rfl ?_
      refine am_r_iret rfl rfl ?_
      first | (rw [if_pos (by omega)] at hq; exact hq) | (rw [if_neg (by omega), if_neg h9] at hq; exact hq) | (rw [if_neg (by omega), if_pos (Classical.not_not.mp h9)] at hq; exact hq)
  · refine am_r_iload1 (pc' := 6) rfl rfl ?_
    refine am_r_inegR (pc' := 7) rfl rfl ?_
    refine am_r_iret rfl rfl ?_
    first | (rw [if_pos (by omega)] at hq; exact hq) | (rw [if_neg (by omega), if_neg h9] at hq; exact hq) | (rw [if_neg (by omega), if_pos (Classical.not_not.mp h9)] at hq; exact hq)
def NM (M : Am_M) (ν : Int → Int32) : Prop := (∀ k : Int, 0 ≤ k ∧ k ≤ 5 → M.1 22 k.toNat = ν k) ∧ ∀ k : Int, ¬ (0 ≤ k ∧ k ≤ 5) → ν k = z_I 0
theorem c_namedBy {sL : Nat} {xs : Nat → Int32} {d : Nat} {M : Am_M} {Q : Int32 → Am_M → Prop} (hd : 1 ≤ d) {ν : Int → Int32} (hν : NM M ν) {k : Int} (hk : 0 ≤ k ∧ k ≤ 10000) (hq : Q (ν k) M) : am_bi sL xs d 39 [.ref 19, .int (z_I k)] M Q := by
  obtain ⟨d, rfl⟩ : ∃ e, d = e + 1 := ⟨d - 1, by omega⟩
  refine am_bi_of (P := am_pX4_namedBy) (rt := 1) (nL := 2) (Nat.le_of_ble_eq_true rfl) rfl (Nat.le_of_ble_eq_true rfl) rfl rfl rfl ?_
  refine am_r_iload1 (pc' := 1) rfl rfl ?_
  refine am_r_if_lt (pt := 22) (pf := 4) rfl rfl rfl (fun h1 => ?_) (fun h1 => ?_)
  · refine am_r_iconst (pc' := 23) rfl rfl ?_
    refine am_r_iret rfl rfl ?_
    first | exact hq | (rw [hν.2 k (by omega)] at hq; exact hq)
  · refine am_r_iload1 (pc' := 5) rfl rfl ?_
    refine am_r_aload0 (pc' := 6) rfl rfl ?_
    refine am_r_getR (t := 22) (pc' := 9) rfl rfl rfl ?_
    refine am_r_alen (n := 6) (z := 6) (pc' := 10) rfl rfl rfl rfl ?_
    refine am_r_icmp_ge (pt := 22) (pf := 13) rfl rfl rfl (fun h10 => ?_) (fun h10 => ?_)
    · refine am_r_iconst (pc' := 23) rfl rfl ?_
      refine am_r_iret rfl rfl ?_
      first | exact hq | (rw [hν.2 k (by omega)] at hq; exact hq)
    · refine am_r_aload0 (pc' := 14) rfl rfl ?_
      refine am_r_getR (t := 22) (pc' := 17) rfl rfl rfl ?_
      refine am_r_iload1 (pc' := 18) rfl rfl ?_
      refine am_r_iaZv (n := 6) (pc' := 19) rfl rfl rfl (by decide) (hν.1 k (by omega)) ?_
      refine am_r_goto (pc' := 23) rfl rfl ?_
      refine am_r_iret rfl rfl ?_
      first | exact hq | (rw [hν.2 k (by omega)] at hq; exact hq)
theorem c_become {sL : Nat} {xs : Nat → Int32} {d : Nat} {M : Am_M} {Q : Am_M → Prop} (hd : 1 ≤ d) {c : Int → Int} {n p : Int} {l : List (Int × Int)} (hT : TS M c n p l) (hbl : q_bl l) (hq : ∀ M', am_fr 19 21 M M' → CX M' l → Q M') : am_bv sL xs d 35 [.ref 19, .ref 15] M Q := by
  obtain ⟨d, rfl⟩ : ∃ e, d = e + 1 := ⟨d - 1, by omega⟩
  have hll := ts_l hT
  have hloop : ∀ (k : Nat) (i : Nat) (N : Am_M), i + k = l.length → am_fr 19 21 M N → N.1 19 2 = z_I (l.length : Int) → (∀ j x, j < i → l[j]? = some x → N.1 20 j = z_I x.1 ∧ N.1 21 j = z_I x.2) → am_rw sL xs d am_pX4_become 0 10 [.ref 19, .ref 15, .int (z_I (i : Int))] [] N (am_pv Q) := by
    intro k
    induction k with
    | zero =>
      intro i N hk hF hs hv
      refine am_r_iload2 (pc' := 11) rfl rfl ?_
      refine am_r_aload0 (pc' := 12) rfl rfl ?_
      refine am_r_getIv (f := 2) (pc' := 15) rfl rfl rfl (hs) ?_
      refine am_r_icmp_ge (pt := 48) (pf := 18) rfl rfl rfl (fun h15 => ?_) (fun h15 => ?_)
      · refine am_r_vret rfl rfl ?_
        exact hq N hF ⟨hs, hll, hbl, fun j x e => hv j x (by have := (List.getElem?_eq_some_iff.mp e).1; omega) e⟩
      · exfalso; omega
    | succ k ih =>
      intro i N hk hF hs hv
      obtain ⟨x, hx⟩ : ∃ x, l[i]? = some x := ⟨l[i]'(by omega), List.getElem?_eq_getElem (by omega)⟩
      have hx2 := ts_v hT i x hx
      refine am_r_iload2 (pc' := 11) rfl rfl ?_
      refine am_r_aload0 (pc' := 12) rfl rfl ?_
      refine am_r_getIv (f := 2) (pc' := 15) rfl rfl rfl (hs) ?_
      refine am_r_icmp_ge (pt := 48) (pf := 18) rfl rfl rfl (fun h15 => ?_) (fun h15 => ?_)
      · exfalso; omega
      · refine am_r_aload0 (pc' := 19) rfl rfl ?_
        refine am_r_getR (t := 20) (pc' := 22) rfl rfl rfl ?_
        refine am_r_iload2 (pc' := 23) rfl rfl ?_
        refine am_r_aload1 (pc' := 24) rfl rfl ?_
        refine am_r_getR (t := 17) (pc' := 27) rfl rfl rfl ?_
        refine am_r_iload2 (pc' := 28) rfl rfl ?_
        refine am_r_iaZv (n := 121) (pc' := 29) rfl rfl rfl (by decide) (show _ = z_I x.1 by rw [(hF 17 (by omega)).1, Int.toNat_natCast]; exact hx2.1) ?_
        refine am_r_iast (n := 121) (pc' := 30) rfl rfl (rfl) (by decide) ?_
        refine am_r_aload0 (pc' := 31) rfl rfl ?_
        refine am_r_getR (t := 21) (pc' := 34) rfl rfl rfl ?_
        refine am_r_iload2 (pc' := 35) rfl rfl ?_
        refine am_r_aload1 (pc' := 36) rfl rfl ?_
        refine am_r_getR (t := 18) (pc' := 39) rfl rfl rfl ?_
        refine am_r_iload2 (pc' := 40) rfl rfl ?_
        refine am_r_iaZv (n := 121) (pc' := 41) rfl rfl rfl (by decide) (show _ = z_I x.2 by simp only [am_upI]; rw [if_neg (by omega), (hF 18 (by omega)).1, Int.toNat_natCast]; exact hx2.2) ?_
        refine am_r_iast (n := 121) (pc' := 42) rfl rfl (rfl) (by decide) ?_
        refine am_r_iinc2 (pc' := 45) rfl rfl rfl ?_
        refine am_r_goto (pc' := 10) rfl rfl ?_
        refine ih (i + 1) _ (by omega) (am_fr_upI (am_fr_upI hF (by omega)) (by omega)) (by simpa [am_upI] using hs) (fun j y hj e => ?_)
        by_cases q : j = i
        · subst q
          rw [hx] at e
          cases e
          simp [am_upI]
        · have := hv j y (by omega) e
          simpa [am_upI, q] using this
  refine am_bv_of (P := am_pX4_become) (rt := 0) (nL := 3) (Nat.le_of_ble_eq_true rfl) rfl (Nat.le_of_ble_eq_true rfl) rfl rfl rfl ?_
  refine am_r_aload0 (pc' := 1) rfl rfl ?_
  refine am_r_aload1 (pc' := 2) rfl rfl ?_
  refine am_r_getIv (f := 5) (pc' := 5) rfl rfl rfl (ts_s hT) ?_
  refine am_r_putI (f := 2) (pc' := 8) rfl rfl rfl (by decide) ?_
  refine am_r_iconst (pc' := 9) rfl rfl ?_
  refine am_r_istore2 (pc' := 10) rfl rfl rfl ?_
  exact hloop l.length 0 _ (by omega) (am_fr_upI (am_fr_rf _ _ _) (by omega)) (by simp [am_upI]) (fun j x hj => by omega)
