/-! the reference: by turns, a crowd, the arc -/
theorem sm_frm {M M' : Am_M} {σ : Sg} {lo hi : Nat} (h : SM M σ) (hf : am_fr lo hi M M') (hh : 58 < lo) : SM M' σ :=
  sm_fr h (fun j => by rw [(hf 54 (by omega)).1]) (hf 58 (by omega)).1 (by rw [(hf 53 (by omega)).1])
theorem am_up_e (M : Am_M) (k i : Nat) (x : Int32) : (am_upI M k i x).1 k i = x := by simp [am_upI]
theorem am_up_n (M : Am_M) (k i j : Nat) (x : Int32) (h : j ≠ i) : (am_upI M k i x).1 k j = M.1 k j := by simp [am_upI, h]
theorem z_or01 {a b : Int} (ha : a = 0 ∨ a = 1) (hb : b = 0 ∨ b = 1) : z_I a ||| z_I b = z_I (max a b) := by
  rcases ha with rfl | rfl <;> rcases hb with rfl | rfl <;> rfl
theorem z_and01 {a b : Int} (ha : a = 0 ∨ a = 1) (hb : b = 0 ∨ b = 1) : z_I a &&& z_I b = z_I (min a b) := by
  rcases ha with rfl | rfl <;> rcases hb with rfl | rfl <;> rfl
/-- after d of T nudges that come to v: does the one who wants a meeting get it -/
def b_wv (σ : Sg) (a b f T d v : Int) : Int := if g_ends σ a b f (T - d).toNat (decide (d % 2 = 0)) v = true then 1 else 0
theorem b_wv01 (σ : Sg) (a b f T d v : Int) : b_wv σ a b f T d v = 0 ∨ b_wv σ a b f T d v = 1 := by
  unfold b_wv
  split
  · exact Or.inr rfl
  · exact Or.inl rfl
theorem b_wv_l (σ : Sg) (a b f T v : Int) : b_wv σ a b f T T v = if g_mt σ a v b f = true then 1 else 0 := by
  unfold b_wv
  rw [show (T - T).toNat = 0 by omega]
  rfl
theorem b_ev3 (F : Int → Bool) (w : Bool) : g_ev F w (-1) 3 = if F (-1) = w then w else if F 0 = w then w else if F 1 = w then w else !w := rfl
theorem b_ff3 (p : Int → Bool) : f_first p (-1) 3 = if p (-1) = true then -1 else if p 0 = true then 0 else if p 1 = true then 1 else -2 := rfl
theorem b_wv_s (σ : Sg) (a b f T d v : Int) (h : 0 ≤ d ∧ d < T) : b_wv σ a b f T d v = if d % 2 = 0 then max (max (b_wv σ a b f T (d + 1) (v - 1)) (b_wv σ a b f T (d + 1) v)) (b_wv σ a b f T (d + 1) (v + 1)) else min (min (b_wv σ a b f T (d + 1) (v - 1)) (b_wv σ a b f T (d + 1) v)) (b_wv σ a b f T (d + 1) (v + 1)) := by
  unfold b_wv
  obtain ⟨t, ht⟩ : ∃ t : Nat, T - d = (t : Int) + 1 := ⟨(T - d - 1).toNat, by omega⟩
  rw [show (T - d).toNat = t + 1 by omega, show (T - (d + 1)).toNat = t by omega]
  have e : decide ((d + 1) % 2 = 0) = !decide (d % 2 = 0) := by
    by_cases q : d % 2 = 0
    · rw [decide_eq_true q, decide_eq_false (by omega)]; rfl
    · rw [decide_eq_false q, decide_eq_true (by omega)]; rfl
  rw [e, show g_ends σ a b f (t + 1) (decide (d % 2 = 0)) v = g_ev (fun x => g_ends σ a b f t (!decide (d % 2 = 0)) (v + x)) (decide (d % 2 = 0)) (-1) 3 from rfl, b_ev3]
  rw [show v - 1 = v + -1 by omega]
  have e0 : g_ends σ a b f t (!decide (d % 2 = 0)) v = g_ends σ a b f t (!decide (d % 2 = 0)) (v + 0) := by rw [Int.add_zero]
  rw [e0]
  by_cases q : d % 2 = 0
  · rw [decide_eq_true q, if_pos q]
    generalize g_ends σ a b f t (!true) (v + -1) = x
    generalize g_ends σ a b f t (!true) (v + 0) = y
    generalize g_ends σ a b f t (!true) (v + 1) = z
    cases x <;> cases y <;> cases z <;> rfl
  · rw [decide_eq_false q, if_neg q]
    generalize g_ends σ a b f t (!false) (v + -1) = x
    generalize g_ends σ a b f t (!false) (v + 0) = y
    generalize g_ends σ a b f t (!false) (v + 1) = z
    cases x <;> cases y <;> cases z <;> rfl
def b_ledf (σ : Sg) (a b f T d v : Int) : Int := if b_wv σ a b f T (d + 1) (v - 1) = b_wv σ a b f T d v then -1 else if b_wv σ a b f T (d + 1) v = b_wv σ a b f T d v then 0 else 1
theorem b_win (σ : Sg) (a b f T : Int) (h : 1 ≤ T) : b_wv σ a b f T 0 0 = (if g_win σ a b f (T - 1).toNat = -2 then 0 else 1) ∧ b_ledf σ a b f T 0 0 = (if g_win σ a b f (T - 1).toNat = -2 then -1 else g_win σ a b f (T - 1).toNat) := by
  have hs := b_wv_s σ a b f T 0 0 (by omega)
  rw [if_pos (by omega)] at hs
  have e : ∀ v, b_wv σ a b f T (0 + 1) v = if g_ends σ a b f (T - 1).toNat false v = true then 1 else 0 := fun v => rfl
  unfold b_ledf
  rw [hs, e, e, e]
  unfold g_win
  rw [b_ff3]
  rw [show (0 : Int) + 1 = 1 from rfl, show (0 : Int) - 1 = -1 from rfl]
  generalize g_ends σ a b f (T - 1).toNat false (-1) = x
  generalize g_ends σ a b f (T - 1).toNat false 0 = y
  generalize g_ends σ a b f (T - 1).toNat false 1 = z
  cases x <;> cases y <;> cases z <;> exact ⟨rfl, rfl⟩
def b_in (σ : Sg) (a b f T : Int) (M N : Am_M) (d v : Int) : Prop := am_fr 65 65 M N ∧ ∀ i d' v', i = 13 * d' + 6 + v' → d ≤ d' → d' ≤ T → -d' ≤ v' → v' ≤ d' → (d' = d → v' < v) → N.1 65 i.toNat = z_I (b_wv σ a b f T d' v')
theorem b_in_s {σ : Sg} {a b f T : Int} {M N : Am_M} {d v x : Int} (h : b_in σ a b f T M N d v) (hd : 0 ≤ d ∧ d ≤ 6 ∧ T ≤ 6 ∧ -d ≤ v ∧ v ≤ d) (hx : x = b_wv σ a b f T d v) : b_in σ a b f T M (am_upI N 65 (13 * d + 6 + v).toNat (z_I x)) d (v + 1) := by
  refine ⟨am_fr_upI h.1 (by omega), fun i d' v' hi h1 h2 h3 h4 h5 => ?_⟩
  by_cases e : d' = d ∧ v' = v
  · obtain ⟨rfl, rfl⟩ := e
    rw [hi, am_up_e, hx]
  · rw [am_up_n _ _ _ _ _ (by omega)]
    exact h.2 i d' v' hi h1 h2 h3 h4 (by omega)
set_option maxRecDepth 20000 in
theorem m_byTurns {sL : Nat} {xs : Nat → Int32} {d : Nat} {M : Am_M} {Q : Int32 → Am_M → Prop} (hd : 4 ≤ d) {σ : Sg} (hM : SM M σ) {ab : Int} (hab : -2147483648 ≤ ab ∧ ab < 2147483648) {f0 : Int} (hf0 : -2147483648 ≤ f0 ∧ f0 < 2147483648) {n : Int} (hn : -2147483648 ≤ n ∧ n < 2147483648)  (hq : ∀ N : Am_M, am_fr 65 65 M N → Q (z_I (r_turns σ ab f0 n (g_win σ (ab / 10) (ab % 10) f0 (n / 10 - 1).toNat))) N) : am_bi sL xs d 229 [.ref 53, .int (z_I ab), .int (z_I f0), .int (z_I n)] M Q := by
  obtain ⟨d, rfl⟩ : ∃ e, d = e + 1 := ⟨d - 1, by omega⟩
  have hn := sb_nb hM.1
  have hnr := sb_nrb hM.1
  have hin : ∀ (k : Nat) (d0 v l : Int) (N : Am_M) (w9 w10 w11 w12 : Value), (((0 ≤ ab ∧ ab / 10 < s_n σ ∧ ab % 10 < s_n σ ∧ ab / 10 ≠ ab % 10) ∧ (0 ≤ f0 ∧ f0 ≤ 99999) ∧ 1 ≤ n / 10 ∧ n / 10 ≤ 6) ∧ b_in σ (ab / 10) (ab % 10) f0 (n / 10) M N d0 v ∧ (0 ≤ d0 ∧ d0 ≤ n / 10 ∧ -d0 ≤ v ∧ v + k = d0 + 1) ∧ (d0 = 0 → v = 1 → l = b_ledf σ (ab / 10) (ab % 10) f0 (n / 10) 0 0)) → (∀ (v2 l2 : Int) (N2 : Am_M) (w9 w10 w11 w12 : Value), b_in σ (ab / 10) (ab % 10) f0 (n / 10) M N2 d0 (d0 + 1) → (d0 = 0 → l2 = b_ledf σ (ab / 10) (ab % 10) f0 (n / 10) 0 0) → am_rw sL xs d am_pX11_byTurns 1 264 [.ref 53, .int (z_I ab), .int (z_I f0), .int (z_I n), .int (z_I (n / 10)), .int (z_I 13), .int (z_I l2), .int (z_I d0), .int (z_I v2), w9, w10, w11, w12] [] N2 (am_pi Q)) → am_rw sL xs d am_pX11_byTurns 1 77 [.ref 53, .int (z_I ab), .int (z_I f0), .int (z_I n), .int (z_I (n / 10)), .int (z_I 13), .int (z_I l), .int (z_I d0), .int (z_I v), w9, w10, w11, w12] [] N (am_pi Q) := by
    intro k
    induction k with
    | zero =>
      intro d0 v l N w9 w10 w11 w12 hk hq
      refine am_r_iload8 (pc' := 79) rfl rfl ?_
      refine am_r_iload7 (pc' := 81) rfl rfl ?_
      refine am_r_icmp_gt (pt := 264) (pf := 84) rfl rfl rfl (fun h81 => ?_) (fun h81 => ?_)
      · exact hq _ _ _ _ _ _ _ (by rw [← (show v = d0 + 1 by omega)]; exact hk.2.1) (fun q => hk.2.2.2 q (by omega))
      · exfalso; omega
    | succ k ih =>
      intro d0 v l N w9 w10 w11 w12 hk hq
      have hN := sm_frm hM hk.2.1.1 (by omega)
      have h1 := b_wv01 σ (ab / 10) (ab % 10) f0 (n / 10) (d0 + 1) (v - 1)
      have h2 := b_wv01 σ (ab / 10) (ab % 10) f0 (n / 10) (d0 + 1) v
      have h3 := b_wv01 σ (ab / 10) (ab % 10) f0 (n / 10) (d0 + 1) (v + 1)
      have hpb : d0 < n / 10 → _ := fun q => b_wv_s σ (ab / 10) (ab % 10) f0 (n / 10) d0 v ⟨hk.2.2.1.1, q⟩
      have hpl := b_wv_l σ (ab / 10) (ab % 10) f0 (n / 10) v
      refine am_r_iload8 (pc' := 79) rfl rfl ?_
      refine am_r_iload7 (pc' := 81) rfl rfl ?_
      refine am_r_icmp_gt (pt := 264) (pf := 84) rfl rfl rfl (fun h81 => ?_) (fun h81 => ?_)
      · exfalso; omega
      · refine am_r_iconst (pc' := 85) rfl rfl ?_
        refine am_r_istore9 (pc' := 87) rfl rfl rfl ?_
        refine am_r_iload7 (pc' := 89) rfl rfl ?_
        refine am_r_iload4 (pc' := 91) rfl rfl ?_
        refine am_r_icmp_ne (pt := 123) (pf := 94) rfl rfl rfl (fun h91 => ?_) (fun h91 => ?_)
        · refine am_r_aload0 (pc' := 124) rfl rfl ?_
          refine am_r_getR (t := 65) (pc' := 127) rfl rfl rfl ?_
          refine am_r_iload5 (pc' := 129) rfl rfl ?_
          refine am_r_iload7 (pc' := 131) rfl rfl ?_
          refine am_r_iconst (pc' := 132) rfl rfl ?_
          refine am_r_iadd (pc' := 133) rfl rfl ?_
          refine am_r_imul (pc' := 134) rfl rfl ?_
          refine am_r_iconst (pc' := 136) rfl rfl ?_
          refine am_r_iadd (pc' := 137) rfl rfl ?_
          refine am_r_iload8 (pc' := 139) rfl rfl ?_
          refine am_r_iadd (pc' := 140) rfl rfl ?_
          refine am_r_iconst (pc' := 141) rfl rfl ?_
          refine am_r_isub (pc' := 142) rfl rfl ?_
          refine am_r_iaZv (n := 91) (pc' := 143) rfl rfl rfl (by decide) (hk.2.1.2 _ (d0 + 1) (v - 1) (by omega) (by omega) (by omega) (by omega) (by omega) (by omega)) ?_
          refine am_r_istore10 (pc' := 145) rfl rfl rfl ?_
          refine am_r_aload0 (pc' := 146) rfl rfl ?_
          refine am_r_getR (t := 65) (pc' := 149) rfl rfl rfl ?_
          refine am_r_iload5 (pc' := 151) rfl rfl ?_
          refine am_r_iload7 (pc' := 153) rfl rfl ?_
          refine am_r_iconst (pc' := 154) rfl rfl ?_
          refine am_r_iadd (pc' := 155) rfl rfl ?_
          refine am_r_imul (pc' := 156) rfl rfl ?_
          refine am_r_iconst (pc' := 158) rfl rfl ?_
          refine am_r_iadd (pc' := 159) rfl rfl ?_
          refine am_r_iload8 (pc' := 161) rfl rfl ?_
          refine am_r_iadd (pc' := 162) rfl rfl ?_
          refine am_r_iaZv (n := 91) (pc' := 163) rfl rfl rfl (by decide) (hk.2.1.2 _ (d0 + 1) (v) (by omega) (by omega) (by omega) (by omega) (by omega) (by omega)) ?_
          refine am_r_istore11 (pc' := 165) rfl rfl rfl ?_
          refine am_r_aload0 (pc' := 166) rfl rfl ?_
          refine am_r_getR (t := 65) (pc' := 169) rfl rfl rfl ?_
          refine am_r_iload5 (pc' := 171) rfl rfl ?_
          refine am_r_iload7 (pc' := 173) rfl rfl ?_
          refine am_r_iconst (pc' := 174) rfl rfl ?_
          refine am_r_iadd (pc' := 175) rfl rfl ?_
          refine am_r_imul (pc' := 176) rfl rfl ?_
          refine am_r_iconst (pc' := 178) rfl rfl ?_
          refine am_r_iadd (pc' := 179) rfl rfl ?_
          refine am_r_iload8 (pc' := 181) rfl rfl ?_
          refine am_r_iadd (pc' := 182) rfl rfl ?_
          refine am_r_iconst (pc' := 183) rfl rfl ?_
          refine am_r_iadd (pc' := 184) rfl rfl ?_
          refine am_r_iaZv (n := 91) (pc' := 185) rfl rfl rfl (by decide) (hk.2.1.2 _ (d0 + 1) (v + 1) (by omega) (by omega) (by omega) (by omega) (by omega) (by omega)) ?_
          refine am_r_istore12 (pc' := 187) rfl rfl rfl ?_
          refine am_r_iload7 (pc' := 189) rfl rfl ?_
          refine am_r_iconst (pc' := 190) rfl rfl ?_
          refine am_r_irem (pc' := 191) rfl rfl ?_
          refine am_r_if_ne (pt := 205) (pf := 194) rfl rfl rfl (fun h191 => ?_) (fun h191 => ?_)
          · refine am_r_iload10 (pc' := 207) rfl rfl ?_
            refine am_r_iload11 (pc' := 209) rfl rfl ?_
            refine am_r_iandR (pc' := 210) rfl rfl ?_
            rw [z_and01 (by omega) (by omega)]
            refine am_r_iload12 (pc' := 212) rfl rfl ?_
            refine am_r_iandR (pc' := 213) rfl rfl ?_
            rw [z_and01 (by omega) (by omega)]
            refine am_r_istore9 (pc' := 215) rfl rfl rfl ?_
            refine am_r_iload10 (pc' := 217) rfl rfl ?_
            refine am_r_iload9 (pc' := 219) rfl rfl ?_
            refine am_r_icmp_ne (pt := 226) (pf := 222) rfl rfl rfl (fun h219 => ?_) (fun h219 => ?_)
            · refine am_r_iload11 (pc' := 228) rfl rfl ?_
              refine am_r_iload9 (pc' := 230) rfl rfl ?_
              refine am_r_icmp_ne (pt := 237) (pf := 233) rfl rfl rfl (fun h230 => ?_) (fun h230 => ?_)
              · refine am_r_iconst (pc' := 238) rfl rfl ?_
                refine am_r_istore6 (pc' := 240) rfl rfl rfl ?_
                refine am_r_aload0 (pc' := 241) rfl rfl ?_
                refine am_r_getR (t := 65) (pc' := 244) rfl rfl rfl ?_
                refine am_r_iload5 (pc' := 246) rfl rfl ?_
                refine am_r_iload7 (pc' := 248) rfl rfl ?_
                refine am_r_imul (pc' := 249) rfl rfl ?_
                refine am_r_iconst (pc' := 251) rfl rfl ?_
                refine am_r_iadd (pc' := 252) rfl rfl ?_
                refine am_r_iload8 (pc' := 254) rfl rfl ?_
                refine am_r_iadd (pc' := 255) rfl rfl ?_
                refine am_r_iload9 (pc' := 257) rfl rfl ?_
                refine am_r_iast (n := 91) (pc' := 258) rfl rfl (rfl) (by decide) ?_
                refine am_r_iinc8 (pc' := 261) rfl rfl rfl ?_
                refine am_r_goto (pc' := 77) rfl rfl ?_
                exact ih _ _ _ _ _ _ _ _ ⟨hk.1, b_in_s hk.2.1 (by omega) (by first | (rw [show d0 = n / 10 by omega, hpl, if_pos h110]; done) | (rw [show d0 = n / 10 by omega, hpl, if_neg h110]; done) | (rw [hpb (by omega), if_pos (by omega)]; done) | (rw [hpb (by omega), if_neg (by omega)]; done)), by omega, fun q1 q2 => by first | (exfalso; omega) | (have e := hpb (by omega); rw [if_pos (by omega)] at e; have ev : v = 0 := (by omega); subst ev; subst q1; unfold b_ledf; first | (rw [if_pos (by omega)]; done) | (rw [if_neg (by omega), if_pos (by omega)]; done) | (rw [if_neg (by omega), if_neg (by omega)]; done))⟩ hq
              · refine am_r_iconst (pc' := 234) rfl rfl ?_
                refine am_r_goto (pc' := 238) rfl rfl ?_
                refine am_r_istore6 (pc' := 240) rfl rfl rfl ?_
                refine am_r_aload0 (pc' := 241) rfl rfl ?_
                refine am_r_getR (t := 65) (pc' := 244) rfl rfl rfl ?_
                refine am_r_iload5 (pc' := 246) rfl rfl ?_
                refine am_r_iload7 (pc' := 248) rfl rfl ?_
                refine am_r_imul (pc' := 249) rfl rfl ?_
                refine am_r_iconst (pc' := 251) rfl rfl ?_
                refine am_r_iadd (pc' := 252) rfl rfl ?_
                refine am_r_iload8 (pc' := 254) rfl rfl ?_
                refine am_r_iadd (pc' := 255) rfl rfl ?_
                refine am_r_iload9 (pc' := 257) rfl rfl ?_
                refine am_r_iast (n := 91) (pc' := 258) rfl rfl (rfl) (by decide) ?_
                refine am_r_iinc8 (pc' := 261) rfl rfl rfl ?_
                refine am_r_goto (pc' := 77) rfl rfl ?_
                exact ih _ _ _ _ _ _ _ _ ⟨hk.1, b_in_s hk.2.1 (by omega) (by first | (rw [show d0 = n / 10 by omega, hpl, if_pos h110]; done) | (rw [show d0 = n / 10 by omega, hpl, if_neg h110]; done) | (rw [hpb (by omega), if_pos (by omega)]; done) | (rw [hpb (by omega), if_neg (by omega)]; done)), by omega, fun q1 q2 => by first | (exfalso; omega) | (have e := hpb (by omega); rw [if_pos (by omega)] at e; have ev : v = 0 := (by omega); subst ev; subst q1; unfold b_ledf; first | (rw [if_pos (by omega)]; done) | (rw [if_neg (by omega), if_pos (by omega)]; done) | (rw [if_neg (by omega), if_neg (by omega)]; done))⟩ hq
            · refine am_r_iconst (pc' := 223) rfl rfl ?_
              refine am_r_goto (pc' := 238) rfl rfl ?_
              refine am_r_istore6 (pc' := 240) rfl rfl rfl ?_
              refine am_r_aload0 (pc' := 241) rfl rfl ?_
              refine am_r_getR (t := 65) (pc' := 244) rfl rfl rfl ?_
              refine am_r_iload5 (pc' := 246) rfl rfl ?_
              refine am_r_iload7 (pc' := 248) rfl rfl ?_
              refine am_r_imul (pc' := 249) rfl rfl ?_
              refine am_r_iconst (pc' := 251) rfl rfl ?_
              refine am_r_iadd (pc' := 252) rfl rfl ?_
              refine am_r_iload8 (pc' := 254) rfl rfl ?_
              refine am_r_iadd (pc' := 255) rfl rfl ?_
              refine am_r_iload9 (pc' := 257) rfl rfl ?_
              refine am_r_iast (n := 91) (pc' := 258) rfl rfl (rfl) (by decide) ?_
              refine am_r_iinc8 (pc' := 261) rfl rfl rfl ?_
              refine am_r_goto (pc' := 77) rfl rfl ?_
              exact ih _ _ _ _ _ _ _ _ ⟨hk.1, b_in_s hk.2.1 (by omega) (by first | (rw [show d0 = n / 10 by omega, hpl, if_pos h110]; done) | (rw [show d0 = n / 10 by omega, hpl, if_neg h110]; done) | (rw [hpb (by omega), if_pos (by omega)]; done) | (rw [hpb (by omega), if_neg (by omega)]; done)), by omega, fun q1 q2 => by first | (exfalso; omega) | (have e := hpb (by omega); rw [if_pos (by omega)] at e; have ev : v = 0 := (by omega); subst ev; subst q1; unfold b_ledf; first | (rw [if_pos (by omega)]; done) | (rw [if_neg (by omega), if_pos (by omega)]; done) | (rw [if_neg (by omega), if_neg (by omega)]; done))⟩ hq
          · refine am_r_iload10 (pc' := 196) rfl rfl ?_
            refine am_r_iload11 (pc' := 198) rfl rfl ?_
            refine am_r_iorR (pc' := 199) rfl rfl ?_
            rw [z_or01 (by omega) (by omega)]
            refine am_r_iload12 (pc' := 201) rfl rfl ?_
            refine am_r_iorR (pc' := 202) rfl rfl ?_
            rw [z_or01 (by omega) (by omega)]
            refine am_r_goto (pc' := 213) rfl rfl ?_
            refine am_r_istore9 (pc' := 215) rfl rfl rfl ?_
            refine am_r_iload10 (pc' := 217) rfl rfl ?_
            refine am_r_iload9 (pc' := 219) rfl rfl ?_
            refine am_r_icmp_ne (pt := 226) (pf := 222) rfl rfl rfl (fun h219 => ?_) (fun h219 => ?_)
            · refine am_r_iload11 (pc' := 228) rfl rfl ?_
              refine am_r_iload9 (pc' := 230) rfl rfl ?_
              refine am_r_icmp_ne (pt := 237) (pf := 233) rfl rfl rfl (fun h230 => ?_) (fun h230 => ?_)
              · refine am_r_iconst (pc' := 238) rfl rfl ?_
                refine am_r_istore6 (pc' := 240) rfl rfl rfl ?_
                refine am_r_aload0 (pc' := 241) rfl rfl ?_
                refine am_r_getR (t := 65) (pc' := 244) rfl rfl rfl ?_
                refine am_r_iload5 (pc' := 246) rfl rfl ?_
                refine am_r_iload7 (pc' := 248) rfl rfl ?_
                refine am_r_imul (pc' := 249) rfl rfl ?_
                refine am_r_iconst (pc' := 251) rfl rfl ?_
                refine am_r_iadd (pc' := 252) rfl rfl ?_
                refine am_r_iload8 (pc' := 254) rfl rfl ?_
                refine am_r_iadd (pc' := 255) rfl rfl ?_
                refine am_r_iload9 (pc' := 257) rfl rfl ?_
                refine am_r_iast (n := 91) (pc' := 258) rfl rfl (rfl) (by decide) ?_
                refine am_r_iinc8 (pc' := 261) rfl rfl rfl ?_
                refine am_r_goto (pc' := 77) rfl rfl ?_
                exact ih _ _ _ _ _ _ _ _ ⟨hk.1, b_in_s hk.2.1 (by omega) (by first | (rw [show d0 = n / 10 by omega, hpl, if_pos h110]; done) | (rw [show d0 = n / 10 by omega, hpl, if_neg h110]; done) | (rw [hpb (by omega), if_pos (by omega)]; done) | (rw [hpb (by omega), if_neg (by omega)]; done)), by omega, fun q1 q2 => by first | (exfalso; omega) | (have e := hpb (by omega); rw [if_pos (by omega)] at e; have ev : v = 0 := (by omega); subst ev; subst q1; unfold b_ledf; first | (rw [if_pos (by omega)]; done) | (rw [if_neg (by omega), if_pos (by omega)]; done) | (rw [if_neg (by omega), if_neg (by omega)]; done))⟩ hq
              · refine am_r_iconst (pc' := 234) rfl rfl ?_
                refine am_r_goto (pc' := 238) rfl rfl ?_
                refine am_r_istore6 (pc' := 240) rfl rfl rfl ?_
                refine am_r_aload0 (pc' := 241) rfl rfl ?_
                refine am_r_getR (t := 65) (pc' := 244) rfl rfl rfl ?_
                refine am_r_iload5 (pc' := 246) rfl rfl ?_
                refine am_r_iload7 (pc' := 248) rfl rfl ?_
                refine am_r_imul (pc' := 249) rfl rfl ?_
                refine am_r_iconst (pc' := 251) rfl rfl ?_
                refine am_r_iadd (pc' := 252) rfl rfl ?_
                refine am_r_iload8 (pc' := 254) rfl rfl ?_
                refine am_r_iadd (pc' := 255) rfl rfl ?_
                refine am_r_iload9 (pc' := 257) rfl rfl ?_
                refine am_r_iast (n := 91) (pc' := 258) rfl rfl (rfl) (by decide) ?_
                refine am_r_iinc8 (pc' := 261) rfl rfl rfl ?_
                refine am_r_goto (pc' := 77) rfl rfl ?_
                exact ih _ _ _ _ _ _ _ _ ⟨hk.1, b_in_s hk.2.1 (by omega) (by first | (rw [show d0 = n / 10 by omega, hpl, if_pos h110]; done) | (rw [show d0 = n / 10 by omega, hpl, if_neg h110]; done) | (rw [hpb (by omega), if_pos (by omega)]; done) | (rw [hpb (by omega), if_neg (by omega)]; done)), by omega, fun q1 q2 => by first | (exfalso; omega) | (have e := hpb (by omega); rw [if_pos (by omega)] at e; have ev : v = 0 := (by omega); subst ev; subst q1; unfold b_ledf; first | (rw [if_pos (by omega)]; done) | (rw [if_neg (by omega), if_pos (by omega)]; done) | (rw [if_neg (by omega), if_neg (by omega)]; done))⟩ hq
            · refine am_r_iconst (pc' := 223) rfl rfl ?_
              refine am_r_goto (pc' := 238) rfl rfl ?_
              refine am_r_istore6 (pc' := 240) rfl rfl rfl ?_
              refine am_r_aload0 (pc' := 241) rfl rfl ?_
              refine am_r_getR (t := 65) (pc' := 244) rfl rfl rfl ?_
              refine am_r_iload5 (pc' := 246) rfl rfl ?_
              refine am_r_iload7 (pc' := 248) rfl rfl ?_
              refine am_r_imul (pc' := 249) rfl rfl ?_
              refine am_r_iconst (pc' := 251) rfl rfl ?_
              refine am_r_iadd (pc' := 252) rfl rfl ?_
              refine am_r_iload8 (pc' := 254) rfl rfl ?_
              refine am_r_iadd (pc' := 255) rfl rfl ?_
              refine am_r_iload9 (pc' := 257) rfl rfl ?_
              refine am_r_iast (n := 91) (pc' := 258) rfl rfl (rfl) (by decide) ?_
              refine am_r_iinc8 (pc' := 261) rfl rfl rfl ?_
              refine am_r_goto (pc' := 77) rfl rfl ?_
              exact ih _ _ _ _ _ _ _ _ ⟨hk.1, b_in_s hk.2.1 (by omega) (by first | (rw [show d0 = n / 10 by omega, hpl, if_pos h110]; done) | (rw [show d0 = n / 10 by omega, hpl, if_neg h110]; done) | (rw [hpb (by omega), if_pos (by omega)]; done) | (rw [hpb (by omega), if_neg (by omega)]; done)), by omega, fun q1 q2 => by first | (exfalso; omega) | (have e := hpb (by omega); rw [if_pos (by omega)] at e; have ev : v = 0 := (by omega); subst ev; subst q1; unfold b_ledf; first | (rw [if_pos (by omega)]; done) | (rw [if_neg (by omega), if_pos (by omega)]; done) | (rw [if_neg (by omega), if_neg (by omega)]; done))⟩ hq
        · refine am_r_aload0 (pc' := 95) rfl rfl ?_
          refine am_r_iload1 (pc' := 96) rfl rfl ?_
          refine am_r_iconst (pc' := 98) rfl rfl ?_
          refine am_r_idiv (pc' := 99) rfl rfl ?_
          refine am_r_iload1 (pc' := 100) rfl rfl ?_
          refine am_r_iconst (pc' := 102) rfl rfl ?_
          refine am_r_irem (pc' := 103) rfl rfl ?_
          refine am_r_iload8 (pc' := 105) rfl rfl ?_
          refine am_r_iload2 (pc' := 106) rfl rfl ?_
          refine am_r_i2l (pc' := 107) rfl rfl ?_
          refine am_r_invI4 (pc' := 110) rfl rfl rfl (Nat.le_of_ble_eq_true rfl) (m_meetsMoved (by omega) hN (by omega) (by omega) (by omega) (by omega) ?_)
          refine am_r_if_eqB (pt := 117) (pf := 113) rfl rfl rfl (fun h110 => ?_) (fun h110 => ?_)
          · refine am_r_iconst (pc' := 118) rfl rfl ?_
            refine am_r_istore9 (pc' := 120) rfl rfl rfl ?_
            refine am_r_goto (pc' := 240) rfl rfl ?_
            refine am_r_aload0 (pc' := 241) rfl rfl ?_
            refine am_r_getR (t := 65) (pc' := 244) rfl rfl rfl ?_
            refine am_r_iload5 (pc' := 246) rfl rfl ?_
            refine am_r_iload7 (pc' := 248) rfl rfl ?_
            refine am_r_imul (pc' := 249) rfl rfl ?_
            refine am_r_iconst (pc' := 251) rfl rfl ?_
            refine am_r_iadd (pc' := 252) rfl rfl ?_
            refine am_r_iload8 (pc' := 254) rfl rfl ?_
            refine am_r_iadd (pc' := 255) rfl rfl ?_
            refine am_r_iload9 (pc' := 257) rfl rfl ?_
            refine am_r_iast (n := 91) (pc' := 258) rfl rfl (rfl) (by decide) ?_
            refine am_r_iinc8 (pc' := 261) rfl rfl rfl ?_
            refine am_r_goto (pc' := 77) rfl rfl ?_
            exact ih _ _ _ _ _ _ _ _ ⟨hk.1, b_in_s hk.2.1 (by omega) (by first | (rw [show d0 = n / 10 by omega, hpl, if_pos h110]; done) | (rw [show d0 = n / 10 by omega, hpl, if_neg h110]; done) | (rw [hpb (by omega), if_pos (by omega)]; done) | (rw [hpb (by omega), if_neg (by omega)]; done)), by omega, fun q1 q2 => by first | (exfalso; omega) | (have e := hpb (by omega); rw [if_pos (by omega)] at e; have ev : v = 0 := (by omega); subst ev; subst q1; unfold b_ledf; first | (rw [if_pos (by omega)]; done) | (rw [if_neg (by omega), if_pos (by omega)]; done) | (rw [if_neg (by omega), if_neg (by omega)]; done))⟩ hq
          · refine am_r_iconst (pc' := 114) rfl rfl ?_
            refine am_r_goto (pc' := 118) rfl rfl ?_
            refine am_r_istore9 (pc' := 120) rfl rfl rfl ?_
            refine am_r_goto (pc' := 240) rfl rfl ?_
            refine am_r_aload0 (pc' := 241) rfl rfl ?_
            refine am_r_getR (t := 65) (pc' := 244) rfl rfl rfl ?_
            refine am_r_iload5 (pc' := 246) rfl rfl ?_
            refine am_r_iload7 (pc' := 248) rfl rfl ?_
            refine am_r_imul (pc' := 249) rfl rfl ?_
            refine am_r_iconst (pc' := 251) rfl rfl ?_
            refine am_r_iadd (pc' := 252) rfl rfl ?_
            refine am_r_iload8 (pc' := 254) rfl rfl ?_
            refine am_r_iadd (pc' := 255) rfl rfl ?_
            refine am_r_iload9 (pc' := 257) rfl rfl ?_
            refine am_r_iast (n := 91) (pc' := 258) rfl rfl (rfl) (by decide) ?_
            refine am_r_iinc8 (pc' := 261) rfl rfl rfl ?_
            refine am_r_goto (pc' := 77) rfl rfl ?_
            exact ih _ _ _ _ _ _ _ _ ⟨hk.1, b_in_s hk.2.1 (by omega) (by first | (rw [show d0 = n / 10 by omega, hpl, if_pos h110]; done) | (rw [show d0 = n / 10 by omega, hpl, if_neg h110]; done) | (rw [hpb (by omega), if_pos (by omega)]; done) | (rw [hpb (by omega), if_neg (by omega)]; done)), by omega, fun q1 q2 => by first | (exfalso; omega) | (have e := hpb (by omega); rw [if_pos (by omega)] at e; have ev : v = 0 := (by omega); subst ev; subst q1; unfold b_ledf; first | (rw [if_pos (by omega)]; done) | (rw [if_neg (by omega), if_pos (by omega)]; done) | (rw [if_neg (by omega), if_neg (by omega)]; done))⟩ hq
  have hl : ∀ (k : Nat) (d0 l : Int) (N : Am_M) (w8 w9 w10 w11 w12 : Value), (((0 ≤ ab ∧ ab / 10 < s_n σ ∧ ab % 10 < s_n σ ∧ ab / 10 ≠ ab % 10) ∧ (0 ≤ f0 ∧ f0 ≤ 99999) ∧ 1 ≤ n / 10 ∧ n / 10 ≤ 6) ∧ b_in σ (ab / 10) (ab % 10) f0 (n / 10) M N d0 (-d0) ∧ (d0 + 1 = k ∧ d0 ≤ n / 10) ∧ (d0 < 0 → l = b_ledf σ (ab / 10) (ab % 10) f0 (n / 10) 0 0)) → (∀ (N2 : Am_M) (l2 d2 : Int) (w8 w9 w10 w11 w12 : Value), b_in σ (ab / 10) (ab % 10) f0 (n / 10) M N2 (-1) 1 → l2 = b_ledf σ (ab / 10) (ab % 10) f0 (n / 10) 0 0 → am_rw sL xs d am_pX11_byTurns 1 270 [.ref 53, .int (z_I ab), .int (z_I f0), .int (z_I n), .int (z_I (n / 10)), .int (z_I 13), .int (z_I l2), .int (z_I d2), w8, w9, w10, w11, w12] [] N2 (am_pi Q)) → am_rw sL xs d am_pX11_byTurns 1 67 [.ref 53, .int (z_I ab), .int (z_I f0), .int (z_I n), .int (z_I (n / 10)), .int (z_I 13), .int (z_I l), .int (z_I d0), w8, w9, w10, w11, w12] [] N (am_pi Q) := by
    intro k
    induction k with
    | zero =>
      intro d0 l N w8 w9 w10 w11 w12 hk hq
      refine am_r_iload7 (pc' := 69) rfl rfl ?_
      refine am_r_if_lt (pt := 270) (pf := 72) rfl rfl rfl (fun h69 => ?_) (fun h69 => ?_)
      · have e : d0 = -1 := by omega
        subst e
        exact hq _ _ _ _ _ _ _ _ hk.2.1 (hk.2.2.2 (by omega))
      · exfalso; omega
    | succ k ih =>
      intro d0 l N w8 w9 w10 w11 w12 hk hq
      refine am_r_iload7 (pc' := 69) rfl rfl ?_
      refine am_r_if_lt (pt := 270) (pf := 72) rfl rfl rfl (fun h69 => ?_) (fun h69 => ?_)
      · exfalso; omega
      · refine am_r_iload7 (pc' := 74) rfl rfl ?_
        refine am_r_ineg (pc' := 75) rfl rfl ?_
        refine am_r_istore8 (pc' := 77) rfl rfl rfl ?_
        refine hin (2 * d0 + 1).toNat d0 (-d0) l N _ _ _ _ (by refine ⟨hk.1, hk.2.1, by omega, by omega⟩) ?_
        intro v2 l2 N2 x9 x10 x11 x12 h1 h2
        refine am_r_iinc7 (pc' := 267) rfl rfl rfl ?_
        refine am_r_goto (pc' := 67) rfl rfl ?_
        exact ih _ _ _ _ _ _ _ _ (by refine ⟨hk.1, ⟨h1.1, fun i d1 v1 e1 e2 e3 e4 e5 e6 => h1.2 i d1 v1 e1 (by omega) e3 e4 e5 (by omega)⟩, by omega, fun q => h2 (by omega)⟩) hq
  refine am_bi_of (P := am_pX11_byTurns) (rt := 1) (nL := 13) (Nat.le_of_ble_eq_true rfl) rfl (Nat.le_of_ble_eq_true rfl) rfl rfl rfl ?_
  refine am_r_aload0 (pc' := 1) rfl rfl ?_
  refine am_r_iload1 (pc' := 2) rfl rfl ?_
  refine am_r_invI1 (pc' := 5) rfl rfl rfl (Nat.le_of_ble_eq_true rfl) (m_isAb (by omega) hM (by omega) ?_)
  refine am_r_if_eqB (pt := 47) (pf := 8) rfl rfl rfl (fun h5 => ?_) (fun h5 => ?_)
  · refine am_r_iconst (pc' := 49) rfl rfl ?_
    refine am_r_iret rfl rfl ?_
    have hq := hq M (am_fr_rf _ _ _)
    refine am_q ?_ hq
    unfold r_turns
    (repeat (first | rw [if_pos (by omega)] | rw [if_neg (by omega)]))
    all_goals first | rfl | omega
  · refine am_r_iload2 (pc' := 9) rfl rfl ?_
    refine am_r_ivsI1 (pc' := 12) rfl rfl rfl (Nat.le_of_ble_eq_true rfl) (m_isDay (by omega) (by omega) ?_)
    refine am_r_if_eqB (pt := 47) (pf := 15) rfl rfl rfl (fun h12 => ?_) (fun h12 => ?_)
    · refine am_r_iconst (pc' := 49) rfl rfl ?_
      refine am_r_iret rfl rfl ?_
      have hq := hq M (am_fr_rf _ _ _)
      refine am_q ?_ hq
      unfold r_turns
      (repeat (first | rw [if_pos (by omega)] | rw [if_neg (by omega)]))
      all_goals first | rfl | omega
    · refine am_r_iload3 (pc' := 16) rfl rfl ?_
      refine am_r_if_lt (pt := 47) (pf := 19) rfl rfl rfl (fun h16 => ?_) (fun h16 => ?_)
      · refine am_r_iconst (pc' := 49) rfl rfl ?_
        refine am_r_iret rfl rfl ?_
        have hq := hq M (am_fr_rf _ _ _)
        refine am_q ?_ hq
        unfold r_turns
        (repeat (first | rw [if_pos (by omega)] | rw [if_neg (by omega)]))
        all_goals first | rfl | omega
      · refine am_r_iload3 (pc' := 20) rfl rfl ?_
        refine am_r_iconst (pc' := 22) rfl rfl ?_
        refine am_r_idiv (pc' := 23) rfl rfl ?_
        refine am_r_i2l (pc' := 24) rfl rfl ?_
        refine am_r_lconst (z := 1) (pc' := 25) rfl rfl rfl ?_
        refine am_r_lconst (z := 6) (pc' := 28) rfl rfl rfl ?_
        refine am_r_ivsI3 (pc' := 31) rfl rfl rfl (Nat.le_of_ble_eq_true rfl) (m_within (by omega) (by omega) (by omega) (by omega) ?_)
        refine am_r_if_eqB (pt := 47) (pf := 34) rfl rfl rfl (fun h31 => ?_) (fun h31 => ?_)
        · refine am_r_iconst (pc' := 49) rfl rfl ?_
          refine am_r_iret rfl rfl ?_
          have hq := hq M (am_fr_rf _ _ _)
          refine am_q ?_ hq
          unfold r_turns
          (repeat (first | rw [if_pos (by omega)] | rw [if_neg (by omega)]))
          all_goals first | rfl | omega
        · refine am_r_iload3 (pc' := 35) rfl rfl ?_
          refine am_r_iconst (pc' := 37) rfl rfl ?_
          refine am_r_irem (pc' := 38) rfl rfl ?_
          refine am_r_i2l (pc' := 39) rfl rfl ?_
          refine am_r_lconst (z := 0) (pc' := 40) rfl rfl rfl ?_
          refine am_r_lconst (z := 1) (pc' := 41) rfl rfl rfl ?_
          refine am_r_ivsI3 (pc' := 44) rfl rfl rfl (Nat.le_of_ble_eq_true rfl) (m_within (by omega) (by omega) (by omega) (by omega) ?_)
          refine am_r_if_neB (pt := 50) (pf := 47) rfl rfl rfl (fun h44 => ?_) (fun h44 => ?_)
          · refine am_r_iload3 (pc' := 51) rfl rfl ?_
            refine am_r_iconst (pc' := 53) rfl rfl ?_
            refine am_r_idiv (pc' := 54) rfl rfl ?_
            refine am_r_istore4 (pc' := 56) rfl rfl rfl ?_
            refine am_r_iconst (pc' := 58) rfl rfl ?_
            refine am_r_istore5 (pc' := 60) rfl rfl rfl ?_
            refine am_r_iconst (pc' := 61) rfl rfl ?_
            refine am_r_istore6 (pc' := 63) rfl rfl rfl ?_
            refine am_r_iload4 (pc' := 65) rfl rfl ?_
            refine am_r_istore7 (pc' := 67) rfl rfl rfl ?_
            refine hl (n / 10 + 1).toNat (n / 10) (-1) M _ _ _ _ _ (by refine ⟨by omega, ⟨am_fr_rf _ _ _, fun i d1 v1 e1 e2 e3 e4 e5 e6 => ?_⟩, by omega, by omega⟩; exfalso; omega) ?_
            intro N2 l2 d2 x8 x9 x10 x11 x12 hb hl2
            have hw := b_win σ (ab / 10) (ab % 10) f0 (n / 10) (by omega)
            subst hl2
            have hq := hq N2 hb.1
            unfold r_turns at hq
            rw [if_pos (by omega)] at hq
            refine am_r_iload3 (pc' := 271) rfl rfl ?_
            refine am_r_iconst (pc' := 273) rfl rfl ?_
            refine am_r_irem (pc' := 274) rfl rfl ?_
            refine am_r_if_ne (pt := 287) (pf := 277) rfl rfl rfl (fun h274 => ?_) (fun h274 => ?_)
            · refine am_r_iload6 (pc' := 289) rfl rfl ?_
              refine am_r_iret rfl rfl ?_
              first | (rw [if_pos (by omega), ← hw.1] at hq; exact hq) | (rw [if_neg (by omega), ← hw.2] at hq; exact hq)
            · refine am_r_aload0 (pc' := 278) rfl rfl ?_
              refine am_r_getR (t := 65) (pc' := 281) rfl rfl rfl ?_
              refine am_r_iconst (pc' := 283) rfl rfl ?_
              refine am_r_iaZv (n := 91) (pc' := 284) rfl rfl rfl (by decide) (hb.2 (6 : Int) 0 0 (by omega) (by omega) (by omega) (by omega) (by omega) (by omega)) ?_
              refine am_r_goto (pc' := 289) rfl rfl ?_
              refine am_r_iret rfl rfl ?_
              first | (rw [if_pos (by omega), ← hw.1] at hq; exact hq) | (rw [if_neg (by omega), ← hw.2] at hq; exact hq)
          · refine am_r_iconst (pc' := 49) rfl rfl ?_
            refine am_r_iret rfl rfl ?_
            have hq := hq M (am_fr_rf _ _ _)
            refine am_q ?_ hq
            unfold r_turns
            (repeat (first | rw [if_pos (by omega)] | rw [if_neg (by omega)]))
            all_goals first | rfl | omega
theorem g_pop_s {v i : Int} (hi : 0 ≤ i ∧ i < 8) (hv : 0 ≤ v ∧ v < 2 ^ i.toNat) : g_pop (v + 2 ^ i.toNat) = g_pop v + 1 := by
  obtain ⟨j, rfl⟩ : ∃ j : Nat, i = j := ⟨i.toNat, by omega⟩
  obtain ⟨e, rfl⟩ : ∃ e : Nat, v = e := ⟨v.toNat, by omega⟩
  have h : ∀ j : Nat, j < 8 → ∀ e : Nat, e < 2 ^ j → g_pop ((e : Int) + 2 ^ j) = g_pop e + 1 := by decide +kernel
  exact h j (by omega) e (by have := hv.2; simp only [Int.toNat_natCast] at this; exact_mod_cast this)
theorem f_sum_bit_b (s : Int) : ∀ (k : Nat) (i : Int), 0 ≤ f_sum (s_bit s) i k ∧ f_sum (s_bit s) i k ≤ k
  | 0, i => ⟨Int.le_refl 0, by simp [f_sum]⟩
  | k + 1, i => by
    have h1 := s_bit01 s i
    have h2 := f_sum_bit_b s k (i + 1)
    simp only [f_sum]
    omega
theorem g_pop_b (s : Int) : 0 ≤ g_pop s ∧ g_pop s ≤ 8 := f_sum_bit_b s 8 0
theorem m_crowd {sL : Nat} {xs : Nat → Int32} {d : Nat} {M : Am_M} {Q : Int32 → Am_M → Prop} (hd : 4 ≤ d) {σ : Sg} (hM : SM M σ) {a : Int} (ha : -2147483648 ≤ a ∧ a < 2147483648) {f0 : Int} (hf0 : -2147483648 ≤ f0 ∧ f0 < 2147483648) {w : Int} (hw : -2147483648 ≤ w ∧ w < 2147483648)  (hq : Q (z_I (r_crowd σ a f0 w (g_pop (g_met σ a f0)) (g_met σ a f0))) M) : am_bi sL xs d 230 [.ref 53, .int (z_I a), .int (z_I f0), .int (z_I w)] M Q := by
  obtain ⟨d, rfl⟩ : ∃ e, d = e + 1 := ⟨d - 1, by omega⟩
  have hn := sb_nb hM.1
  have hnr := sb_nrb hM.1
  have hl : ∀ (k : Nat) (i c v : Int), (0 ≤ i ∧ i + k = s_n σ ∧ 0 ≤ v ∧ v < 2 ^ i.toNat ∧ c = g_pop v ∧ ((0 ≤ a ∧ a < s_n σ) ∧ (0 ≤ f0 ∧ f0 ≤ 99999) ∧ (w = 0 ∨ w = 1))) → (Q (z_I (if w = 0 then g_pop (v + f_sum (g_mb σ a f0) i k) else v + f_sum (g_mb σ a f0) i k)) M) → am_rw sL xs d am_pX11_crowd 1 37 [.ref 53, .int (z_I a), .int (z_I f0), .int (z_I w), .int (z_I c), .int (z_I v), .int (z_I i)] [] M (am_pi Q) := by
    intro k
    induction k with
    | zero =>
      intro i c v hk hq
      have hps := z_pow_s hk.1
      have hpb := g_pop_b v
      refine am_r_iload6 (pc' := 39) rfl rfl ?_
      refine am_r_aload0 (pc' := 40) rfl rfl ?_
      refine am_r_getIv (f := 6) (pc' := 43) rfl rfl rfl (sm_n hM) ?_
      refine am_r_icmp_ge (pt := 82) (pf := 46) rfl rfl rfl (fun h43 => ?_) (fun h43 => ?_)
      · refine am_r_iload3 (pc' := 83) rfl rfl ?_
        refine am_r_if_ne (pt := 91) (pf := 86) rfl rfl rfl (fun h83 => ?_) (fun h83 => ?_)
        · refine am_r_iload5 (pc' := 93) rfl rfl ?_
          refine am_r_iret rfl rfl ?_
          first | (rw [if_pos (by omega), f_sum_0] at hq; rw [hk.2.2.2.2.1]; exact hq) | (rw [if_neg (by omega), f_sum_0] at hq; exact hq)
        · refine am_r_iload4 (pc' := 88) rfl rfl ?_
          refine am_r_goto (pc' := 93) rfl rfl ?_
          refine am_r_iret rfl rfl ?_
          first | (rw [if_pos (by omega), f_sum_0] at hq; rw [hk.2.2.2.2.1]; exact hq) | (rw [if_neg (by omega), f_sum_0] at hq; exact hq)
      · exfalso; omega
    | succ k ih =>
      intro i c v hk hq
      have hps := z_pow_s hk.1
      have hpb := g_pop_b v
      refine am_r_iload6 (pc' := 39) rfl rfl ?_
      refine am_r_aload0 (pc' := 40) rfl rfl ?_
      refine am_r_getIv (f := 6) (pc' := 43) rfl rfl rfl (sm_n hM) ?_
      refine am_r_icmp_ge (pt := 82) (pf := 46) rfl rfl rfl (fun h43 => ?_) (fun h43 => ?_)
      · exfalso; omega
      · refine am_r_iload6 (pc' := 48) rfl rfl ?_
        refine am_r_iload1 (pc' := 49) rfl rfl ?_
        refine am_r_icmp_eq (pt := 76) (pf := 52) rfl rfl rfl (fun h49 => ?_) (fun h49 => ?_)
        · refine am_r_iinc6 (pc' := 79) rfl rfl rfl ?_
          refine am_r_goto (pc' := 37) rfl rfl ?_
          first | exact ih _ _ _ (by refine ⟨by omega, by omega, by omega, by omega, ?_, hk.2.2.2.2.2⟩; rw [g_pop_s (by omega) (by omega), hk.2.2.2.2.1]) (by rw [f_sum_s, show g_mb σ a f0 i = 2 ^ i.toNat from if_pos ⟨h49, h61⟩] at hq; exact hq) | exact ih _ _ _ (by refine ⟨by omega, by omega, by omega, by omega, hk.2.2.2.2.1, hk.2.2.2.2.2⟩) (by rw [f_sum_s, show g_mb σ a f0 i = 0 from if_neg (fun z => h61 z.2), Int.add_zero] at hq; exact hq) | exact ih _ _ _ (by refine ⟨by omega, by omega, by omega, by omega, hk.2.2.2.2.1, hk.2.2.2.2.2⟩) (by rw [f_sum_s, show g_mb σ a f0 i = 0 from if_neg (fun z => z.1 h49), Int.add_zero] at hq; exact hq)
        · refine am_r_aload0 (pc' := 53) rfl rfl ?_
          refine am_r_iload1 (pc' := 54) rfl rfl ?_
          refine am_r_iload6 (pc' := 56) rfl rfl ?_
          refine am_r_iload2 (pc' := 57) rfl rfl ?_
          refine am_r_i2l (pc' := 58) rfl rfl ?_
          refine am_r_invI3 (pc' := 61) rfl rfl rfl (Nat.le_of_ble_eq_true rfl) (m_meetOn (by omega) hM (by omega) (by omega) (by omega) ?_)
          refine am_r_if_eqB (pt := 76) (pf := 64) rfl rfl rfl (fun h61 => ?_) (fun h61 => ?_)
          · refine am_r_iinc6 (pc' := 79) rfl rfl rfl ?_
            refine am_r_goto (pc' := 37) rfl rfl ?_
            first | exact ih _ _ _ (by refine ⟨by omega, by omega, by omega, by omega, ?_, hk.2.2.2.2.2⟩; rw [g_pop_s (by omega) (by omega), hk.2.2.2.2.1]) (by rw [f_sum_s, show g_mb σ a f0 i = 2 ^ i.toNat from if_pos ⟨h49, h61⟩] at hq; exact hq) | exact ih _ _ _ (by refine ⟨by omega, by omega, by omega, by omega, hk.2.2.2.2.1, hk.2.2.2.2.2⟩) (by rw [f_sum_s, show g_mb σ a f0 i = 0 from if_neg (fun z => h61 z.2), Int.add_zero] at hq; exact hq) | exact ih _ _ _ (by refine ⟨by omega, by omega, by omega, by omega, hk.2.2.2.2.1, hk.2.2.2.2.2⟩) (by rw [f_sum_s, show g_mb σ a f0 i = 0 from if_neg (fun z => z.1 h49), Int.add_zero] at hq; exact hq)
          · refine am_r_iinc4 (pc' := 67) rfl rfl rfl ?_
            refine am_r_iload5 (pc' := 69) rfl rfl ?_
            refine am_r_iconst (pc' := 70) rfl rfl ?_
            refine am_r_iload6 (pc' := 72) rfl rfl ?_
            refine am_r_ishl (pc' := 73) rfl rfl ?_
            refine am_r_iorR (pc' := 74) rfl rfl ?_
            rw [z_shl1 (by omega), z_or (by omega) (by omega)]
            refine am_r_istore5 (pc' := 76) rfl rfl rfl ?_
            refine am_r_iinc6 (pc' := 79) rfl rfl rfl ?_
            refine am_r_goto (pc' := 37) rfl rfl ?_
            first | exact ih _ _ _ (by refine ⟨by omega, by omega, by omega, by omega, ?_, hk.2.2.2.2.2⟩; rw [g_pop_s (by omega) (by omega), hk.2.2.2.2.1]) (by rw [f_sum_s, show g_mb σ a f0 i = 2 ^ i.toNat from if_pos ⟨h49, h61⟩] at hq; exact hq) | exact ih _ _ _ (by refine ⟨by omega, by omega, by omega, by omega, hk.2.2.2.2.1, hk.2.2.2.2.2⟩) (by rw [f_sum_s, show g_mb σ a f0 i = 0 from if_neg (fun z => h61 z.2), Int.add_zero] at hq; exact hq) | exact ih _ _ _ (by refine ⟨by omega, by omega, by omega, by omega, hk.2.2.2.2.1, hk.2.2.2.2.2⟩) (by rw [f_sum_s, show g_mb σ a f0 i = 0 from if_neg (fun z => z.1 h49), Int.add_zero] at hq; exact hq)
  refine am_bi_of (P := am_pX11_crowd) (rt := 1) (nL := 7) (Nat.le_of_ble_eq_true rfl) rfl (Nat.le_of_ble_eq_true rfl) rfl rfl rfl ?_
  refine am_r_aload0 (pc' := 1) rfl rfl ?_
  refine am_r_iload1 (pc' := 2) rfl rfl ?_
  refine am_r_i2l (pc' := 3) rfl rfl ?_
  refine am_r_invI1 (pc' := 6) rfl rfl rfl (Nat.le_of_ble_eq_true rfl) (m_isOrb (by omega) hM (by omega) ?_)
  refine am_r_if_eqB (pt := 26) (pf := 9) rfl rfl rfl (fun h6 => ?_) (fun h6 => ?_)
  · refine am_r_iconst (pc' := 27) rfl rfl ?_
    refine am_r_iret rfl rfl ?_
    refine am_q ?_ hq
    unfold r_crowd
    (repeat (first | rw [if_pos (by omega)] | rw [if_neg (by omega)]))
    all_goals first | rfl | omega
  · refine am_r_iload2 (pc' := 10) rfl rfl ?_
    refine am_r_ivsI1 (pc' := 13) rfl rfl rfl (Nat.le_of_ble_eq_true rfl) (m_isDay (by omega) (by omega) ?_)
    refine am_r_if_eqB (pt := 26) (pf := 16) rfl rfl rfl (fun h13 => ?_) (fun h13 => ?_)
    · refine am_r_iconst (pc' := 27) rfl rfl ?_
      refine am_r_iret rfl rfl ?_
      refine am_q ?_ hq
      unfold r_crowd
      (repeat (first | rw [if_pos (by omega)] | rw [if_neg (by omega)]))
      all_goals first | rfl | omega
    · refine am_r_iload3 (pc' := 17) rfl rfl ?_
      refine am_r_i2l (pc' := 18) rfl rfl ?_
      refine am_r_lconst (z := 0) (pc' := 19) rfl rfl rfl ?_
      refine am_r_lconst (z := 1) (pc' := 20) rfl rfl rfl ?_
      refine am_r_ivsI3 (pc' := 23) rfl rfl rfl (Nat.le_of_ble_eq_true rfl) (m_within (by omega) (by omega) (by omega) (by omega) ?_)
      refine am_r_if_neB (pt := 28) (pf := 26) rfl rfl rfl (fun h23 => ?_) (fun h23 => ?_)
      · refine am_r_iconst (pc' := 29) rfl rfl ?_
        refine am_r_istore4 (pc' := 31) rfl rfl rfl ?_
        refine am_r_iconst (pc' := 32) rfl rfl ?_
        refine am_r_istore5 (pc' := 34) rfl rfl rfl ?_
        refine am_r_iconst (pc' := 35) rfl rfl ?_
        refine am_r_istore6 (pc' := 37) rfl rfl rfl ?_
        exact hl (s_n σ).toNat 0 0 0 (by refine ⟨by omega, by omega, by omega, by decide, by decide, by omega⟩) (by unfold r_crowd at hq; rw [if_pos (by omega)] at hq; rw [Int.zero_add]; exact hq)
      · refine am_r_iconst (pc' := 27) rfl rfl ?_
        refine am_r_iret rfl rfl ?_
        refine am_q ?_ hq
        unfold r_crowd
        (repeat (first | rw [if_pos (by omega)] | rw [if_neg (by omega)]))
        all_goals first | rfl | omega
/-- the gap in front of b up to the next of a set -/
def b_gp (σ : Sg) (s b d : Int) : Int → Int → Nat → Int
  | c, _, 0 => c
  | c, i, k + 1 => if s_bit s i = 1 then b_gp σ s b d (if 0 < (g_dg σ i d - g_dg σ b d) % 360 ∧ (g_dg σ i d - g_dg σ b d) % 360 < c then (g_dg σ i d - g_dg σ b d) % 360 else c) (i + 1) k else b_gp σ s b d c (i + 1) k
def b_gap (σ : Sg) (s b d : Int) : Int := b_gp σ s b d 360 0 (s_n σ).toNat
theorem b_gp_b (σ : Sg) (s b d : Int) : ∀ (k : Nat) (c i : Int), 0 < c ∧ c ≤ 360 → 0 < b_gp σ s b d c i k ∧ b_gp σ s b d c i k ≤ 360
  | 0, c, i, h => h
  | k + 1, c, i, h => by
    unfold b_gp
    split
    · exact b_gp_b σ s b d k _ _ (by split <;> omega)
    · exact b_gp_b σ s b d k _ _ h
theorem b_gap_b (σ : Sg) (s b d : Int) : 0 < b_gap σ s b d ∧ b_gap σ s b d ≤ 360 := b_gp_b σ s b d _ 360 0 (by omega)
/-- the widest gap -/
def b_wd (σ : Sg) (s d : Int) : Int → Int → Nat → Int
  | c, _, 0 => c
  | c, i, k + 1 => if s_bit s i = 1 then b_wd σ s d (max c (b_gap σ s i d)) (i + 1) k else b_wd σ s d c (i + 1) k
def b_arc (σ : Sg) (s d : Int) : Int := if b_wd σ s d 0 0 (s_n σ).toNat = 0 then 0 else 360 - b_wd σ s d 0 0 (s_n σ).toNat
theorem b_360 (x y : Int) : (x - y + 360) % 360 = (x - y) % 360 := by omega
theorem m_gapBehind {sL : Nat} {xs : Nat → Int32} {d : Nat} {M : Am_M} {Q : Int32 → Am_M → Prop} (hd : 2 ≤ d) {σ : Sg} (hM : SM M σ) {s b f0 : Int} (hs : 0 ≤ s ∧ s < 256) (hb : 0 ≤ b ∧ b < s_n σ) (hf : 0 ≤ f0 ∧ f0 ≤ 100000) (hq : Q (z_I (b_gap σ s b f0)) M) : am_bi sL xs d 231 [.ref 53, .int (z_I s), .int (z_I b), .int (z_I f0)] M Q := by
  obtain ⟨d, rfl⟩ : ∃ e, d = e + 1 := ⟨d - 1, by omega⟩
  have hn := sb_nb hM.1
  have hnr := sb_nrb hM.1
  have hl : ∀ (k : Nat) (i c : Int) (w7 : Value), (0 ≤ i ∧ i + k = s_n σ ∧ 0 < c ∧ c ≤ 360) → (Q (z_I (b_gp σ s b f0 c i k)) M) → am_rw sL xs d am_pX11_gapBehind 1 22 [.ref 53, .int (z_I s), .int (z_I b), .int (z_I f0), .int (z_I (g_dg σ b f0)), .int (z_I c), .int (z_I i), w7] [] M (am_pi Q) := by
    intro k
    induction k with
    | zero =>
      intro i c w7 hk hq
      have hbt := s_bit01 s i
      refine am_r_iload6 (pc' := 24) rfl rfl ?_
      refine am_r_aload0 (pc' := 25) rfl rfl ?_
      refine am_r_getIv (f := 6) (pc' := 28) rfl rfl rfl (sm_n hM) ?_
      refine am_r_icmp_ge (pt := 94) (pf := 31) rfl rfl rfl (fun h28 => ?_) (fun h28 => ?_)
      · refine am_r_iload5 (pc' := 96) rfl rfl ?_
        refine am_r_iret rfl rfl ?_
        exact hq
      · exfalso; omega
    | succ k ih =>
      intro i c w7 hk hq
      have hbt := s_bit01 s i
      refine am_r_iload6 (pc' := 24) rfl rfl ?_
      refine am_r_aload0 (pc' := 25) rfl rfl ?_
      refine am_r_getIv (f := 6) (pc' := 28) rfl rfl rfl (sm_n hM) ?_
      refine am_r_icmp_ge (pt := 94) (pf := 31) rfl rfl rfl (fun h28 => ?_) (fun h28 => ?_)
      · exfalso; omega
      · refine am_r_iload1 (pc' := 32) rfl rfl ?_
        refine am_r_iload6 (pc' := 34) rfl rfl ?_
        refine am_r_ivsI2 (pc' := 37) rfl rfl rfl (Nat.le_of_ble_eq_true rfl) (m_isIn (by omega) (by omega) (by omega) ?_)
        refine am_r_if_eqB (pt := 88) (pf := 40) rfl rfl rfl (fun h37 => ?_) (fun h37 => ?_)
        · refine am_r_iinc6 (pc' := 91) rfl rfl rfl ?_
          refine am_r_goto (pc' := 22) rfl rfl ?_
          first | exact ih _ _ _ (by omega) (by rw [show b_gp σ s b f0 c i (k + 1) = b_gp σ s b f0 ((g_dg σ i f0 - g_dg σ b f0) % 360) (i + 1) k by (rw [b_gp, if_pos (by omega), if_pos (by omega)])] at hq; exact hq) | exact ih _ _ _ (by omega) (by rw [show b_gp σ s b f0 c i (k + 1) = b_gp σ s b f0 c (i + 1) k by (rw [b_gp, if_pos (by omega), if_neg (by omega)])] at hq; exact hq) | exact ih _ _ _ (by omega) (by rw [show b_gp σ s b f0 c i (k + 1) = b_gp σ s b f0 c (i + 1) k by (rw [b_gp, if_neg (by omega)])] at hq; exact hq)
        · refine am_r_aload0 (pc' := 41) rfl rfl ?_
          refine am_r_iload6 (pc' := 43) rfl rfl ?_
          refine am_r_aload0 (pc' := 44) rfl rfl ?_
          refine am_r_iload6 (pc' := 46) rfl rfl ?_
          refine am_r_iload3 (pc' := 47) rfl rfl ?_
          refine am_r_i2l (pc' := 48) rfl rfl ?_
          refine am_r_invI2 (pc' := 51) rfl rfl rfl (Nat.le_of_ble_eq_true rfl) (m_clock (by omega) hM (by omega) (by omega) ?_)
          refine am_r_invI2 (pc' := 54) rfl rfl rfl (Nat.le_of_ble_eq_true rfl) (m_degreesOf (by omega) hM (by omega) (g_pl_b hM.1 (by omega) _) ?_)
          rw [show g_deg σ i (g_pl σ i f0) = g_dg σ i f0 from rfl]
          have hdi := g_dg_b hM.1 (a := i) (by omega) f0
          have hdb := g_dg_b hM.1 (a := b) (by omega) f0
          refine am_r_iload4 (pc' := 56) rfl rfl ?_
          refine am_r_isub (pc' := 57) rfl rfl ?_
          refine am_r_iconst (pc' := 60) rfl rfl ?_
          refine am_r_iadd (pc' := 61) rfl rfl ?_
          refine am_r_iconst (pc' := 64) rfl rfl ?_
          refine am_r_irem (pc' := 65) rfl rfl ?_
          rw [b_360]
          refine am_r_istore7 (pc' := 67) rfl rfl rfl ?_
          refine am_r_iload7 (pc' := 69) rfl rfl ?_
          refine am_r_if_le (pt := 84) (pf := 72) rfl rfl rfl (fun h69 => ?_) (fun h69 => ?_)
          · refine am_r_iload5 (pc' := 86) rfl rfl ?_
            refine am_r_istore5 (pc' := 88) rfl rfl rfl ?_
            refine am_r_iinc6 (pc' := 91) rfl rfl rfl ?_
            refine am_r_goto (pc' := 22) rfl rfl ?_
            first | exact ih _ _ _ (by omega) (by rw [show b_gp σ s b f0 c i (k + 1) = b_gp σ s b f0 ((g_dg σ i f0 - g_dg σ b f0) % 360) (i + 1) k by (rw [b_gp, if_pos (by omega), if_pos (by omega)])] at hq; exact hq) | exact ih _ _ _ (by omega) (by rw [show b_gp σ s b f0 c i (k + 1) = b_gp σ s b f0 c (i + 1) k by (rw [b_gp, if_pos (by omega), if_neg (by omega)])] at hq; exact hq) | exact ih _ _ _ (by omega) (by rw [show b_gp σ s b f0 c i (k + 1) = b_gp σ s b f0 c (i + 1) k by (rw [b_gp, if_neg (by omega)])] at hq; exact hq)
          · refine am_r_iload7 (pc' := 74) rfl rfl ?_
            refine am_r_iload5 (pc' := 76) rfl rfl ?_
            refine am_r_icmp_ge (pt := 84) (pf := 79) rfl rfl rfl (fun h76 => ?_) (fun h76 => ?_)
            · refine am_r_iload5 (pc' := 86) rfl rfl ?_
              refine am_r_istore5 (pc' := 88) rfl rfl rfl ?_
              refine am_r_iinc6 (pc' := 91) rfl rfl rfl ?_
              refine am_r_goto (pc' := 22) rfl rfl ?_
              first | exact ih _ _ _ (by omega) (by rw [show b_gp σ s b f0 c i (k + 1) = b_gp σ s b f0 ((g_dg σ i f0 - g_dg σ b f0) % 360) (i + 1) k by (rw [b_gp, if_pos (by omega), if_pos (by omega)])] at hq; exact hq) | exact ih _ _ _ (by omega) (by rw [show b_gp σ s b f0 c i (k + 1) = b_gp σ s b f0 c (i + 1) k by (rw [b_gp, if_pos (by omega), if_neg (by omega)])] at hq; exact hq) | exact ih _ _ _ (by omega) (by rw [show b_gp σ s b f0 c i (k + 1) = b_gp σ s b f0 c (i + 1) k by (rw [b_gp, if_neg (by omega)])] at hq; exact hq)
            · refine am_r_iload7 (pc' := 81) rfl rfl ?_
              refine am_r_goto (pc' := 86) rfl rfl ?_
              refine am_r_istore5 (pc' := 88) rfl rfl rfl ?_
              refine am_r_iinc6 (pc' := 91) rfl rfl rfl ?_
              refine am_r_goto (pc' := 22) rfl rfl ?_
              first | exact ih _ _ _ (by omega) (by rw [show b_gp σ s b f0 c i (k + 1) = b_gp σ s b f0 ((g_dg σ i f0 - g_dg σ b f0) % 360) (i + 1) k by (rw [b_gp, if_pos (by omega), if_pos (by omega)])] at hq; exact hq) | exact ih _ _ _ (by omega) (by rw [show b_gp σ s b f0 c i (k + 1) = b_gp σ s b f0 c (i + 1) k by (rw [b_gp, if_pos (by omega), if_neg (by omega)])] at hq; exact hq) | exact ih _ _ _ (by omega) (by rw [show b_gp σ s b f0 c i (k + 1) = b_gp σ s b f0 c (i + 1) k by (rw [b_gp, if_neg (by omega)])] at hq; exact hq)
  refine am_bi_of (P := am_pX11_gapBehind) (rt := 1) (nL := 8) (Nat.le_of_ble_eq_true rfl) rfl (Nat.le_of_ble_eq_true rfl) rfl rfl rfl ?_
  refine am_r_aload0 (pc' := 1) rfl rfl ?_
  refine am_r_iload2 (pc' := 2) rfl rfl ?_
  refine am_r_aload0 (pc' := 3) rfl rfl ?_
  refine am_r_iload2 (pc' := 4) rfl rfl ?_
  refine am_r_iload3 (pc' := 5) rfl rfl ?_
  refine am_r_i2l (pc' := 6) rfl rfl ?_
  refine am_r_invI2 (pc' := 9) rfl rfl rfl (Nat.le_of_ble_eq_true rfl) (m_clock (by omega) hM (by omega) (by omega) ?_)
  refine am_r_invI2 (pc' := 12) rfl rfl rfl (Nat.le_of_ble_eq_true rfl) (m_degreesOf (by omega) hM (by omega) (g_pl_b hM.1 (by omega) _) ?_)
  rw [show g_deg σ b (g_pl σ b f0) = g_dg σ b f0 from rfl]
  refine am_r_istore4 (pc' := 14) rfl rfl rfl ?_
  refine am_r_iconst (pc' := 17) rfl rfl ?_
  refine am_r_istore5 (pc' := 19) rfl rfl rfl ?_
  refine am_r_iconst (pc' := 20) rfl rfl ?_
  refine am_r_istore6 (pc' := 22) rfl rfl rfl ?_
  exact hl (s_n σ).toNat 0 360 _ (by omega) hq
theorem m_arc {sL : Nat} {xs : Nat → Int32} {d : Nat} {M : Am_M} {Q : Int32 → Am_M → Prop} (hd : 3 ≤ d) {σ : Sg} (hM : SM M σ) {s : Int} (hs : -2147483648 ≤ s ∧ s < 2147483648) {f0 : Int} (hf0 : -2147483648 ≤ f0 ∧ f0 < 2147483648)  (hq : Q (z_I (r_arc σ s f0 (b_arc σ s f0))) M) : am_bi sL xs d 232 [.ref 53, .int (z_I s), .int (z_I f0)] M Q := by
  obtain ⟨d, rfl⟩ : ∃ e, d = e + 1 := ⟨d - 1, by omega⟩
  have hn := sb_nb hM.1
  have hnr := sb_nrb hM.1
  have hp8 := z_pow8 hn
  have hl : ∀ (k : Nat) (i c : Int) (w5 : Value), (0 ≤ i ∧ i + k = s_n σ ∧ 0 ≤ c ∧ c ≤ 360 ∧ (0 ≤ s ∧ s < 256) ∧ (0 ≤ f0 ∧ f0 ≤ 99999)) → (Q (z_I (if b_wd σ s f0 c i k = 0 then 0 else 360 - b_wd σ s f0 c i k)) M) → am_rw sL xs d am_pX11_arc 1 22 [.ref 53, .int (z_I s), .int (z_I f0), .int (z_I c), .int (z_I i), w5] [] M (am_pi Q) := by
    intro k
    induction k with
    | zero =>
      intro i c w5 hk hq
      have hbt := s_bit01 s i
      refine am_r_iload4 (pc' := 24) rfl rfl ?_
      refine am_r_aload0 (pc' := 25) rfl rfl ?_
      refine am_r_getIv (f := 6) (pc' := 28) rfl rfl rfl (sm_n hM) ?_
      refine am_r_icmp_ge (pt := 69) (pf := 31) rfl rfl rfl (fun h28 => ?_) (fun h28 => ?_)
      · refine am_r_iload3 (pc' := 70) rfl rfl ?_
        refine am_r_if_ne (pt := 77) (pf := 73) rfl rfl rfl (fun h70 => ?_) (fun h70 => ?_)
        · refine am_r_iconst (pc' := 80) rfl rfl ?_
          refine am_r_iload3 (pc' := 81) rfl rfl ?_
          refine am_r_isub (pc' := 82) rfl rfl ?_
          refine am_r_iret rfl rfl ?_
          first | (rw [if_neg (by unfold b_wd; omega)] at hq; exact hq) | (rw [if_pos (by unfold b_wd; omega)] at hq; exact hq)
        · refine am_r_iconst (pc' := 74) rfl rfl ?_
          refine am_r_goto (pc' := 82) rfl rfl ?_
          refine am_r_iret rfl rfl ?_
          first | (rw [if_neg (by unfold b_wd; omega)] at hq; exact hq) | (rw [if_pos (by unfold b_wd; omega)] at hq; exact hq)
      · exfalso; omega
    | succ k ih =>
      intro i c w5 hk hq
      have hbt := s_bit01 s i
      refine am_r_iload4 (pc' := 24) rfl rfl ?_
      refine am_r_aload0 (pc' := 25) rfl rfl ?_
      refine am_r_getIv (f := 6) (pc' := 28) rfl rfl rfl (sm_n hM) ?_
      refine am_r_icmp_ge (pt := 69) (pf := 31) rfl rfl rfl (fun h28 => ?_) (fun h28 => ?_)
      · exfalso; omega
      · refine am_r_iload1 (pc' := 32) rfl rfl ?_
        refine am_r_iload4 (pc' := 34) rfl rfl ?_
        refine am_r_ivsI2 (pc' := 37) rfl rfl rfl (Nat.le_of_ble_eq_true rfl) (m_isIn (by omega) (by omega) (by omega) ?_)
        refine am_r_if_eqB (pt := 63) (pf := 40) rfl rfl rfl (fun h37 => ?_) (fun h37 => ?_)
        · refine am_r_iinc4 (pc' := 66) rfl rfl rfl ?_
          refine am_r_goto (pc' := 22) rfl rfl ?_
          first | exact ih _ _ _ (by omega) (by rw [show b_wd σ s f0 c i (k + 1) = b_wd σ s f0 (b_gap σ s i f0) (i + 1) k by (rw [b_wd, if_pos (by omega), show max c (b_gap σ s i f0) = b_gap σ s i f0 by omega])] at hq; exact hq) | exact ih _ _ _ (by omega) (by rw [show b_wd σ s f0 c i (k + 1) = b_wd σ s f0 c (i + 1) k by (rw [b_wd, if_pos (by omega), show max c (b_gap σ s i f0) = c by omega])] at hq; exact hq) | exact ih _ _ _ (by omega) (by rw [show b_wd σ s f0 c i (k + 1) = b_wd σ s f0 c (i + 1) k by (rw [b_wd, if_neg (by omega)])] at hq; exact hq)
        · refine am_r_aload0 (pc' := 41) rfl rfl ?_
          refine am_r_iload1 (pc' := 42) rfl rfl ?_
          refine am_r_iload4 (pc' := 44) rfl rfl ?_
          refine am_r_iload2 (pc' := 45) rfl rfl ?_
          refine am_r_invI3 (pc' := 48) rfl rfl rfl (Nat.le_of_ble_eq_true rfl) (m_gapBehind (by omega) hM (by omega) (by omega) (by omega) ?_)
          have hgb := b_gap_b σ s i f0
          refine am_r_istore5 (pc' := 50) rfl rfl rfl ?_
          refine am_r_iload5 (pc' := 52) rfl rfl ?_
          refine am_r_iload3 (pc' := 53) rfl rfl ?_
          refine am_r_icmp_le (pt := 61) (pf := 56) rfl rfl rfl (fun h53 => ?_) (fun h53 => ?_)
          · refine am_r_iload3 (pc' := 62) rfl rfl ?_
            refine am_r_istore3 (pc' := 63) rfl rfl rfl ?_
            refine am_r_iinc4 (pc' := 66) rfl rfl rfl ?_
            refine am_r_goto (pc' := 22) rfl rfl ?_
            first | exact ih _ _ _ (by omega) (by rw [show b_wd σ s f0 c i (k + 1) = b_wd σ s f0 (b_gap σ s i f0) (i + 1) k by (rw [b_wd, if_pos (by omega), show max c (b_gap σ s i f0) = b_gap σ s i f0 by omega])] at hq; exact hq) | exact ih _ _ _ (by omega) (by rw [show b_wd σ s f0 c i (k + 1) = b_wd σ s f0 c (i + 1) k by (rw [b_wd, if_pos (by omega), show max c (b_gap σ s i f0) = c by omega])] at hq; exact hq) | exact ih _ _ _ (by omega) (by rw [show b_wd σ s f0 c i (k + 1) = b_wd σ s f0 c (i + 1) k by (rw [b_wd, if_neg (by omega)])] at hq; exact hq)
          · refine am_r_iload5 (pc' := 58) rfl rfl ?_
            refine am_r_goto (pc' := 62) rfl rfl ?_
            refine am_r_istore3 (pc' := 63) rfl rfl rfl ?_
            refine am_r_iinc4 (pc' := 66) rfl rfl rfl ?_
            refine am_r_goto (pc' := 22) rfl rfl ?_
            first | exact ih _ _ _ (by omega) (by rw [show b_wd σ s f0 c i (k + 1) = b_wd σ s f0 (b_gap σ s i f0) (i + 1) k by (rw [b_wd, if_pos (by omega), show max c (b_gap σ s i f0) = b_gap σ s i f0 by omega])] at hq; exact hq) | exact ih _ _ _ (by omega) (by rw [show b_wd σ s f0 c i (k + 1) = b_wd σ s f0 c (i + 1) k by (rw [b_wd, if_pos (by omega), show max c (b_gap σ s i f0) = c by omega])] at hq; exact hq) | exact ih _ _ _ (by omega) (by rw [show b_wd σ s f0 c i (k + 1) = b_wd σ s f0 c (i + 1) k by (rw [b_wd, if_neg (by omega)])] at hq; exact hq)
  refine am_bi_of (P := am_pX11_arc) (rt := 1) (nL := 6) (Nat.le_of_ble_eq_true rfl) rfl (Nat.le_of_ble_eq_true rfl) rfl rfl rfl ?_
  refine am_r_aload0 (pc' := 1) rfl rfl ?_
  refine am_r_iload1 (pc' := 2) rfl rfl ?_
  refine am_r_invI1 (pc' := 5) rfl rfl rfl (Nat.le_of_ble_eq_true rfl) (m_isSet (by omega) hM (by omega) ?_)
  refine am_r_if_eqB (pt := 15) (pf := 8) rfl rfl rfl (fun h5 => ?_) (fun h5 => ?_)
  · refine am_r_iconst (pc' := 16) rfl rfl ?_
    refine am_r_iret rfl rfl ?_
    refine am_q ?_ hq
    unfold r_arc
    (repeat (first | rw [if_pos (by omega)] | rw [if_neg (by omega)]))
    all_goals first | rfl | omega
  · refine am_r_iload2 (pc' := 9) rfl rfl ?_
    refine am_r_ivsI1 (pc' := 12) rfl rfl rfl (Nat.le_of_ble_eq_true rfl) (m_isDay (by omega) (by omega) ?_)
    refine am_r_if_neB (pt := 17) (pf := 15) rfl rfl rfl (fun h12 => ?_) (fun h12 => ?_)
    · refine am_r_iconst (pc' := 18) rfl rfl ?_
      refine am_r_istore3 (pc' := 19) rfl rfl rfl ?_
      refine am_r_iconst (pc' := 20) rfl rfl ?_
      refine am_r_istore4 (pc' := 22) rfl rfl rfl ?_
      exact hl (s_n σ).toNat 0 0 _ (by omega) (by unfold r_arc at hq; rw [if_pos (by omega)] at hq; exact hq)
    · refine am_r_iconst (pc' := 16) rfl rfl ?_
      refine am_r_iret rfl rfl ?_
      refine am_q ?_ hq
      unfold r_arc
      (repeat (first | rw [if_pos (by omega)] | rw [if_neg (by omega)]))
      all_goals first | rfl | omega
