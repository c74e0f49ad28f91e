/-! THE LAW'S TEXT: how it is read; bytes by place, -1 behind the last -/
abbrev q_R := Bool × Int × List (Int × Int) × ((Int → Int32) → Int32)
def q_no (p : Int) : q_R := (false, p, [], fun _ => 0)
def q_join (op : Int) (x y : Int32) : Int32 :=
  if op = 124 then (if ¬ x = 0 ∨ ¬ y = 0 then z_I 1 else z_I 0)
  else if op = 38 then (if ¬ x = 0 ∧ ¬ y = 0 then z_I 1 else z_I 0)
  else if op = 60 then (if x < y then z_I 1 else z_I 0)
  else if op = 61 then (if x = y then z_I 1 else z_I 0)
  else if op = 62 then (if y < x then z_I 1 else z_I 0)
  else if op = 43 then x + y
  else if op = 45 then x - y
  else if op = 42 then x * y
  else if op = 47 then (if y = 0 then z_I 0 else x / y)
  else if op = 37 then (if y = 0 then z_I 0 else x - x / y * y)
  else z_I 0
def q_chain (sub : Int → q_R) (is : Int → Bool) (c : Int → Int) : Nat → q_R → q_R
  | 0, a => a
  | k + 1, a => if a.1 = true ∧ is (c a.2.1) = true then
      (if (sub (a.2.1 + 1)).1 = true then q_chain sub is c k (true, (sub (a.2.1 + 1)).2.1, a.2.2.1 ++ (sub (a.2.1 + 1)).2.2.1 ++ [(c a.2.1, 0)], fun ν => q_join (c a.2.1) (a.2.2.2 ν) ((sub (a.2.1 + 1)).2.2.2 ν))
       else q_no (sub (a.2.1 + 1)).2.1)
    else a
def q_lev (sub : Int → q_R) (is : Int → Bool) (c : Int → Int) (p : Int) : q_R := q_chain sub is c 120 (sub p)
def q_cmp (sub : Int → q_R) (c : Int → Int) (p : Int) : q_R :=
  if (sub p).1 = true ∧ (c (sub p).2.1 = 60 ∨ c (sub p).2.1 = 61 ∨ c (sub p).2.1 = 62) then
    (if (sub ((sub p).2.1 + 1)).1 = true then (true, (sub ((sub p).2.1 + 1)).2.1, (sub p).2.2.1 ++ (sub ((sub p).2.1 + 1)).2.2.1 ++ [(c (sub p).2.1, 0)], fun ν => q_join (c (sub p).2.1) ((sub p).2.2.2 ν) ((sub ((sub p).2.1 + 1)).2.2.2 ν))
     else q_no (sub ((sub p).2.1 + 1)).2.1)
  else sub p
def q_i1 (x : Int) : Bool := decide (x = 42 ∨ x = 47 ∨ x = 37)
def q_i2 (x : Int) : Bool := decide (x = 43 ∨ x = 45)
def q_i3 (x : Int) : Bool := decide (x = 38)
def q_i4 (x : Int) : Bool := decide (x = 124)
def q_pr (one : Int → q_R) (c : Int → Int) : Int → q_R := q_lev one q_i1 c
def q_su (one : Int → q_R) (c : Int → Int) : Int → q_R := q_lev (q_pr one c) q_i2 c
def q_co (one : Int → q_R) (c : Int → Int) : Int → q_R := q_cmp (q_su one c) c
def q_bo (one : Int → q_R) (c : Int → Int) : Int → q_R := q_lev (q_co one c) q_i3 c
def q_ei (one : Int → q_R) (c : Int → Int) : Int → q_R := q_lev (q_bo one c) q_i4 c
def q_num (c : Int → Int) : Nat → Int → Int → Int × Int
  | 0, v, p => (v, p)
  | k + 1, v, p => if 48 ≤ c p ∧ c p ≤ 57 then q_num c k (v * 10 + c p - 48) (p + 1) else (v, p)
def q_nm (x : Int) : Int := if x = 108 then 0 else if x = 119 then 1 else if x = 114 then 2 else if x = 97 then 3 else if x = 100 then 4 else if x = 112 then 5 else -1
def q_prim (c : Int → Int) (p : Int) (nest : q_R) : q_R :=
  if 48 ≤ c p ∧ c p ≤ 57 then (true, (q_num c 4 0 p).2, [(1, (q_num c 4 0 p).1)], fun _ => z_I (q_num c 4 0 p).1)
  else if 0 ≤ q_nm (c p) then (true, p + 1, [(2, q_nm (c p))], fun ν => ν (q_nm (c p)))
  else nest
def q_close (c : Int → Int) (r : q_R) : q_R := if r.1 = true ∧ c r.2.1 = 41 then (true, r.2.1 + 1, r.2.2.1, r.2.2.2) else q_no r.2.1
def q_turn (s : Int) (r : q_R) : q_R := if r.1 = true then (true, r.2.1, r.2.2.1 ++ [(if s = 33 then 3 else 4, 0)], fun ν => if s = 33 then (if r.2.2.2 ν = 0 then z_I 1 else z_I 0) else -(r.2.2.2 ν)) else q_no r.2.1
def q_one (c : Int → Int) : Nat → Int → q_R
  | 0, p => q_prim c p (q_no p)
  | m + 1, p => q_prim c p (if c p = 40 then q_close c (q_ei (q_one c m) c (p + 1)) else if c p = 33 ∨ c p = 45 then q_turn (c p) (q_one c m (p + 1)) else q_no p)
abbrev q_T := Bool × Int × List (Int × Int) × ((Int → Int32) → Option Int32)
def q_nt (p : Int) : q_T := (false, p, [], fun _ => none)
def q_ln (e : Int → q_R) (c : Int → Int) (L : Nat) (p : Int) : q_T :=
  if (e p).1 = true then
    (if c (e p).2.1 = 63 then
      (if (e ((e p).2.1 + 1)).1 = true then (true, (e ((e p).2.1 + 1)).2.1, (e p).2.2.1 ++ [(5, ((L + (e p).2.2.1.length + 1 + (e ((e p).2.1 + 1)).2.2.1.length + 1 : Nat) : Int))] ++ (e ((e p).2.1 + 1)).2.2.1 ++ [(6, 0)], fun ν => if (e p).2.2.2 ν = 0 then none else some ((e ((e p).2.1 + 1)).2.2.2 ν))
       else q_nt (e ((e p).2.1 + 1)).2.1)
     else (true, (e p).2.1, (e p).2.2.1 ++ [(6, 0)], fun ν => some ((e p).2.2.2 ν)))
  else q_nt (e p).2.1
def q_or (x y : Option Int32) : Option Int32 := match x with | some v => some v | none => y
def q_tx (e : Int → q_R) (c : Int → Int) : Nat → q_T → q_T
  | 0, a => a
  | k + 1, a => if a.1 = true ∧ c a.2.1 = 59 then
      (if (q_ln e c a.2.2.1.length (a.2.1 + 1)).1 = true then q_tx e c k (true, (q_ln e c a.2.2.1.length (a.2.1 + 1)).2.1, a.2.2.1 ++ (q_ln e c a.2.2.1.length (a.2.1 + 1)).2.2.1, fun ν => q_or (a.2.2.2 ν) ((q_ln e c a.2.2.1.length (a.2.1 + 1)).2.2.2 ν))
       else q_nt (q_ln e c a.2.2.1.length (a.2.1 + 1)).2.1)
    else a
def q_e (c : Int → Int) : Int → q_R := q_ei (q_one c 6) c
def q_all (c : Int → Int) : q_T := q_tx (q_e c) c 120 (q_ln (q_e c) c 0 0)
def q_good (c : Int → Int) : Bool := (q_all c).1 && decide (c (q_all c).2.1 = -1)
/-! what is read goes on; a step a byte -/
def q_C (c : Int → Int) (n : Int) : Prop := ∀ p, 0 ≤ p → (p < n → 0 ≤ c p ∧ c p ≤ 255) ∧ (n ≤ p → c p = -1)
def q_gd (n : Int) (f : Int → q_R) : Prop := ∀ p, 0 ≤ p → p ≤ n → p ≤ (f p).2.1 ∧ (f p).2.1 ≤ n ∧ ((f p).1 = true → p < (f p).2.1 ∧ ((f p).2.2.1.length : Int) ≤ (f p).2.1 - p)
theorem q_chain_gd {c : Int → Int} {n : Int} (hc : q_C c n) {sub : Int → q_R} (hs : q_gd n sub) {is : Int → Bool} (hi : is (-1) = false) : ∀ (k : Nat) (a : q_R) (p : Int), 0 ≤ p → p ≤ a.2.1 → a.2.1 ≤ n → (a.1 = true → p < a.2.1 ∧ (a.2.2.1.length : Int) ≤ a.2.1 - p) → p ≤ (q_chain sub is c k a).2.1 ∧ (q_chain sub is c k a).2.1 ≤ n ∧ ((q_chain sub is c k a).1 = true → p < (q_chain sub is c k a).2.1 ∧ ((q_chain sub is c k a).2.2.1.length : Int) ≤ (q_chain sub is c k a).2.1 - p)
  | 0, a, p, h0, h1, h2, h3 => ⟨h1, h2, h3⟩
  | k + 1, a, p, h0, h1, h2, h3 => by
    unfold q_chain
    split
    · rename_i q
      have hlt : a.2.1 < n := by
        by_cases e : a.2.1 < n
        · exact e
        · rw [(hc a.2.1 (by omega)).2 (by omega), hi] at q
          exact absurd q.2 (by decide)
      have g := hs (a.2.1 + 1) (by omega) (by omega)
      split
      · rename_i r
        have h4 := h3 q.1
        have g3 := g.2.2 r
        refine q_chain_gd hc hs hi k _ p h0 ?_ ?_ (fun _ => ⟨?_, ?_⟩)
        · simp only; omega
        · exact g.2.1
        · simp only; omega
        · simp only [List.length_append, List.length_cons, List.length_nil]; omega
      · refine ⟨?_, g.2.1, fun z => absurd z (by simp [q_no])⟩
        simp only [q_no]; omega
    · exact ⟨h1, h2, h3⟩
theorem q_lev_gd {c : Int → Int} {n : Int} (hc : q_C c n) {sub : Int → q_R} (hs : q_gd n sub) {is : Int → Bool} (hi : is (-1) = false) : q_gd n (q_lev sub is c) := fun p h0 h1 => by
  have g := hs p h0 h1
  exact q_chain_gd hc hs hi 120 (sub p) p h0 g.1 g.2.1 g.2.2
theorem q_cmp_gd {c : Int → Int} {n : Int} (hc : q_C c n) {sub : Int → q_R} (hs : q_gd n sub) : q_gd n (q_cmp sub c) := fun p h0 h1 => by
  have g := hs p h0 h1
  unfold q_cmp
  split
  · rename_i q
    have hlt : (sub p).2.1 < n := by
      by_cases e : (sub p).2.1 < n
      · exact e
      · have := (hc (sub p).2.1 (by omega)).2 (by omega); omega
    have g2 := hs ((sub p).2.1 + 1) (by omega) (by omega)
    have g3 := g.2.2 q.1
    split
    · rename_i r
      have g4 := g2.2.2 r
      refine ⟨?_, g2.2.1, fun _ => ⟨?_, ?_⟩⟩
      · simp only; omega
      · simp only; omega
      · simp only [List.length_append, List.length_cons, List.length_nil]; omega
    · refine ⟨?_, g2.2.1, fun z => absurd z (by simp [q_no])⟩
      simp only [q_no]; omega
  · exact g
theorem q_ei_gd {c : Int → Int} {n : Int} (hc : q_C c n) {one : Int → q_R} (h : q_gd n one) : q_gd n (q_pr one c) ∧ q_gd n (q_su one c) ∧ q_gd n (q_co one c) ∧ q_gd n (q_bo one c) ∧ q_gd n (q_ei one c) := by
  have h1 : q_gd n (q_pr one c) := q_lev_gd hc h (by decide)
  have h2 : q_gd n (q_su one c) := q_lev_gd hc h1 (by decide)
  have h3 : q_gd n (q_co one c) := q_cmp_gd hc h2
  have h4 : q_gd n (q_bo one c) := q_lev_gd hc h3 (by decide)
  exact ⟨h1, h2, h3, h4, q_lev_gd hc h4 (by decide)⟩
theorem q_num_b {c : Int → Int} {n : Int} (hc : q_C c n) : ∀ (k : Nat) (v p : Int), 0 ≤ p → p ≤ n → 0 ≤ v → p ≤ (q_num c k v p).2 ∧ (q_num c k v p).2 ≤ n ∧ (q_num c k v p).2 ≤ p + k ∧ 0 ≤ (q_num c k v p).1 ∧ (q_num c k v p).1 < (v + 1) * 10 ^ k
  | 0, v, p, h0, h1, hv => by simp only [q_num]; omega
  | k + 1, v, p, h0, h1, hv => by
    unfold q_num
    split
    · rename_i q
      have hlt : p < n := by
        by_cases e : p < n
        · exact e
        · have := (hc p h0).2 (by omega); omega
      have ih := q_num_b hc k (v * 10 + c p - 48) (p + 1) (by omega) (by omega) (by omega)
      refine ⟨by omega, by omega, by omega, by omega, ?_⟩
      have h2 : (v * 10 + c p - 48 + 1) * 10 ^ k ≤ ((v + 1) * 10) * 10 ^ k := Int.mul_le_mul_of_nonneg_right (by omega) (Int.le_of_lt (Int.pow_pos (by omega)))
      rw [Int.pow_succ, Int.mul_comm (10 ^ k) 10, ← Int.mul_assoc]
      omega
    · refine ⟨by simp only; omega, by simp only; omega, by simp only; omega, by simp only; omega, ?_⟩
      simp only
      have h3 : 1 ≤ (10 : Int) ^ (k + 1) := by have := Int.pow_pos (n := 10) (m := k + 1) (by omega); omega
      have h4 : (v + 1) * 1 ≤ (v + 1) * 10 ^ (k + 1) := Int.mul_le_mul_of_nonneg_left h3 (by omega)
      omega
theorem q_num_1 {c : Int → Int} {n : Int} (hc : q_C c n) (p : Int) (h0 : 0 ≤ p) (h1 : p ≤ n) (h : 48 ≤ c p ∧ c p ≤ 57) : p < (q_num c 4 0 p).2 ∧ (q_num c 4 0 p).2 ≤ n ∧ 0 ≤ (q_num c 4 0 p).1 ∧ (q_num c 4 0 p).1 < 10000 := by
  have hlt : p < n := by
    by_cases e : p < n
    · exact e
    · have := (hc p h0).2 (by omega); omega
  have e : q_num c 4 0 p = q_num c 3 (0 * 10 + c p - 48) (p + 1) := by
    show (if 48 ≤ c p ∧ c p ≤ 57 then _ else _) = _
    rw [if_pos h]
  have h2 := q_num_b hc 3 (0 * 10 + c p - 48) (p + 1) (by omega) (by omega) (by omega)
  rw [e]
  have h3 : (0 * 10 + c p - 48 + 1) * 10 ^ 3 ≤ 10 * 10 ^ 3 := Int.mul_le_mul_of_nonneg_right (by omega) (by decide)
  refine ⟨by omega, by omega, by omega, ?_⟩
  have : (10 : Int) * 10 ^ 3 = 10000 := by decide
  omega
theorem q_nm_b (x : Int) : -1 ≤ q_nm x ∧ q_nm x ≤ 5 ∧ (0 ≤ q_nm x → 97 ≤ x ∧ x ≤ 119) := by
  unfold q_nm
  repeat' split
  all_goals omega
theorem q_prim_gd {c : Int → Int} {n : Int} (hc : q_C c n) (p : Int) (h0 : 0 ≤ p) (h1 : p ≤ n) (nest : q_R) (hn : p ≤ nest.2.1 ∧ nest.2.1 ≤ n ∧ (nest.1 = true → p < nest.2.1 ∧ (nest.2.2.1.length : Int) ≤ nest.2.1 - p)) : p ≤ (q_prim c p nest).2.1 ∧ (q_prim c p nest).2.1 ≤ n ∧ ((q_prim c p nest).1 = true → p < (q_prim c p nest).2.1 ∧ ((q_prim c p nest).2.2.1.length : Int) ≤ (q_prim c p nest).2.1 - p) := by
  unfold q_prim
  split
  · rename_i q
    have := q_num_1 hc p h0 h1 q
    refine ⟨by simp only; omega, by simp only; omega, fun _ => ⟨by simp only; omega, ?_⟩⟩
    simp only [List.length_cons, List.length_nil]; omega
  · split
    · rename_i q
      have hlt : p < n := by
        by_cases e : p < n
        · exact e
        · rw [(hc p h0).2 (by omega)] at q; exact absurd q (by decide)
      refine ⟨by simp only; omega, by simp only; omega, fun _ => ⟨by simp only; omega, ?_⟩⟩
      simp only [List.length_cons, List.length_nil]; omega
    · exact hn
theorem q_one_gd {c : Int → Int} {n : Int} (hc : q_C c n) : ∀ m : Nat, q_gd n (q_one c m)
  | 0 => fun p h0 h1 => by
    unfold q_one
    exact q_prim_gd hc p h0 h1 _ ⟨by simp [q_no], h1, fun z => absurd z (by simp [q_no])⟩
  | m + 1 => fun p h0 h1 => by
    have ih := q_one_gd hc m
    have ie := (q_ei_gd hc ih).2.2.2.2
    unfold q_one
    refine q_prim_gd hc p h0 h1 _ ?_
    have hlt : ¬ c p = -1 → p < n := fun q => by
      by_cases e : p < n
      · exact e
      · exact absurd ((hc p h0).2 (by omega)) q
    split
    · rename_i q
      have g := ie (p + 1) (by omega) (by have := hlt (by omega); omega)
      unfold q_close
      split
      · rename_i r
        have g3 := g.2.2 r.1
        have hl2 : (q_ei (q_one c m) c (p + 1)).2.1 < n := by
          by_cases e : (q_ei (q_one c m) c (p + 1)).2.1 < n
          · exact e
          · have := (hc (q_ei (q_one c m) c (p + 1)).2.1 (by omega)).2 (by omega); omega
        exact ⟨by simp only; omega, by simp only; omega, fun _ => ⟨by simp only; omega, by simp only; omega⟩⟩
      · exact ⟨by simp only [q_no]; omega, by simp only [q_no]; omega, fun z => absurd z (by simp [q_no])⟩
    · split
      · rename_i q
        have g := ih (p + 1) (by omega) (by have := hlt (by omega); omega)
        unfold q_turn
        split
        · rename_i r
          have g3 := g.2.2 r
          refine ⟨by simp only; omega, by simp only; omega, fun _ => ⟨by simp only; omega, ?_⟩⟩
          simp only [List.length_append, List.length_cons, List.length_nil]; omega
        · exact ⟨by simp only [q_no]; omega, by simp only [q_no]; omega, fun z => absurd z (by simp [q_no])⟩
      · exact ⟨by simp [q_no], h1, fun z => absurd z (by simp [q_no])⟩
theorem q_e_gd {c : Int → Int} {n : Int} (hc : q_C c n) : q_gd n (q_e c) := (q_ei_gd hc (q_one_gd hc 6)).2.2.2.2
/-! what the steps come to -/
def q_step (ν : Int → Int32) (x : Int × Int) : List Int32 → Option (List Int32)
  | s => if x.1 = 1 then some (z_I x.2 :: s) else if x.1 = 2 then some (ν x.2 :: s) else if 6 < x.1 then (match s with | b :: a :: r => some (q_join x.1 a b :: r) | _ => none) else if x.1 = 3 ∨ x.1 = 4 then (match s with | a :: r => some ((if x.1 = 4 then -a else if a = 0 then z_I 1 else z_I 0) :: r) | [] => none) else none
def q_ev (ν : Int → Int32) : List (Int × Int) → List Int32 → Option (List Int32)
  | [], s => some s
  | x :: l, s => match q_step ν x s with | some t => q_ev ν l t | none => none
theorem q_ev_app (ν : Int → Int32) : ∀ (l l' : List (Int × Int)) (s t : List Int32), q_ev ν l s = some t → q_ev ν (l ++ l') s = q_ev ν l' t
  | [], l', s, t, h => by
    have : s = t := by simpa [q_ev] using h
    rw [this]; rfl
  | x :: l, l', s, t, h => by
    simp only [List.cons_append, q_ev] at h ⊢
    cases hx : q_step ν x s with
    | none => rw [hx] at h; exact absurd h (by simp)
    | some u =>
      rw [hx] at h
      exact q_ev_app ν l l' u t h
def q_wv (r : q_R) : Prop := r.1 = true → ∀ ν s, q_ev ν r.2.2.1 s = some (r.2.2.2 ν :: s)
theorem q_wv_no (p : Int) : q_wv (q_no p) := fun h => absurd h (by simp [q_no])
theorem q_wv_op {a b : q_R} (ha : q_wv a) (hb : q_wv b) (h1 : a.1 = true) (h2 : b.1 = true) (op p : Int) (ho : 6 < op) : q_wv (true, p, a.2.2.1 ++ b.2.2.1 ++ [(op, 0)], fun ν => q_join op (a.2.2.2 ν) (b.2.2.2 ν)) := fun _ ν s => by
  show q_ev ν (a.2.2.1 ++ b.2.2.1 ++ [(op, 0)]) s = _
  rw [List.append_assoc, q_ev_app ν _ _ _ _ (ha h1 ν s), q_ev_app ν _ _ _ _ (hb h2 ν _)]
  simp only [q_ev, q_step]
  rw [if_neg (by omega), if_neg (by omega), if_pos ho]
theorem q_chain_wv {c : Int → Int} {sub : Int → q_R} (hs : ∀ p, q_wv (sub p)) {is : Int → Bool} (hi : ∀ x, is x = true → 6 < x) : ∀ (k : Nat) (a : q_R), q_wv a → q_wv (q_chain sub is c k a)
  | 0, a, ha => ha
  | k + 1, a, ha => by
    unfold q_chain
    split
    · rename_i q
      split
      · rename_i r
        exact q_chain_wv hs hi k _ (q_wv_op ha (hs _) q.1 r _ _ (hi _ q.2))
      · exact q_wv_no _
    · exact ha
theorem q_lev_wv {c : Int → Int} {sub : Int → q_R} (hs : ∀ p, q_wv (sub p)) {is : Int → Bool} (hi : ∀ x, is x = true → 6 < x) (p : Int) : q_wv (q_lev sub is c p) := q_chain_wv hs hi 120 _ (hs p)
theorem q_cmp_wv {c : Int → Int} {sub : Int → q_R} (hs : ∀ p, q_wv (sub p)) (p : Int) : q_wv (q_cmp sub c p) := by
  unfold q_cmp
  split
  · rename_i q
    split
    · rename_i r
      exact q_wv_op (hs p) (hs _) q.1 r _ _ (by omega)
    · exact q_wv_no _
  · exact hs p
theorem q_ei_wv {c : Int → Int} {one : Int → q_R} (h : ∀ p, q_wv (one p)) (p : Int) : q_wv (q_ei one c p) := by
  have h1 : ∀ p, q_wv (q_pr one c p) := q_lev_wv h (fun x q => by simp only [q_i1, decide_eq_true_eq] at q; omega)
  have h2 : ∀ p, q_wv (q_su one c p) := q_lev_wv h1 (fun x q => by simp only [q_i2, decide_eq_true_eq] at q; omega)
  have h3 : ∀ p, q_wv (q_co one c p) := q_cmp_wv h2
  have h4 : ∀ p, q_wv (q_bo one c p) := q_lev_wv h3 (fun x q => by simp only [q_i3, decide_eq_true_eq] at q; omega)
  exact q_lev_wv h4 (fun x q => by simp only [q_i4, decide_eq_true_eq] at q; omega) p
theorem q_prim_wv {c : Int → Int} (p : Int) {nest : q_R} (hn : q_wv nest) : q_wv (q_prim c p nest) := by
  unfold q_prim
  split
  · exact fun _ ν s => rfl
  · split
    · exact fun _ ν s => rfl
    · exact hn
theorem q_one_wv {c : Int → Int} : ∀ (m : Nat) (p : Int), q_wv (q_one c m p)
  | 0, p => by
    unfold q_one
    exact q_prim_wv p (q_wv_no _)
  | m + 1, p => by
    unfold q_one
    refine q_prim_wv p ?_
    split
    · have h := q_ei_wv (c := c) (q_one_wv (c := c) m) (p + 1)
      unfold q_close
      split
      · rename_i r
        exact fun _ => h r.1
      · exact q_wv_no _
    · split
      · have h := q_one_wv (c := c) m (p + 1)
        unfold q_turn
        split
        · rename_i r
          intro _ ν s
          simp only
          rw [q_ev_app ν _ _ _ _ (h r ν s)]
          by_cases e : c p = 33
          · simp only [if_pos e]; rfl
          · simp only [if_neg e]; rfl
        · exact q_wv_no _
      · exact q_wv_no _
theorem q_e_wv (c : Int → Int) (p : Int) : q_wv (q_e c p) := q_ei_wv (q_one_wv 6) p
