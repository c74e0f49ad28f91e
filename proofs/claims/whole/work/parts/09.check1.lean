/-! the kernel looks at every instruction and every word -/
def am_mokB (j : Nat) (q : Am_m) : Bool :=
  (match q.2.2.2.2.2.1 with
    | false => am_wq (q.2.2.2.2.2.2.2.getD 2 0) (6, j, 0, 0) && am_wq (q.2.2.2.2.2.2.2.getD 3 0) (7, j, 0, 0) && decide (q.1 < 12)
    | true => am_wq (q.2.2.2.2.2.2.2.getD 2 0) (9, j, 0, 0)) &&
  am_wq (q.2.2.2.2.2.2.2.getD 0 0) (5, j, 0, 0) && am_wq (q.2.2.2.2.2.2.2.getD 1 0) (8, q.1, 0, 0) && decide (q.2.2.2.1 ≤ 20) && decide (q.1 < 16)
def am_ok1 (j : Nat) (q : Am_m) (P : Am_p) : Bool := am_mokB j q && am_chk q.1 q.2.2.1 P
def am_ok2 : Nat → List Am_m → List Am_p → Bool
  | j, q :: r, P :: r2 => am_ok1 j q P && am_ok2 (j + 1) r r2
  | _, [], [] => true
  | _, _, _ => false
theorem am_ok2_app : ∀ {a : List Am_m} {b : List Am_p} {c : List Am_m} {d : List Am_p} {i k : Nat}, am_ok2 i a b = true → i + a.length = k → am_ok2 k c d = true → am_ok2 i (a ++ c) (b ++ d) = true
  | [], [], _, _, i, k, _, e, h2 => by simp at e; subst e; exact h2
  | [], _ :: _, _, _, _, _, h, _, _ => by simp [am_ok2] at h
  | _ :: _, [], _, _, _, _, h, _, _ => by simp [am_ok2] at h
  | q :: r, P :: r2, c, d, i, k, h, e, h2 => by
    simp only [am_ok2, Bool.and_eq_true] at h
    simp only [List.cons_append, am_ok2, Bool.and_eq_true]
    exact ⟨h.1, am_ok2_app h.2 (by simp at e; omega) h2⟩
theorem am_ok2_at : ∀ {a : List Am_m} {b : List Am_p} {i : Nat}, am_ok2 i a b = true → ∀ {j : Nat} {dq : Am_m} {dp : Am_p}, j < a.length → am_ok1 (i + j) (a.getD j dq) (b.getD j dp) = true
  | [], _, _, _, j, _, _, hj => by simp at hj
  | _ :: _, [], _, h, _, _, _, _ => by simp [am_ok2] at h
  | q :: r, P :: r2, i, h, j, dq, dp, hj => by
    simp only [am_ok2, Bool.and_eq_true] at h
    cases j with
    | zero => exact h.1
    | succ j =>
      have := am_ok2_at h.2 (j := j) (dq := dq) (dp := dp) (by simpa using hj)
      rw [show i + 1 + j = i + (j + 1) by omega] at this
      exact this
set_option maxRecDepth 100000 in
set_option maxHeartbeats 4000000 in
theorem am_ck0 : am_ok2 0 am_mt0 am_pg0 = true := by decide +kernel
set_option maxRecDepth 100000 in
set_option maxHeartbeats 4000000 in
theorem am_ck1 : am_ok2 20 am_mt1 am_pg1 = true := by decide +kernel
set_option maxRecDepth 100000 in
set_option maxHeartbeats 4000000 in
theorem am_ck2 : am_ok2 40 am_mt2 am_pg2 = true := by decide +kernel
set_option maxRecDepth 100000 in
set_option maxHeartbeats 4000000 in
theorem am_ck3 : am_ok2 60 am_mt3 am_pg3 = true := by decide +kernel
set_option maxRecDepth 100000 in
set_option maxHeartbeats 4000000 in
theorem am_ck4 : am_ok2 80 am_mt4 am_pg4 = true := by decide +kernel
