section STP
variable {p : Program} {l : Launch} {e : Env} {R : Room} {s : State} {m : MethodId} {args : Array Value} {below : List Frame} {meth : Method} {c : Code} {Q0 : State → Prop} {G : Am_G} {cells slots nL : Nat} {cc : ByteArray} {o : Nat}
/-- what stands at the end of a method -/
def am_fin (rt : Nat) (rv : Option Value) (i : Instr) (st : List Value) : Prop := match i with
  | .ireturn => ∃ x, st = [.int x] ∧ rv = some (.int x) ∧ (rt = 1 ∨ (rt = 2 ∧ (x = 0 ∨ x = 1)))
  | .lreturn => ∃ x, st = [.long x] ∧ rv = some (.long x) ∧ rt = 3
  | .return_ => st = [] ∧ rv = none ∧ rt = 0
  | _ => False
def am_Hfin (p : Program) (l : Launch) (e : Env) (R : Room) (s : State) (m : MethodId) (args : Array Value) (below : List Frame) (meth : Method) (c : Code) (cc : ByteArray) (Q0 : State → Prop) (G : Am_G) (cells slots : Nat) (rt : Nat) (rv : Option Value) (rM : Am_M) : Prop :=
  ∀ (H : Heap) (locs : List Loc) (ls : Array Slot) (pc : Nat) (i : Instr) (st : List Value), decode cc pc = .ok (i, 1) → am_fin rt rv i st → va_P (am_D G) vwCl (am_W G rM) H → va_D (am_A G) (am_W G rM) → va_S (am_A G) s.heap H locs → W p l e R s m args below meth c H locs cells slots Q0 (F0 m pc ls st)
set_option maxHeartbeats 4000000 in
set_option maxRecDepth 100000 in
theorem am_step {C : Am_C} {rm : Room} {rt : Nat} {rv : Option Value} {rM : Am_M} (F : am_Fr p s m args c cc o G nL)
    (hR : rm.cells = 0 ∧ rm.slots = 0 ∧ rm.frames + 1 ≤ R.frames ∧ 31 + 8 + rm.locals ≤ R.locals) (hcs : cells ≤ R.cells ∧ slots ≤ R.slots)
    (hC : ∀ j as M v M', C j as M v M' → am_mok j ∧ am_Mt l G rm j as M v M')
    (hfin : am_Hfin p l e R s m args below meth c cc Q0 G cells slots rt rv rM)
    {pc len w : Nat} {i r : Instr} (hd : decode cc pc = .ok (r, len)) (hp : am_pair o pc i r len w = true)
    {lv st : List Value} {M : Am_M} {K : Nat → List Value → List Value → Am_M → Prop}
    (ih : ∀ pc lv st M, K pc lv st M → am_V p l e R s m args below meth c Q0 G cells slots nL pc lv st M)
    (h : am_stp am_mt C (am_sL G) (am_xs G) rt rv rM i (pc + len) lv st M K) : am_V p l e R s m args below meth c Q0 G cells slots nL pc lv st M := by
  obtain ⟨hx, hb, hml, hown, hts, hK, hSt⟩ := F
  intro H locs ls hl hP hD hS
  have hml2 : c.maxLocals = ls.size := by rw [hml]; exact hl.2.1.symm
  have hfr1 : 1 ≤ R.frames := by omega
  have hcode0 : ∀ {x : Cond}, x ∈ am_TB → x.before args s = true := fun {x} h => hts x h
  cases i with
  | iconst b =>
    have h : K (pc + len) lv (.int (Int32.ofInt b) :: st) M := h
    unfold am_pair at hp
    dsimp only at hp
    split at hp
    · simp only [Bool.and_eq_true, decide_eq_true_eq] at hp
      obtain ⟨rfl, rfl⟩ := hp
      exact lv_iconst hx hb hd rfl (ih _ _ _ _ h H locs ls hl hP hD hS)
    · simp only [Bool.and_eq_true, decide_eq_true_eq] at hp
      obtain ⟨rfl, e2⟩ := hp
      exact lv_bipush hx hb hd e2 (ih _ _ _ _ h H locs ls hl hP hD hS)
    · simp only [Bool.and_eq_true, decide_eq_true_eq] at hp
      obtain ⟨rfl, e2⟩ := hp
      exact lv_sipush hx hb hd e2 (ih _ _ _ _ h H locs ls hl hP hD hS)
    · simp only [Bool.and_eq_true, decide_eq_true_eq] at hp
      obtain ⟨⟨rfl, e2⟩, e3⟩ := hp
      have e2 := am_wd_in e2
      simp only [am_word, e3] at e2
      exact lv_ldc hx hb hown (hcode0 e2) hd (ih _ _ _ _ h H locs ls hl hP hD hS)
    · simp only [Bool.and_eq_true, decide_eq_true_eq] at hp
      obtain ⟨⟨rfl, e2⟩, e3⟩ := hp
      have e2 := am_wd_in e2
      simp only [am_word, e3] at e2
      exact lv_ldcw hx hb hown (hcode0 e2) hd (ih _ _ _ _ h H locs ls hl hP hD hS)
    · cases hp
  | ldc2_w b =>
    have h : K (pc + len) lv (.long (Int64.ofNat b) :: st) M := h
    unfold am_pair at hp
    dsimp only at hp
    split at hp
    · simp only [Bool.and_eq_true, decide_eq_true_eq] at hp
      obtain ⟨rfl, e2⟩ := hp
      exact lv_lconst hx hb hd e2 (ih _ _ _ _ h H locs ls hl hP hD hS)
    · simp only [Bool.and_eq_true, decide_eq_true_eq] at hp
      obtain ⟨rfl, e2⟩ := hp
      exact lv_ldc2 hx hb hown (hcode0 (am_wd_in e2)) hd (ih _ _ _ _ h H locs ls hl hP hD hS)
    · cases hp
  | iload b =>
    replace h := am_gi_e h
    obtain ⟨x, hk, h⟩ := h
    have hv := am_lv_at hl hk (by intro q; cases q)
    unfold am_pair at hp
    dsimp only at hp
    split at hp
    · simp only [Bool.and_eq_true, decide_eq_true_eq] at hp
      obtain ⟨e1, rfl⟩ := hp
      exact lv_iload_n hx hb hd e1 hv (ih _ _ _ _ h H locs ls hl hP hD hS)
    · simp only [Bool.and_eq_true, decide_eq_true_eq] at hp
      obtain ⟨rfl, rfl⟩ := hp
      exact lv_iload hx hb hd hv (ih _ _ _ _ h H locs ls hl hP hD hS)
    · cases hp
  | lload b =>
    replace h := am_gl_e h
    obtain ⟨x, hk, h⟩ := h
    have hv := am_lv_at hl hk (by intro q; cases q)
    unfold am_pair at hp
    dsimp only at hp
    split at hp
    · simp only [Bool.and_eq_true, decide_eq_true_eq] at hp
      obtain ⟨e1, rfl⟩ := hp
      exact lv_lload_n hx hb hd e1 hv (ih _ _ _ _ h H locs ls hl hP hD hS)
    · simp only [Bool.and_eq_true, decide_eq_true_eq] at hp
      obtain ⟨rfl, rfl⟩ := hp
      exact lv_lload hx hb hd hv (ih _ _ _ _ h H locs ls hl hP hD hS)
    · cases hp
  | aload b =>
    replace h := am_gr_e h
    obtain ⟨x, hk, h⟩ := h
    have hv := am_lv_at hl hk (by intro q; cases q)
    unfold am_pair at hp
    dsimp only at hp
    split at hp
    · simp only [Bool.and_eq_true, decide_eq_true_eq] at hp
      obtain ⟨e1, rfl⟩ := hp
      exact lv_aload_n hx hb hd e1 hv (ih _ _ _ _ h H locs ls hl hP hD hS)
    · simp only [Bool.and_eq_true, decide_eq_true_eq] at hp
      obtain ⟨rfl, rfl⟩ := hp
      exact lv_aload hx hb hd hv (ih _ _ _ _ h H locs ls hl hP hD hS)
    · cases hp
  | istore b =>
    replace h := am_i1_e h
    obtain ⟨x, r2, rfl, hlt, h⟩ := h
    rw [hl.1] at hlt
    unfold am_pair at hp
    dsimp only at hp
    split at hp
    · simp only [Bool.and_eq_true, decide_eq_true_eq] at hp
      obtain ⟨e1, rfl⟩ := hp
      exact lv_istore_n hx hb hd e1 hl.2 hlt rfl (fun ls' hl' => ih _ _ _ _ h H locs ls' (am_lv_set hl.1 hl' (am_in1 (by intro q; cases q) rfl)) hP hD hS)
    · simp only [Bool.and_eq_true, decide_eq_true_eq] at hp
      obtain ⟨rfl, rfl⟩ := hp
      exact lv_istore hx hb hd hl.2 hlt rfl (fun ls' hl' => ih _ _ _ _ h H locs ls' (am_lv_set hl.1 hl' (am_in1 (by intro q; cases q) rfl)) hP hD hS)
    · cases hp
  | lstore b =>
    replace h := am_l1_e h
    obtain ⟨x, r2, rfl, hlt, h⟩ := h
    rw [hl.1] at hlt
    unfold am_pair at hp
    dsimp only at hp
    split at hp
    · simp only [Bool.and_eq_true, decide_eq_true_eq] at hp
      obtain ⟨e1, rfl⟩ := hp
      exact lv_lstore_n hx hb hd e1 hl.2 hlt rfl (fun ls' hl' => ih _ _ _ _ h H locs ls' (am_lv_set hl.1 hl' (am_in2 (by intro q; cases q) rfl)) hP hD hS)
    · simp only [Bool.and_eq_true, decide_eq_true_eq] at hp
      obtain ⟨rfl, rfl⟩ := hp
      exact lv_lstore hx hb hd hl.2 hlt rfl (fun ls' hl' => ih _ _ _ _ h H locs ls' (am_lv_set hl.1 hl' (am_in2 (by intro q; cases q) rfl)) hP hD hS)
    · cases hp
  | astore b =>
    replace h := am_r1_e h
    obtain ⟨x, r2, rfl, hlt, h⟩ := h
    rw [hl.1] at hlt
    unfold am_pair at hp
    dsimp only at hp
    split at hp
    · simp only [Bool.and_eq_true, decide_eq_true_eq] at hp
      obtain ⟨e1, rfl⟩ := hp
      exact lv_astore_n hx hb hd e1 hl.2 hlt rfl (fun ls' hl' => ih _ _ _ _ h H locs ls' (am_lv_set hl.1 hl' (am_in1 (by intro q; cases q) rfl)) hP hD hS)
    · simp only [Bool.and_eq_true, decide_eq_true_eq] at hp
      obtain ⟨rfl, rfl⟩ := hp
      exact lv_astore hx hb hd hl.2 hlt rfl (fun ls' hl' => ih _ _ _ _ h H locs ls' (am_lv_set hl.1 hl' (am_in1 (by intro q; cases q) rfl)) hP hD hS)
    · cases hp
  | iinc b n =>
    replace h := am_gi_e h
    obtain ⟨x, hk, h⟩ := h
    simp only [am_pair, Bool.and_eq_true, decide_eq_true_eq] at hp
    obtain ⟨rfl, rfl⟩ := hp
    have hm := (am_prs_mem (ad := am_ad G) lv 0).mpr ⟨b, .int x, hk, (by intro q; cases q), rfl⟩
    rw [Nat.zero_add] at hm
    obtain ⟨k, hk2⟩ := List.getElem?_of_mem hm
    have hlt : b < nL := by rw [← hl.1]; exact (List.getElem?_eq_some_iff.mp hk).1
    exact lv_iinc hx hb hd hl.2 hk2 rfl hlt rfl (fun ls' hl' => ih _ _ _ _ h H locs ls' (am_lv_set hl.1 hl' (am_in1 (v := .int (x + Int32.ofInt n)) (by intro q; cases q) rfl)) hP hD hS)
  | iadd =>
    replace h := am_i2_e h
    obtain ⟨x, y, r2, rfl, h⟩ := h
    simp only [am_pair, Bool.and_eq_true, decide_eq_true_eq] at hp
    obtain ⟨rfl, rfl⟩ := hp
    exact lv_iadd hx hb hd (ih _ _ _ _ h H locs ls hl hP hD hS)
  | isub =>
    replace h := am_i2_e h
    obtain ⟨x, y, r2, rfl, h⟩ := h
    simp only [am_pair, Bool.and_eq_true, decide_eq_true_eq] at hp
    obtain ⟨rfl, rfl⟩ := hp
    exact lv_isub hx hb hd (ih _ _ _ _ h H locs ls hl hP hD hS)
  | imul =>
    replace h := am_i2_e h
    obtain ⟨x, y, r2, rfl, h⟩ := h
    simp only [am_pair, Bool.and_eq_true, decide_eq_true_eq] at hp
    obtain ⟨rfl, rfl⟩ := hp
    exact lv_imul hx hb hd (ih _ _ _ _ h H locs ls hl hP hD hS)
  | iand =>
    replace h := am_i2_e h
    obtain ⟨x, y, r2, rfl, h⟩ := h
    simp only [am_pair, Bool.and_eq_true, decide_eq_true_eq] at hp
    obtain ⟨rfl, rfl⟩ := hp
    exact lv_iand hx hb hd (ih _ _ _ _ h H locs ls hl hP hD hS)
  | ior =>
    replace h := am_i2_e h
    obtain ⟨x, y, r2, rfl, h⟩ := h
    simp only [am_pair, Bool.and_eq_true, decide_eq_true_eq] at hp
    obtain ⟨rfl, rfl⟩ := hp
    exact lv_ior hx hb hd (ih _ _ _ _ h H locs ls hl hP hD hS)
  | ixor =>
    replace h := am_i2_e h
    obtain ⟨x, y, r2, rfl, h⟩ := h
    simp only [am_pair, Bool.and_eq_true, decide_eq_true_eq] at hp
    obtain ⟨rfl, rfl⟩ := hp
    exact lv_ixor hx hb hd (ih _ _ _ _ h H locs ls hl hP hD hS)
  | idiv =>
    replace h := am_i2_e h
    obtain ⟨x, y, r2, rfl, h0, h⟩ := h
    simp only [am_pair, Bool.and_eq_true, decide_eq_true_eq] at hp
    obtain ⟨rfl, rfl⟩ := hp
    exact lv_idiv hx hb hd h0 (ih _ _ _ _ h H locs ls hl hP hD hS)
  | irem =>
    replace h := am_i2_e h
    obtain ⟨x, y, r2, rfl, h0, h⟩ := h
    simp only [am_pair, Bool.and_eq_true, decide_eq_true_eq] at hp
    obtain ⟨rfl, rfl⟩ := hp
    exact lv_irem hx hb hd h0 (ih _ _ _ _ h H locs ls hl hP hD hS)
  | ineg =>
    replace h := am_i1_e h
    obtain ⟨x, r2, rfl, h⟩ := h
    simp only [am_pair, Bool.and_eq_true, decide_eq_true_eq] at hp
    obtain ⟨rfl, rfl⟩ := hp
    exact lv_ineg hx hb hd (ih _ _ _ _ h H locs ls hl hP hD hS)
  | ishl =>
    replace h := am_i2_e h
    obtain ⟨x, y, r2, rfl, h⟩ := h
    simp only [am_pair, Bool.and_eq_true, decide_eq_true_eq] at hp
    obtain ⟨rfl, rfl⟩ := hp
    exact lv_ishl hx hb hd (ih _ _ _ _ h H locs ls hl hP hD hS)
  | ishr =>
    replace h := am_i2_e h
    obtain ⟨x, y, r2, rfl, h⟩ := h
    simp only [am_pair, Bool.and_eq_true, decide_eq_true_eq] at hp
    obtain ⟨rfl, rfl⟩ := hp
    exact lv_ishr hx hb hd (ih _ _ _ _ h H locs ls hl hP hD hS)
  | iushr =>
    replace h := am_i2_e h
    obtain ⟨x, y, r2, rfl, h⟩ := h
    simp only [am_pair, Bool.and_eq_true, decide_eq_true_eq] at hp
    obtain ⟨rfl, rfl⟩ := hp
    exact lv_iushr hx hb hd rfl (ih _ _ _ _ h H locs ls hl hP hD hS)
  | ladd =>
    replace h := am_l2_e h
    obtain ⟨x, y, r2, rfl, h⟩ := h
    simp only [am_pair, Bool.and_eq_true, decide_eq_true_eq] at hp
    obtain ⟨rfl, rfl⟩ := hp
    exact lv_ladd hx hb hd (ih _ _ _ _ h H locs ls hl hP hD hS)
  | lsub =>
    replace h := am_l2_e h
    obtain ⟨x, y, r2, rfl, h⟩ := h
    simp only [am_pair, Bool.and_eq_true, decide_eq_true_eq] at hp
    obtain ⟨rfl, rfl⟩ := hp
    exact lv_lsub hx hb hd (ih _ _ _ _ h H locs ls hl hP hD hS)
  | lmul =>
    replace h := am_l2_e h
    obtain ⟨x, y, r2, rfl, h⟩ := h
    simp only [am_pair, Bool.and_eq_true, decide_eq_true_eq] at hp
    obtain ⟨rfl, rfl⟩ := hp
    exact lv_lmul hx hb hd (ih _ _ _ _ h H locs ls hl hP hD hS)
  | land =>
    replace h := am_l2_e h
    obtain ⟨x, y, r2, rfl, h⟩ := h
    simp only [am_pair, Bool.and_eq_true, decide_eq_true_eq] at hp
    obtain ⟨rfl, rfl⟩ := hp
    exact lv_land hx hb hd (ih _ _ _ _ h H locs ls hl hP hD hS)
  | lor =>
    replace h := am_l2_e h
    obtain ⟨x, y, r2, rfl, h⟩ := h
    simp only [am_pair, Bool.and_eq_true, decide_eq_true_eq] at hp
    obtain ⟨rfl, rfl⟩ := hp
    exact lv_lor hx hb hd (ih _ _ _ _ h H locs ls hl hP hD hS)
  | ldiv =>
    replace h := am_l2_e h
    obtain ⟨x, y, r2, rfl, h0, h⟩ := h
    simp only [am_pair, Bool.and_eq_true, decide_eq_true_eq] at hp
    obtain ⟨rfl, rfl⟩ := hp
    exact lv_ldiv hx hb hd h0 (ih _ _ _ _ h H locs ls hl hP hD hS)
  | lrem =>
    replace h := am_l2_e h
    obtain ⟨x, y, r2, rfl, h0, h⟩ := h
    simp only [am_pair, Bool.and_eq_true, decide_eq_true_eq] at hp
    obtain ⟨rfl, rfl⟩ := hp
    exact lv_lrem hx hb hd h0 (ih _ _ _ _ h H locs ls hl hP hD hS)
  | lshl =>
    replace h := am_li_e h
    obtain ⟨x, y, r2, rfl, h⟩ := h
    simp only [am_pair, Bool.and_eq_true, decide_eq_true_eq] at hp
    obtain ⟨rfl, rfl⟩ := hp
    exact lv_lshl hx hb hd rfl (ih _ _ _ _ h H locs ls hl hP hD hS)
  | lcmp =>
    replace h := am_l2_e h
    obtain ⟨x, y, r2, rfl, h⟩ := h
    simp only [am_pair, Bool.and_eq_true, decide_eq_true_eq] at hp
    obtain ⟨rfl, rfl⟩ := hp
    exact W.lcmp hx hb hd (ih _ _ _ _ h H locs ls hl hP hD hS)
  | i2l =>
    replace h := am_i1_e h
    obtain ⟨x, r2, rfl, h⟩ := h
    simp only [am_pair, Bool.and_eq_true, decide_eq_true_eq] at hp
    obtain ⟨rfl, rfl⟩ := hp
    exact lv_i2l hx hb hd rfl (ih _ _ _ _ h H locs ls hl hP hD hS)
  | l2i =>
    replace h := am_l1_e h
    obtain ⟨x, r2, rfl, h⟩ := h
    simp only [am_pair, Bool.and_eq_true, decide_eq_true_eq] at hp
    obtain ⟨rfl, rfl⟩ := hp
    exact lv_l2i hx hb hd rfl (ih _ _ _ _ h H locs ls hl hP hD hS)
  | i2b =>
    replace h := am_i1_e h
    obtain ⟨x, r2, rfl, h⟩ := h
    simp only [am_pair, Bool.and_eq_true, decide_eq_true_eq] at hp
    obtain ⟨rfl, rfl⟩ := hp
    exact lv_i2b hx hb hd rfl (ih _ _ _ _ h H locs ls hl hP hD hS)
  | i2s =>
    replace h := am_i1_e h
    obtain ⟨x, r2, rfl, h⟩ := h
    simp only [am_pair, Bool.and_eq_true, decide_eq_true_eq] at hp
    obtain ⟨rfl, rfl⟩ := hp
    exact lv_i2s hx hb hd rfl (ih _ _ _ _ h H locs ls hl hP hD hS)
  | dup =>
    simp only [am_pair, Bool.and_eq_true, decide_eq_true_eq] at hp
    obtain ⟨rfl, rfl⟩ := hp
    unfold am_stp at h
    dsimp only at h
    split at h
    · exact lv_dup hx hb hd (by rw [am_cv_cat]; exact h.1) (ih _ _ _ _ h.2 H locs ls hl hP hD hS)
    · exact h.elim
  | dup2 =>
    simp only [am_pair, Bool.and_eq_true, decide_eq_true_eq] at hp
    obtain ⟨rfl, rfl⟩ := hp
    unfold am_stp at h
    dsimp only at h
    split at h
    · exact lv_dup2_11 hx hb hd (by rw [am_cv_cat]; exact h.1) (by rw [am_cv_cat]; exact h.2.1) (ih _ _ _ _ h.2.2 H locs ls hl hP hD hS)
    · exact h.elim
  | ifCond k t =>
    replace h := am_i1_e h
    obtain ⟨x, r2, rfl, h1, h2⟩ := h
    unfold am_pair at hp
    dsimp only at hp
    split at hp
    · rename_i c' o
      simp only [Bool.and_eq_true, decide_eq_true_eq] at hp
      obtain ⟨⟨⟨rfl, rfl⟩, ht⟩, h0⟩ := hp
      have ht : (pc : Int) + o = (t.toNat : Int) := by rw [ht]; omega
      have k1 : am_cnd k x 0 → W p l e R s m args below meth c H locs cells slots Q0 (F0 m t.toNat ls (r2.map (am_cv (am_ad G)))) := fun q => ih _ _ _ _ (h1 q) H locs ls hl hP hD hS
      have k2 : ¬ am_cnd k x 0 → W p l e R s m args below meth c H locs cells slots Q0 (F0 m (pc + 3) ls (r2.map (am_cv (am_ad G)))) := fun q => ih _ _ _ _ (h2 q) H locs ls hl hP hD hS
      cases k with
      | eq => exact lv_if_eq hx hb hd ht k1 k2
      | ne => exact lv_if_ne hx hb hd ht k1 (fun q => k2 (fun z => z q))
      | lt => exact lv_if_lt hx hb hd ht k1 k2
      | ge => exact lv_if_ge hx hb hd ht k1 k2
      | gt => exact lv_if_gt hx hb hd ht k1 k2
      | le => exact lv_if_le hx hb hd ht k1 k2
    · cases hp
  | if_icmp k t =>
    replace h := am_i2_e h
    obtain ⟨x, y, r2, rfl, h1, h2⟩ := h
    unfold am_pair at hp
    dsimp only at hp
    split at hp
    · rename_i c' o
      simp only [Bool.and_eq_true, decide_eq_true_eq] at hp
      obtain ⟨⟨⟨rfl, rfl⟩, ht⟩, h0⟩ := hp
      have ht : (pc : Int) + o = (t.toNat : Int) := by rw [ht]; omega
      have k1 : am_cnd k x y → W p l e R s m args below meth c H locs cells slots Q0 (F0 m t.toNat ls (r2.map (am_cv (am_ad G)))) := fun q => ih _ _ _ _ (h1 q) H locs ls hl hP hD hS
      have k2 : ¬ am_cnd k x y → W p l e R s m args below meth c H locs cells slots Q0 (F0 m (pc + 3) ls (r2.map (am_cv (am_ad G)))) := fun q => ih _ _ _ _ (h2 q) H locs ls hl hP hD hS
      cases k with
      | eq => exact lv_icmp_eq hx hb hd ht k1 k2
      | ne => exact lv_icmp_ne hx hb hd ht k1 (fun q => k2 (fun z => z q))
      | lt => exact lv_icmp_lt hx hb hd ht k1 k2
      | ge => exact lv_icmp_ge hx hb hd ht k1 k2
      | gt => exact lv_icmp_gt hx hb hd ht k1 k2
      | le => exact lv_icmp_le hx hb hd ht k1 k2
    · cases hp
  | goto t =>
    have h : K t.toNat lv st M := h
    unfold am_pair at hp
    dsimp only at hp
    split at hp
    · simp only [Bool.and_eq_true, decide_eq_true_eq] at hp
      obtain ⟨⟨rfl, ht⟩, h0⟩ := hp
      exact lv_goto hx hb hd (by rw [ht]; omega) (ih _ _ _ _ h H locs ls hl hP hD hS)
    · cases hp
  | tableswitch d lo hi offs =>
    replace h := am_i1_e h
    obtain ⟨x, r2, rfl, h⟩ := h
    unfold am_pair at hp
    dsimp only at hp
    split at hp
    · rename_i d' lo' hi' offs'
      simp only [Bool.and_eq_true, decide_eq_true_eq, List.all_eq_true] at hp
      obtain ⟨⟨⟨⟨⟨⟨rfl, rfl⟩, hd1⟩, hd0⟩, ho⟩, hpos⟩, hlen⟩ := hp
      by_cases ho1 : x.toInt < lo ∨ hi < x.toInt
      · rw [if_pos ho1] at h
        exact lv_tableOut hx hb hd ho1 (by rw [hd1]; omega) (ih _ _ _ _ h H locs ls hl hP hD hS)
      · rw [if_neg ho1] at h
        have hk : (x.toInt - lo).toNat < offs'.toList.length := by omega
        have e1 : offs.toList.getD (x.toInt - lo).toNat 0 = (pc : Int) + offs'.toList[(x.toInt - lo).toNat] := by
          rw [ho, List.getD_eq_getElem?_getD, List.getElem?_map, List.getElem?_eq_getElem hk]
          rfl
        have e0 : 0 ≤ offs.toList.getD (x.toInt - lo).toNat 0 := by
          have hm : offs.toList.getD (x.toInt - lo).toNat 0 ∈ offs.toList := by
            rw [List.getD_eq_getElem?_getD, List.getElem?_eq_getElem (show (x.toInt - lo).toNat < offs.toList.length by rw [ho, List.length_map]; exact hk)]
            exact List.getElem_mem _
          exact hpos _ hm
        exact lv_tableIn hx hb hd (fun q => ho1 (Or.inl q)) (fun q => ho1 (Or.inr q)) (off := offs'.toList[(x.toInt - lo).toNat]) (by rw [← Array.getElem?_toList, List.getElem?_eq_getElem hk]) (by rw [← e1]; omega) (ih _ _ _ _ h H locs ls hl hP hD hS)
    · cases hp
  | lookupswitch d ps =>
    replace h := am_i1_e h
    obtain ⟨x, r2, rfl, h⟩ := h
    unfold am_pair at hp
    dsimp only at hp
    split at hp
    · rename_i d' ps'
      simp only [Bool.and_eq_true, decide_eq_true_eq] at hp
      obtain ⟨⟨⟨⟨hd1, hd0⟩, ho⟩, hpos⟩, hinc⟩ := hp
      have hpos' : ∀ q ∈ ps.toList, 0 ≤ q.2 := fun q hq => of_decide_eq_true (List.all_eq_true.mp hpos q hq)
      have e1 : am_sw ps.toList d x.toInt = (pc : Int) + am_sw ps'.toList d' x.toInt := by rw [ho, ← hd1, am_sw_shift]
      have e0 := am_sw_pos (x := x.toInt) hd0 ps.toList hpos'
      exact lv_lookup hx hb hd hinc (am_sw_eq _ _ _) (by rw [← e1]; omega) (ih _ _ _ _ h H locs ls hl hP hD hS)
    · cases hp
  | getfield n =>
    replace h := am_r1_e h
    obtain ⟨q, r2, rfl, hq, hqK, h⟩ := h
    unfold am_pair at hp
    dsimp only at hp
    split at hp
    · simp only [Bool.and_eq_true, decide_eq_true_eq] at hp
      obtain ⟨⟨⟨rfl, hci⟩, hk⟩, hw⟩ := hp
      exact va_get (D := am_D G) hx hb hts (am_lays _ hci) hown hK hP q (am_obj hq hqK) (am_cl hci) (n % 64) hk (hcode0 (am_wd_in hw)) (fun _ z => z) (v := am_cv (am_ad G) (am_fv q (n % 64) M)) (by simp [hk]) hd (ih _ _ _ _ h H locs ls hl hP hD hS)
    · cases hp
  | putfield n =>
    replace h := am_ipr_e h
    obtain ⟨q, x, r2, rfl, hq, hqK, hr0, hz, h⟩ := h
    unfold am_pair at hp
    dsimp only at hp
    split at hp
    · simp only [Bool.and_eq_true, decide_eq_true_eq] at hp
      obtain ⟨⟨⟨⟨⟨rfl, hci⟩, hk⟩, hfi⟩, hty⟩, hw⟩ := hp
      obtain ⟨n1, n2⟩ := am_parse_I (am_iz_e hty) hz
      refine va_put (D := am_D G) (v := .int x) hx hb hts (am_lays _ hci) (am_tyq (n / 64)) (am_ty_ok _ hci) (am_nm_ok _ hci) hown hK hP hD hS q (am_obj hq hqK) (am_cl hci) (n % 64) hk (hcode0 (am_wd_in hw)) (fun _ z => z) hfi (am_ty_ok _ hci _ hk) n1 n2 (by simpa using hk) hd (fun H1 locs1 hP1 hD1 hS1 => ?_)
      rw [am_W_putF hq hr0 hk] at hP1 hD1
      exact ih _ _ _ _ h H1 locs1 ls hl hP1 hD1 hS1
    · cases hp
  | getstatic n =>
    have h : K (pc + len) lv (.ref n :: st) M := h
    unfold am_pair at hp
    dsimp only at hp
    split at hp
    · simp only [Bool.and_eq_true, Bool.or_eq_true, decide_eq_true_eq] at hp
      obtain ⟨rfl, hw⟩ := hp
      rcases hw with ⟨rfl, hw⟩ | ⟨rfl, hw⟩
      · exact va_gets hx hb hSt.1 hS hown (hcode0 (am_wd_in hw)) (fun _ z => z) hd (ih _ _ _ _ h H locs ls hl hP hD hS)
      · exact va_gets hx hb hSt.2.2.1 hS hown (hcode0 (am_wd_in hw)) (fun _ z => z) hd (ih _ _ _ _ h H locs ls hl hP hD hS)
    · cases hp
  | iaload =>
    replace h := am_ri_e h
    obtain ⟨q, i, r2, rfl, h⟩ := h
    simp only [am_pair, Bool.and_eq_true, decide_eq_true_eq] at hp
    obtain ⟨rfl, rfl⟩ := hp
    unfold am_i4 at h
    by_cases q1 : q = 900
    · subst q1
      rw [if_pos rfl] at h
      exact va_sld hx hb hSt.2.2.2.2.1 (Nat.lt_of_lt_of_le hSt.2.2.2.2.2.1 hSt.2.2.2.2.2.2) (Nat.not_le.mpr hSt.2.2.2.2.2.1) hS h.1 hd (ih _ _ _ _ h.2 H locs ls hl hP hD hS)
    · rw [if_neg q1] at h
      by_cases q2 : q = 901
      · subst q2
        rw [if_pos rfl] at h
        exact va_ti hx hb hSt.2.1 hS h.1 rfl hd (ih _ _ _ _ h.2 H locs ls hl hP hD hS)
      · rw [if_neg q2] at h
        by_cases q3 : q = 902
        · subst q3
          rw [if_pos rfl] at h
          exact va_ti hx hb hSt.2.2.2.1 hS h.1 rfl hd (ih _ _ _ _ h.2 H locs ls hl hP hD hS)
        · rw [if_neg q3] at h
          exact va_iald (D := am_D G) hx hb hK hP q 0 (am_ari (am_shp_e h.1) h.2.1) rfl h.2.2.1 hd (ih _ _ _ _ h.2.2.2 H locs ls hl hP hD hS)
  | laload =>
    replace h := am_ri_e h
    obtain ⟨q, i, r2, rfl, h1, h2, h3, h⟩ := h
    simp only [am_pair, Bool.and_eq_true, decide_eq_true_eq] at hp
    obtain ⟨rfl, rfl⟩ := hp
    exact va_lald (D := am_D G) hx hb hK hP q 1 (am_arl (am_shp_e h1) h2) rfl h3 hd (ih _ _ _ _ h H locs ls hl hP hD hS)
  | aaload =>
    replace h := am_ri_e h
    obtain ⟨q, i, r2, rfl, h1, h2, h3, h⟩ := h
    simp only [am_pair, Bool.and_eq_true, decide_eq_true_eq] at hp
    obtain ⟨rfl, rfl⟩ := hp
    have hlt : i.toNatClampNeg < (am_shp q).2 := Nat.not_le.mp fun z => h3 (Or.inr z)
    have k1 := ih _ _ _ _ h H locs ls hl hP hD hS
    rcases h1 with h1 | h1
    · exact W.aald (v := va_rf (if i.toNatClampNeg < (am_shp q).2 then some (am_ad G (am_rb q + i.toNatClampNeg)) else none)) (ty := .array .int) hx hb (hP q _ (am_arr2 (am_shp_e h1) h2)) ((hK.2 2 _ rfl).1 (am_shp q).2 (fun j => va_rf (if j < (am_shp q).2 then some (am_ad G (am_rb q + j)) else none))) rfl (fun z => by cases z) (by show ¬ (i < 0 ∨ (arrV _ _ _).slots.size ≤ _); rw [arrV_size]; exact h3) (by show (arrV _ _ _).slots[_]? = _; rw [arrV_read _ _ hlt]) rfl rfl hd (by rw [if_pos hlt]; exact k1)
    · exact W.aald (v := va_rf (if i.toNatClampNeg < (am_shp q).2 then some (am_ad G (am_rb q + i.toNatClampNeg)) else none)) (ty := .array .long) hx hb (hP q _ (am_arr4 (am_shp_e h1) h2)) ((hK.2 3 _ rfl).1 (am_shp q).2 (fun j => va_rf (if j < (am_shp q).2 then some (am_ad G (am_rb q + j)) else none))) rfl (fun z => by cases z) (by show ¬ (i < 0 ∨ (arrV _ _ _).slots.size ≤ _); rw [arrV_size]; exact h3) (by show (arrV _ _ _).slots[_]? = _; rw [arrV_read _ _ hlt]) rfl rfl hd (by rw [if_pos hlt]; exact k1)
  | iastore =>
    replace h := am_rii_e h
    obtain ⟨q, i, x, r2, rfl, h1, h2, h3, h⟩ := h
    simp only [am_pair, Bool.and_eq_true, decide_eq_true_eq] at hp
    obtain ⟨rfl, rfl⟩ := hp
    refine va_iast (D := am_D G) hx hb hK hP hD hS q 0 (am_ari (am_shp_e h1) h2) rfl h3 hd (fun H1 locs1 hP1 hD1 hS1 => ?_)
    rw [am_W_putI (am_shp_e h1)] at hP1 hD1
    exact ih _ _ _ _ h H1 locs1 ls hl hP1 hD1 hS1
  | lastore =>
    replace h := am_ril_e h
    obtain ⟨q, i, x, r2, rfl, h1, h2, h3, h⟩ := h
    simp only [am_pair, Bool.and_eq_true, decide_eq_true_eq] at hp
    obtain ⟨rfl, rfl⟩ := hp
    refine va_last (D := am_D G) hx hb hK hP hD hS q 1 (am_arl (am_shp_e h1) h2) rfl h3 hd (fun H1 locs1 hP1 hD1 hS1 => ?_)
    rw [am_W_putL (am_shp_e h1)] at hP1 hD1
    exact ih _ _ _ _ h H1 locs1 ls hl hP1 hD1 hS1
  | arraylength =>
    replace h := am_r1_e h
    obtain ⟨q, r2, rfl, h⟩ := h
    simp only [am_pair, Bool.and_eq_true, decide_eq_true_eq] at hp
    obtain ⟨rfl, rfl⟩ := hp
    by_cases q1 : q = 900
    · subst q1
      rw [if_pos rfl] at h
      exact va_slen hx hb hSt.2.2.2.2.1 (Nat.lt_of_lt_of_le hSt.2.2.2.2.2.1 hSt.2.2.2.2.2.2) (Nat.not_le.mpr hSt.2.2.2.2.2.1) hS hd (ih _ _ _ _ h H locs ls hl hP hD hS)
    · rw [if_neg q1] at h
      rcases h.1 with h1 | h1
      · exact va_alen (D := am_D G) hx hb hK hP q 0 (am_ari (am_shp_e h1) h.2.1) rfl rfl hd (ih _ _ _ _ h.2.2 H locs ls hl hP hD hS)
      · exact va_alen (D := am_D G) hx hb hK hP q 1 (am_arl (am_shp_e h1) h.2.1) rfl rfl hd (ih _ _ _ _ h.2.2 H locs ls hl hP hD hS)
  | invokevirtual j =>
    unfold am_stp at h
    dsimp only at h
    split at h
    · rename_i q r2 hst
      obtain ⟨h1, h2, h3, h4, v, M', hCj, h⟩ := h
      unfold am_pair at hp
      dsimp only at hp
      split at hp
      · simp only [Bool.and_eq_true, decide_eq_true_eq] at hp
        obtain ⟨⟨rfl, hst0⟩, hw⟩ := hp
        obtain ⟨hok, hM⟩ := hC _ _ _ _ _ hCj
        obtain ⟨o1, o2, o3, o4, o5, o6, o7, o8⟩ := id hok
        obtain ⟨o11, o12, o13, o14⟩ := o1 hst0
        have hG := am_wsm_good hok
        have est : st = (st.take (am_mt j).2.2.2.2.2.2.1).reverse.reverse ++ .ref q :: r2 := by rw [List.reverse_reverse, ← hst, List.take_append_drop]
        have eM : (st.map (am_cv (am_ad G))) = (((st.take (am_mt j).2.2.2.2.2.2.1).reverse).map (am_cv (am_ad G))).reverse ++ .ref (am_ad G q) :: r2.map (am_cv (am_ad G)) := by
          conv => lhs; rw [est]
          simp [am_cv]
        rw [eM]
        refine am_callg (va_runV (C := am_R (am_mt j).1) (As := ((st.take (am_mt j).2.2.2.2.2.2.1).reverse).map (am_cv (am_ad G))) (rest := r2.map (am_cv (am_ad G))) ⟨hx, hb, hml, hown, hts⟩ hM ⟨callB_of (am_mt j).2.2.2.2.2.2.1 hts hG rfl hR.1 hR.2.1 (hcode0 o3) (hcode0 (am_wd_in hw)) ⟨o5.1, o5.2, o6⟩ ⟨hR.2.2.1, by omega⟩, hcode0 o11, by rw [← o14]; exact hcode0 o12⟩ ⟨am_Wd_blind, va_recv hK hP (am_cl o13) (am_obj h1 h2), fun U hU hW => ⟨rfl, am_Wd_at hK hSt hP hD hS hU hW⟩⟩ rfl (by simp; omega) hl.2.1 rfl (lv_room (by simp only [List.map_map]; have : ((fun v : Value => v.category) ∘ am_cv (am_ad G)) = fun v => v.category := funext fun v => am_cv_cat _ v; rw [this]; exact h4)) hd ⟨by omega, by omega⟩) hS (fun H1 locs1 hP1 hD1 hS1 => ?_)
        have k1 := ih _ _ _ _ h H1 locs1 ls hl hP1 hD1 hS1
        rw [List.map_append] at k1
        cases v <;> exact k1
      · cases hp
    · exact h.elim
  | invokestatic j =>
    obtain ⟨h3, h4, v, M', hCj, h⟩ := h
    unfold am_pair at hp
    dsimp only at hp
    split at hp
    · simp only [Bool.and_eq_true, decide_eq_true_eq] at hp
      obtain ⟨⟨rfl, hst0⟩, hw⟩ := hp
      obtain ⟨hok, hM⟩ := hC _ _ _ _ _ hCj
      obtain ⟨o1, o2, o3, o4, o5, o6, o7, o8⟩ := id hok
      have hG := am_wsm_good hok
      have eM : (st.map (am_cv (am_ad G))) = (((st.take (am_mt j).2.2.2.2.2.2.1).reverse).map (am_cv (am_ad G))).reverse ++ (st.drop (am_mt j).2.2.2.2.2.2.1).map (am_cv (am_ad G)) := by
        rw [List.map_reverse, List.reverse_reverse, ← List.map_append, List.take_append_drop]
      rw [eM]
      refine am_callg (va_runS (As := ((st.take (am_mt j).2.2.2.2.2.2.1).reverse).map (am_cv (am_ad G))) (rest := (st.drop (am_mt j).2.2.2.2.2.2.1).map (am_cv (am_ad G))) ⟨hx, hb, hml, hown, hts⟩ hM ⟨callB_of (am_mt j).2.2.2.2.2.2.1 hts hG rfl hR.1 hR.2.1 (hcode0 o3) (hcode0 (am_wd_in hw)) ⟨o5.1, o5.2, o6⟩ ⟨hR.2.2.1, by omega⟩, hcode0 (o2 hst0)⟩ ⟨am_Wd_blind, fun U hU hW => ⟨rfl, am_Wd_at hK hSt hP hD hS hU hW⟩⟩ rfl (by simp; omega) hl.2.1 rfl (lv_room (by simp only [List.map_map]; have : ((fun v : Value => v.category) ∘ am_cv (am_ad G)) = fun v => v.category := funext fun v => am_cv_cat _ v; rw [this]; exact h4)) hd ⟨by omega, by omega⟩) hS (fun H1 locs1 hP1 hD1 hS1 => ?_)
      have k1 := ih _ _ _ _ h H1 locs1 ls hl hP1 hD1 hS1
      rw [List.map_append] at k1
      cases v <;> exact k1
    · cases hp
  | invokespecial t =>
    have hcat : ∀ r2 : List Value, am_cat r2 ≤ 8 → ((r2.map (am_cv (am_ad G))).map fun v => v.category).sum ≤ 8 := fun r2 hr => by
      simp only [List.map_map]
      have : ((fun v : Value => v.category) ∘ am_cv (am_ad G)) = fun v => v.category := funext fun v => am_cv_cat _ v
      rw [this]; exact hr
    unfold am_pair at hp
    dsimp only at hp
    split at hp
    · simp only [Bool.and_eq_true, decide_eq_true_eq] at hp
      obtain ⟨rfl, hw⟩ := hp
      have hw := hcode0 (am_wd_in hw)
      match t, hw, h with
      | 0, hw, h =>
        replace h := am_i1_e h
        obtain ⟨x, r2, rfl, h1, h⟩ := h
        have := hcat r2 h1
        exact va_mabs hx hb hml2 hown hw (hcode0 am_math.1.1) (hcode0 am_math.2.2.1) (hcode0 am_mcode.1) hfr1 (by omega) hcs.1 hcs.2 hd (ih _ _ _ _ h H locs ls hl hP hD hS)
      | 1, hw, h =>
        replace h := am_i2_e h
        obtain ⟨x, y, r2, rfl, h1, h⟩ := h
        have := hcat r2 h1
        exact va_mmin hx hb hml2 hown hw (hcode0 am_math.1.2.1) (hcode0 am_math.2.2.1) (hcode0 am_mcode.2.1) hfr1 (by omega) hcs.1 hcs.2 hd (ih _ _ _ _ h H locs ls hl hP hD hS)
      | 2, hw, h =>
        replace h := am_i2_e h
        obtain ⟨x, y, r2, rfl, h1, h⟩ := h
        have := hcat r2 h1
        exact va_mmax hx hb hml2 hown hw (hcode0 am_math.1.2.2.1) (hcode0 am_math.2.2.1) (hcode0 am_mcode.2.2.1) hfr1 (by omega) hcs.1 hcs.2 hd (ih _ _ _ _ h H locs ls hl hP hD hS)
      | 3, hw, h =>
        replace h := am_l2_e h
        obtain ⟨x, y, r2, rfl, h1, h⟩ := h
        have := hcat r2 h1
        exact va_mmin_long hx hb hml2 hown hw (hcode0 am_math.1.2.2.2.1) (hcode0 am_math.2.2.1) (hcode0 am_mcode.2.2.2) hfr1 (by omega) hcs.1 hcs.2 hd (ih _ _ _ _ h H locs ls hl hP hD hS)
      | 4, hw, h =>
        replace h := am_acp_e h
        obtain ⟨a0, sp, a, dp, n, r2, rfl, h1, h2, h3, h4, h5, h6, h7, h8, h9, h10, h⟩ := h
        have := hcat r2 h10
        have e7 : nativeFrameWords "java/lang/System" "arraycopy" 5 = 7 := by decide +kernel
        refine va_copyl (D := am_D G) hx hb hml2 hown hw (hcode0 am_math.2.1) (hcode0 am_math.1.2.2.2.2) (hcode0 am_math.2.2.2) hK hP hD hS a0 a 1 1 (am_arl (am_shp_e h1) h2) (am_arl (am_shp_e h3) h4) rfl rfl rfl h5 h6 h7 h8 h9 (fun i _ => rfl) hfr1 (by rw [e7]; omega) hd (fun H1 locs1 hP1 hD1 hS1 => ?_)
        rw [am_W_cpL (am_shp_e h3)] at hP1 hD1
        exact ih _ _ _ _ h H1 locs1 ls hl hP1 hD1 hS1
      | n + 5, hw, h => exact h.elim
    · cases hp
  | ireturn =>
    simp only [am_pair, Bool.and_eq_true, decide_eq_true_eq] at hp
    obtain ⟨rfl, rfl⟩ := hp
    unfold am_stp at h
    dsimp only at h
    split at h
    · rename_i x
      obtain ⟨h1, h2, rfl⟩ := h
      exact hfin H locs ls pc .ireturn [.int x] hd ⟨x, rfl, h2, h1⟩ hP hD hS
    · exact h.elim
  | lreturn =>
    simp only [am_pair, Bool.and_eq_true, decide_eq_true_eq] at hp
    obtain ⟨rfl, rfl⟩ := hp
    unfold am_stp at h
    dsimp only at h
    split at h
    · rename_i x
      obtain ⟨h1, h2, rfl⟩ := h
      exact hfin H locs ls pc .lreturn [.long x] hd ⟨x, rfl, h2, h1⟩ hP hD hS
    · exact h.elim
  | return_ =>
    simp only [am_pair, Bool.and_eq_true, decide_eq_true_eq] at hp
    obtain ⟨rfl, rfl⟩ := hp
    unfold am_stp at h
    dsimp only at h
    split at h
    · obtain ⟨h1, h2, rfl⟩ := h
      exact hfin H locs ls pc .return_ [] hd ⟨rfl, h2, h1⟩ hP hD hS
    · exact h.elim
  | _ => exact h.elim
end STP
