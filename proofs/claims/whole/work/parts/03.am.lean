/-! THE ABSTRACT MACHINE: cells by number, values of Int32/Int64, one step an instruction; and that the JVM does what it does -/
abbrev Am_M : Type := (Nat → Nat → Int32) × (Nat → Nat → Int64)
abbrev Am_C : Type := Nat → List Value → Am_M → Option Value → Am_M → Prop
def am_upI (M : Am_M) (k i : Nat) (x : Int32) : Am_M := (fun k' i' => if k' = k ∧ i' = i then x else M.1 k' i', M.2)
def am_upL (M : Am_M) (k i : Nat) (x : Int64) : Am_M := (M.1, fun k' i' => if k' = k ∧ i' = i then x else M.2 k' i')
def am_cpL (M : Am_M) (a0 a sp dp n : Nat) : Am_M := (M.1, fun k' => if k' = a then va_cpy (M.2 a0) (M.2 a) sp dp n else M.2 k')
/-! values and cells -/
def am_cv (ad : Nat → Nat) : Value → Value
  | .ref k => .ref (ad k)
  | v => v
theorem am_cv_cat (ad : Nat → Nat) (v : Value) : (am_cv ad v).category = v.category := by cases v <;> rfl
theorem am_cv_null {ad : Nat → Nat} {v : Value} (h : v ≠ .null) : am_cv ad v ≠ .null := by cases v <;> first | (intro q; cases q; done) | exact absurd rfl h
def am_shp (q : Nat) : Nat × Nat := am_cellL.getD q (9, 0)
/-- what a field or a place of an array of arrays points at: 0: it is an int; t + 1: cell t -/
def am_rt (q k : Nat) : Nat := (am_rtL.getD q []).getD k 0
def am_rb (q : Nat) : Nat := (am_rtL.getD q []).getD 0 0
def am_fv (q k : Nat) (M : Am_M) : Value := if am_rt q k = 0 then .int (M.1 q k) else .ref (am_rt q k - 1)
def am_e (ad : Nat → Nat) (cA : Nat → ClassId) (q : Nat) (M : Am_M) : va_E :=
  match am_shp q with
  | (0, n) => .inl (cA 0, n, .inl (M.1 q))
  | (1, n) => .inl (cA 1, n, .inr (.inl (M.2 q)))
  | (2, n) => .inl (cA 2, n, .inr (.inr (.inr (.inr (fun i => if i < n then some (ad (am_rb q + i)) else none)))))
  | (3, ci) => .inr (ci, (List.range (am_nf ci)).map (fun k => am_cv ad (am_fv q k M)))
  | (_, n) => .inl (cA 3, n, .inr (.inr (.inr (.inr (fun i => if i < n then some (ad (am_rb q + i)) else none)))))
theorem am_e_congr {ad : Nat → Nat} {cA : Nat → ClassId} {q : Nat} {M M' : Am_M} (h1 : M'.1 q = M.1 q) (h2 : M'.2 q = M.2 q) : am_e ad cA q M' = am_e ad cA q M := by
  unfold am_e
  split <;> first | rw [h1] | rw [h2] | rfl | skip
  congr 1
  congr 1
  apply List.map_congr_left
  intro k _
  unfold am_fv
  rw [h1]
def am_ws (ad : Nat → Nat) (cA : Nat → ClassId) (M : Am_M) : va_W := (List.range am_K).map (fun q => (ad q, am_e ad cA q M))
theorem am_ws_get {ad : Nat → Nat} {cA : Nat → ClassId} {M : Am_M} {q : Nat} (h : q < am_K) : (am_ws ad cA M)[q]? = some (ad q, am_e ad cA q M) := by
  simp [am_ws, h]
theorem am_ws_set {ad : Nat → Nat} {cA : Nat → ClassId} {M M' : Am_M} {q : Nat} (h : ∀ k, k ≠ q → M'.1 k = M.1 k ∧ M'.2 k = M.2 k) : (am_ws ad cA M).set q (ad q, am_e ad cA q M') = am_ws ad cA M' := by
  apply List.ext_getElem?
  intro k
  by_cases hk : k < am_K
  · by_cases e : k = q
    · subst e
      rw [List.getElem?_set_self (by simp [am_ws, hk]), am_ws_get hk]
    · rw [List.getElem?_set_ne (Ne.symm e), am_ws_get hk, am_ws_get hk, am_e_congr (h k e).1 (h k e).2]
  · rw [List.getElem?_eq_none (by simp [am_ws]; omega), List.getElem?_eq_none (by simp [am_ws]; omega)]
def am_tys (cA : Nat → ClassId) : List (ClassId × FieldType) := [(cA 0, .int), (cA 1, .long), (cA 2, .array .int), (cA 3, .array .long)]
/-- all that is fixed: addresses, the arrays' classes, classes, slots, where the new cells begin, the script -/
abbrev Am_G : Type := (Nat → Nat) × (Nat → ClassId) × (Nat → ClassId) × (Nat → Nat → Nat) × Nat × Nat × (Nat → Int32)
abbrev am_ad (G : Am_G) : Nat → Nat := G.1
abbrev am_cA (G : Am_G) : Nat → ClassId := G.2.1
abbrev am_D (G : Am_G) : va_G := (G.2.2.1, G.2.2.2.1)
abbrev am_lo (G : Am_G) : Nat := G.2.2.2.2.1
abbrev am_sL (G : Am_G) : Nat := G.2.2.2.2.2.1
abbrev am_xs (G : Am_G) : Nat → Int32 := G.2.2.2.2.2.2
abbrev am_A (G : Am_G) : Nat → Prop := fun q => am_lo G ≤ q
abbrev am_W (G : Am_G) (M : Am_M) : va_W := am_ws (am_ad G) (am_cA G) M
def am_fA (k : Nat) : Int32 := ([-1, 0, 0, 2, 1, 3, 0, 4] : List Int32).getD k 0
def am_fO (k : Nat) : Int32 := ([1, 10, 11, 2, 20, 0, 0, 0, 0, 30, 0, 0, 0, 41, 40, 0, 0, 0, 50, 0, 0, 0, 0, 60, 70, 0, 0, 0, 0, 80, 0, 81] : List Int32).getD k 0
/-- what nobody writes: the two static rows, the script -/
def am_St (G : Am_G) (U : State) (H : Heap) : Prop :=
  va_Z "OrbitsWed$Moods" "ABOVE" "[I" (.ref (am_ad G 901)) (am_A G) U H ∧ va_T .int (am_ad G 901) 8 (fun k => .int (am_fA k)) (am_A G) U H ∧
  va_Z "OrbitsWed$Moods" "OWN" "[I" (.ref (am_ad G 902)) (am_A G) U H ∧ va_T .int (am_ad G 902) 32 (fun k => .int (am_fO k)) (am_A G) U H ∧
  va_X (am_ad G 900) (am_sL G) (am_xs G) U H ∧ am_ad G 900 < am_lo G ∧ am_lo G ≤ H.size
theorem am_St.moved {G : Am_G} {u U : State} {H : Heap} (hvm : u.vm.Alike U.vm) (h : am_St G u H) : am_St G U H :=
  ⟨h.1.moved hvm, h.2.1.moved hvm, h.2.2.1.moved hvm, h.2.2.2.1.moved hvm, h.2.2.2.2.1.moved hvm, h.2.2.2.2.2⟩
theorem am_St.kept {G : Am_G} {U : State} {H H1 : Heap} (h : am_St G U H) (hz : H.size ≤ H1.size) (hq : ∀ a : Nat, a < H.size → ¬ am_A G a → H1[a]? = H[a]?) : am_St G U H1 :=
  ⟨h.1.kept hq, h.2.1.kept hq, h.2.2.1.kept hq, h.2.2.2.1.kept hq, h.2.2.2.2.1.kept (hq _ (Nat.lt_of_lt_of_le h.2.2.2.2.2.1 h.2.2.2.2.2.2) (Nat.not_le.mpr h.2.2.2.2.2.1)), h.2.2.2.2.2.1, Nat.le_trans h.2.2.2.2.2.2 hz⟩
/-- the world -/
def am_Wd (G : Am_G) (M : Am_M) (U : State) : Prop := va_P (am_D G) vwCl (am_W G M) U.heap ∧ va_K (am_D G) vwCl (am_tys (am_cA G)) U ∧ va_D (am_A G) (am_W G M) ∧ am_St G U U.heap
/-! locals -/
def am_prs (ad : Nat → Nat) : Nat → List Value → List (Nat × Value)
  | _, [] => []
  | i, v :: r => (if v = .null then [] else [(i, am_cv ad v)]) ++ am_prs ad (i + 1) r
theorem am_prs_mem {ad : Nat → Nat} {x : Nat × Value} : ∀ (l : List Value) (i : Nat), x ∈ am_prs ad i l ↔ ∃ (j : Nat) (v : Value), l[j]? = some v ∧ v ≠ .null ∧ x = (i + j, am_cv ad v)
  | [], i => by simp [am_prs]
  | u :: r, i => by
    simp only [am_prs, List.mem_append]
    rw [am_prs_mem r (i + 1)]
    constructor
    · rintro (h | ⟨j, v, h1, h2, h3⟩)
      · by_cases hu : u = .null
        · simp [hu] at h
        · rw [if_neg hu] at h
          exact ⟨0, u, rfl, hu, by simpa using h⟩
      · exact ⟨j + 1, v, by simpa using h1, h2, by rw [h3]; congr 1; omega⟩
    · rintro ⟨j, v, h1, h2, h3⟩
      cases j with
      | zero =>
        simp at h1
        subst h1
        left
        rw [if_neg h2]
        simpa using h3
      | succ j => exact Or.inr ⟨j, v, by simpa using h1, h2, by rw [h3]; congr 1; omega⟩
def am_st (i : Nat) (v : Value) : Nat → List Value → List Value
  | _, [] => []
  | j, u :: r => (if j = i then v else if (j + 1 = i ∧ u.category = 2) ∨ (v.category = 2 ∧ j = i + 1) then .null else u) :: am_st i v (j + 1) r
theorem am_st_len (i : Nat) (v : Value) : ∀ (l : List Value) (j : Nat), (am_st i v j l).length = l.length
  | [], _ => rfl
  | _ :: r, j => by simp [am_st, am_st_len i v r (j + 1)]
theorem am_st_get (i : Nat) (v : Value) : ∀ (l : List Value) (j k : Nat), (am_st i v j l)[k]? = (l[k]?).map (fun u => if j + k = i then v else if (j + k + 1 = i ∧ u.category = 2) ∨ (v.category = 2 ∧ j + k = i + 1) then .null else u)
  | [], _, _ => by simp [am_st]
  | u :: r, j, k => by
    cases k with
    | zero => simp [am_st]
    | succ k =>
      simp only [am_st, List.getElem?_cons_succ]
      rw [am_st_get i v r (j + 1) k, show j + 1 + k = j + (k + 1) by omega]
def am_lv (ad : Nat → Nat) (ls : Array Slot) (nL : Nat) (lv : List Value) : Prop := lv.length = nL ∧ lv_has ls nL (am_prs ad 0 lv)
theorem am_lv_at {ad : Nat → Nat} {ls : Array Slot} {nL : Nat} {lv : List Value} (h : am_lv ad ls nL lv) {k : Nat} {v : Value} (hk : lv[k]? = some v) (hv : v ≠ .null) : ls[k]? = some (.val (am_cv ad v)) :=
  h.2.2.2 (k, am_cv ad v) ((am_prs_mem lv 0).mpr ⟨k, v, hk, hv, by rw [Nat.zero_add]⟩)
theorem am_lv_set {ad : Nat → Nat} {ls : Array Slot} {nL : Nat} {lv : List Value} {l' : List (Nat × Value)} {i : Nat} {v : Value} (h0 : lv.length = nL) (h : lv_has ls nL l')
    (hin : ∀ x, x ∈ am_prs ad 0 (am_st i v 0 lv) → x ∈ l') : am_lv ad ls nL (am_st i v 0 lv) := ⟨by rw [am_st_len]; exact h0, h.1, h.2.1, fun q hq => h.2.2 q (hin q hq)⟩
theorem am_in1 {ad : Nat → Nat} {lv : List Value} {i : Nat} {v : Value} (hv : v ≠ .null) (hc : v.category = 1) : ∀ x, x ∈ am_prs ad 0 (am_st i v 0 lv) → x ∈ (i, am_cv ad v) :: (am_prs ad 0 lv).filter (fun q => !(q.1 == i) && !(q.1 + 1 == i && q.2.category == 2)) := by
  intro x hx
  obtain ⟨k, w, h1, h2, h3⟩ := (am_prs_mem _ 0).mp hx
  rw [am_st_get, Nat.zero_add] at h1
  obtain ⟨u, hu, hw⟩ := Option.map_eq_some_iff.mp h1
  rw [Nat.zero_add] at h3
  by_cases e : k = i
  · subst e
    rw [if_pos rfl] at hw
    subst hw
    rw [h3]
    exact List.mem_cons_self
  · rw [if_neg e] at hw
    by_cases e2 : (k + 1 = i ∧ u.category = 2) ∨ (v.category = 2 ∧ k = i + 1)
    · rw [if_pos e2] at hw
      exact absurd hw.symm h2
    · rw [if_neg e2] at hw
      subst hw
      refine List.mem_cons_of_mem _ (List.mem_filter.mpr ⟨(am_prs_mem lv 0).mpr ⟨k, u, hu, h2, by rw [h3, Nat.zero_add]⟩, ?_⟩)
      rw [h3]
      have e3 : ¬ (k + 1 = i ∧ u.category = 2) := fun q => e2 (Or.inl q)
      have := am_cv_cat ad u
      simp only [Bool.and_eq_true, Bool.not_eq_true', beq_eq_false_iff_ne, ne_eq]
      refine ⟨e, ?_⟩
      simp only [this, Bool.and_eq_false_iff, beq_eq_false_iff_ne, ne_eq]
      by_cases q : k + 1 = i
      · exact Or.inr (fun z => e3 ⟨q, z⟩)
      · exact Or.inl q
theorem am_in2 {ad : Nat → Nat} {lv : List Value} {i : Nat} {v : Value} (hv : v ≠ .null) (hc : v.category = 2) : ∀ x, x ∈ am_prs ad 0 (am_st i v 0 lv) → x ∈ (i, am_cv ad v) :: (am_prs ad 0 lv).filter (fun q => !(q.1 == i) && (!(q.1 == i + 1) && !(q.1 + 1 == i && q.2.category == 2))) := by
  intro x hx
  obtain ⟨k, w, h1, h2, h3⟩ := (am_prs_mem _ 0).mp hx
  rw [am_st_get, Nat.zero_add] at h1
  obtain ⟨u, hu, hw⟩ := Option.map_eq_some_iff.mp h1
  rw [Nat.zero_add] at h3
  by_cases e : k = i
  · subst e
    rw [if_pos rfl] at hw
    subst hw
    rw [h3]
    exact List.mem_cons_self
  · rw [if_neg e] at hw
    by_cases e2 : (k + 1 = i ∧ u.category = 2) ∨ (v.category = 2 ∧ k = i + 1)
    · rw [if_pos e2] at hw
      exact absurd hw.symm h2
    · rw [if_neg e2] at hw
      subst hw
      refine List.mem_cons_of_mem _ (List.mem_filter.mpr ⟨(am_prs_mem lv 0).mpr ⟨k, u, hu, h2, by rw [h3, Nat.zero_add]⟩, ?_⟩)
      rw [h3]
      have e3 : ¬ (k + 1 = i ∧ u.category = 2) := fun q => e2 (Or.inl q)
      have e4 : ¬ k = i + 1 := fun q => e2 (Or.inr ⟨hc, q⟩)
      have := am_cv_cat ad u
      simp only [Bool.and_eq_true, Bool.not_eq_true', beq_eq_false_iff_ne, ne_eq]
      refine ⟨e, e4, ?_⟩
      simp only [this, Bool.and_eq_false_iff, beq_eq_false_iff_ne, ne_eq]
      by_cases q : k + 1 = i
      · exact Or.inr (fun z => e3 ⟨q, z⟩)
      · exact Or.inl q
/-- the locals with which a method begins -/
def am_en : List Value → List Value
  | [] => []
  | v :: r => if v.category = 2 then v :: .null :: am_en r else v :: am_en r
def am_ent (nL : Nat) (as : List Value) : List Value := am_en as ++ List.replicate (nL - (am_en as).length) .null
theorem am_en_len (ad : Nat → Nat) : ∀ as : List Value, (lg_sl (as.map (am_cv ad))).length = (am_en as).length
  | [] => rfl
  | v :: r => by
    have ih := am_en_len ad r
    simp only [lg_sl] at ih
    by_cases h : v.category = 2
    · simp [lg_sl, am_en, am_cv_cat, h, ih]
    · simp [lg_sl, am_en, am_cv_cat, h, ih]
theorem am_en_args {ad : Nat → Nat} : ∀ (as : List Value) (i j : Nat) (v : Value), (am_en as)[j]? = some v → v ≠ .null → (i + j, am_cv ad v) ∈ lv_args i (as.map (am_cv ad))
  | [], i, j, v, h, _ => by simp [am_en] at h
  | u :: r, i, j, v, h, hv => by
    by_cases hc : u.category = 2
    · simp only [am_en, hc, if_true] at h
      simp only [List.map_cons, lv_args, am_cv_cat, hc, if_true]
      match j, h with
      | 0, h => simp at h; subst h; exact List.mem_cons_self
      | 1, h => simp at h; exact absurd h.symm hv
      | j + 2, h =>
        have := am_en_args (ad := ad) r (i + 2) j v (by simpa using h) hv
        rw [show i + 2 + j = i + (j + 2) by omega] at this
        exact List.mem_cons_of_mem _ this
    · simp only [am_en, hc, if_false] at h
      simp only [List.map_cons, lv_args, am_cv_cat, hc, if_false]
      match j, h with
      | 0, h => simp at h; subst h; exact List.mem_cons_self
      | j + 1, h =>
        have := am_en_args (ad := ad) r (i + 1) j v (by simpa using h) hv
        rw [show i + 1 + j = i + (j + 1) by omega] at this
        exact List.mem_cons_of_mem _ this
theorem am_lv_entry {ad : Nat → Nat} {nL : Nat} {as : List Value} (h : (am_en as).length ≤ nL) : am_lv ad ((lg_sl (as.map (am_cv ad)) ++ List.replicate (nL - (lg_sl (as.map (am_cv ad))).length) Slot.unset).toArray) nL (am_ent nL as) := by
  have h0 := lv_entry (as.map (am_cv ad)) (n := nL) (by rw [am_en_len]; exact h)
  refine ⟨by simp [am_ent]; omega, h0.1, h0.2.1, fun q hq => h0.2.2 q ?_⟩
  obtain ⟨j, v, h1, h2, h3⟩ := (am_prs_mem _ 0).mp hq
  rw [h3]
  unfold am_ent at h1
  by_cases hj : j < (am_en as).length
  · rw [List.getElem?_append_left hj] at h1
    exact am_en_args as 0 j v h1 h2
  · rw [List.getElem?_append_right (by omega)] at h1
    exact absurd (List.eq_of_mem_replicate (List.mem_of_getElem? h1)) h2
