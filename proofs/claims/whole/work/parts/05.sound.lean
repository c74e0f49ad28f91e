/-! the JVM does what the abstract machine does: one step -/
theorem am_lays : ∀ ci, ci < 12 → ∀ w ∈ u_ws (am_R ci) (am_T ci) (am_nf ci), w ∈ am_TB := by
  intro ci hci w hw
  obtain ⟨k, hk, rfl⟩ := List.mem_map.mp hw
  have h : ∀ ci, ci < 12 → ∀ k, k < am_nf ci → am_WC.any (fun e => decide (e = (11, ci, k, 0))) = true := by decide +kernel
  obtain ⟨e, he, h2⟩ := List.any_eq_true.mp (h ci hci k (List.mem_range.mp hk))
  rw [of_decide_eq_true h2] at he
  exact List.mem_map.mpr ⟨(11, ci, k, 0), he, rfl⟩
theorem am_ty_ok : ∀ ci, ci < 12 → ∀ k, k < am_nf ci → parseFieldDescriptor (am_T ci k).2.2.1 = some (am_tyq ci k) := by decide +kernel
theorem am_nm_ok : ∀ ci, ci < 12 → ∀ a, a < am_nf ci → ∀ b, b < am_nf ci → a ≠ b → (am_T ci a).2.1 ≠ (am_T ci b).2.1 := by
  intro ci hci
  rcases (show ci = 0 ∨ ci = 1 ∨ ci = 2 ∨ ci = 3 ∨ ci = 4 ∨ ci = 5 ∨ ci = 6 ∨ ci = 7 ∨ ci = 8 ∨ ci = 9 ∨ ci = 10 ∨ ci = 11 by omega) with rfl | rfl | rfl | rfl | rfl | rfl | rfl | rfl | rfl | rfl | rfl | rfl
  · exact nmX0
  · exact nmX1
  · exact nmX2
  · exact nmX3
  · exact nmX4
  · exact nmX5
  · exact nmX6
  · exact nmX7
  · exact nmX8
  · exact nmX9
  · exact nmX10
  · exact nmX11
theorem am_wm {e : Nat × Nat × Nat × Nat} (h : e ∈ am_WC) : am_word e ∈ am_TB := List.mem_map_of_mem h
theorem am_math : (Cond.static Lib.Math.abs.name ∈ am_TB ∧ Cond.static Lib.Math.min.name ∈ am_TB ∧ Cond.static Lib.Math.max.name ∈ am_TB ∧ Cond.static Lib.MathLoose.min_long.x ∈ am_TB ∧ Cond.static arraycopyName ∈ am_TB) ∧ Cond.native arraycopyName ∈ am_TB ∧ Cond.initialized "java/lang/Math" ∈ am_TB ∧ Cond.initialized "java/lang/System" ∈ am_TB :=
  ⟨⟨am_wm (e := (12, 0, 0, 0)) (by decide +kernel), am_wm (e := (12, 1, 0, 0)) (by decide +kernel), am_wm (e := (12, 2, 0, 0)) (by decide +kernel), am_wm (e := (12, 3, 0, 0)) (by decide +kernel), am_wm (e := (12, 4, 0, 0)) (by decide +kernel)⟩, am_wm (e := (13, 0, 0, 0)) (by decide +kernel), am_wm (e := (8, 13, 0, 0)) (by decide +kernel), am_wm (e := (8, 16, 0, 0)) (by decide +kernel)⟩
theorem am_mcode : Cond.code Lib.Math.abs.name Lib.Math.abs.code 1 (some .int) ∈ am_TB ∧ Cond.code Lib.Math.min.name Lib.Math.min.code 2 (some .int) ∈ am_TB ∧ Cond.code Lib.Math.max.name Lib.Math.max.code 2 (some .int) ∈ am_TB ∧ Cond.code Lib.MathLoose.min_long.x Lib.MathLoose.min_long.code 4 (some .long) ∈ am_TB :=
  ⟨am_wm (e := (15, 0, 0, 0)) (by decide +kernel), am_wm (e := (15, 1, 0, 0)) (by decide +kernel), am_wm (e := (15, 2, 0, 0)) (by decide +kernel), am_wm (e := (15, 3, 0, 0)) (by decide +kernel)⟩
theorem am_sw_eq (d x : Int) : ∀ ps : List (Int × Int), Op.lookupswitch.offset ps d x = am_sw ps d x
  | [] => rfl
  | (a, o) :: r => by
    rw [Op.lookupswitch.offset_cons, am_sw_eq d x r]
    simp only [am_sw, eq_comm]
theorem am_sw_shift (c d x : Int) : ∀ ps : List (Int × Int), am_sw (ps.map (fun q => (q.1, c + q.2))) (c + d) x = c + am_sw ps d x
  | [] => rfl
  | (a, o) :: r => by
    simp only [List.map_cons, am_sw]
    split
    · rfl
    · exact am_sw_shift c d x r
theorem am_sw_pos {d x : Int} (hd : 0 ≤ d) : ∀ ps : List (Int × Int), (∀ q ∈ ps, 0 ≤ q.2) → 0 ≤ am_sw ps d x
  | [], _ => hd
  | (a, o) :: r, h => by
    simp only [am_sw]
    split
    · exact h (a, o) List.mem_cons_self
    · exact am_sw_pos hd r (fun q hq => h q (List.mem_cons_of_mem _ hq))
section SND
variable {p : Program} {l : Launch} {e : Env} {R : Room} {s : State} {m : MethodId} {args : Array Value} {below : List Frame} {meth : Method} {c : Code} {Q0 : State → Prop} {G : Am_G} {cells slots nL : Nat} {cc : ByteArray} {o : Nat}
/-- from this place of the abstract machine the JVM comes to Q0 -/
def am_V (p : Program) (l : Launch) (e : Env) (R : Room) (s : State) (m : MethodId) (args : Array Value) (below : List Frame) (meth : Method) (c : Code) (Q0 : State → Prop) (G : Am_G) (cells slots nL : Nat) (pc : Nat) (lv st : List Value) (M : Am_M) : Prop :=
  ∀ (H : Heap) (locs : List Loc) (ls : Array Slot), am_lv (am_ad G) ls nL lv → va_P (am_D G) vwCl (am_W G M) H → va_D (am_A G) (am_W G M) → va_S (am_A G) s.heap H locs → W p l e R s m args below meth c H locs cells slots Q0 (F0 m pc ls (st.map (am_cv (am_ad G))))
/-- what holds of a frame -/
def am_Fr (p : Program) (s : State) (m : MethodId) (args : Array Value) (c : Code) (cc : ByteArray) (o : Nat) (G : Am_G) (nL : Nat) : Prop :=
  p.tables.exec = Jvm.exec ∧ c.code = cc ∧ c.maxLocals = nL ∧ s.vm.findClass (am_own o) = some m.cls ∧ (∀ w ∈ am_TB, w.before args s = true) ∧ va_K (am_D G) vwCl (am_tys (am_cA G)) s ∧ am_St G s s.heap
def am_mok (j : Nat) : Prop :=
  ((am_mt j).2.2.2.2.2.1 = false → Cond.instanceMethod (am_mt j).2.1 ∈ am_TB ∧ Cond.selects (am_mt j).2.1.cls (am_mt j).2.1 (am_mt j).2.1 ∈ am_TB ∧ (am_mt j).1 < 12 ∧ (am_mt j).2.1.cls = am_R (am_mt j).1) ∧ ((am_mt j).2.2.2.2.2.1 = true → Cond.static (am_mt j).2.1 ∈ am_TB) ∧
  Cond.initialized (am_mt j).2.1.cls ∈ am_TB ∧ Cond.code (am_mt j).2.1 (am_mt j).2.2.1 (am_mt j).2.2.2.1 (am_mt j).2.2.2.2.1 ∈ am_TB ∧ ((am_mt j).2.1.cls ≠ "java/lang/invoke/MethodHandle" ∧ (am_mt j).2.1.cls ≠ "java/lang/invoke/VarHandle") ∧
  (parseMethodDescriptor (am_mt j).2.1.desc).map (fun d => d.parameters.length) = some (am_mt j).2.2.2.2.2.2.1 ∧ (am_mt j).2.2.2.1 ≤ 20 ∧ plainFor (am_mt j).2.1 = true
def am_wsm (j : Nat) : List Cond := Cond.code (am_mt j).2.1 (am_mt j).2.2.1 (am_mt j).2.2.2.1 (am_mt j).2.2.2.2.1 :: am_TB
theorem am_wsm_good {j : Nat} (h : am_mok j) : GoodIn am_TB (am_wsm j) := by
  intro w hw
  have hm : w ∈ am_TB := by
    rcases List.mem_cons.mp hw with e | e
    · rw [e]; exact h.2.2.2.1
    · exact e
  exact ⟨hm, Or.inl (am_TB_good w hm)⟩
def am_Qc (G : Am_G) (v : Option Value) (M' : Am_M) : Array Value → State → Outcome → State → Prop := fun _ st oc t => (oc = .returned (v.map (am_cv (am_ad G))) ∧ am_Wd G M' t) ∧ va_F (am_A G) st t
def am_Mt (l : Launch) (G : Am_G) (rm : Room) (j : Nat) (as : List Value) (M : Am_M) (v : Option Value) (M' : Am_M) : Prop :=
  Met l (am_mt j).2.1 (am_wsm j) rm (va_Pc (as.map (am_cv (am_ad G))) (am_Wd G M)) (am_Qc G v M') 0 0 (am_A G)
theorem am_callg {v0 : Option Value} {M' : Am_M} {a : Array Value} {H : Heap} {locs : List Loc} {pc : Nat} {ls : Array Slot} {st0 rest : List Value} (hr : va_Run p l e R s m args below meth c H locs cells slots 0 0 (F0 m pc ls st0) rest (am_Qc G v0 M' a) (am_A G)) (hS : va_S (am_A G) s.heap H locs)
    (kk : ∀ (H1 : Heap) (locs1 : List Loc), va_P (am_D G) vwCl (am_W G M') H1 → va_D (am_A G) (am_W G M') → va_S (am_A G) s.heap H1 locs1 → W p l e R s m args below meth c H1 locs1 cells slots Q0 (F0 m (pc + 3) ls ((v0.map (am_cv (am_ad G))).toList ++ rest))) : W p l e R s m args below meth c H locs cells slots Q0 (F0 m pc ls st0) := by
  intro T hT X
  obtain ⟨v, st₀, t, T', L, h0, X', hL, e1, e2, ⟨⟨hv, hP, -, hD, -⟩, hz, hk⟩, st⟩ := hr T hT X
  cases hv
  rw [h0] at hz hk
  obtain ⟨t2, a1, b1⟩ := kk T'.heap (locs ++ L) (by rw [e1]; exact hP) hD
    ⟨Nat.le_trans hS.1 (by rw [e1]; exact hz), fun q h1 h2 => by rw [e1, hk q (Nat.lt_of_lt_of_le h1 hS.1) h2]; exact hS.2.1 q h1 h2, fun q hq => by
      rcases List.mem_append.mp hq with h | h
      · exact hS.2.2 q h
      · exact hL q h⟩ T' rfl X'
  exact ⟨t2, st t2 a1, b1⟩
theorem am_Wd_blind {G : Am_G} {av : List Value} {M : Am_M} : FrameBlind (va_Pc av (am_Wd G M)) := fun _ U _ _ q => ⟨q.1, q.2.1, va_K.moved (u := U) (Vm.Alike.refl U.vm) q.2.2.1, q.2.2.2.1, am_St.moved (u := U) (Vm.Alike.refl U.vm) q.2.2.2.2⟩
theorem am_Wd_at {M : Am_M} {H : Heap} {locs : List Loc} {U : State} (hK : va_K (am_D G) vwCl (am_tys (am_cA G)) s) (hSt : am_St G s s.heap) (hP : va_P (am_D G) vwCl (am_W G M) H) (hD : va_D (am_A G) (am_W G M)) (hS : va_S (am_A G) s.heap H locs) (hU : U.heap = H) (hW : s.WarmedH U.vm) : am_Wd G M U := by
  refine ⟨by rw [hU]; exact hP, va_K.moved hW.alike hK, hD, ?_⟩
  rw [hU]
  exact (hSt.moved hW.alike).kept hS.1 hS.2.1
theorem am_obj {q ci : Nat} {M : Am_M} (h : am_shp q = (3, ci)) (hq : q < am_K) : (am_W G M)[q]? = some (am_ad G q, .inr (ci, (List.range (am_nf ci)).map (fun k => am_cv (am_ad G) (am_fv q k M)))) := by
  have := am_ws_get (ad := am_ad G) (cA := am_cA G) (M := M) hq
  unfold am_e at this
  rw [h] at this
  exact this
theorem am_ari {q n : Nat} {M : Am_M} (h : am_shp q = (0, n)) (hq : q < am_K) : (am_W G M)[q]? = some (am_ad G q, .inl (am_cA G 0, n, .inl (M.1 q))) := by
  have := am_ws_get (ad := am_ad G) (cA := am_cA G) (M := M) hq
  unfold am_e at this
  rw [h] at this
  exact this
theorem am_arl {q n : Nat} {M : Am_M} (h : am_shp q = (1, n)) (hq : q < am_K) : (am_W G M)[q]? = some (am_ad G q, .inl (am_cA G 1, n, .inr (.inl (M.2 q)))) := by
  have := am_ws_get (ad := am_ad G) (cA := am_cA G) (M := M) hq
  unfold am_e at this
  rw [h] at this
  exact this
theorem am_arr2 {q n : Nat} {M : Am_M} (h : am_shp q = (2, n)) (hq : q < am_K) : (am_W G M)[q]? = some (am_ad G q, .inl (am_cA G 2, n, .inr (.inr (.inr (.inr (fun i => if i < n then some (am_ad G (am_rb q + i)) else none)))))) := by
  have := am_ws_get (ad := am_ad G) (cA := am_cA G) (M := M) hq
  unfold am_e at this
  rw [h] at this
  exact this
theorem am_arr4 {q n : Nat} {M : Am_M} (h : am_shp q = (4, n)) (hq : q < am_K) : (am_W G M)[q]? = some (am_ad G q, .inl (am_cA G 3, n, .inr (.inr (.inr (.inr (fun i => if i < n then some (am_ad G (am_rb q + i)) else none)))))) := by
  have := am_ws_get (ad := am_ad G) (cA := am_cA G) (M := M) hq
  unfold am_e at this
  rw [h] at this
  exact this
theorem am_shp_e {q a : Nat} (h : (am_shp q).1 = a) : am_shp q = (a, (am_shp q).2) := by rw [← h]
theorem am_W_putI {q n i : Nat} {x : Int32} {M : Am_M} (h : am_shp q = (0, n)) : (am_W G M).set q (am_ad G q, .inl (am_cA G 0, n, .inl (upd (M.1 q) i x))) = am_W G (am_upI M q i x) := by
  have h2 : am_e (am_ad G) (am_cA G) q (am_upI M q i x) = .inl (am_cA G 0, n, .inl (upd (M.1 q) i x)) := by
    unfold am_e
    rw [h]
    show (Sum.inl (am_cA G 0, n, .inl ((am_upI M q i x).1 q)) : va_E) = _
    congr 4
    funext j
    simp [am_upI, upd]
  rw [← h2]
  exact am_ws_set (fun k hk => ⟨by funext j; simp [am_upI, hk], rfl⟩)
theorem am_W_putL {q n i : Nat} {x : Int64} {M : Am_M} (h : am_shp q = (1, n)) : (am_W G M).set q (am_ad G q, .inl (am_cA G 1, n, .inr (.inl (vp_updL (M.2 q) i x)))) = am_W G (am_upL M q i x) := by
  have h2 : am_e (am_ad G) (am_cA G) q (am_upL M q i x) = .inl (am_cA G 1, n, .inr (.inl (vp_updL (M.2 q) i x))) := by
    unfold am_e
    rw [h]
    show (Sum.inl (am_cA G 1, n, .inr (.inl ((am_upL M q i x).2 q))) : va_E) = _
    congr 5
    funext j
    simp [am_upL, vp_updL]
  rw [← h2]
  exact am_ws_set (fun k hk => ⟨rfl, by funext j; simp [am_upL, hk]⟩)
theorem am_W_cpL {q n q0 sp dp k : Nat} {M : Am_M} (h : am_shp q = (1, n)) : (am_W G M).set q (am_ad G q, .inl (am_cA G 1, n, .inr (.inl (va_cpy (M.2 q0) (M.2 q) sp dp k)))) = am_W G (am_cpL M q0 q sp dp k) := by
  have h2 : am_e (am_ad G) (am_cA G) q (am_cpL M q0 q sp dp k) = .inl (am_cA G 1, n, .inr (.inl (va_cpy (M.2 q0) (M.2 q) sp dp k))) := by
    unfold am_e
    rw [h]
    show (Sum.inl (am_cA G 1, n, .inr (.inl ((am_cpL M q0 q sp dp k).2 q))) : va_E) = _
    simp [am_cpL]
  rw [← h2]
  exact am_ws_set (fun j hj => ⟨rfl, by simp [am_cpL, hj]⟩)
theorem am_W_putF {q ci f : Nat} {x : Int32} {M : Am_M} (h : am_shp q = (3, ci)) (hr : am_rt q f = 0) (hf : f < am_nf ci) : (am_W G M).set q (am_ad G q, .inr (ci, ((List.range (am_nf ci)).map (fun k => am_cv (am_ad G) (am_fv q k M))).set f (.int x))) = am_W G (am_upI M q f x) := by
  have h2 : am_e (am_ad G) (am_cA G) q (am_upI M q f x) = .inr (ci, ((List.range (am_nf ci)).map (fun k => am_cv (am_ad G) (am_fv q k M))).set f (.int x)) := by
    unfold am_e
    rw [h]
    show (Sum.inr (ci, (List.range (am_nf ci)).map (fun k => am_cv (am_ad G) (am_fv q k (am_upI M q f x)))) : va_E) = _
    congr 2
    apply List.ext_getElem?
    intro j
    by_cases hj : j < am_nf ci
    · by_cases e : j = f
      · subst e
        rw [List.getElem?_set_self (by simpa using hj)]
        simp [hj, am_fv, hr, am_upI, am_cv]
      · rw [List.getElem?_set_ne (Ne.symm e)]
        simp [hj, am_fv, am_upI, e]
    · rw [List.getElem?_eq_none (by simp; omega), List.getElem?_eq_none (by simp; omega)]
  rw [← h2]
  exact am_ws_set (fun k hk => ⟨by funext j; simp [am_upI, hk], rfl⟩)
theorem am_parse_I {ty : FieldType} {x : Int32} (h : ty = .int ∨ ty = .boolean) (hz : ty = .boolean → x = 0 ∨ x = 1) : narrow ty (.int x) = .int x ∧ fits ty (.int x) = true := by
  rcases h with rfl | rfl
  · exact ⟨rfl, rfl⟩
  · rcases hz rfl with rfl | rfl <;> exact ⟨by decide +kernel, by decide +kernel⟩
end SND
