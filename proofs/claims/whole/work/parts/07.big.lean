/-! a run, a call of any depth: the JVM does what the abstract machine does -/
section RUN
variable {p : Program} {l : Launch} {e : Env} {R : Room} {s : State} {m : MethodId} {args : Array Value} {below : List Frame} {meth : Method} {c : Code} {Q0 : State → Prop} {G : Am_G} {cells slots nL : Nat} {cc : ByteArray} {o : Nat}
theorem am_run_ok {C : Am_C} {rm : Room} {rt : Nat} {rv : Option Value} {rM : Am_M} (F : am_Fr p s m args c cc o G nL)
    (hR : rm.cells = 0 ∧ rm.slots = 0 ∧ rm.frames + 1 ≤ R.frames ∧ 31 + 8 + rm.locals ≤ R.locals) (hcs : cells ≤ R.cells ∧ slots ≤ R.slots)
    (hC : ∀ j as M v M', C j as M v M' → am_mok j ∧ am_Mt l G rm j as M v M')
    (hfin : am_Hfin p l e R s m args below meth c cc Q0 G cells slots rt rv rM) {P : Am_p} (hck : am_chk o cc P = true) :
    ∀ (n pc : Nat) (lv st : List Value) (M : Am_M), am_run am_mt C (am_sL G) (am_xs G) (am_lk P) rt rv rM n pc lv st M → am_V p l e R s m args below meth c Q0 G cells slots nL pc lv st M := by
  intro n
  induction n with
  | zero => intro pc lv st M h; exact h.elim
  | succ n ih =>
    intro pc lv st M h
    unfold am_run at h
    split at h
    · exact h.elim
    · rename_i i len hlk
      obtain ⟨r, w, hd, hp⟩ := am_chk_at hck hlk
      exact am_step F hR hcs hC hfin hd hp ih h
end RUN
theorem am_ofW {l : Launch} {y : MethodName} {ws ws' : List Cond} {rm : Room} {Pc : Array Value → State → Prop} {Qc : Array Value → State → Outcome → State → Prop} {mc ms : Nat} {free : Addr → Prop} {cc : ByteArray} {maxL : Nat} {ret : Option FieldType}
    (hy : plainFor y = true) (hw : ws = Cond.code y cc maxL ret :: ws')
    (body : ∀ p e s m args below meth c s₁, BodyLoose p l y (headSpec ws rm) cc maxL ret e s m args below meth c s₁ → c.maxLocals = maxL → Pc args s →
      W p l e (headSpec ws rm).room s m args below meth c s.heap [] 0 0 (MQ below Qc args s mc ms free) (entryFrame m args maxL)) : Met l y ws rm Pc Qc mc ms free := by
  refine MetFree.of_bodySF (code := cc) (maxLocals := maxL) (ret := ret) hy ?_ ?_
  · intro args s m h hn
    obtain ⟨meth, c, h1, h2, h3, h4, h5, h6, -, -⟩ := Cond.code_spec hn (atoms_spec (ws := ws) h _ (by rw [hw]; exact List.mem_cons_self))
    exact ⟨meth, c, h1, h2, h3, h4, h5, h6⟩
  · intro p e s m args below meth c s₁ B hml hP _
    have hh0 : s₁.heap = s.heap := by rw [B.state]; rfl
    obtain ⟨t, a1, o, b1, b2, b3⟩ := body p e s m args below meth c s₁ B hml hP s₁ hh0 (Stand.of_body B)
    exact ⟨t, o, a1, b1, b2, ⟨b3.1, b3.2⟩⟩
def am_rtc (ret : Option FieldType) : Nat := match ret with
  | none => 0
  | some .int => 1
  | some .boolean => 2
  | some .long => 3
  | _ => 9
/-- method j with these arguments from M gives v and M', at most d calls deep -/
def am_big (pg : Nat → Am_p) (NM sL : Nat) (xs : Nat → Int32) : Nat → Am_C
  | 0, _, _, _, _, _ => False
  | d + 1, j, as, M, v, M' => j < NM ∧ (am_en as).length ≤ (am_mt j).2.2.2.1 ∧ ∃ n, am_run am_mt (am_big pg NM sL xs d) sL xs (am_lk (pg j)) (am_rtc (am_mt j).2.2.2.2.1) v M' n 0 (am_ent (am_mt j).2.2.2.1 as) [] M
def am_room (d : Nat) : Room := { frames := d, cells := 0, slots := 0, locals := 40 * d }
theorem am_big_ok {l : Launch} {G : Am_G} {pg : Nat → Am_p} {NM : Nat} (hmok : ∀ j, j < NM → am_mok j) (hpg : ∀ j, j < NM → am_chk (am_mt j).1 (am_mt j).2.2.1 (pg j) = true) (hcl : ∀ j, j < NM → (am_mt j).2.1.cls = am_own (am_mt j).1) :
    ∀ (d j : Nat) (as : List Value) (M : Am_M) (v : Option Value) (M' : Am_M), am_big pg NM (am_sL G) (am_xs G) d j as M v M' → am_mok j ∧ am_Mt l G (am_room d) j as M v M' := by
  intro d
  induction d with
  | zero => intro j as M v M' h; exact h.elim
  | succ d ih =>
    intro j as M v M' h
    obtain ⟨hj, hlen, n, h⟩ := h
    refine ⟨hmok j hj, ?_⟩
    refine am_ofW (cc := (am_mt j).2.2.1) (maxL := (am_mt j).2.2.2.1) (ret := (am_mt j).2.2.2.2.1) (hmok j hj).2.2.2.2.2.2.2 rfl ?_
    intro p e s m args below meth c s₁ B hml hv
    obtain ⟨rfl, hP, hK, hD, hSt⟩ := hv
    have hts := atoms_spec (ws := am_wsm j) B.pre
    have hts' : ∀ w ∈ am_TB, w.before ((as.map (am_cv (am_ad G))).toArray) s = true := fun w hw => hts w (List.mem_cons_of_mem _ hw)
    have hown : s.vm.findClass (am_own (am_mt j).1) = some m.cls := by rw [← hcl j hj]; exact findClass_of_methodNamed B.named
    have hlocks := B.notSynchronized
    have hr := B.returns
    rw [lg_entry_eq]
    refine am_run_ok (cells := 0) (slots := 0) (R := am_room (d + 1)) (rm := am_room d) ⟨B.exec, B.bytes, hml, hown, hts', hK, hSt⟩ ⟨rfl, rfl, Nat.le_refl _, by simp only [am_room]; omega⟩ ⟨Nat.zero_le _, Nat.zero_le _⟩ ih ?_ (hpg j hj) n 0 _ [] M h s.heap [] _ (am_lv_entry hlen) hP hD va_S.rf
    intro H locs ls pc i st hd hf hP1 hD1 hS1
    have hW : ∀ t : State, t.heap = H → s.WarmedH t.vm → am_Wd G M' t ∧ va_F (am_A G) s t := fun t ht hw => ⟨am_Wd_at hK hSt hP1 hD1 hS1 ht hw, hS1.F ht⟩
    unfold am_fin at hf
    split at hf
    · obtain ⟨x, rfl, rfl, hrt⟩ := hf
      generalize (am_mt j).2.2.2.2.1 = ret at hr hrt
      unfold am_rtc at hrt
      split at hrt
      · omega
      · exact W.iret B.exec B.bytes hr (fun t ht hw => ⟨⟨rfl, (hW t ht hw).1⟩, (hW t ht hw).2⟩) hS1.2.2 hd
      · refine W.zret B.exec B.bytes hr ?_ (fun t ht hw => ⟨⟨rfl, (hW t ht hw).1⟩, (hW t ht hw).2⟩) hS1.2.2 hd
        rcases hrt with hrt | ⟨-, hrt⟩
        · omega
        · rcases hrt with rfl | rfl <;> decide +kernel
      · omega
      · omega
    · obtain ⟨x, rfl, rfl, hrt⟩ := hf
      generalize (am_mt j).2.2.2.2.1 = ret at hr hrt
      unfold am_rtc at hrt
      split at hrt
      · omega
      · omega
      · omega
      · exact W.lret B.exec B.bytes hr (fun t ht hw => ⟨⟨rfl, (hW t ht hw).1⟩, (hW t ht hw).2⟩) hS1.2.2 hd
      · omega
    · obtain ⟨rfl, rfl, hrt⟩ := hf
      generalize (am_mt j).2.2.2.2.1 = ret at hr hrt
      unfold am_rtc at hrt
      split at hrt
      · exact W.vret B.exec B.bytes hr (fun t ht hw => ⟨⟨rfl, (hW t ht hw).1⟩, (hW t ht hw).2⟩) hS1.2.2 hd
      · omega
      · omega
      · omega
      · omega
    · exact hf.elim
