set_option maxRecDepth 100000 in
set_option maxHeartbeats 4000000 in
theorem am_ck10 : am_ok2 200 am_mt10 am_pg10 = true := by decide +kernel
set_option maxRecDepth 100000 in
set_option maxHeartbeats 4000000 in
theorem am_ck11 : am_ok2 220 am_mt11 am_pg11 = true := by decide +kernel
set_option maxRecDepth 100000 in
set_option maxHeartbeats 4000000 in
theorem am_ck12 : am_ok2 240 am_mt12 am_pg12 = true := by decide +kernel
set_option maxRecDepth 100000 in
set_option maxHeartbeats 4000000 in
theorem am_ck13 : am_ok2 260 am_mt13 am_pg13 = true := by decide +kernel
theorem am_ckA : am_ok2 0 am_mtL am_pgL = true := am_ok2_app am_ck0 rfl (am_ok2_app am_ck1 rfl (am_ok2_app am_ck2 rfl (am_ok2_app am_ck3 rfl (am_ok2_app am_ck4 rfl (am_ok2_app am_ck5 rfl (am_ok2_app am_ck6 rfl (am_ok2_app am_ck7 rfl (am_ok2_app am_ck8 rfl (am_ok2_app am_ck9 rfl (am_ok2_app am_ck10 rfl (am_ok2_app am_ck11 rfl (am_ok2_app am_ck12 rfl (am_ck13)))))))))))))
theorem am_NM_len : am_mtL.length = am_NM := by decide +kernel
theorem am_at1 {j : Nat} (hj : j < am_NM) : am_mokB j (am_mt j) = true ∧ am_chk (am_mt j).1 (am_mt j).2.2.1 (am_pg j) = true := by
  have h := am_ok2_at am_ckA (j := j) (dq := (99, yL_law, cL_law, 0, none, false, 0, [])) (dp := []) (by rw [am_NM_len]; exact hj)
  rw [Nat.zero_add] at h
  unfold am_ok1 at h
  rw [Bool.and_eq_true] at h
  exact h
theorem am_own_ok : ∀ o, o < 16 → am_own o ≠ "java/lang/invoke/MethodHandle" ∧ am_own o ≠ "java/lang/invoke/VarHandle" ∧ (plainName (am_own o) = true ∨ o = 13) := by decide +kernel
theorem am_floorMod_ok : plainFor (am_mt 261).2.1 = true := by decide +kernel
theorem am_only13 : ∀ j, j < am_NM → (am_mt j).1 = 13 → j = 261 := by decide +kernel
set_option maxRecDepth 20000 in
theorem am_cls0 : am_mt0.map (fun q => q.2.1.cls) = am_mt0.map (fun q => am_own q.1) := rfl
set_option maxRecDepth 20000 in
theorem am_cls1 : am_mt1.map (fun q => q.2.1.cls) = am_mt1.map (fun q => am_own q.1) := rfl
set_option maxRecDepth 20000 in
theorem am_cls2 : am_mt2.map (fun q => q.2.1.cls) = am_mt2.map (fun q => am_own q.1) := rfl
set_option maxRecDepth 20000 in
theorem am_cls3 : am_mt3.map (fun q => q.2.1.cls) = am_mt3.map (fun q => am_own q.1) := rfl
set_option maxRecDepth 20000 in
theorem am_cls4 : am_mt4.map (fun q => q.2.1.cls) = am_mt4.map (fun q => am_own q.1) := rfl
set_option maxRecDepth 20000 in
theorem am_cls5 : am_mt5.map (fun q => q.2.1.cls) = am_mt5.map (fun q => am_own q.1) := rfl
set_option maxRecDepth 20000 in
theorem am_cls6 : am_mt6.map (fun q => q.2.1.cls) = am_mt6.map (fun q => am_own q.1) := rfl
set_option maxRecDepth 20000 in
theorem am_cls7 : am_mt7.map (fun q => q.2.1.cls) = am_mt7.map (fun q => am_own q.1) := rfl
set_option maxRecDepth 20000 in
theorem am_cls8 : am_mt8.map (fun q => q.2.1.cls) = am_mt8.map (fun q => am_own q.1) := rfl
set_option maxRecDepth 20000 in
theorem am_cls9 : am_mt9.map (fun q => q.2.1.cls) = am_mt9.map (fun q => am_own q.1) := rfl
set_option maxRecDepth 20000 in
theorem am_cls10 : am_mt10.map (fun q => q.2.1.cls) = am_mt10.map (fun q => am_own q.1) := rfl
set_option maxRecDepth 20000 in
theorem am_cls11 : am_mt11.map (fun q => q.2.1.cls) = am_mt11.map (fun q => am_own q.1) := rfl
set_option maxRecDepth 20000 in
theorem am_cls12 : am_mt12.map (fun q => q.2.1.cls) = am_mt12.map (fun q => am_own q.1) := rfl
set_option maxRecDepth 20000 in
theorem am_cls13 : am_mt13.map (fun q => q.2.1.cls) = am_mt13.map (fun q => am_own q.1) := rfl
theorem am_map_app {a b : List Am_m} (h : a.map (fun q => q.2.1.cls) = a.map (fun q => am_own q.1)) (h2 : b.map (fun q => q.2.1.cls) = b.map (fun q => am_own q.1)) : (a ++ b).map (fun q => q.2.1.cls) = (a ++ b).map (fun q => am_own q.1) := by rw [List.map_append, List.map_append, h, h2]
theorem am_clsL : am_mtL.map (fun q => q.2.1.cls) = am_mtL.map (fun q => am_own q.1) := am_map_app am_cls0 (am_map_app am_cls1 (am_map_app am_cls2 (am_map_app am_cls3 (am_map_app am_cls4 (am_map_app am_cls5 (am_map_app am_cls6 (am_map_app am_cls7 (am_map_app am_cls8 (am_map_app am_cls9 (am_map_app am_cls10 (am_map_app am_cls11 (am_map_app am_cls12 am_cls13))))))))))))
theorem am_hcl : ∀ j, j < am_NM → (am_mt j).2.1.cls = am_own (am_mt j).1 := by
  intro j hj
  have h := congrArg (fun l : List String => l[j]?) am_clsL
  rw [List.getElem?_map, List.getElem?_map] at h
  unfold am_mt
  rw [List.getD_eq_getElem?_getD]
  rw [List.getElem?_eq_getElem (show j < am_mtL.length by rw [am_NM_len]; exact hj)] at h ⊢
  exact Option.some.inj h
theorem am_all_app {α : Type} {f : α → Bool} {a b : List α} (h : a.all f = true) (h2 : b.all f = true) : (a ++ b).all f = true := by rw [List.all_append, h, h2]; rfl
theorem am_ps0 : am_mt0.all (fun q => decide ((parseMethodDescriptor q.2.1.desc).map (fun d => d.parameters.length) = some q.2.2.2.2.2.2.1)) = true := by decide +kernel
theorem am_ps1 : am_mt1.all (fun q => decide ((parseMethodDescriptor q.2.1.desc).map (fun d => d.parameters.length) = some q.2.2.2.2.2.2.1)) = true := by decide +kernel
theorem am_ps2 : am_mt2.all (fun q => decide ((parseMethodDescriptor q.2.1.desc).map (fun d => d.parameters.length) = some q.2.2.2.2.2.2.1)) = true := by decide +kernel
theorem am_ps3 : am_mt3.all (fun q => decide ((parseMethodDescriptor q.2.1.desc).map (fun d => d.parameters.length) = some q.2.2.2.2.2.2.1)) = true := by decide +kernel
theorem am_ps4 : am_mt4.all (fun q => decide ((parseMethodDescriptor q.2.1.desc).map (fun d => d.parameters.length) = some q.2.2.2.2.2.2.1)) = true := by decide +kernel
theorem am_ps5 : am_mt5.all (fun q => decide ((parseMethodDescriptor q.2.1.desc).map (fun d => d.parameters.length) = some q.2.2.2.2.2.2.1)) = true := by decide +kernel
theorem am_ps6 : am_mt6.all (fun q => decide ((parseMethodDescriptor q.2.1.desc).map (fun d => d.parameters.length) = some q.2.2.2.2.2.2.1)) = true := by decide +kernel
theorem am_ps7 : am_mt7.all (fun q => decide ((parseMethodDescriptor q.2.1.desc).map (fun d => d.parameters.length) = some q.2.2.2.2.2.2.1)) = true := by decide +kernel
theorem am_ps8 : am_mt8.all (fun q => decide ((parseMethodDescriptor q.2.1.desc).map (fun d => d.parameters.length) = some q.2.2.2.2.2.2.1)) = true := by decide +kernel
theorem am_ps9 : am_mt9.all (fun q => decide ((parseMethodDescriptor q.2.1.desc).map (fun d => d.parameters.length) = some q.2.2.2.2.2.2.1)) = true := by decide +kernel
theorem am_ps10 : am_mt10.all (fun q => decide ((parseMethodDescriptor q.2.1.desc).map (fun d => d.parameters.length) = some q.2.2.2.2.2.2.1)) = true := by decide +kernel
theorem am_ps11 : am_mt11.all (fun q => decide ((parseMethodDescriptor q.2.1.desc).map (fun d => d.parameters.length) = some q.2.2.2.2.2.2.1)) = true := by decide +kernel
theorem am_ps12 : am_mt12.all (fun q => decide ((parseMethodDescriptor q.2.1.desc).map (fun d => d.parameters.length) = some q.2.2.2.2.2.2.1)) = true := by decide +kernel
theorem am_ps13 : am_mt13.all (fun q => decide ((parseMethodDescriptor q.2.1.desc).map (fun d => d.parameters.length) = some q.2.2.2.2.2.2.1)) = true := by decide +kernel
theorem am_psA : am_mtL.all (fun q => decide ((parseMethodDescriptor q.2.1.desc).map (fun d => d.parameters.length) = some q.2.2.2.2.2.2.1)) = true := am_all_app am_ps0 (am_all_app am_ps1 (am_all_app am_ps2 (am_all_app am_ps3 (am_all_app am_ps4 (am_all_app am_ps5 (am_all_app am_ps6 (am_all_app am_ps7 (am_all_app am_ps8 (am_all_app am_ps9 (am_all_app am_ps10 (am_all_app am_ps11 (am_all_app am_ps12 (am_ps13)))))))))))))
theorem am_hmok : ∀ j, j < am_NM → am_mok j := by
  intro j hj
  obtain ⟨h, -⟩ := am_at1 hj
  have hcl := am_hcl j hj
  have hps : (parseMethodDescriptor (am_mt j).2.1.desc).map (fun d => d.parameters.length) = some (am_mt j).2.2.2.2.2.2.1 := by
    have hm : am_mt j ∈ am_mtL := by
      unfold am_mt
      rw [List.getD_eq_getElem?_getD, List.getElem?_eq_getElem (show j < am_mtL.length by rw [am_NM_len]; exact hj)]
      exact List.getElem_mem _
    exact of_decide_eq_true (List.all_eq_true.mp am_psA _ hm)
  unfold am_mokB at h
  simp only [Bool.and_eq_true, decide_eq_true_eq] at h
  obtain ⟨⟨⟨⟨h1, h2⟩, h3⟩, h4⟩, h5⟩ := h
  have ho := am_own_ok _ h5
  have h2' : Cond.code (am_mt j).2.1 (am_mt j).2.2.1 (am_mt j).2.2.2.1 (am_mt j).2.2.2.2.1 ∈ am_TB := am_wd_in h2
  have h3' : Cond.initialized (am_own (am_mt j).1) ∈ am_TB := am_wd_in h3
  refine ⟨fun q => ?_, fun q => ?_, by rw [hcl]; exact h3', h2', by rw [hcl]; exact ⟨ho.1, ho.2.1⟩, hps, h4, by rcases ho.2.2 with q | q; exact plainFor_of_name (by rw [hcl]; exact q); rw [am_only13 j hj q]; exact am_floorMod_ok⟩
  · rw [q] at h1
    simp only [Bool.and_eq_true, decide_eq_true_eq] at h1
    have a1 : Cond.instanceMethod (am_mt j).2.1 ∈ am_TB := am_wd_in h1.1.1
    have a2 : Cond.selects (am_mt j).2.1.cls (am_mt j).2.1 (am_mt j).2.1 ∈ am_TB := am_wd_in h1.1.2
    refine ⟨a1, a2, h1.2, ?_⟩
    rw [hcl]
    have hr : ∀ o, o < 12 → am_own o = am_R o := by
      intro o ho
      rcases (show o = 0 ∨ o = 1 ∨ o = 2 ∨ o = 3 ∨ o = 4 ∨ o = 5 ∨ o = 6 ∨ o = 7 ∨ o = 8 ∨ o = 9 ∨ o = 10 ∨ o = 11 by omega) with rfl | rfl | rfl | rfl | rfl | rfl | rfl | rfl | rfl | rfl | rfl | rfl <;> rfl
    exact hr _ h1.2
  · rw [q] at h1
    have a1 : Cond.static (am_mt j).2.1 ∈ am_TB := am_wd_in h1
    exact a1
theorem am_hpg : ∀ j, j < am_NM → am_chk (am_mt j).1 (am_mt j).2.2.1 (am_pg j) = true := fun j hj => (am_at1 hj).2
