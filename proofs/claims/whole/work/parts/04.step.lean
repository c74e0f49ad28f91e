/-! one step; a run; that it is sound -/
def am_i1 (st : List Value) (f : Int32 → List Value → Prop) : Prop := match st with
  | .int x :: r => f x r
  | _ => False
def am_i2 (st : List Value) (f : Int32 → Int32 → List Value → Prop) : Prop := match st with
  | .int y :: .int x :: r => f x y r
  | _ => False
def am_l1 (st : List Value) (f : Int64 → List Value → Prop) : Prop := match st with
  | .long x :: r => f x r
  | _ => False
def am_l2 (st : List Value) (f : Int64 → Int64 → List Value → Prop) : Prop := match st with
  | .long y :: .long x :: r => f x y r
  | _ => False
def am_li (st : List Value) (f : Int64 → Int32 → List Value → Prop) : Prop := match st with
  | .int y :: .long x :: r => f x y r
  | _ => False
def am_r1 (st : List Value) (f : Nat → List Value → Prop) : Prop := match st with
  | .ref q :: r => f q r
  | _ => False
def am_ri (st : List Value) (f : Nat → Int32 → List Value → Prop) : Prop := match st with
  | .int i :: .ref q :: r => f q i r
  | _ => False
def am_rii (st : List Value) (f : Nat → Int32 → Int32 → List Value → Prop) : Prop := match st with
  | .int x :: .int i :: .ref q :: r => f q i x r
  | _ => False
def am_ril (st : List Value) (f : Nat → Int32 → Int64 → List Value → Prop) : Prop := match st with
  | .long x :: .int i :: .ref q :: r => f q i x r
  | _ => False
def am_ipr (st : List Value) (f : Nat → Int32 → List Value → Prop) : Prop := match st with
  | .int x :: .ref q :: r => f q x r
  | _ => False
def am_acp (st : List Value) (f : Nat → Int32 → Nat → Int32 → Int32 → List Value → Prop) : Prop := match st with
  | .int n :: .int dp :: .ref a :: .int sp :: .ref a0 :: r => f a0 sp a dp n r
  | _ => False
def am_gi (lv : List Value) (k : Nat) (f : Int32 → Prop) : Prop := match lv[k]? with
  | some (.int x) => f x
  | _ => False
def am_gl (lv : List Value) (k : Nat) (f : Int64 → Prop) : Prop := match lv[k]? with
  | some (.long x) => f x
  | _ => False
def am_gr (lv : List Value) (k : Nat) (f : Nat → Prop) : Prop := match lv[k]? with
  | some (.ref x) => f x
  | _ => False
theorem am_i1_e {st : List Value} {f : Int32 → List Value → Prop} (h : am_i1 st f) : ∃ x r, st = .int x :: r ∧ f x r := by
  unfold am_i1 at h; split at h <;> first | exact ⟨_, _, rfl, h⟩ | exact h.elim
theorem am_i2_e {st : List Value} {f : Int32 → Int32 → List Value → Prop} (h : am_i2 st f) : ∃ x y r, st = .int y :: .int x :: r ∧ f x y r := by
  unfold am_i2 at h; split at h <;> first | exact ⟨_, _, _, rfl, h⟩ | exact h.elim
theorem am_l1_e {st : List Value} {f : Int64 → List Value → Prop} (h : am_l1 st f) : ∃ x r, st = .long x :: r ∧ f x r := by
  unfold am_l1 at h; split at h <;> first | exact ⟨_, _, rfl, h⟩ | exact h.elim
theorem am_l2_e {st : List Value} {f : Int64 → Int64 → List Value → Prop} (h : am_l2 st f) : ∃ x y r, st = .long y :: .long x :: r ∧ f x y r := by
  unfold am_l2 at h; split at h <;> first | exact ⟨_, _, _, rfl, h⟩ | exact h.elim
theorem am_li_e {st : List Value} {f : Int64 → Int32 → List Value → Prop} (h : am_li st f) : ∃ x y r, st = .int y :: .long x :: r ∧ f x y r := by
  unfold am_li at h; split at h <;> first | exact ⟨_, _, _, rfl, h⟩ | exact h.elim
theorem am_r1_e {st : List Value} {f : Nat → List Value → Prop} (h : am_r1 st f) : ∃ x r, st = .ref x :: r ∧ f x r := by
  unfold am_r1 at h; split at h <;> first | exact ⟨_, _, rfl, h⟩ | exact h.elim
theorem am_ri_e {st : List Value} {f : Nat → Int32 → List Value → Prop} (h : am_ri st f) : ∃ q i r, st = .int i :: .ref q :: r ∧ f q i r := by
  unfold am_ri at h; split at h <;> first | exact ⟨_, _, _, rfl, h⟩ | exact h.elim
theorem am_rii_e {st : List Value} {f : Nat → Int32 → Int32 → List Value → Prop} (h : am_rii st f) : ∃ q i x r, st = .int x :: .int i :: .ref q :: r ∧ f q i x r := by
  unfold am_rii at h; split at h <;> first | exact ⟨_, _, _, _, rfl, h⟩ | exact h.elim
theorem am_ril_e {st : List Value} {f : Nat → Int32 → Int64 → List Value → Prop} (h : am_ril st f) : ∃ q i x r, st = .long x :: .int i :: .ref q :: r ∧ f q i x r := by
  unfold am_ril at h; split at h <;> first | exact ⟨_, _, _, _, rfl, h⟩ | exact h.elim
theorem am_ipr_e {st : List Value} {f : Nat → Int32 → List Value → Prop} (h : am_ipr st f) : ∃ q x r, st = .int x :: .ref q :: r ∧ f q x r := by
  unfold am_ipr at h; split at h <;> first | exact ⟨_, _, _, rfl, h⟩ | exact h.elim
theorem am_acp_e {st : List Value} {f : Nat → Int32 → Nat → Int32 → Int32 → List Value → Prop} (h : am_acp st f) : ∃ a0 sp a dp n r, st = .int n :: .int dp :: .ref a :: .int sp :: .ref a0 :: r ∧ f a0 sp a dp n r := by
  unfold am_acp at h; split at h <;> first | exact ⟨_, _, _, _, _, _, rfl, h⟩ | exact h.elim
theorem am_gi_e {lv : List Value} {k : Nat} {f : Int32 → Prop} (h : am_gi lv k f) : ∃ x, lv[k]? = some (.int x) ∧ f x := by
  unfold am_gi at h; split at h <;> first | exact ⟨_, by assumption, h⟩ | exact h.elim
theorem am_gl_e {lv : List Value} {k : Nat} {f : Int64 → Prop} (h : am_gl lv k f) : ∃ x, lv[k]? = some (.long x) ∧ f x := by
  unfold am_gl at h; split at h <;> first | exact ⟨_, by assumption, h⟩ | exact h.elim
theorem am_gr_e {lv : List Value} {k : Nat} {f : Nat → Prop} (h : am_gr lv k f) : ∃ x, lv[k]? = some (.ref x) ∧ f x := by
  unfold am_gr at h; split at h <;> first | exact ⟨_, by assumption, h⟩ | exact h.elim
def am_cnd (c : ClassFile.Cond) (x y : Int32) : Prop := match c with
  | .eq => x = y
  | .ne => ¬ x = y
  | .lt => x < y
  | .ge => y ≤ x
  | .gt => y < x
  | .le => x ≤ y
def am_sw (ps : List (Int × Int)) (d x : Int) : Int := match ps with
  | [] => d
  | (a, o) :: r => if x = a then o else am_sw r d x
def am_cat (st : List Value) : Nat := (st.map fun v => v.category).sum
def am_i4 (n : Nat) (q : Nat) (i : Int32) (sL : Nat) (xs : Nat → Int32) (M : Am_M) (f : Int32 → Prop) : Prop :=
  if q = 900 then vp_in i sL ∧ f (xs i.toNatClampNeg)
  else if q = 901 then vp_in i 8 ∧ f (am_fA i.toNatClampNeg)
  else if q = 902 then vp_in i 32 ∧ f (am_fO i.toNatClampNeg)
  else (am_shp q).1 = 0 ∧ q < n ∧ vp_in i (am_shp q).2 ∧ f (M.1 q i.toNatClampNeg)
def am_stp (mt : Nat → Am_m) (C : Am_C) (sL : Nat) (xs : Nat → Int32) (rt : Nat) (rv : Option Value) (rM : Am_M) (i : Instr) (pn : Nat) (lv st : List Value) (M : Am_M) (K : Nat → List Value → List Value → Am_M → Prop) : Prop :=
  match i with
  | .iconst n => K pn lv (.int (Int32.ofInt n) :: st) M
  | .ldc2_w n => K pn lv (.long (Int64.ofNat n) :: st) M
  | .iload k => am_gi lv k fun x => K pn lv (.int x :: st) M
  | .lload k => am_gl lv k fun x => K pn lv (.long x :: st) M
  | .aload k => am_gr lv k fun q => K pn lv (.ref q :: st) M
  | .istore k => am_i1 st fun x r => k < lv.length ∧ K pn (am_st k (.int x) 0 lv) r M
  | .lstore k => am_l1 st fun x r => k + 1 < lv.length ∧ K pn (am_st k (.long x) 0 lv) r M
  | .astore k => am_r1 st fun q r => k < lv.length ∧ K pn (am_st k (.ref q) 0 lv) r M
  | .iinc k n => am_gi lv k fun x => K pn (am_st k (.int (x + Int32.ofInt n)) 0 lv) st M
  | .iadd => am_i2 st fun x y r => K pn lv (.int (x + y) :: r) M
  | .isub => am_i2 st fun x y r => K pn lv (.int (x - y) :: r) M
  | .imul => am_i2 st fun x y r => K pn lv (.int (x * y) :: r) M
  | .iand => am_i2 st fun x y r => K pn lv (.int (x &&& y) :: r) M
  | .ior => am_i2 st fun x y r => K pn lv (.int (x ||| y) :: r) M
  | .ixor => am_i2 st fun x y r => K pn lv (.int (x ^^^ y) :: r) M
  | .idiv => am_i2 st fun x y r => ¬ y = 0 ∧ K pn lv (.int (x / y) :: r) M
  | .irem => am_i2 st fun x y r => ¬ y = 0 ∧ K pn lv (.int (x - x / y * y) :: r) M
  | .ineg => am_i1 st fun x r => K pn lv (.int (-x) :: r) M
  | .ishl => am_i2 st fun x y r => K pn lv (.int (x <<< (y &&& 31)) :: r) M
  | .ishr => am_i2 st fun x y r => K pn lv (.int (x >>> (y &&& 31)) :: r) M
  | .iushr => am_i2 st fun x y r => K pn lv (.int (x.toUInt32 >>> (y.toUInt32 &&& Int32.toUInt32 31)).toInt32 :: r) M
  | .ladd => am_l2 st fun x y r => K pn lv (.long (x + y) :: r) M
  | .lsub => am_l2 st fun x y r => K pn lv (.long (x - y) :: r) M
  | .lmul => am_l2 st fun x y r => K pn lv (.long (x * y) :: r) M
  | .land => am_l2 st fun x y r => K pn lv (.long (x &&& y) :: r) M
  | .lor => am_l2 st fun x y r => K pn lv (.long (x ||| y) :: r) M
  | .ldiv => am_l2 st fun x y r => ¬ y = 0 ∧ K pn lv (.long (x / y) :: r) M
  | .lrem => am_l2 st fun x y r => ¬ y = 0 ∧ K pn lv (.long (x - x / y * y) :: r) M
  | .lshl => am_li st fun x y r => K pn lv (.long (x <<< (y.toInt64 &&& 63)) :: r) M
  | .lcmp => am_l2 st fun x y r => K pn lv (.int (lg_cmp x y) :: r) M
  | .i2l => am_i1 st fun x r => K pn lv (.long x.toInt64 :: r) M
  | .l2i => am_l1 st fun x r => K pn lv (.int x.toInt32 :: r) M
  | .i2b => am_i1 st fun x r => K pn lv (.int x.toInt8.toInt32 :: r) M
  | .i2s => am_i1 st fun x r => K pn lv (.int x.toInt16.toInt32 :: r) M
  | .dup => match st with
    | v :: r => v.category = 1 ∧ K pn lv (v :: v :: r) M
    | _ => False
  | .dup2 => match st with
    | v :: w :: r => v.category = 1 ∧ w.category = 1 ∧ K pn lv (v :: w :: v :: w :: r) M
    | _ => False
  | .ifCond c t => am_i1 st fun x r => (am_cnd c x 0 → K t.toNat lv r M) ∧ (¬ am_cnd c x 0 → K pn lv r M)
  | .if_icmp c t => am_i2 st fun x y r => (am_cnd c x y → K t.toNat lv r M) ∧ (¬ am_cnd c x y → K pn lv r M)
  | .goto t => K t.toNat lv st M
  | .tableswitch d lo hi offs => am_i1 st fun x r => K (if x.toInt < lo ∨ hi < x.toInt then d else offs.toList.getD (x.toInt - lo).toNat 0).toNat lv r M
  | .lookupswitch d ps => am_i1 st fun x r => K (am_sw ps.toList d x.toInt).toNat lv r M
  | .getfield e => am_r1 st fun q r => am_shp q = (3, e / 64) ∧ q < am_K ∧ K pn lv (am_fv q (e % 64) M :: r) M
  | .putfield e => am_ipr st fun q x r => am_shp q = (3, e / 64) ∧ q < am_K ∧ am_rt q (e % 64) = 0 ∧ (am_tyq (e / 64) (e % 64) = .boolean → x = 0 ∨ x = 1) ∧ K pn lv r (am_upI M q (e % 64) x)
  | .getstatic e => K pn lv (.ref e :: st) M
  | .iaload => am_ri st fun q i r => am_i4 am_K q i sL xs M fun x => K pn lv (.int x :: r) M
  | .laload => am_ri st fun q i r => (am_shp q).1 = 1 ∧ q < am_K ∧ vp_in i (am_shp q).2 ∧ K pn lv (.long (M.2 q i.toNatClampNeg) :: r) M
  | .aaload => am_ri st fun q i r => ((am_shp q).1 = 2 ∨ (am_shp q).1 = 4) ∧ q < am_K ∧ vp_in i (am_shp q).2 ∧ K pn lv (.ref (am_rb q + i.toNatClampNeg) :: r) M
  | .iastore => am_rii st fun q i x r => (am_shp q).1 = 0 ∧ q < am_K ∧ vp_in i (am_shp q).2 ∧ K pn lv r (am_upI M q i.toNatClampNeg x)
  | .lastore => am_ril st fun q i x r => (am_shp q).1 = 1 ∧ q < am_K ∧ vp_in i (am_shp q).2 ∧ K pn lv r (am_upL M q i.toNatClampNeg x)
  | .arraylength => am_r1 st fun q r => if q = 900 then K pn lv (.int (Int32.ofNat sL) :: r) M else ((am_shp q).1 = 0 ∨ (am_shp q).1 = 1) ∧ q < am_K ∧ K pn lv (.int (Int32.ofNat (am_shp q).2) :: r) M
  | .invokevirtual j => match st.drop (mt j).2.2.2.2.2.2.1 with
    | .ref q :: r => am_shp q = (3, (mt j).1) ∧ q < am_K ∧ (mt j).2.2.2.2.2.2.1 ≤ st.length ∧ am_cat r ≤ 8 ∧ ∃ v M', C j (.ref q :: (st.take (mt j).2.2.2.2.2.2.1).reverse) M v M' ∧ K pn lv (v.toList ++ r) M'
    | _ => False
  | .invokestatic j => (mt j).2.2.2.2.2.2.1 ≤ st.length ∧ am_cat (st.drop (mt j).2.2.2.2.2.2.1) ≤ 8 ∧ ∃ v M', C j (st.take (mt j).2.2.2.2.2.2.1).reverse M v M' ∧ K pn lv (v.toList ++ st.drop (mt j).2.2.2.2.2.2.1) M'
  | .invokespecial 0 => am_i1 st fun x r => am_cat r ≤ 8 ∧ K pn lv (.int (if 0 ≤ x then x else 0 - x) :: r) M
  | .invokespecial 1 => am_i2 st fun x y r => am_cat r ≤ 8 ∧ K pn lv (.int (if y < x then y else x) :: r) M
  | .invokespecial 2 => am_i2 st fun x y r => am_cat r ≤ 8 ∧ K pn lv (.int (if x < y then y else x) :: r) M
  | .invokespecial 3 => am_l2 st fun x y r => am_cat r ≤ 8 ∧ K pn lv (.long (if y < x then y else x) :: r) M
  | .invokespecial 4 => am_acp st fun a0 sp a dp n r => (am_shp a0).1 = 1 ∧ a0 < am_K ∧ (am_shp a).1 = 1 ∧ a < am_K ∧ ¬ sp < 0 ∧ ¬ dp < 0 ∧ ¬ n < 0 ∧ sp.toNatClampNeg + n.toNatClampNeg ≤ (am_shp a0).2 ∧ dp.toNatClampNeg + n.toNatClampNeg ≤ (am_shp a).2 ∧ am_cat r ≤ 8 ∧ K pn lv r (am_cpL M a0 a sp.toNatClampNeg dp.toNatClampNeg n.toNatClampNeg)
  | .ireturn => match st with
    | [.int x] => (rt = 1 ∨ (rt = 2 ∧ (x = 0 ∨ x = 1))) ∧ rv = some (.int x) ∧ rM = M
    | _ => False
  | .lreturn => match st with
    | [.long x] => rt = 3 ∧ rv = some (.long x) ∧ rM = M
    | _ => False
  | .return_ => match st with
    | [] => rt = 0 ∧ rv = none ∧ rM = M
    | _ => False
  | _ => False
def am_run (mt : Nat → Am_m) (C : Am_C) (sL : Nat) (xs : Nat → Int32) (P : Nat → Option (Instr × Nat)) (rt : Nat) (rv : Option Value) (rM : Am_M) : Nat → Nat → List Value → List Value → Am_M → Prop
  | 0, _, _, _, _ => False
  | n + 1, pc, lv, st, M => match P pc with
    | none => False
    | some (i, len) => am_stp mt C sL xs rt rv rM i (pc + len) lv st M (am_run mt C sL xs P rt rv rM n)
/-- a program: place, length, the step, the instruction as it is decoded, the place of the instruction's word -/
abbrev Am_p : Type := List (Nat × Nat × Instr × Instr × Nat)
def am_lk (P : Am_p) (pc : Nat) : Option (Instr × Nat) := match P with
  | [] => none
  | e :: r => if pc = e.1 then some (e.2.2.1, e.2.1) else am_lk r pc
/-- the owner's name, the step against the instruction -/
def am_pair (o pc : Nat) (i r : Instr) (len w : Nat) : Bool :=
  match i with
  | .iconst b => match r with
    | .iconst a => decide (a = b) && decide (len = 1)
    | .bipush a => decide (len = 2) && decide ((Int8.ofInt a).toInt32 = Int32.ofInt b)
    | .sipush a => decide (len = 3) && decide ((Int16.ofInt a).toInt32 = Int32.ofInt b)
    | .ldc k => decide (len = 2) && am_wq w (3, o, k, (b % 4294967296).toNat) && decide (Int32.ofNat (b % 4294967296).toNat = Int32.ofInt b)
    | .ldc_w k => decide (len = 3) && am_wq w (3, o, k, (b % 4294967296).toNat) && decide (Int32.ofNat (b % 4294967296).toNat = Int32.ofInt b)
    | _ => false
  | .ldc2_w b => match r with
    | .lconst a => decide (len = 1) && decide (Int64.ofNat (a : Nat) = Int64.ofNat b)
    | .ldc2_w k => decide (len = 3) && am_wq w (4, o, k, b)
    | _ => false
  | .iload b => (match r with | .iload_n a => decide ((a : Nat) = b) && decide (len = 1) | .iload a => decide (a = b) && decide (len = 2) | _ => false)
  | .lload b => (match r with | .lload_n a => decide ((a : Nat) = b) && decide (len = 1) | .lload a => decide (a = b) && decide (len = 2) | _ => false)
  | .aload b => (match r with | .aload_n a => decide ((a : Nat) = b) && decide (len = 1) | .aload a => decide (a = b) && decide (len = 2) | _ => false)
  | .istore b => (match r with | .istore_n a => decide ((a : Nat) = b) && decide (len = 1) | .istore a => decide (a = b) && decide (len = 2) | _ => false)
  | .lstore b => (match r with | .lstore_n a => decide ((a : Nat) = b) && decide (len = 1) | .lstore a => decide (a = b) && decide (len = 2) | _ => false)
  | .astore b => (match r with | .astore_n a => decide ((a : Nat) = b) && decide (len = 1) | .astore a => decide (a = b) && decide (len = 2) | _ => false)
  | .iinc k n => decide (r = .iinc k n) && decide (len = 3)
  | .ifCond c t => (match r with | .ifCond c' o => decide (c = c') && decide (len = 3) && decide ((pc : Int) + o = t) && decide (0 ≤ t) | _ => false)
  | .if_icmp c t => (match r with | .if_icmp c' o => decide (c = c') && decide (len = 3) && decide ((pc : Int) + o = t) && decide (0 ≤ t) | _ => false)
  | .goto t => (match r with | .goto o => decide (len = 3) && decide ((pc : Int) + o = t) && decide (0 ≤ t) | _ => false)
  | .tableswitch d lo hi offs => (match r with | .tableswitch d' lo' hi' offs' => decide (lo = lo') && decide (hi = hi') && decide ((pc : Int) + d' = d) && decide (0 ≤ d) && decide (offs.toList = offs'.toList.map (fun o => (pc : Int) + o)) && offs.toList.all (fun o => decide (0 ≤ o)) && decide ((offs'.toList.length : Int) = hi - lo + 1) | _ => false)
  | .lookupswitch d ps => (match r with | .lookupswitch d' ps' => decide ((pc : Int) + d' = d) && decide (0 ≤ d) && decide (ps.toList = ps'.toList.map (fun q => (q.1, (pc : Int) + q.2))) && ps.toList.all (fun q => decide (0 ≤ q.2)) && (ps'.toList.zip (ps'.toList.drop 1)).all (fun (a, next) => a.1 < next.1) | _ => false)
  | .getfield e => (match r with | .getfield k => decide (len = 3) && decide (e / 64 < 12) && decide (e % 64 < am_nf (e / 64)) && am_wq w (0, o, k, e) | _ => false)
  | .putfield e => (match r with | .putfield k => decide (len = 3) && decide (e / 64 < 12) && decide (e % 64 < am_nf (e / 64)) && decide ((am_T (e / 64) (e % 64)).2.2.2 = false) && am_iz e && am_wq w (0, o, k, e) | _ => false)
  | .getstatic e => (match r with | .getstatic k => decide (len = 3) && ((decide (e = 901) && am_wq w (10, o, k, 0)) || (decide (e = 902) && am_wq w (10, o, k, 1))) | _ => false)
  | .invokevirtual j => (match r with | .invokevirtual k => decide (len = 3) && decide ((am_mt j).2.2.2.2.2.1 = false) && am_wq w (1, o, k, j) | _ => false)
  | .invokestatic j => (match r with | .invokestatic k => decide (len = 3) && decide ((am_mt j).2.2.2.2.2.1 = true) && am_wq w (1, o, k, j) | _ => false)
  | .invokespecial t => (match r with | .invokestatic k => decide (len = 3) && am_wq w (2, o, k, t) | _ => false)
  | .iadd => decide (r = .iadd) && decide (len = 1)
  | .isub => decide (r = .isub) && decide (len = 1)
  | .imul => decide (r = .imul) && decide (len = 1)
  | .iand => decide (r = .iand) && decide (len = 1)
  | .ior => decide (r = .ior) && decide (len = 1)
  | .ixor => decide (r = .ixor) && decide (len = 1)
  | .idiv => decide (r = .idiv) && decide (len = 1)
  | .irem => decide (r = .irem) && decide (len = 1)
  | .ineg => decide (r = .ineg) && decide (len = 1)
  | .ishl => decide (r = .ishl) && decide (len = 1)
  | .ishr => decide (r = .ishr) && decide (len = 1)
  | .iushr => decide (r = .iushr) && decide (len = 1)
  | .ladd => decide (r = .ladd) && decide (len = 1)
  | .lsub => decide (r = .lsub) && decide (len = 1)
  | .lmul => decide (r = .lmul) && decide (len = 1)
  | .land => decide (r = .land) && decide (len = 1)
  | .lor => decide (r = .lor) && decide (len = 1)
  | .ldiv => decide (r = .ldiv) && decide (len = 1)
  | .lrem => decide (r = .lrem) && decide (len = 1)
  | .lshl => decide (r = .lshl) && decide (len = 1)
  | .lcmp => decide (r = .lcmp) && decide (len = 1)
  | .i2l => decide (r = .i2l) && decide (len = 1)
  | .l2i => decide (r = .l2i) && decide (len = 1)
  | .i2b => decide (r = .i2b) && decide (len = 1)
  | .i2s => decide (r = .i2s) && decide (len = 1)
  | .dup => decide (r = .dup) && decide (len = 1)
  | .dup2 => decide (r = .dup2) && decide (len = 1)
  | .iaload => decide (r = .iaload) && decide (len = 1)
  | .laload => decide (r = .laload) && decide (len = 1)
  | .aaload => decide (r = .aaload) && decide (len = 1)
  | .iastore => decide (r = .iastore) && decide (len = 1)
  | .lastore => decide (r = .lastore) && decide (len = 1)
  | .arraylength => decide (r = .arraylength) && decide (len = 1)
  | .ireturn => decide (r = .ireturn) && decide (len = 1)
  | .lreturn => decide (r = .lreturn) && decide (len = 1)
  | .return_ => decide (r = .return_) && decide (len = 1)
  | _ => false
def am_chk (o : Nat) (cc : ByteArray) (P : Am_p) : Bool := P.all fun e => decide (decode cc e.1 = .ok (e.2.2.2.1, e.2.1)) && am_pair o e.1 e.2.2.1 e.2.2.2.1 e.2.1 e.2.2.2.2
theorem am_chk_at {o : Nat} {cc : ByteArray} : ∀ {P : Am_p}, am_chk o cc P = true → ∀ {pc : Nat} {i : Instr} {len : Nat}, am_lk P pc = some (i, len) → ∃ (r : Instr) (w : Nat), decode cc pc = .ok (r, len) ∧ am_pair o pc i r len w = true
  | [], _, pc, i, len, h => by simp [am_lk] at h
  | e :: P, hc, pc, i, len, h => by
    have hc' : (decide (decode cc e.1 = .ok (e.2.2.2.1, e.2.1)) && am_pair o e.1 e.2.2.1 e.2.2.2.1 e.2.1 e.2.2.2.2) = true ∧ am_chk o cc P = true := by
      have := hc
      unfold am_chk at this
      rw [List.all_cons, Bool.and_eq_true] at this
      exact this
    unfold am_lk at h
    by_cases e1 : pc = e.1
    · rw [if_pos e1] at h
      cases h
      have h2 := hc'.1
      rw [Bool.and_eq_true, decide_eq_true_eq] at h2
      subst e1
      exact ⟨_, _, h2.1, h2.2⟩
    · rw [if_neg e1] at h
      exact am_chk_at hc'.2 h
