/-! One row of the machine, one row of the JVM. -/
/-- what the memory keeps: which cells there are, and where its references lead -/
def mq_V (E : mEv) (M : mMm) (refs : List (Nat × Nat)) : Prop := (∀ r, r ∈ refs ↔ r.2 < M.1 r.1) ∧ ∀ r, r ∈ refs → ∀ j, j < (E.1 r.1).2.2 → ∀ r', M.2.2.1 r.1 r.2 j = some r' → r' ∈ refs
def mq_vr (refs : List (Nat × Nat)) (r : Nat × Nat) : Prop := r ∈ refs ∨ r = mq_sr
def mq_vs (refs : List (Nat × Nat)) (st : List mAV) : Prop := ∀ r, (.inr (.inl (some r)) : mAV) ∈ st → mq_vr refs r
def mq_vl (refs : List (Nat × Nat)) (lv : List (Nat × mLV)) : Prop := ∀ i r, (i, (.inr (some r) : mLV)) ∈ lv → mq_vr refs r
def mq_C (p : Program) (s : State) (m : MethodId) (args : Array Value) (c : Code) (cc : ByteArray) (nL : Nat) (own : String) (Ts : List Cond) (D : va_G) (cl : List vw_C) (tys : List (ClassId × FieldType)) (A : Nat → Prop) (X : State → Prop) : Prop :=
  p.tables.exec = Jvm.exec ∧ c.code = cc ∧ c.maxLocals = nL ∧ s.vm.findClass own = some m.cls ∧ (∀ w ∈ Ts, w.before args s = true) ∧ va_K D cl tys s ∧ (∀ q, s.heap.size ≤ q → A q) ∧ X s ∧ ∀ u U : State, u.WarmedH U.vm → X u → X U
def mq_B (E : mEv) (D : va_G) (cl : List vw_C) (A : Nat → Prop) (s : State) (ad0 : Nat × Nat → Nat) (refs0 : List (Nat × Nat)) (ad : Nat × Nat → Nat) (refs : List (Nat × Nat)) (M : mMm) (H : Heap) (locs : List Loc) : Prop :=
  va_P D cl (mq_W E ad refs M) H ∧ va_D A (mq_W E ad refs M) ∧ va_S A s.heap H locs ∧ mq_V E M refs ∧ (∀ r, r ∈ refs0 → r ∈ refs) ∧ ∀ r, mq_vr refs0 r → ad r = ad0 r
def mq_lm (ad : Nat × Nat → Nat) (lv : List (Nat × mLV)) : List (Nat × Value) := lv.map fun q => (q.1, mq_cl ad q.2)
def mq_G (p : Program) (l : Launch) (e : Env) (R : Room) (s : State) (m : MethodId) (args : Array Value) (below : List Frame) (meth : Method) (c : Code) (Q : State → Prop) (nL : Nat) (E : mEv) (D : va_G) (cl : List vw_C) (A : Nat → Prop) (ad0 : Nat × Nat → Nat) (refs0 : List (Nat × Nat)) (pc : Nat) (lv : List (Nat × mLV)) (st : List mAV) (M : mMm) (cs ss : Nat) : Prop :=
  ∀ (H : Heap) (locs : List Loc) (ls : Array Slot) (ad : Nat × Nat → Nat) (refs : List (Nat × Nat)), mq_B E D cl A s ad0 refs0 ad refs M H locs → lv_has ls nL (mq_lm ad lv) → mq_vl refs lv → mq_vs refs st → W p l e R s m args below meth c H locs cs ss Q (F0 m pc ls (st.map (mq_cv ad)))
theorem mq_cl_cat (ad : Nat × Nat → Nat) (v : mLV) : (mq_cl ad v).category = 1 := by
  rcases v with x | (_ | q) <;> rfl
theorem mq_cv_cat (ad : Nat × Nat → Nat) (v : mAV) (h : mq_c1 v = true) : (mq_cv ad v).category = 1 := by
  rcases v with x | ((_ | q) | x)
  · rfl
  · rfl
  · rfl
  · cases h
theorem mq_cv_toA (ad : Nat × Nat → Nat) (v : mLV) : mq_cv ad (mq_toA v) = mq_cl ad v := by
  rcases v with x | q <;> rfl
theorem mq_sl_mem {i : Nat} {v : mLV} {q : Nat × mLV} : ∀ {lv : List (Nat × mLV)}, q ∈ mq_sl i v lv → q = (i, v) ∨ (q ∈ lv ∧ ¬ q.1 = i)
  | [], h => Or.inl (List.mem_singleton.mp h)
  | w :: r, h => by
    unfold mq_sl at h
    split at h
    · rcases List.mem_cons.mp h with h | h
      · exact Or.inl h
      · obtain ⟨h1, h2⟩ := List.mem_filter.mp h
        exact Or.inr ⟨List.mem_cons_of_mem _ h1, by simpa using h2⟩
    · rename_i hw
      rcases List.mem_cons.mp h with h | h
      · exact Or.inr ⟨h ▸ List.mem_cons_self, by rw [h]; exact hw⟩
      · rcases mq_sl_mem h with h | h
        · exact Or.inl h
        · exact Or.inr ⟨List.mem_cons_of_mem _ h.1, h.2⟩
theorem mq_lv_sl {ad : Nat × Nat → Nat} {lv : List (Nat × mLV)} {i nL : Nat} {v : mLV} {ls : Array Slot} (h : lv_has ls nL ((i, mq_cl ad v) :: (mq_lm ad lv).filter (fun q => !(q.1 == i) && !(q.1 + 1 == i && q.2.category == 2)))) : lv_has ls nL (mq_lm ad (mq_sl i v lv)) := by
  refine ⟨h.1, h.2.1, fun q hq => h.2.2 q ?_⟩
  obtain ⟨w, hw, rfl⟩ := List.mem_map.mp hq
  rcases mq_sl_mem hw with rfl | ⟨h1, h2⟩
  · exact List.mem_cons_self
  · refine List.mem_cons_of_mem _ (List.mem_filter.mpr ⟨List.mem_map.mpr ⟨w, h1, rfl⟩, ?_⟩)
    have h3 : (w.1 == i) = false := by simpa using h2
    simp [mq_cl_cat, h3]
theorem mq_gl_mem {i : Nat} {v : mLV} : ∀ {lv : List (Nat × mLV)}, mq_gl i lv = some v → (i, v) ∈ lv
  | [], h => by cases h
  | q :: r, h => by
    unfold mq_gl at h
    split at h
    · rename_i hq
      cases h
      rw [← hq]
      exact List.mem_cons_self
    · exact List.mem_cons_of_mem _ (mq_gl_mem h)
theorem mq_lm_mem {ad : Nat × Nat → Nat} {i : Nat} {v : mLV} {lv : List (Nat × mLV)} (h : (i, v) ∈ lv) : (i, mq_cl ad v) ∈ mq_lm ad lv := List.mem_map.mpr ⟨(i, v), h, rfl⟩
theorem mq_vl_sl {refs : List (Nat × Nat)} {lv : List (Nat × mLV)} {i : Nat} {v : mLV} (h : mq_vl refs lv) (hv : ∀ r, v = .inr (some r) → mq_vr refs r) : mq_vl refs (mq_sl i v lv) := by
  intro j r hm
  rcases mq_sl_mem hm with hm | hm
  · exact hv r (Prod.mk.inj hm).2.symm
  · exact h j r hm.1
theorem mq_vs_cons {refs : List (Nat × Nat)} {st : List mAV} {v : mAV} (h : mq_vs refs st) (hv : ∀ r, v = .inr (.inl (some r)) → mq_vr refs r) : mq_vs refs (v :: st) := by
  intro r hm
  rcases List.mem_cons.mp hm with hm | hm
  · exact hv r hm.symm
  · exact h r hm
theorem mq_vs_tl {refs : List (Nat × Nat)} {st : List mAV} {v : mAV} (h : mq_vs refs (v :: st)) : mq_vs refs st := fun r hm => h r (List.mem_cons_of_mem _ hm)
theorem mq_vs_int {refs : List (Nat × Nat)} {st : List mAV} {x : Int32} (h : mq_vs refs st) : mq_vs refs (.inl x :: st) := mq_vs_cons h (fun _ q => by cases q)
theorem mq_vs_long {refs : List (Nat × Nat)} {st : List mAV} {x : Int64} (h : mq_vs refs st) : mq_vs refs (.inr (.inr x) :: st) := mq_vs_cons h (fun _ q => by cases q)
section MQG
variable {p : Program} {l : Launch} {e : Env} {R : Room} {s : State} {m : MethodId} {args : Array Value} {below : List Frame} {meth : Method} {c : Code} {Q : State → Prop}
variable {cc : ByteArray} {nL : Nat} {own : String} {Ts : List Cond} {D : va_G} {cl : List vw_C} {tys : List (ClassId × FieldType)} {A : Nat → Prop} {X : State → Prop} {E : mEv} {ad0 : Nat × Nat → Nat} {refs0 : List (Nat × Nat)}
variable {pc tgt i : Nat} {lv : List (Nat × mLV)} {r : List mAV} {M : mMm} {cs ss : Nat} {x y : Int32}
theorem mq_g_iadd (C : mq_C p s m args c cc nL own Ts D cl tys A X) (hd : decode cc pc = .ok (.iadd, 1)) (k : mq_G p l e R s m args below meth c Q nL E D cl A ad0 refs0 (pc + 1) (lv) (.inl (x + y) :: r) (M) (cs) (ss)) : mq_G p l e R s m args below meth c Q nL E D cl A ad0 refs0 (pc) (lv) (.inl y :: .inl x :: r) (M) (cs) (ss) :=
  fun H locs ls ad refs hB hl hvl hvs => lv_iadd C.1 C.2.1 hd (k H locs ls ad refs hB hl hvl (mq_vs_int (mq_vs_tl (mq_vs_tl hvs))))
theorem mq_g_isub (C : mq_C p s m args c cc nL own Ts D cl tys A X) (hd : decode cc pc = .ok (.isub, 1)) (k : mq_G p l e R s m args below meth c Q nL E D cl A ad0 refs0 (pc + 1) (lv) (.inl (x - y) :: r) (M) (cs) (ss)) : mq_G p l e R s m args below meth c Q nL E D cl A ad0 refs0 (pc) (lv) (.inl y :: .inl x :: r) (M) (cs) (ss) :=
  fun H locs ls ad refs hB hl hvl hvs => lv_isub C.1 C.2.1 hd (k H locs ls ad refs hB hl hvl (mq_vs_int (mq_vs_tl (mq_vs_tl hvs))))
theorem mq_g_imul (C : mq_C p s m args c cc nL own Ts D cl tys A X) (hd : decode cc pc = .ok (.imul, 1)) (k : mq_G p l e R s m args below meth c Q nL E D cl A ad0 refs0 (pc + 1) (lv) (.inl (x * y) :: r) (M) (cs) (ss)) : mq_G p l e R s m args below meth c Q nL E D cl A ad0 refs0 (pc) (lv) (.inl y :: .inl x :: r) (M) (cs) (ss) :=
  fun H locs ls ad refs hB hl hvl hvs => lv_imul C.1 C.2.1 hd (k H locs ls ad refs hB hl hvl (mq_vs_int (mq_vs_tl (mq_vs_tl hvs))))
theorem mq_g_iand (C : mq_C p s m args c cc nL own Ts D cl tys A X) (hd : decode cc pc = .ok (.iand, 1)) (k : mq_G p l e R s m args below meth c Q nL E D cl A ad0 refs0 (pc + 1) (lv) (.inl (x &&& y) :: r) (M) (cs) (ss)) : mq_G p l e R s m args below meth c Q nL E D cl A ad0 refs0 (pc) (lv) (.inl y :: .inl x :: r) (M) (cs) (ss) :=
  fun H locs ls ad refs hB hl hvl hvs => lv_iand C.1 C.2.1 hd (k H locs ls ad refs hB hl hvl (mq_vs_int (mq_vs_tl (mq_vs_tl hvs))))
theorem mq_g_ior (C : mq_C p s m args c cc nL own Ts D cl tys A X) (hd : decode cc pc = .ok (.ior, 1)) (k : mq_G p l e R s m args below meth c Q nL E D cl A ad0 refs0 (pc + 1) (lv) (.inl (x ||| y) :: r) (M) (cs) (ss)) : mq_G p l e R s m args below meth c Q nL E D cl A ad0 refs0 (pc) (lv) (.inl y :: .inl x :: r) (M) (cs) (ss) :=
  fun H locs ls ad refs hB hl hvl hvs => lv_ior C.1 C.2.1 hd (k H locs ls ad refs hB hl hvl (mq_vs_int (mq_vs_tl (mq_vs_tl hvs))))
theorem mq_g_ixor (C : mq_C p s m args c cc nL own Ts D cl tys A X) (hd : decode cc pc = .ok (.ixor, 1)) (k : mq_G p l e R s m args below meth c Q nL E D cl A ad0 refs0 (pc + 1) (lv) (.inl (x ^^^ y) :: r) (M) (cs) (ss)) : mq_G p l e R s m args below meth c Q nL E D cl A ad0 refs0 (pc) (lv) (.inl y :: .inl x :: r) (M) (cs) (ss) :=
  fun H locs ls ad refs hB hl hvl hvs => lv_ixor C.1 C.2.1 hd (k H locs ls ad refs hB hl hvl (mq_vs_int (mq_vs_tl (mq_vs_tl hvs))))
theorem mq_g_ishl (C : mq_C p s m args c cc nL own Ts D cl tys A X) (hd : decode cc pc = .ok (.ishl, 1)) (k : mq_G p l e R s m args below meth c Q nL E D cl A ad0 refs0 (pc + 1) (lv) (.inl (x <<< (y &&& 31)) :: r) (M) (cs) (ss)) : mq_G p l e R s m args below meth c Q nL E D cl A ad0 refs0 (pc) (lv) (.inl y :: .inl x :: r) (M) (cs) (ss) :=
  fun H locs ls ad refs hB hl hvl hvs => lv_ishl C.1 C.2.1 hd (k H locs ls ad refs hB hl hvl (mq_vs_int (mq_vs_tl (mq_vs_tl hvs))))
theorem mq_g_ishr (C : mq_C p s m args c cc nL own Ts D cl tys A X) (hd : decode cc pc = .ok (.ishr, 1)) (k : mq_G p l e R s m args below meth c Q nL E D cl A ad0 refs0 (pc + 1) (lv) (.inl (x >>> (y &&& 31)) :: r) (M) (cs) (ss)) : mq_G p l e R s m args below meth c Q nL E D cl A ad0 refs0 (pc) (lv) (.inl y :: .inl x :: r) (M) (cs) (ss) :=
  fun H locs ls ad refs hB hl hvl hvs => lv_ishr C.1 C.2.1 hd (k H locs ls ad refs hB hl hvl (mq_vs_int (mq_vs_tl (mq_vs_tl hvs))))
theorem mq_g_iushr (C : mq_C p s m args c cc nL own Ts D cl tys A X) (hd : decode cc pc = .ok (.iushr, 1)) (k : mq_G p l e R s m args below meth c Q nL E D cl A ad0 refs0 (pc + 1) (lv) (.inl ((x.toUInt32 >>> (y.toUInt32 &&& Int32.toUInt32 31)).toInt32) :: r) (M) (cs) (ss)) : mq_G p l e R s m args below meth c Q nL E D cl A ad0 refs0 (pc) (lv) (.inl y :: .inl x :: r) (M) (cs) (ss) :=
  fun H locs ls ad refs hB hl hvl hvs => lv_iushr C.1 C.2.1 hd rfl (k H locs ls ad refs hB hl hvl (mq_vs_int (mq_vs_tl (mq_vs_tl hvs))))
theorem mq_g_irem (C : mq_C p s m args c cc nL own Ts D cl tys A X) (hd : decode cc pc = .ok (.irem, 1)) (hne : ¬ y = 0) (k : mq_G p l e R s m args below meth c Q nL E D cl A ad0 refs0 (pc + 1) (lv) (.inl (x - x / y * y) :: r) (M) (cs) (ss)) : mq_G p l e R s m args below meth c Q nL E D cl A ad0 refs0 (pc) (lv) (.inl y :: .inl x :: r) (M) (cs) (ss) :=
  fun H locs ls ad refs hB hl hvl hvs => lv_irem C.1 C.2.1 hd hne (k H locs ls ad refs hB hl hvl (mq_vs_int (mq_vs_tl (mq_vs_tl hvs))))
theorem mq_g_idiv (C : mq_C p s m args c cc nL own Ts D cl tys A X) (hd : decode cc pc = .ok (.idiv, 1)) (hne : ¬ y = 0) (k : mq_G p l e R s m args below meth c Q nL E D cl A ad0 refs0 (pc + 1) (lv) (.inl (x / y) :: r) (M) (cs) (ss)) : mq_G p l e R s m args below meth c Q nL E D cl A ad0 refs0 (pc) (lv) (.inl y :: .inl x :: r) (M) (cs) (ss) :=
  fun H locs ls ad refs hB hl hvl hvs => lv_idiv C.1 C.2.1 hd hne (k H locs ls ad refs hB hl hvl (mq_vs_int (mq_vs_tl (mq_vs_tl hvs))))
theorem mq_g_ineg (C : mq_C p s m args c cc nL own Ts D cl tys A X) (hd : decode cc pc = .ok (.ineg, 1)) (k : mq_G p l e R s m args below meth c Q nL E D cl A ad0 refs0 (pc + 1) (lv) (.inl (-x) :: r) (M) (cs) (ss)) : mq_G p l e R s m args below meth c Q nL E D cl A ad0 refs0 (pc) (lv) (.inl x :: r) (M) (cs) (ss) :=
  fun H locs ls ad refs hB hl hvl hvs => lv_ineg C.1 C.2.1 hd (k H locs ls ad refs hB hl hvl (mq_vs_int (mq_vs_tl hvs)))
theorem mq_g_i2b (C : mq_C p s m args c cc nL own Ts D cl tys A X) (hd : decode cc pc = .ok (.i2b, 1)) (k : mq_G p l e R s m args below meth c Q nL E D cl A ad0 refs0 (pc + 1) (lv) (.inl (x.toInt8.toInt32) :: r) (M) (cs) (ss)) : mq_G p l e R s m args below meth c Q nL E D cl A ad0 refs0 (pc) (lv) (.inl x :: r) (M) (cs) (ss) :=
  fun H locs ls ad refs hB hl hvl hvs => lv_i2b C.1 C.2.1 hd rfl (k H locs ls ad refs hB hl hvl (mq_vs_int (mq_vs_tl hvs)))
theorem mq_g_i2s (C : mq_C p s m args c cc nL own Ts D cl tys A X) (hd : decode cc pc = .ok (.i2s, 1)) (k : mq_G p l e R s m args below meth c Q nL E D cl A ad0 refs0 (pc + 1) (lv) (.inl (x.toInt16.toInt32) :: r) (M) (cs) (ss)) : mq_G p l e R s m args below meth c Q nL E D cl A ad0 refs0 (pc) (lv) (.inl x :: r) (M) (cs) (ss) :=
  fun H locs ls ad refs hB hl hvl hvs => lv_i2s C.1 C.2.1 hd rfl (k H locs ls ad refs hB hl hvl (mq_vs_int (mq_vs_tl hvs)))
theorem mq_g_i2c (C : mq_C p s m args c cc nL own Ts D cl tys A X) (hd : decode cc pc = .ok (.i2c, 1)) (k : mq_G p l e R s m args below meth c Q nL E D cl A ad0 refs0 (pc + 1) (lv) (.inl ((x.toUInt32 % 65536).toInt32) :: r) (M) (cs) (ss)) : mq_G p l e R s m args below meth c Q nL E D cl A ad0 refs0 (pc) (lv) (.inl x :: r) (M) (cs) (ss) :=
  fun H locs ls ad refs hB hl hvl hvs => lv_i2c C.1 C.2.1 hd rfl (k H locs ls ad refs hB hl hvl (mq_vs_int (mq_vs_tl hvs)))
theorem mq_g_i2l (C : mq_C p s m args c cc nL own Ts D cl tys A X) (hd : decode cc pc = .ok (.i2l, 1)) (k : mq_G p l e R s m args below meth c Q nL E D cl A ad0 refs0 (pc + 1) (lv) (.inr (.inr x.toInt64) :: r) (M) (cs) (ss)) : mq_G p l e R s m args below meth c Q nL E D cl A ad0 refs0 (pc) (lv) (.inl x :: r) (M) (cs) (ss) :=
  fun H locs ls ad refs hB hl hvl hvs => lv_i2l C.1 C.2.1 hd rfl (k H locs ls ad refs hB hl hvl (mq_vs_long (mq_vs_tl hvs)))
theorem mq_g_lcmp (C : mq_C p s m args c cc nL own Ts D cl tys A X) {x y : Int64} (hd : decode cc pc = .ok (.lcmp, 1)) (k : mq_G p l e R s m args below meth c Q nL E D cl A ad0 refs0 (pc + 1) (lv) (.inl (lg_cmp x y) :: r) (M) (cs) (ss)) : mq_G p l e R s m args below meth c Q nL E D cl A ad0 refs0 (pc) (lv) (.inr (.inr y) :: .inr (.inr x) :: r) (M) (cs) (ss) :=
  fun H locs ls ad refs hB hl hvl hvs => W.lcmp C.1 C.2.1 hd (k H locs ls ad refs hB hl hvl (mq_vs_int (mq_vs_tl (mq_vs_tl hvs))))
theorem mq_g_iconst (C : mq_C p s m args c cc nL own Ts D cl tys A X) {n : Int} (hd : decode cc pc = .ok (.iconst n, 1)) (hv : Int32.ofInt n = x) (k : mq_G p l e R s m args below meth c Q nL E D cl A ad0 refs0 (pc + 1) (lv) (.inl x :: r) (M) (cs) (ss)) : mq_G p l e R s m args below meth c Q nL E D cl A ad0 refs0 (pc) (lv) (r) (M) (cs) (ss) :=
  fun H locs ls ad refs hB hl hvl hvs => lv_iconst C.1 C.2.1 hd hv (k H locs ls ad refs hB hl hvl (mq_vs_int hvs))
theorem mq_g_bipush (C : mq_C p s m args c cc nL own Ts D cl tys A X) {n : Int} (hd : decode cc pc = .ok (.bipush n, 2)) (hv : (Int8.ofInt n).toInt32 = x) (k : mq_G p l e R s m args below meth c Q nL E D cl A ad0 refs0 (pc + 2) (lv) (.inl x :: r) (M) (cs) (ss)) : mq_G p l e R s m args below meth c Q nL E D cl A ad0 refs0 (pc) (lv) (r) (M) (cs) (ss) :=
  fun H locs ls ad refs hB hl hvl hvs => lv_bipush C.1 C.2.1 hd hv (k H locs ls ad refs hB hl hvl (mq_vs_int hvs))
theorem mq_g_sipush (C : mq_C p s m args c cc nL own Ts D cl tys A X) {n : Int} (hd : decode cc pc = .ok (.sipush n, 3)) (hv : (Int16.ofInt n).toInt32 = x) (k : mq_G p l e R s m args below meth c Q nL E D cl A ad0 refs0 (pc + 3) (lv) (.inl x :: r) (M) (cs) (ss)) : mq_G p l e R s m args below meth c Q nL E D cl A ad0 refs0 (pc) (lv) (r) (M) (cs) (ss) :=
  fun H locs ls ad refs hB hl hvl hvs => lv_sipush C.1 C.2.1 hd hv (k H locs ls ad refs hB hl hvl (mq_vs_int hvs))
theorem mq_g_ldc (C : mq_C p s m args c cc nL own Ts D cl tys A X) {ix : Nat} (hd : decode cc pc = .ok (.ldc ix, 2)) (hv : Jvm.Cond.constant own ix x ∈ Ts) (k : mq_G p l e R s m args below meth c Q nL E D cl A ad0 refs0 (pc + 2) (lv) (.inl x :: r) (M) (cs) (ss)) : mq_G p l e R s m args below meth c Q nL E D cl A ad0 refs0 (pc) (lv) (r) (M) (cs) (ss) :=
  fun H locs ls ad refs hB hl hvl hvs => lv_ldc C.1 C.2.1 C.2.2.2.1 (C.2.2.2.2.1 _ hv) hd (k H locs ls ad refs hB hl hvl (mq_vs_int hvs))
theorem mq_g_null (C : mq_C p s m args c cc nL own Ts D cl tys A X) (hd : decode cc pc = .ok (.aconst_null, 1)) (k : mq_G p l e R s m args below meth c Q nL E D cl A ad0 refs0 (pc + 1) (lv) (.inr (.inl none) :: r) (M) (cs) (ss)) : mq_G p l e R s m args below meth c Q nL E D cl A ad0 refs0 (pc) (lv) (r) (M) (cs) (ss) :=
  fun H locs ls ad refs hB hl hvl hvs => lv_null C.1 C.2.1 hd (k H locs ls ad refs hB hl hvl (mq_vs_cons hvs (fun _ q => by cases q)))
theorem mq_g_iload (C : mq_C p s m args c cc nL own Ts D cl tys A X) (hd : decode cc pc = .ok (.iload i, 2)) (hi : mq_gl i lv = some (.inl x)) (k : mq_G p l e R s m args below meth c Q nL E D cl A ad0 refs0 (pc + 2) (lv) (.inl x :: r) (M) (cs) (ss)) : mq_G p l e R s m args below meth c Q nL E D cl A ad0 refs0 (pc) (lv) (r) (M) (cs) (ss) :=
  fun H locs ls ad refs hB hl hvl hvs => lv_iload C.1 C.2.1 hd (hl.2.2 _ (mq_lm_mem (mq_gl_mem hi))) (k H locs ls ad refs hB hl hvl (mq_vs_int hvs))
theorem mq_g_iload_n (C : mq_C p s m args c cc nL own Ts D cl tys A X) {n : Fin 4} (hd : decode cc pc = .ok (.iload_n n, 1)) (hi : mq_gl n.val lv = some (.inl x)) (k : mq_G p l e R s m args below meth c Q nL E D cl A ad0 refs0 (pc + 1) (lv) (.inl x :: r) (M) (cs) (ss)) : mq_G p l e R s m args below meth c Q nL E D cl A ad0 refs0 (pc) (lv) (r) (M) (cs) (ss) :=
  fun H locs ls ad refs hB hl hvl hvs => lv_iload_n C.1 C.2.1 hd rfl (hl.2.2 _ (mq_lm_mem (mq_gl_mem hi))) (k H locs ls ad refs hB hl hvl (mq_vs_int hvs))
theorem mq_g_aload (C : mq_C p s m args c cc nL own Ts D cl tys A X) {q : mRf} (hd : decode cc pc = .ok (.aload i, 2)) (hi : mq_gl i lv = some (.inr q)) (k : mq_G p l e R s m args below meth c Q nL E D cl A ad0 refs0 (pc + 2) (lv) (.inr (.inl q) :: r) (M) (cs) (ss)) : mq_G p l e R s m args below meth c Q nL E D cl A ad0 refs0 (pc) (lv) (r) (M) (cs) (ss) := by
  intro H locs ls ad refs hB hl hvl hvs
  have h1 := hl.2.2 _ (mq_lm_mem (ad := ad) (mq_gl_mem hi))
  have h2 := k H locs ls ad refs hB hl hvl (mq_vs_cons hvs (fun r' e => by cases e; exact hvl _ r' (mq_gl_mem hi)))
  rcases q with _ | q
  · exact lv_aloadN C.1 C.2.1 hd h1 h2
  · exact lv_aload C.1 C.2.1 hd h1 h2
theorem mq_g_aload_n (C : mq_C p s m args c cc nL own Ts D cl tys A X) {n : Fin 4} {q : mRf} (hd : decode cc pc = .ok (.aload_n n, 1)) (hi : mq_gl n.val lv = some (.inr q)) (k : mq_G p l e R s m args below meth c Q nL E D cl A ad0 refs0 (pc + 1) (lv) (.inr (.inl q) :: r) (M) (cs) (ss)) : mq_G p l e R s m args below meth c Q nL E D cl A ad0 refs0 (pc) (lv) (r) (M) (cs) (ss) := by
  intro H locs ls ad refs hB hl hvl hvs
  have h1 := hl.2.2 _ (mq_lm_mem (ad := ad) (mq_gl_mem hi))
  have h2 := k H locs ls ad refs hB hl hvl (mq_vs_cons hvs (fun r' e => by cases e; exact hvl _ r' (mq_gl_mem hi)))
  rcases q with _ | q
  · exact lv_aload_nN C.1 C.2.1 hd rfl h1 h2
  · exact lv_aload_n C.1 C.2.1 hd rfl h1 h2
theorem mq_g_istore (C : mq_C p s m args c cc nL own Ts D cl tys A X) (hd : decode cc pc = .ok (.istore i, 2)) (hn : i < nL) (k : mq_G p l e R s m args below meth c Q nL E D cl A ad0 refs0 (pc + 2) (mq_sl i (.inl x) lv) (r) (M) (cs) (ss)) : mq_G p l e R s m args below meth c Q nL E D cl A ad0 refs0 (pc) (lv) (.inl x :: r) (M) (cs) (ss) := by
  intro H locs ls ad refs hB hl hvl hvs
  exact lv_istore C.1 C.2.1 hd hl hn rfl (fun ls' hl' => k H locs ls' ad refs hB (mq_lv_sl (v := .inl x) hl') (mq_vl_sl hvl (fun _ e => by cases e)) (mq_vs_tl hvs))
theorem mq_g_istore_n (C : mq_C p s m args c cc nL own Ts D cl tys A X) {n : Fin 4} (hd : decode cc pc = .ok (.istore_n n, 1)) (hn : n.val < nL) (k : mq_G p l e R s m args below meth c Q nL E D cl A ad0 refs0 (pc + 1) (mq_sl n.val (.inl x) lv) (r) (M) (cs) (ss)) : mq_G p l e R s m args below meth c Q nL E D cl A ad0 refs0 (pc) (lv) (.inl x :: r) (M) (cs) (ss) := by
  intro H locs ls ad refs hB hl hvl hvs
  exact lv_istore_n C.1 C.2.1 hd rfl hl hn rfl (fun ls' hl' => k H locs ls' ad refs hB (mq_lv_sl (v := .inl x) hl') (mq_vl_sl hvl (fun _ e => by cases e)) (mq_vs_tl hvs))
theorem mq_g_astore (C : mq_C p s m args c cc nL own Ts D cl tys A X) {q : mRf} (hd : decode cc pc = .ok (.astore i, 2)) (hn : i < nL) (k : mq_G p l e R s m args below meth c Q nL E D cl A ad0 refs0 (pc + 2) (mq_sl i (.inr q) lv) (r) (M) (cs) (ss)) : mq_G p l e R s m args below meth c Q nL E D cl A ad0 refs0 (pc) (lv) (.inr (.inl q) :: r) (M) (cs) (ss) := by
  intro H locs ls ad refs hB hl hvl hvs
  have hv : mq_vl refs (mq_sl i (.inr q) lv) := mq_vl_sl hvl (fun r' e => by cases e; exact hvs r' List.mem_cons_self)
  rcases q with _ | q
  · exact lv_astoreN C.1 C.2.1 hd hl hn rfl (fun ls' hl' => k H locs ls' ad refs hB (mq_lv_sl (v := .inr none) hl') hv (mq_vs_tl hvs))
  · exact lv_astore C.1 C.2.1 hd hl hn rfl (fun ls' hl' => k H locs ls' ad refs hB (mq_lv_sl (v := .inr (some q)) hl') hv (mq_vs_tl hvs))
theorem mq_g_astore_n (C : mq_C p s m args c cc nL own Ts D cl tys A X) {n : Fin 4} {q : mRf} (hd : decode cc pc = .ok (.astore_n n, 1)) (hn : n.val < nL) (k : mq_G p l e R s m args below meth c Q nL E D cl A ad0 refs0 (pc + 1) (mq_sl n.val (.inr q) lv) (r) (M) (cs) (ss)) : mq_G p l e R s m args below meth c Q nL E D cl A ad0 refs0 (pc) (lv) (.inr (.inl q) :: r) (M) (cs) (ss) := by
  intro H locs ls ad refs hB hl hvl hvs
  have hv : mq_vl refs (mq_sl n.val (.inr q) lv) := mq_vl_sl hvl (fun r' e => by cases e; exact hvs r' List.mem_cons_self)
  rcases q with _ | q
  · exact lv_astore_nN C.1 C.2.1 hd rfl hl hn rfl (fun ls' hl' => k H locs ls' ad refs hB (mq_lv_sl (v := .inr none) hl') hv (mq_vs_tl hvs))
  · exact lv_astore_n C.1 C.2.1 hd rfl hl hn rfl (fun ls' hl' => k H locs ls' ad refs hB (mq_lv_sl (v := .inr (some q)) hl') hv (mq_vs_tl hvs))
theorem mq_g_iinc (C : mq_C p s m args c cc nL own Ts D cl tys A X) {n : Int} (hd : decode cc pc = .ok (.iinc i n, 3)) (hv : Int32.ofInt n = y) (hi : mq_gl i lv = some (.inl x)) (hn : i < nL) (k : mq_G p l e R s m args below meth c Q nL E D cl A ad0 refs0 (pc + 3) (mq_sl i (.inl (x + y)) lv) (r) (M) (cs) (ss)) : mq_G p l e R s m args below meth c Q nL E D cl A ad0 refs0 (pc) (lv) (r) (M) (cs) (ss) := by
  intro H locs ls ad refs hB hl hvl hvs
  obtain ⟨q, hq⟩ := List.getElem?_of_mem (mq_lm_mem (ad := ad) (mq_gl_mem hi))
  exact lv_iinc (k := q) (v := x + y) C.1 C.2.1 hd hl hq (by rw [hv]) hn rfl (fun ls' hl' => k H locs ls' ad refs hB (mq_lv_sl (v := .inl (x + y)) hl') (mq_vl_sl hvl (fun _ e => by cases e)) hvs)
theorem mq_g_dup (C : mq_C p s m args c cc nL own Ts D cl tys A X) {v : mAV} (hd : decode cc pc = .ok (.dup, 1)) (hv : mq_c1 v = true) (k : mq_G p l e R s m args below meth c Q nL E D cl A ad0 refs0 (pc + 1) (lv) (v :: v :: r) (M) (cs) (ss)) : mq_G p l e R s m args below meth c Q nL E D cl A ad0 refs0 (pc) (lv) (v :: r) (M) (cs) (ss) :=
  fun H locs ls ad refs hB hl hvl hvs => lv_dup C.1 C.2.1 hd (mq_cv_cat ad v hv) (k H locs ls ad refs hB hl hvl (fun q hq => hvs q (by rcases List.mem_cons.mp hq with h | h; exact h ▸ List.mem_cons_self; exact h)))
theorem mq_g_pop (C : mq_C p s m args c cc nL own Ts D cl tys A X) {v : mAV} (hd : decode cc pc = .ok (.pop, 1)) (hv : mq_c1 v = true) (k : mq_G p l e R s m args below meth c Q nL E D cl A ad0 refs0 (pc + 1) (lv) (r) (M) (cs) (ss)) : mq_G p l e R s m args below meth c Q nL E D cl A ad0 refs0 (pc) (lv) (v :: r) (M) (cs) (ss) :=
  fun H locs ls ad refs hB hl hvl hvs => lv_pop C.1 C.2.1 hd (mq_cv_cat ad v hv) (k H locs ls ad refs hB hl hvl (mq_vs_tl hvs))
theorem mq_g_dup_x1 (C : mq_C p s m args c cc nL own Ts D cl tys A X) {v w : mAV} (hd : decode cc pc = .ok (.dup_x1, 1)) (hv : mq_c1 v = true) (hw : mq_c1 w = true) (k : mq_G p l e R s m args below meth c Q nL E D cl A ad0 refs0 (pc + 1) (lv) (v :: w :: v :: r) (M) (cs) (ss)) : mq_G p l e R s m args below meth c Q nL E D cl A ad0 refs0 (pc) (lv) (v :: w :: r) (M) (cs) (ss) :=
  fun H locs ls ad refs hB hl hvl hvs => lv_dup_x1 C.1 C.2.1 hd (mq_cv_cat ad v hv) (mq_cv_cat ad w hw) (k H locs ls ad refs hB hl hvl (fun q hq => hvs q (by simp only [List.mem_cons] at hq ⊢; rcases hq with h | h | h | h; exact .inl h; exact .inr (.inl h); exact .inl h; exact .inr (.inr h))))
theorem mq_g_dup_x2 (C : mq_C p s m args c cc nL own Ts D cl tys A X) {v w z : mAV} (hd : decode cc pc = .ok (.dup_x2, 1)) (hv : mq_c1 v = true) (hw : mq_c1 w = true) (hz : mq_c1 z = true) (k : mq_G p l e R s m args below meth c Q nL E D cl A ad0 refs0 (pc + 1) (lv) (v :: w :: z :: v :: r) (M) (cs) (ss)) : mq_G p l e R s m args below meth c Q nL E D cl A ad0 refs0 (pc) (lv) (v :: w :: z :: r) (M) (cs) (ss) :=
  fun H locs ls ad refs hB hl hvl hvs => lv_dup_x2 C.1 C.2.1 hd (mq_cv_cat ad v hv) (mq_cv_cat ad w hw) (mq_cv_cat ad z hz) (k H locs ls ad refs hB hl hvl (fun q hq => hvs q (by simp only [List.mem_cons] at hq ⊢; rcases hq with h | h | h | h | h; exact .inl h; exact .inr (.inl h); exact .inr (.inr (.inl h)); exact .inl h; exact .inr (.inr (.inr h)))))
theorem mq_g_dup2 (C : mq_C p s m args c cc nL own Ts D cl tys A X) {v w : mAV} (hd : decode cc pc = .ok (.dup2, 1)) (hv : mq_c1 v = true) (hw : mq_c1 w = true) (k : mq_G p l e R s m args below meth c Q nL E D cl A ad0 refs0 (pc + 1) (lv) (v :: w :: v :: w :: r) (M) (cs) (ss)) : mq_G p l e R s m args below meth c Q nL E D cl A ad0 refs0 (pc) (lv) (v :: w :: r) (M) (cs) (ss) :=
  fun H locs ls ad refs hB hl hvl hvs => lv_dup2_11 C.1 C.2.1 hd (mq_cv_cat ad v hv) (mq_cv_cat ad w hw) (k H locs ls ad refs hB hl hvl (fun q hq => hvs q (by simp only [List.mem_cons] at hq ⊢; rcases hq with h | h | h | h | h; exact .inl h; exact .inr (.inl h); exact .inl h; exact .inr (.inl h); exact .inr (.inr h))))
theorem mq_g_goto (C : mq_C p s m args c cc nL own Ts D cl tys A X) {off : Int} (hd : decode cc pc = .ok (.goto off, 3)) (ht : (pc : Int) + off = (tgt : Int)) (k : mq_G p l e R s m args below meth c Q nL E D cl A ad0 refs0 (tgt) (lv) (r) (M) (cs) (ss)) : mq_G p l e R s m args below meth c Q nL E D cl A ad0 refs0 (pc) (lv) (r) (M) (cs) (ss) :=
  fun H locs ls ad refs hB hl hvl hvs => lv_goto C.1 C.2.1 hd ht (k H locs ls ad refs hB hl hvl hvs)
theorem mq_g_if_eq (C : mq_C p s m args c cc nL own Ts D cl tys A X) {off : Int} (hd : decode cc pc = .ok (.ifCond .eq off, 3)) (ht : (pc : Int) + off = (tgt : Int)) (kt : x = 0 → mq_G p l e R s m args below meth c Q nL E D cl A ad0 refs0 (tgt) (lv) (r) (M) (cs) (ss)) (kf : ¬ x = 0 → mq_G p l e R s m args below meth c Q nL E D cl A ad0 refs0 (pc + 3) (lv) (r) (M) (cs) (ss)) : mq_G p l e R s m args below meth c Q nL E D cl A ad0 refs0 (pc) (lv) (.inl x :: r) (M) (cs) (ss) :=
  fun H locs ls ad refs hB hl hvl hvs => lv_if_eq C.1 C.2.1 hd ht (fun q => kt q H locs ls ad refs hB hl hvl (mq_vs_tl hvs)) (fun q => kf q H locs ls ad refs hB hl hvl (mq_vs_tl hvs))
theorem mq_g_if_ne (C : mq_C p s m args c cc nL own Ts D cl tys A X) {off : Int} (hd : decode cc pc = .ok (.ifCond .ne off, 3)) (ht : (pc : Int) + off = (tgt : Int)) (kt : ¬ x = 0 → mq_G p l e R s m args below meth c Q nL E D cl A ad0 refs0 (tgt) (lv) (r) (M) (cs) (ss)) (kf : x = 0 → mq_G p l e R s m args below meth c Q nL E D cl A ad0 refs0 (pc + 3) (lv) (r) (M) (cs) (ss)) : mq_G p l e R s m args below meth c Q nL E D cl A ad0 refs0 (pc) (lv) (.inl x :: r) (M) (cs) (ss) :=
  fun H locs ls ad refs hB hl hvl hvs => lv_if_ne C.1 C.2.1 hd ht (fun q => kt q H locs ls ad refs hB hl hvl (mq_vs_tl hvs)) (fun q => kf q H locs ls ad refs hB hl hvl (mq_vs_tl hvs))
theorem mq_g_if_lt (C : mq_C p s m args c cc nL own Ts D cl tys A X) {off : Int} (hd : decode cc pc = .ok (.ifCond .lt off, 3)) (ht : (pc : Int) + off = (tgt : Int)) (kt : x < 0 → mq_G p l e R s m args below meth c Q nL E D cl A ad0 refs0 (tgt) (lv) (r) (M) (cs) (ss)) (kf : ¬ x < 0 → mq_G p l e R s m args below meth c Q nL E D cl A ad0 refs0 (pc + 3) (lv) (r) (M) (cs) (ss)) : mq_G p l e R s m args below meth c Q nL E D cl A ad0 refs0 (pc) (lv) (.inl x :: r) (M) (cs) (ss) :=
  fun H locs ls ad refs hB hl hvl hvs => lv_if_lt C.1 C.2.1 hd ht (fun q => kt q H locs ls ad refs hB hl hvl (mq_vs_tl hvs)) (fun q => kf q H locs ls ad refs hB hl hvl (mq_vs_tl hvs))
theorem mq_g_if_ge (C : mq_C p s m args c cc nL own Ts D cl tys A X) {off : Int} (hd : decode cc pc = .ok (.ifCond .ge off, 3)) (ht : (pc : Int) + off = (tgt : Int)) (kt : ¬ x < 0 → mq_G p l e R s m args below meth c Q nL E D cl A ad0 refs0 (tgt) (lv) (r) (M) (cs) (ss)) (kf : x < 0 → mq_G p l e R s m args below meth c Q nL E D cl A ad0 refs0 (pc + 3) (lv) (r) (M) (cs) (ss)) : mq_G p l e R s m args below meth c Q nL E D cl A ad0 refs0 (pc) (lv) (.inl x :: r) (M) (cs) (ss) :=
  fun H locs ls ad refs hB hl hvl hvs => lv_if_ge C.1 C.2.1 hd ht (fun q => kt (Int32.not_lt.mpr q) H locs ls ad refs hB hl hvl (mq_vs_tl hvs)) (fun q => kf (Int32.not_le.mp q) H locs ls ad refs hB hl hvl (mq_vs_tl hvs))
theorem mq_g_if_gt (C : mq_C p s m args c cc nL own Ts D cl tys A X) {off : Int} (hd : decode cc pc = .ok (.ifCond .gt off, 3)) (ht : (pc : Int) + off = (tgt : Int)) (kt : 0 < x → mq_G p l e R s m args below meth c Q nL E D cl A ad0 refs0 (tgt) (lv) (r) (M) (cs) (ss)) (kf : ¬ 0 < x → mq_G p l e R s m args below meth c Q nL E D cl A ad0 refs0 (pc + 3) (lv) (r) (M) (cs) (ss)) : mq_G p l e R s m args below meth c Q nL E D cl A ad0 refs0 (pc) (lv) (.inl x :: r) (M) (cs) (ss) :=
  fun H locs ls ad refs hB hl hvl hvs => lv_if_gt C.1 C.2.1 hd ht (fun q => kt q H locs ls ad refs hB hl hvl (mq_vs_tl hvs)) (fun q => kf q H locs ls ad refs hB hl hvl (mq_vs_tl hvs))
theorem mq_g_if_le (C : mq_C p s m args c cc nL own Ts D cl tys A X) {off : Int} (hd : decode cc pc = .ok (.ifCond .le off, 3)) (ht : (pc : Int) + off = (tgt : Int)) (kt : ¬ 0 < x → mq_G p l e R s m args below meth c Q nL E D cl A ad0 refs0 (tgt) (lv) (r) (M) (cs) (ss)) (kf : 0 < x → mq_G p l e R s m args below meth c Q nL E D cl A ad0 refs0 (pc + 3) (lv) (r) (M) (cs) (ss)) : mq_G p l e R s m args below meth c Q nL E D cl A ad0 refs0 (pc) (lv) (.inl x :: r) (M) (cs) (ss) :=
  fun H locs ls ad refs hB hl hvl hvs => lv_if_le C.1 C.2.1 hd ht (fun q => kt (Int32.not_lt.mpr q) H locs ls ad refs hB hl hvl (mq_vs_tl hvs)) (fun q => kf (Int32.not_le.mp q) H locs ls ad refs hB hl hvl (mq_vs_tl hvs))
theorem mq_g_icmp_eq (C : mq_C p s m args c cc nL own Ts D cl tys A X) {off : Int} (hd : decode cc pc = .ok (.if_icmp .eq off, 3)) (ht : (pc : Int) + off = (tgt : Int)) (kt : x = y → mq_G p l e R s m args below meth c Q nL E D cl A ad0 refs0 (tgt) (lv) (r) (M) (cs) (ss)) (kf : ¬ x = y → mq_G p l e R s m args below meth c Q nL E D cl A ad0 refs0 (pc + 3) (lv) (r) (M) (cs) (ss)) : mq_G p l e R s m args below meth c Q nL E D cl A ad0 refs0 (pc) (lv) (.inl y :: .inl x :: r) (M) (cs) (ss) :=
  fun H locs ls ad refs hB hl hvl hvs => lv_icmp_eq C.1 C.2.1 hd ht (fun q => kt q H locs ls ad refs hB hl hvl (mq_vs_tl (mq_vs_tl hvs))) (fun q => kf q H locs ls ad refs hB hl hvl (mq_vs_tl (mq_vs_tl hvs)))
theorem mq_g_icmp_ne (C : mq_C p s m args c cc nL own Ts D cl tys A X) {off : Int} (hd : decode cc pc = .ok (.if_icmp .ne off, 3)) (ht : (pc : Int) + off = (tgt : Int)) (kt : ¬ x = y → mq_G p l e R s m args below meth c Q nL E D cl A ad0 refs0 (tgt) (lv) (r) (M) (cs) (ss)) (kf : x = y → mq_G p l e R s m args below meth c Q nL E D cl A ad0 refs0 (pc + 3) (lv) (r) (M) (cs) (ss)) : mq_G p l e R s m args below meth c Q nL E D cl A ad0 refs0 (pc) (lv) (.inl y :: .inl x :: r) (M) (cs) (ss) :=
  fun H locs ls ad refs hB hl hvl hvs => lv_icmp_ne C.1 C.2.1 hd ht (fun q => kt q H locs ls ad refs hB hl hvl (mq_vs_tl (mq_vs_tl hvs))) (fun q => kf q H locs ls ad refs hB hl hvl (mq_vs_tl (mq_vs_tl hvs)))
theorem mq_g_icmp_lt (C : mq_C p s m args c cc nL own Ts D cl tys A X) {off : Int} (hd : decode cc pc = .ok (.if_icmp .lt off, 3)) (ht : (pc : Int) + off = (tgt : Int)) (kt : x < y → mq_G p l e R s m args below meth c Q nL E D cl A ad0 refs0 (tgt) (lv) (r) (M) (cs) (ss)) (kf : ¬ x < y → mq_G p l e R s m args below meth c Q nL E D cl A ad0 refs0 (pc + 3) (lv) (r) (M) (cs) (ss)) : mq_G p l e R s m args below meth c Q nL E D cl A ad0 refs0 (pc) (lv) (.inl y :: .inl x :: r) (M) (cs) (ss) :=
  fun H locs ls ad refs hB hl hvl hvs => lv_icmp_lt C.1 C.2.1 hd ht (fun q => kt q H locs ls ad refs hB hl hvl (mq_vs_tl (mq_vs_tl hvs))) (fun q => kf q H locs ls ad refs hB hl hvl (mq_vs_tl (mq_vs_tl hvs)))
theorem mq_g_icmp_ge (C : mq_C p s m args c cc nL own Ts D cl tys A X) {off : Int} (hd : decode cc pc = .ok (.if_icmp .ge off, 3)) (ht : (pc : Int) + off = (tgt : Int)) (kt : ¬ x < y → mq_G p l e R s m args below meth c Q nL E D cl A ad0 refs0 (tgt) (lv) (r) (M) (cs) (ss)) (kf : x < y → mq_G p l e R s m args below meth c Q nL E D cl A ad0 refs0 (pc + 3) (lv) (r) (M) (cs) (ss)) : mq_G p l e R s m args below meth c Q nL E D cl A ad0 refs0 (pc) (lv) (.inl y :: .inl x :: r) (M) (cs) (ss) :=
  fun H locs ls ad refs hB hl hvl hvs => lv_icmp_ge C.1 C.2.1 hd ht (fun q => kt (Int32.not_lt.mpr q) H locs ls ad refs hB hl hvl (mq_vs_tl (mq_vs_tl hvs))) (fun q => kf (Int32.not_le.mp q) H locs ls ad refs hB hl hvl (mq_vs_tl (mq_vs_tl hvs)))
theorem mq_g_icmp_gt (C : mq_C p s m args c cc nL own Ts D cl tys A X) {off : Int} (hd : decode cc pc = .ok (.if_icmp .gt off, 3)) (ht : (pc : Int) + off = (tgt : Int)) (kt : y < x → mq_G p l e R s m args below meth c Q nL E D cl A ad0 refs0 (tgt) (lv) (r) (M) (cs) (ss)) (kf : ¬ y < x → mq_G p l e R s m args below meth c Q nL E D cl A ad0 refs0 (pc + 3) (lv) (r) (M) (cs) (ss)) : mq_G p l e R s m args below meth c Q nL E D cl A ad0 refs0 (pc) (lv) (.inl y :: .inl x :: r) (M) (cs) (ss) :=
  fun H locs ls ad refs hB hl hvl hvs => lv_icmp_gt C.1 C.2.1 hd ht (fun q => kt q H locs ls ad refs hB hl hvl (mq_vs_tl (mq_vs_tl hvs))) (fun q => kf q H locs ls ad refs hB hl hvl (mq_vs_tl (mq_vs_tl hvs)))
theorem mq_g_icmp_le (C : mq_C p s m args c cc nL own Ts D cl tys A X) {off : Int} (hd : decode cc pc = .ok (.if_icmp .le off, 3)) (ht : (pc : Int) + off = (tgt : Int)) (kt : ¬ y < x → mq_G p l e R s m args below meth c Q nL E D cl A ad0 refs0 (tgt) (lv) (r) (M) (cs) (ss)) (kf : y < x → mq_G p l e R s m args below meth c Q nL E D cl A ad0 refs0 (pc + 3) (lv) (r) (M) (cs) (ss)) : mq_G p l e R s m args below meth c Q nL E D cl A ad0 refs0 (pc) (lv) (.inl y :: .inl x :: r) (M) (cs) (ss) :=
  fun H locs ls ad refs hB hl hvl hvs => lv_icmp_le C.1 C.2.1 hd ht (fun q => kt (Int32.not_lt.mpr q) H locs ls ad refs hB hl hvl (mq_vs_tl (mq_vs_tl hvs))) (fun q => kf (Int32.not_le.mp q) H locs ls ad refs hB hl hvl (mq_vs_tl (mq_vs_tl hvs)))
theorem mq_ad_inj {ad : Nat × Nat → Nat} {refs : List (Nat × Nat)} {H : Heap} {locs : List Loc} (hB : mq_B E D cl A s ad0 refs0 ad refs M H locs) {u w : mRf} (hu : ∀ r, u = some r → r ∈ refs) (hw : ∀ r, w = some r → r ∈ refs) (h : u.map ad = w.map ad) : u = w := by
  rcases u with _ | u <;> rcases w with _ | w
  · rfl
  · cases h
  · cases h
  · rw [mq_injr hB.2.1 (hu u rfl) (hw w rfl) (Option.some.inj h)]
theorem mq_g_ifnull_0 (C : mq_C p s m args c cc nL own Ts D cl tys A X) {off : Int} (hd : decode cc pc = .ok (.ifnull off, 3)) (ht : (pc : Int) + off = (tgt : Int)) (k : mq_G p l e R s m args below meth c Q nL E D cl A ad0 refs0 (tgt) (lv) (r) (M) (cs) (ss)) : mq_G p l e R s m args below meth c Q nL E D cl A ad0 refs0 (pc) (lv) (.inr (.inl none) :: r) (M) (cs) (ss) :=
  fun H locs ls ad refs hB hl hvl hvs => lv_ifnullN C.1 C.2.1 hd ht (k H locs ls ad refs hB hl hvl (mq_vs_tl hvs))
theorem mq_g_ifnull_1 (C : mq_C p s m args c cc nL own Ts D cl tys A X) {q : Nat × Nat} {off : Int} (hd : decode cc pc = .ok (.ifnull off, 3)) (k : mq_G p l e R s m args below meth c Q nL E D cl A ad0 refs0 (pc + 3) (lv) (r) (M) (cs) (ss)) : mq_G p l e R s m args below meth c Q nL E D cl A ad0 refs0 (pc) (lv) (.inr (.inl (some q)) :: r) (M) (cs) (ss) :=
  fun H locs ls ad refs hB hl hvl hvs => lv_ifnull C.1 C.2.1 hd (k H locs ls ad refs hB hl hvl (mq_vs_tl hvs))
theorem mq_g_ifnonnull_0 (C : mq_C p s m args c cc nL own Ts D cl tys A X) {off : Int} (hd : decode cc pc = .ok (.ifnonnull off, 3)) (k : mq_G p l e R s m args below meth c Q nL E D cl A ad0 refs0 (pc + 3) (lv) (r) (M) (cs) (ss)) : mq_G p l e R s m args below meth c Q nL E D cl A ad0 refs0 (pc) (lv) (.inr (.inl none) :: r) (M) (cs) (ss) :=
  fun H locs ls ad refs hB hl hvl hvs => lv_ifnonnullN C.1 C.2.1 hd (k H locs ls ad refs hB hl hvl (mq_vs_tl hvs))
theorem mq_g_ifnonnull_1 (C : mq_C p s m args c cc nL own Ts D cl tys A X) {q : Nat × Nat} {off : Int} (hd : decode cc pc = .ok (.ifnonnull off, 3)) (ht : (pc : Int) + off = (tgt : Int)) (k : mq_G p l e R s m args below meth c Q nL E D cl A ad0 refs0 (tgt) (lv) (r) (M) (cs) (ss)) : mq_G p l e R s m args below meth c Q nL E D cl A ad0 refs0 (pc) (lv) (.inr (.inl (some q)) :: r) (M) (cs) (ss) :=
  fun H locs ls ad refs hB hl hvl hvs => lv_ifnonnull C.1 C.2.1 hd ht (k H locs ls ad refs hB hl hvl (mq_vs_tl hvs))
theorem mq_g_ldc2 (C : mq_C p s m args c cc nL own Ts D cl tys A X) {ix : Nat} {z : Int64} (hd : decode cc pc = .ok (.ldc2_w ix, 3)) (hv : Jvm.Cond.constantLong own ix z ∈ Ts) (k : mq_G p l e R s m args below meth c Q nL E D cl A ad0 refs0 (pc + 3) (lv) (.inr (.inr z) :: r) (M) (cs) (ss)) : mq_G p l e R s m args below meth c Q nL E D cl A ad0 refs0 (pc) (lv) (r) (M) (cs) (ss) :=
  fun H locs ls ad refs hB hl hvl hvs => lv_ldc2 C.1 C.2.1 C.2.2.2.1 (C.2.2.2.2.1 _ hv) hd (k H locs ls ad refs hB hl hvl (mq_vs_long hvs))
theorem mq_g_land (C : mq_C p s m args c cc nL own Ts D cl tys A X) {x y : Int64} (hd : decode cc pc = .ok (.land, 1)) (k : mq_G p l e R s m args below meth c Q nL E D cl A ad0 refs0 (pc + 1) (lv) (.inr (.inr (x &&& y)) :: r) (M) (cs) (ss)) : mq_G p l e R s m args below meth c Q nL E D cl A ad0 refs0 (pc) (lv) (.inr (.inr y) :: .inr (.inr x) :: r) (M) (cs) (ss) :=
  fun H locs ls ad refs hB hl hvl hvs => lv_land C.1 C.2.1 hd (k H locs ls ad refs hB hl hvl (mq_vs_long (mq_vs_tl (mq_vs_tl hvs))))
end MQG
