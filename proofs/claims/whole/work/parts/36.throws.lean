/-! Throws, over the machine's world. -/
/-- a static of Throwable's: it holds a reference or null, in a cell that is none of A's -/
def mq_Zs (n d : String) (A : Nat → Prop) (U : State) (H : Heap) : Prop := ∃ (c : ClassId) (k : Class) (i : Nat) (f : Field) (a : Nat) (cell : Cell), U.vm.findClass Bundle.tN = some c ∧ U.fieldFound? Bundle.tN n d = some (c, k, i, f) ∧ f.isStatic = true ∧ k.statics = some a ∧ H[a]? = some cell ∧ cell.vm.isStatics = true ∧ cell.cls = c ∧ f.slot < cell.slots.size ∧ k.staticTypes[f.slot]? = some f.type ∧ (∃ u : RefV, cell.slots[f.slot]? = some u.v) ∧ ¬ A a
section MQZ
variable {n d : String} {A B : Nat → Prop} {u U : State} {H H1 : Heap}
theorem mq_Zs.of {args : Array Value} (hl : (Jvm.Cond.laysStatic Bundle.tN n d).before args U = true) (hr : (Jvm.Cond.isRef (.static Bundle.tN n d)).before args U = true) (hA : ∀ a : Nat, a < U.heap.size → ¬ A a) : mq_Zs n d A U U.heap := by
  obtain ⟨c, k, i, f, a, cell, hc, hi, hst, ha, hcell, hs, hcls, hlt, hty⟩ := Cond.laysStatic_spec hl
  obtain ⟨w, hw⟩ := Cond.staticRefV hi hst ha hcell hs hr
  exact ⟨c, k, i, f, a, cell, hc, hi, hst, ha, hcell, hs, hcls, hlt, hty, ⟨w, hw⟩, hA a (Array.getElem?_eq_some_iff.mp hcell).1⟩
theorem mq_Zs.moved (hvm : u.vm.Alike U.vm) (h : mq_Zs n d A u H) : mq_Zs n d A U H := by
  obtain ⟨c, k, i, f, a, cell, h1, h2, h3, h4, h5, h6, h7, h8, h9, h10, h11⟩ := h
  obtain ⟨k', hi', he⟩ := State.fieldFound?_setVm hvm h2
  exact ⟨c, k', i, f, a, cell, by rw [hvm.findClass]; exact h1, hi', h3, by rw [he]; exact h4, h5, h6, h7, h8, by rw [he]; exact h9, h10, h11⟩
theorem mq_Zs.kept (h : mq_Zs n d A U H) (hq : ∀ a : Nat, a < H.size → ¬ A a → H1[a]? = H[a]?) : mq_Zs n d A U H1 := by
  obtain ⟨c, k, i, f, a, cell, h1, h2, h3, h4, h5, h6, h7, h8, h9, h10, h11⟩ := h
  exact ⟨c, k, i, f, a, cell, h1, h2, h3, h4, by rw [hq a (Array.getElem?_eq_some_iff.mp h5).1 h11]; exact h5, h6, h7, h8, h9, h10, h11⟩
theorem mq_Zs.narrow (h : mq_Zs n d A U H) (hAB : ∀ q, B q → A q) : mq_Zs n d B U H := by
  obtain ⟨c, k, i, f, a, cell, h1, h2, h3, h4, h5, h6, h7, h8, h9, h10, h11⟩ := h
  exact ⟨c, k, i, f, a, cell, h1, h2, h3, h4, h5, h6, h7, h8, h9, h10, fun z => h11 (hAB a z)⟩
theorem mq_Zs.lays {args : Array Value} (h : mq_Zs n d A U U.heap) : (Jvm.Cond.laysStatic Bundle.tN n d).before args U = true := by
  obtain ⟨c, k, i, f, a, cell, h1, h2, h3, h4, h5, h6, h7, h8, h9, h10, h11⟩ := h
  exact Cond.laysStatic_of h1 h2 h3 h4 h5 h6 h7 h8 h9
theorem mq_Zs.ref {args : Array Value} (h : mq_Zs n d A U U.heap) : (Jvm.Cond.isRef (.static Bundle.tN n d)).before args U = true := by
  obtain ⟨c, k, i, f, a, cell, h1, h2, h3, h4, h5, h6, h7, h8, h9, ⟨⟨v, hv⟩, h10⟩, h11⟩ := h
  have he : (Term.static Bundle.tN n d).eval args U none [] U = cell.slots[f.slot]? := by
    simp [Term.eval, State.fieldNamed?, h2, h3, h4, h5, h6]
  show (Jvm.Cond.isRef (.static Bundle.tN n d)).holds args U none U [] = true
  simp only [Cond.holds, Cond.value]
  rw [he, h10]
  cases v <;> simp [Value.isRef] at hv <;> rfl
end MQZ
def mq_Y (A : Nat → Prop) (U : State) (H : Heap) : Prop := mq_Zs "UNASSIGNED_STACK" Bundle.steD A U H ∧ mq_Zs "SUPPRESSED_SENTINEL" Bundle.listD A U H
/-- how a throw ends -/
def mq_QT (E : mEv) (D : va_G) (cl : List vw_C) (tys : List (ClassId × FieldType)) (A : Nat → Prop) (ad0 : Nat × Nat → Nat) (refs0 : List (Nat × Nat)) (cls : String) (M' : mMm) : Array Value → State → Outcome → State → Prop := fun _ st oc t =>
  (∃ (ad : Nat × Nat → Nat) (refs : List (Nat × Nat)) (a : Nat) (ce : Cell), oc = .threw a ∧ t.heap[a]? = some ce ∧ ce.vm = .none ∧ st.vm.findClass cls = some ce.cls ∧ (∀ r, r ∈ refs0 → r ∈ refs) ∧ (∀ r, mq_vr refs0 r → ad r = ad0 r) ∧ va_P D cl (mq_W E ad refs M') t.heap ∧ va_K D cl tys t ∧ va_D A (mq_W E ad refs M') ∧ mq_V E M' refs) ∧ va_F A st t
def mq_MT (l : Launch) (y : MethodName) (ws : List Cond) (rm : Room) (Pc : Array Value → State → Prop) (Qc : Array Value → State → Outcome → State → Prop) (mc ms : Nat) (free : Addr → Prop) : Prop :=
  MetFree l y (headSpec ws rm) Pc (fun _ _ _ _ _ => True) (fun a st o t => Qc a st o t ∧ ∃ L, FramedT st o t L mc ms ∧ ∀ q ∈ L, free q.base)
def mq_MQT (below : List Frame) (Qc : Array Value → State → Outcome → State → Prop) (a : Array Value) (s : State) (mc ms : Nat) (free : Addr → Prop) : State → Prop := fun t =>
  ∃ o, t.status = .running ∧ Ended t below o ∧ Qc a s o t ∧ ∃ L, FramedT s o t L mc ms ∧ ∀ q ∈ L, free q.base
theorem mq_MT_ofW {l : Launch} {y : MethodName} {ws ws' : List Cond} {rm : Room} {Pc : Array Value → State → Prop} {Qc : Array Value → State → Outcome → State → Prop} {mc ms : Nat} {free : Addr → Prop} {cc : ByteArray} {maxL : Nat} {ret : Option FieldType}
    (hy : plainName y.cls = true) (hw : ws = Cond.code y cc maxL ret :: ws')
    (body : ∀ p e s m args below meth c s₁, BodyLoose p l y (headSpec ws rm) cc maxL ret e s m args below meth c s₁ → c.maxLocals = maxL → Pc args s →
      W p l e (headSpec ws rm).room s m args below meth c s.heap [] 0 0 (mq_MQT below Qc args s mc ms free) (entryFrame m args maxL)) : mq_MT l y ws rm Pc Qc mc ms free := by
  refine MetFree.of_bodyS (code := cc) (maxLocals := maxL) (ret := ret) hy ?_ ?_
  · intro args s m h hn
    obtain ⟨meth, c, h1, h2, h3, h4, h5, h6, -, -⟩ := Cond.code_spec hn (atoms_spec (ws := ws) h _ (by rw [hw]; exact List.mem_cons_self))
    exact ⟨meth, c, h1, h2, h3, h4, h5, h6⟩
  · intro p e s m args below meth c s₁ B hml hP _
    have hh0 : s₁.heap = s.heap := by rw [B.state]; rfl
    obtain ⟨t, a1, o, b1, b2, b3⟩ := body p e s m args below meth c s₁ B hml hP s₁ hh0 (Stand.of_body B)
    exact ⟨t, o, a1, b1, b2, ⟨b3.1, b3.2⟩⟩
section MQH
variable {p : Program} {l : Launch} {e : Env} {R : Room} {s : State} {m : MethodId} {args : Array Value} {below : List Frame} {meth : Method} {c : Code}
variable {cc : ByteArray} {nL : Nat} {own : String} {Ts : List Cond} {D : va_G} {cl : List vw_C} {tys : List (ClassId × FieldType)} {A : Nat → Prop} {X : State → Prop} {E : mEv} {ad0 : Nat × Nat → Nat} {refs0 : List (Nat × Nat)}
variable {pc : Nat} {lv : List (Nat × mLV)} {M : mMm} {cs ss mc ms : Nat}
theorem mq_g_throw (C : mq_C p s m args c cc nL own Ts D cl tys A X) (htr : e.platform.stackTraces = false) (hlocks : meth.locks = false) (hemp : c.exceptionTable.isEmpty = true) (hAs : ∀ (q : Nat) (cell : Cell), A q → s.heap[q]? = some cell → cell.vm.isStatics = false)
    {cls tx : String} {names : List String} {ix is ic a0 : Nat} (hcls : Bundle.fit cls = true) (hnames : ∀ n ∈ names, Bundle.fit n = true) (hat : ∀ a ∈ Bundle.ownAtoms own ic cls names, a.before args s = true)
    (hcl : Jvm.Cond.classLink own ix cls ∈ Ts) (hins : Jvm.Cond.instantiable cls 6 ∈ Ts) (hini : Jvm.Cond.initialized cls ∈ Ts) (hstr : vk_R own is tx a0 s)
    (hd0 : decode cc pc = .ok (.new ix, 3)) (hd3 : decode cc (pc + 3) = .ok (.dup, 1)) (hd4 : decode cc (pc + 4) = .ok (.ldc is, 2)) (hd6 : decode cc (pc + 6) = .ok (.invokespecial ic, 3)) (hd9 : decode cc (pc + 9) = .ok (.athrow, 1))
    (hR : names.length + 3 < R.frames ∧ 13 * (names.length + 1) + 43 ≤ R.locals) (hf : cs + 1 ≤ R.cells ∧ ss + 6 ≤ R.slots) (hm : cs + 1 ≤ mc ∧ ss + 6 ≤ ms) :
    mq_G p l e R s m args below meth c (mq_MQT below (mq_QT E D cl tys A ad0 refs0 cls M) args s mc ms A) nL E D cl A ad0 refs0 pc lv [] M cs ss := by
  intro H locs ls ad refs hB hl hvl hvs
  obtain ⟨cX, hfc⟩ : ∃ cX, s.vm.findClass cls = some cX := by
    obtain ⟨c1, k1, hc1, -⟩ := Cond.instantiable_spec (C.2.2.2.2.1 _ hins)
    exact ⟨c1, hc1⟩
  refine W.newcK C.1 C.2.1 C.2.2.2.1 (C.2.2.2.2.1 _ hcl) (C.2.2.2.2.1 _ hins) (C.2.2.2.2.1 _ hini) rfl hd0 hf.1 hf.2 hfc rfl fun H' kC hkC e1 z1 o1 => ?_
  refine W.eq (g2 := F0 m (pc + 3) ls [.ref H.size]) rfl ?_
  refine lv_dup C.1 C.2.1 hd3 rfl ?_
  refine va_ldcS C.1 C.2.1 C.2.2.2.1 hstr hd4 ?_
  refine W.widen hm.1 hm.2 ?_
  intro T hT X0
  obtain ⟨U, st, hrun, hend, hW, hsame, ⟨ce, hce, hv, hcc⟩, hz, hq⟩ := mq_ctorThrow (names := names) (msg := .ref a0) (rest := []) X0 C.1 htr C.2.2.2.1 hcls hnames hat (fun x hx cell hcell => hAs x.base cell (hB.2.2.1.2.2 x hx) hcell) hfc hkC (by rw [hT]; exact e1) hB.2.2.1.1 rfl (g := F0 m (pc + 6) ls [.ref a0, .ref H.size, .ref H.size]) rfl (by rw [C.2.2.1]; exact hl.1) rfl rfl rfl (by rw [C.2.1]; exact hd6) (by rw [C.2.1]; exact hd9)
    (fun x hx => by rw [Array.isEmpty_iff.mp hemp] at hx; cases hx) hR.1 (by show 2 * 0 + 1 + _ ≤ _; omega) hlocks
  have hkeep : ∀ q : Nat, q < H.size → U.heap[q]? = H[q]? := fun q hlt => by
    rw [hq q (Nat.ne_of_lt hlt), hT]
    exact o1 q hlt
  refine ⟨U, st, .threw H.size, hrun, hend, ⟨⟨ad, refs, H.size, ce, rfl, hce, hv, by rw [hcc]; exact hfc, hB.2.2.2.2.1, hB.2.2.2.2.2, hB.1.kept (fun k q hk => hkeep q.1 (hB.1 k q hk).lt), va_K.moved hW.alike C.2.2.2.2.2.1, hB.2.1, hB.2.2.2.1⟩, ?_, fun q h1 h2 => ?_⟩, locs, ⟨⟨_, rfl⟩, hW, hsame⟩, hB.2.2.1.2.2⟩
  · rw [hz, hT, z1]
    exact Nat.le_succ_of_le hB.2.2.1.1
  · rw [hkeep q (Nat.lt_of_lt_of_le h1 hB.2.2.1.1)]
    exact hB.2.2.1.2.1 q h1 h2
end MQH
/-- a throw's place is as the class file and the tables have it -/
def mq_okt (cc : ByteArray) (own : String) (Ts : List Cond) (ki : Nat → Nat × Nat × Nat) (exn : Nat → String) (names : List String) (Wd : State → Prop) (en : mEn) : Prop :=
  ∀ ix, en.2.1 = .new ix → (ki en.2.2.2.1).1 = 8 → Bundle.fit (exn en.2.2.2.1) = true ∧ Jvm.Cond.classLink own ix (exn en.2.2.2.1) ∈ Ts ∧ Jvm.Cond.instantiable (exn en.2.2.2.1) 6 ∈ Ts ∧ Jvm.Cond.initialized (exn en.2.2.2.1) ∈ Ts ∧ ∃ (is ic : Nat) (tx : String), (∀ s : State, Wd s → ∃ a0, vk_R own is tx a0 s) ∧
    (decode cc en.1 = .ok (.new ix, 3) ∧ decode cc (en.1 + 3) = .ok (.dup, 1) ∧ decode cc (en.1 + 4) = .ok (.ldc is, 2) ∧ decode cc (en.1 + 6) = .ok (.invokespecial ic, 3) ∧ decode cc (en.1 + 9) = .ok (.athrow, 1)) ∧
    ∀ (A : Nat → Prop) (args : Array Value) (s : State), (∀ w ∈ Ts, w.before args s = true) → Wd s → mq_Y A s s.heap → ∀ a ∈ Bundle.ownAtoms own ic (exn en.2.2.2.1) names, a.before args s = true
