/-! A call that throws, and is caught where it was called: the law's wrappers. -/
/-- class C is (b true) or isn't a T -/
def mq_cs (U : State) (C T : String) (b : Bool) : Prop := ∃ c t, U.vm.findClass C = some c ∧ U.vm.findClass T = some t ∧ U.vm.assignable c t = b
theorem mq_cs.moved {u U : State} {C T : String} {b : Bool} (hvm : u.vm.Alike U.vm) (h : mq_cs u C T b) : mq_cs U C T b := by
  obtain ⟨c, t, h1, h2, h3⟩ := h
  exact ⟨c, t, by rw [hvm.findClass]; exact h1, by rw [hvm.findClass]; exact h2, by rw [hvm.assignable]; exact h3⟩
theorem mq_cs.yes {U : State} {C T : String} {args : Array Value} (h : (Jvm.Cond.castable C T).before args U = true) : mq_cs U C T true := Cond.castable_spec h
theorem mq_cs.no {U : State} {C T : String} {args : Array Value} (h : (Jvm.Cond.not (.castable C T)).before args U = true) : mq_cs U C T false := by
  have h : (Jvm.Cond.not (.castable C T)).holds args U none U [] = true := h
  simp only [Cond.holds, Cond.value] at h
  cases hc : U.vm.findClass C with
  | none => simp [hc] at h
  | some c =>
    cases ht : U.vm.findClass T with
    | none => simp [hc, ht] at h
    | some t => exact ⟨c, t, hc, ht, by simpa [hc, ht] using h⟩
theorem mq_split {α β : Type} (f : α → β) : ∀ (l : List α) (pre : List β) (x : β) (rest : List β), l.map f = pre ++ x :: rest → ∃ pre' x' rest', l = pre' ++ x' :: rest' ∧ pre'.map f = pre ∧ f x' = x
  | [], pre, x, rest, h => by cases pre <;> cases h
  | a :: l, [], x, rest, h => by
    simp only [List.map_cons, List.nil_append, List.cons.injEq] at h
    exact ⟨[], a, l, rfl, rfl, h.1⟩
  | a :: l, b :: pre, x, rest, h => by
    simp only [List.map_cons, List.cons_append, List.cons.injEq] at h
    obtain ⟨p1, x1, r1, e1, e2, e3⟩ := mq_split f l pre x rest h.2
    exact ⟨a :: p1, x1, r1, by rw [e1]; rfl, by rw [List.map_cons, e2, h.1], e3⟩
section MQV
variable {p : Program} {l : Launch} {e : Env} {R : Room} {s : State} {m : MethodId} {args : Array Value} {below : List Frame} {meth : Method} {c : Code} {T : State} {locs : List Loc} {cells slots : Nat}
theorem mq_callT (X : Stand p l e R s m args below meth c T locs cells slots) (hexec : p.tables.exec = Jvm.exec) {own C : String} {index : Nat} {y : MethodName} {bytes : ByteArray} {maxL : Nat} {ret : Option FieldType}
    (hown : s.vm.findClass own = some m.cls) (hlink : (Cond.methodLink own index y).before args s = true) (hinst : (Cond.instanceMethod y).before args s = true) (hsel : (Cond.selects C y y).before args s = true)
    (hcode : (Cond.code y bytes maxL ret).before args s = true) (hy : y.cls ≠ "java/lang/invoke/MethodHandle" ∧ y.cls ≠ "java/lang/invoke/VarHandle")
    {ws : List Cond} {rm : Room} {Pc : Array Value → State → Prop} {Qc : Array Value → State → Outcome → State → Prop} {mc ms : Nat} {free : Addr → Prop}
    (hM : mq_MT l y ws rm Pc Qc mc ms free) (hblind : FrameBlind Pc) (hrc : rm.cells = mc) (hrs : rm.slots = ms) {W : Nat} (hframes : rm.frames + 1 ≤ R.frames) (hlocals : W + (maxL + 11) + rm.locals ≤ R.locals)
    (hws : ∀ w ∈ ws, ∀ (a' : Array Value) (U : State), s.WarmedH U.vm → w.before a' U = true) (hcw : Cond.code y bytes maxL ret ∈ ws) (hinit : ∀ (a' : Array Value) (U : State), s.WarmedH U.vm → (Cond.initialized y.cls).before a' U = true)
    (hQ : ∀ a st o t, Qc a st o t → ∃ x, o = .threw x)
    {b : Addr} {cellB : Cell} (hcell : T.heap[b]? = some cellB) (hobj : cellB.vm.isStatics = false) (hcls : s.vm.findClass C = some cellB.cls)
    {g : JFrame} (hg : g.method = m) (hsize : g.locals.size = c.maxLocals) {argsL rest : List Value} (hlen : ∀ sig, parseMethodDescriptor y.desc = some sig → argsL.length = sig.parameters.length)
    (hstack : g.stack = argsL.reverse ++ .ref b :: rest) (hW : 2 * g.monitorRoom + (rest.map fun v => v.category).sum ≤ W) (hdg : decode c.code g.pc = .ok (.invokevirtual index, 3))
    (hf : cells + mc ≤ R.cells ∧ slots + ms ≤ R.slots) (hpre : ∀ vm₁, s.WarmedH vm₁ → Pc (Value.ref b :: argsL).toArray (T.setVm vm₁)) :
    ∃ (x : Addr) (T' : State) (L : List Loc) (st t : State), Stand p l e R s m args below meth c T' (locs ++ L) (cells + mc) (slots + ms) ∧ st.heap = T.heap ∧ s.vm.Alike st.vm ∧ T'.heap = t.heap ∧ T'.vm = t.vm ∧ Qc (Value.ref b :: argsL).toArray st (.threw x) t ∧ (∀ q ∈ L, free q.base) ∧
      ∀ target, Steps p.tables e below ((T'.setTop { g with stack := rest }).pushFrame (.throwing x)) target → Steps p.tables e below (T.setTop g) target := by
  obtain ⟨mk, methM, hnamed, hmethM, hstM, habM⟩ := Cond.instanceMethod_spec hinst
  obtain ⟨methM', cM, hmethM', -, -, -, -, -, -, hsigM⟩ := Cond.code_spec hnamed hcode
  cases hmethM.symm.trans hmethM'
  obtain ⟨c2, r2, m2, q1, q2, q3, q4, kP, hkP, hkPi⟩ := Cond.selects_spec hsel
  cases hcls.symm.trans q1
  cases (State.methodFound?_of_named hnamed hy).symm.trans q2
  cases hnamed.symm.trans q3
  have hselP : selectMethod e.platform s.vm cellB.cls mk = .method mk := by rw [Launch.admits_selectMethod X.admits]; exact q4
  obtain ⟨vm₁, X₁, hstep₁⟩ := X.invokevirtual hexec hown hlink hnamed hmethM hstM hkP hkPi hy (a := b) (cell := cellB) hcell
    (fun z h => by rw [h] at hobj; cases hobj) hselP hmethM habM hkP hkPi (g := g) hg (argsL := argsL) (rest := rest) (hlen _ hsigM) hstack hdg
  have hn1 := X₁.named hnamed
  obtain ⟨methY, cY, hmY, hcY, -, hlY, -⟩ := Cond.code_spec hn1 (hws _ hcw (Value.ref b :: argsL).toArray _ X₁.warmed)
  obtain ⟨kY, hkY, -⟩ := className_of_methodNamed hn1
  have hinitY : kY.init = .initialized := Cond.initialized_spec (findClass_of_methodNamed hn1) hkY (hinit (Value.ref b :: argsL).toArray _ X₁.warmed)
  have h : At (T.setVm vm₁) ({ g with stack := rest } : JFrame).method c below := by
    show At (T.setVm vm₁) g.method c below
    rw [hg]; exact X₁.here
  have happ : (headSpec ws rm).appliesLoose y e.platform ((T.setVm vm₁).calling { g with stack := rest } mk (Value.ref b :: argsL).toArray) = true :=
    Spec.appliesLoose_calling (g := { g with stack := rest }) h hdg hn1 hkY hinitY
      (X₁.room_calling (g := { g with stack := rest }) (R' := rm) hsize hmY hcY hframes (by rw [hlY]; dsimp only; omega) (by rw [hrc]; exact hf.1) (by rw [hrs]; exact hf.2)) (atoms_intro fun w hw => hws w hw _ _ X₁.warmed)
  obtain ⟨mid, hmid⟩ := h.above
  have hfr : ((T.setVm vm₁).setTop { g with stack := rest }).frames = (.java { g with stack := rest } :: mid) ++ below := by rw [State.frames_setTop' _ h.top, hmid]; rfl
  obtain ⟨o, s₂, hsteps, -, hend, hq, L, hF, hL⟩ := Steps.callFree hM p X₁.admits X₁.cas X₁.clock (acts := []) hfr happ (hblind _ _ _ _ (hpre vm₁ X₁.warmed)) trivial
  rw [State.frames_setTop' _ h.top] at hend
  obtain ⟨g₀, hr⟩ := X₁.frames_eq
  rw [hr, List.tail_cons] at hend
  obtain ⟨x, rfl⟩ := hQ _ _ _ _ hq
  obtain ⟨-, hW₂, hsame⟩ := hF
  obtain ⟨T', X', hW', hs', ht⟩ := X₁.outOfThrown (g := { g with stack := rest }) hg hend hW₂ hsame
  refine ⟨x, T', L, ((T.setVm vm₁).setTop { g with stack := rest }).pushFrame (Frame.invoking mk (Value.ref b :: argsL).toArray), s₂, X', rfl, X₁.warmed.alike, by rw [ht]; rfl, by rw [ht]; rfl, hq, hL, fun target hrest => hstep₁ _ fun acts => ?_⟩
  rw [doInvoke_state]
  exact hsteps.trans (by rw [ht]; exact hrest)
end MQV
section MQK
variable {p : Program} {l : Launch} {e : Env} {R : Room} {s : State} {m : MethodId} {args : Array Value} {below : List Frame} {meth : Method} {c : Code} {Q : State → Prop}
variable {cc : ByteArray} {nL : Nat} {own : String} {Ts : List Cond} {D : va_G} {cl : List vw_C} {tys : List (ClassId × FieldType)} {A : Nat → Prop} {X : State → Prop} {E : mEv} {ad0 : Nat × Nat → Nat} {refs0 : List (Nat × Nat)}
variable {pc b ix ci N : Nat} {lv : List (Nat × mLV)} {r st : List mAV} {M M' : mMm} {cs ss mc ms : Nat} {q : Nat × Nat}
variable {yM : MethodName} {bytes : ByteArray} {maxL nA : Nat} {ret : Option FieldType} {ws : List Cond} {rm : Room} {qC : vw_C} {as : List mLV}
set_option maxHeartbeats 1000000 in
theorem mq_g_catch (C : mq_C p s m args c cc nL own Ts D cl tys A X) (h9 : (E.1 999).1 = 9) (hpop : mq_pop b st [] = some (.inr (some q) :: as, r)) (hk : E.1 q.1 = (0, ci, N)) (hc : cl[ci]? = some qC)
    {PT : (Nat × Nat → Nat) → List (Nat × Nat) → Nat → Array Value → State → Prop} {cls : String}
    (hM : ∀ ad refs sz, mq_V E M refs → (∀ r', (.inr (some r') : mLV) ∈ (.inr (some q) : mLV) :: as → mq_vr refs r') → mq_MT l yM ws rm (PT ad refs sz) (mq_QT E D cl tys (va_A (mq_W E ad refs M) sz) ad refs cls M') mc ms (va_A (mq_W E ad refs M) sz))
    (hbl : ∀ ad refs sz, FrameBlind (PT ad refs sz))
    (hPT : ∀ H locs ad refs, mq_B E D cl A s ad0 refs0 ad refs M H locs → ∀ U : State, U.heap = H → s.WarmedH U.vm → PT ad refs H.size (((.inr (some q) : mLV) :: as).map (mq_cl ad)).toArray U)
    (cw : CallW R s args own qC.1 ix yM bytes maxL ret ws rm mc ms nA) (hn : as.length = nA) (hr4 : mq_rl r ≤ 8) (hf : cs + mc ≤ R.cells ∧ ss + ms ≤ R.slots) (hd : decode cc pc = .ok (.invokevirtual ix, 3))
    (pre : List ExceptionTableEntry) (x : ExceptionTableEntry) (rest : List ExceptionTableEntry) (hsplit : c.exceptionTable.toList = pre ++ x :: rest)
    (hcov : covers x pc = true) (h0 : x.catchType ≠ 0) (hcl : Jvm.Cond.classLink own x.catchType cls ∈ Ts) (hyes : mq_cs s cls cls true)
    (hpass : ∀ y ∈ pre, y.catchType ≠ 0 ∧ ∃ n', Jvm.Cond.classLink own y.catchType n' ∈ Ts ∧ mq_cs s cls n' false)
    {hp : Nat} (hst : (∃ k : Fin 4, decode cc x.handlerPc = .ok (.astore_n k, 1) ∧ k.val < nL ∧ hp = x.handlerPc + 1) ∨ ∃ i, decode cc x.handlerPc = .ok (.astore i, 2) ∧ i < nL ∧ hp = x.handlerPc + 2)
    (kk : mq_G p l e R s m args below meth c Q nL E D cl A ad0 refs0 hp [] [] M' (cs + mc) (ss + ms)) : mq_G p l e R s m args below meth c Q nL E D cl A ad0 refs0 pc lv st M cs ss := by
  intro H locs ls ad refs hB hl hvl hvs
  obtain ⟨hlen, hst0⟩ := mq_pop_st hpop
  have hva : ∀ w, (.inr (some w) : mLV) ∈ (.inr (some q) : mLV) :: as → mq_vr refs w := fun w hw => hvs w (by
    rw [hst0]
    exact List.mem_append_left _ (List.mem_reverse.mpr (List.mem_map.mpr ⟨_, hw, rfl⟩)))
  have hmap : st.map (mq_cv ad) = ((((.inr (some q) : mLV) :: as).map (mq_cl ad))).reverse ++ r.map (mq_cv ad) := by
    rw [hst0, List.map_append, List.map_reverse, List.map_map]
    congr 2
    apply List.map_congr_left
    intro v _
    exact mq_cv_toA ad v
  rw [hmap]
  have hAA : ∀ q, va_A (mq_W E ad refs M) H.size q → A q := by
    intro q hq
    rcases hq with ⟨k, e, hk⟩ | hq
    · exact hB.2.1.2 k _ hk
    · exact C.2.2.2.2.2.2.1 q (Nat.le_trans hB.2.2.1.1 hq)
  have hm : q ∈ refs := mq_in h9 (hva q List.mem_cons_self) hk (Nat.ne_of_beq_eq_false rfl)
  obtain ⟨j, hj⟩ := List.getElem?_of_mem hm
  have he := mq_W_at (E := E) (ad := ad) (M := M) hj
  rw [mq_ce0 hk] at he
  obtain ⟨cellB, hcB, hoB, hclB⟩ := va_recv C.2.2.2.2.2.1 hB.1 hc he
  have hstk : (((.inr (some q) : mLV) :: as).map (mq_cl ad)).reverse ++ r.map (mq_cv ad) = (as.map (mq_cl ad)).reverse ++ .ref (ad q) :: r.map (mq_cv ad) := by
    rw [List.map_cons, List.reverse_cons, List.append_assoc]; rfl
  obtain ⟨⟨hrc, hrs, hfr, hlo, hws, hcw, hcode, hini, hy, hlen2, hl2⟩, hin, hse⟩ := cw
  intro T hT X0
  obtain ⟨x0, T', L, st', t, X', hst1, hal, hT', hvm', hq, hL, hgo⟩ := mq_callT X0 C.1 C.2.2.2.1 hl2 hin hse hcode hy (hM ad refs H.size hB.2.2.2.1 hva) (hbl _ _ _) hrc hrs hfr hlo hws hcw (fun a' U hW => word_at hW (Or.inl (by first | rfl | simp [Cond.onTables, Cond.keeps, Cond.steady])) hini)
    (fun _ _ _ _ h => by obtain ⟨⟨_, _, a, _, h, _⟩, _⟩ := h; exact ⟨a, h⟩) (by rw [hT]; exact hcB) hoB hclB (g := F0 m pc ls ((((.inr (some q) : mLV) :: as).map (mq_cl ad)).reverse ++ r.map (mq_cv ad))) rfl (hl.1.trans C.2.2.1.symm) (argsL := as.map (mq_cl ad)) (rest := r.map (mq_cv ad)) (fun sig h => by rw [List.length_map, hn]; exact hlen2 sig h) hstk (mq_room hr4) (by rw [C.2.1]; exact hd) hf
    (fun vm₁ hW₁ => hPT H locs ad refs hB (T.setVm vm₁) hT hW₁)
  obtain ⟨⟨ad', refs', a1, ce, ha1, hce, hcev, hcec, g1, g2, g3, g4, g5, g6⟩, hz, hk2⟩ := hq
  cases ha1
  rw [hal.findClass] at hcec
  rw [hst1, hT] at hz hk2
  obtain ⟨c1, t1, w1, w2, w3⟩ := hyes
  cases hcec.symm.trans w1
  cases hcec.symm.trans w2
  have hpl : e.platform.magicAccessors = ({} : Platform).magicAccessors := by rw [X0.admits.platform]
  obtain ⟨cx, v1, v2⟩ := Cond.classLink_spec C.2.2.2.1 (C.2.2.2.2.1 _ hcl) e.platform hpl
  cases hcec.symm.trans v1
  have hk0 : ∃ k, s.vm.classes[ce.cls]? = some k := by
    obtain ⟨dk, _, _, kt, hd, _, _, _, _, hkt, _, hopen⟩ := v2.here
    exact ⟨kt, hkt⟩
  obtain ⟨vm', X'', hgo2⟩ := mq_caught X' x0 (g := F0 m pc ls (r.map (mq_cv ad))) rfl (cell := ce) (by rw [hT']; exact hce) (by rw [hcev]; rfl) hk0 pre x rest hsplit
    (fun y hy => Or.inr ⟨(hpass y hy).1, by
      obtain ⟨-, n', z0, c', t', k1, k2, k3⟩ := hpass y hy
      obtain ⟨cz, z1, z2⟩ := Cond.classLink_spec C.2.2.2.1 (C.2.2.2.2.1 _ z0) e.platform hpl
      cases hcec.symm.trans k1
      cases z1.symm.trans k2
      exact ⟨_, z2, k3⟩⟩) hcov h0 v2 w3
  have hS' : va_S A s.heap t.heap (locs ++ L) := ⟨Nat.le_trans hB.2.2.1.1 hz, fun q h1 h2 => by
      rw [hk2 q (Nat.lt_of_lt_of_le h1 hB.2.2.1.1) (fun z => h2 (hAA q z))]; exact hB.2.2.1.2.1 q h1 h2, fun q hq => by
      rcases List.mem_append.mp hq with h | h
      · exact hB.2.2.1.2.2 q h
      · exact hAA _ (hL q h)⟩
  have hw : W p l e R s m args below meth c t.heap (locs ++ L) (cs + mc) (ss + ms) Q (F0 m x.handlerPc ls [.ref x0]) := by
    have hnil : lv_has ls nL [] := ⟨hl.1, hl.2.1, fun _ h => by cases h⟩
    have fin : ∀ ls', lv_has ls' nL [] → W p l e R s m args below meth c t.heap (locs ++ L) (cs + mc) (ss + ms) Q (F0 m hp ls' []) := fun ls' hl' =>
      kk t.heap (locs ++ L) ls' ad' refs' ⟨g3, g5.weaken (fun _ _ _ h => hAA _ h), hS', g6, fun w hw => g1 w (hB.2.2.2.2.1 w hw), fun w hw => (g2 w (mq_vr_mono hB.2.2.2.2.1 hw)).trans (hB.2.2.2.2.2 w hw)⟩ hl' (fun i w h => by cases h) (fun w h => by cases h)
    rcases hst with ⟨k, d1, d2, rfl⟩ | ⟨i, d1, d2, rfl⟩
    · exact lv_astore_n C.1 C.2.1 d1 rfl hnil d2 rfl (fun ls' h' => fin ls' ⟨h'.1, h'.2.1, fun _ h => by cases h⟩)
    · exact lv_astore C.1 C.2.1 d1 hnil d2 rfl (fun ls' h' => fin ls' ⟨h'.1, h'.2.1, fun _ h => by cases h⟩)
  obtain ⟨t2, a2, b2⟩ := hw (T'.setVm vm') hT' X''
  exact ⟨t2, hgo t2 (hgo2 t2 a2), b2⟩
/-- a static call of a method with an exception table, on its normal road -/
theorem mq_callSW {T : State} {locs : List Loc} {cells slots : Nat} (X : Stand p l e R s m args below meth c T locs cells slots) (hexec : p.tables.exec = Jvm.exec) {index : Nat} {y : MethodName} {hh : List (Nat × Nat × Nat × Nat)}
    (hown : s.vm.findClass own = some m.cls) (hlink : (Cond.methodLink own index y).before args s = true) (hstat : (Cond.static y).before args s = true) (hinit : (Cond.initialized y.cls).before args s = true)
    (hcode : (Cond.codeWith y bytes maxL ret hh).before args s = true) (hy : y.cls ≠ "java/lang/invoke/MethodHandle" ∧ y.cls ≠ "java/lang/invoke/VarHandle")
    {W : Nat} {Pre : Pt → Array Value → Prop} {Post : Pt → Array Value → Option Value → Pt → Prop} (hK : Back l R p e below s args y 3 W Pre Post)
    {g : JFrame} (hg : g.method = m) (hsize : g.locals.size = c.maxLocals) {argsL rest : List Value} (hlen : ∀ sig, parseMethodDescriptor y.desc = some sig → argsL.length = sig.parameters.length)
    (hstack : g.stack = argsL.reverse ++ rest) (hW : 2 * g.monitorRoom + (rest.map fun v => v.category).sum ≤ W) (hdg : decode c.code g.pc = .ok (.invokestatic index, 3))
    (hpre : ∀ vm₁, s.WarmedH vm₁ → Pre ⟨T.setVm vm₁, locs, cells, slots⟩ argsL.toArray) :
    ∃ (v : Option Value) (vm₁ : Vm) (B : Pt), s.WarmedH vm₁ ∧ Stand p l e R s m args below meth c B.U B.locs B.cells B.slots ∧ Post ⟨T.setVm vm₁, locs, cells, slots⟩ argsL.toArray v B ∧
      ∀ target, Steps p.tables e below (B.U.setTop { g with pc := g.pc + 3, stack := v.toList ++ rest }) target → Steps p.tables e below (T.setTop g) target := by
  obtain ⟨mk, methM, cM, hnamed, hmethM, -, -, -, -, -, -, hsigM⟩ := Cond.codeWith_spec hcode
  have hstatic : methM.isStatic = true := Cond.static_spec hnamed hmethM hstat
  obtain ⟨kP, hkP, -⟩ := className_of_methodNamed hnamed
  have hinitP : kP.init = .initialized := Cond.initialized_spec (findClass_of_methodNamed hnamed) hkP hinit
  obtain ⟨vm₁, X₁, hstep₁⟩ := X.invokestatic hexec hown hlink hnamed hmethM hstatic hkP hinitP hy (g := g) hg (argsL := argsL) (rest := rest) (hlen _ hsigM) hstack hdg
  obtain ⟨v, B, X', hpost, hsteps⟩ := hK m meth c ⟨T.setVm vm₁, locs, cells, slots⟩ { g with stack := rest } (.invokestatic index) mk argsL.toArray X₁ hg hsize hdg hW (X₁.named hnamed) (hpre vm₁ X₁.warmed)
  exact ⟨v, vm₁, B, X₁.warmed, X', hpost, fun target h => hstep₁ _ fun acts => by rw [doInvoke_state]; exact hsteps.trans h⟩
theorem mq_g_callSW (C : mq_C p s m args c cc nL own Ts D cl tys A X) {rv : Option mLV} {hh : List (Nat × Nat × Nat × Nat)} (hpop : mq_pop b st [] = some (as, r))
    {PT : (Nat × Nat → Nat) → List (Nat × Nat) → Nat → Array Value → State → Prop}
    (hM : ∀ ad refs sz, mq_V E M refs → (∀ r', (.inr (some r') : mLV) ∈ as → mq_vr refs r') → Met l yM ws rm (PT ad refs sz) (mq_Qc E D cl tys (va_A (mq_W E ad refs M) sz) ad refs rv M') mc ms (va_A (mq_W E ad refs M) sz))
    (hbl : ∀ ad refs sz, FrameBlind (PT ad refs sz))
    (hPT : ∀ H locs ad refs, mq_B E D cl A s ad0 refs0 ad refs M H locs → ∀ U : State, U.heap = H → s.WarmedH U.vm → PT ad refs H.size (as.map (mq_cl ad)).toArray U)
    (hrm : rm.cells = mc ∧ rm.slots = ms ∧ rm.frames + 1 ≤ R.frames ∧ 8 + (maxL + 11) + rm.locals ≤ R.locals) (hG : GoodIn Ts ws) (hcw : Cond.codeWith yM bytes maxL ret hh ∈ ws) (hini : Cond.initialized yM.cls ∈ Ts) (hlk : Cond.methodLink own ix yM ∈ Ts) (hstt : Cond.static yM ∈ Ts)
    (hy : yM.cls ≠ "java/lang/invoke/MethodHandle" ∧ yM.cls ≠ "java/lang/invoke/VarHandle" ∧ (parseMethodDescriptor yM.desc).map (fun d => d.parameters.length) = some nA)
    (hn : as.length = nA) (hr4 : mq_rl r ≤ 8) (hf : cs + mc ≤ R.cells ∧ ss + ms ≤ R.slots) (hd : decode cc pc = .ok (.invokestatic ix, 3))
    (kk : mq_G p l e R s m args below meth c Q nL E D cl A ad0 refs0 (pc + 3) lv (mq_psh rv r) M' (cs + mc) (ss + ms)) : mq_G p l e R s m args below meth c Q nL E D cl A ad0 refs0 pc lv st M cs ss := by
  refine mq_g_call C hpop (fun H locs ls ad refs hB hl hva => ⟨(as.map (mq_cl ad)).toArray, ?_⟩) kk
  have hws := pay_in C.2.2.2.2.1 hG
  have hK : Back l R p e below s args yM 3 8 (PreOf R mc ms (PT ad refs H.size)) (PostOf (mq_Qc E D cl tys (va_A (mq_W E ad refs M) H.size) ad refs rv M') mc ms (va_A (mq_W E ad refs M) H.size)) :=
    va_backW (hh := hh) (bytes := bytes) (maxL := maxL) (ret := ret) (hM ad refs H.size hB.2.2.2.1 hva) (hbl _ _ _) hrm.1 hrm.2.1 hrm.2.2.1 hrm.2.2.2 hws hcw (fun a' U hW => word_at hW (Or.inl (by first | rfl | simp [Cond.onTables, Cond.keeps, Cond.steady])) (C.2.2.2.2.1 _ hini))
  intro T hT X
  obtain ⟨v, vm₁, ⟨U', l2, c2, s2⟩, hW₁, X', ⟨g', mk, t, L, e1, e2, hq, h1, hL, h2, h3⟩, st⟩ := mq_callSW X C.1 (hh := hh) (bytes := bytes) (maxL := maxL) (ret := ret) C.2.2.2.1 (C.2.2.2.2.1 _ hlk) (C.2.2.2.2.1 _ hstt) (C.2.2.2.2.1 _ hini) (C.2.2.2.2.1 _ (hG _ hcw).1) ⟨hy.1, hy.2.1⟩ hK (g := F0 m pc ls ((as.map (mq_cl ad)).reverse ++ r.map (mq_cv ad))) rfl (hl.1.trans C.2.2.1.symm) (argsL := as.map (mq_cl ad)) (rest := r.map (mq_cv ad)) (fun sig h => by
      rw [List.length_map, hn]
      have h2 := hy.2.2
      rw [h] at h2
      exact (Option.some.inj h2).symm) rfl (mq_room hr4) (by rw [C.2.1]; exact hd)
    (fun vm₁ hW₁ => ⟨hf.1, hf.2, hPT H locs ad refs hB (T.setVm vm₁) hT hW₁⟩)
  dsimp only [Pt.U, Pt.locs, Pt.cells, Pt.slots] at X' e1 e2 h1 h2 h3 st
  subst h1; subst h2; subst h3
  exact ⟨v, (T.setVm vm₁).calling g' mk (as.map (mq_cl ad)).toArray, t, U', L, hT, X', hL, e1, e2, hq, st⟩
end MQK
