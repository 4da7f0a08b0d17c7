/-! Fields and arrays of the machine, over the JVM's. -/
section MQM
variable {p : Program} {l : Launch} {e : Env} {R : Room} {s : State} {m : MethodId} {args : Array Value} {below : List Frame} {meth : Method} {c : Code} {Q : State → Prop}
variable {cc : ByteArray} {nL : Nat} {own : String} {Ts : List Cond} {D : va_G} {cl : List vw_C} {tys : List (ClassId × FieldType)} {A : Nat → Prop} {X : State → Prop} {E : mEv} {ad0 : Nat × Nat → Nat} {refs0 : List (Nat × Nat)}
variable {pc tgt i k b ix ci N n t0 : Nat} {lv : List (Nat × mLV)} {r : List mAV} {M : mMm} {cs ss : Nat} {x y : Int32} {q : Nat × Nat} {C1 : String} {T : u_T}
theorem mq_in (h9 : (E.1 999).1 = 9) {refs : List (Nat × Nat)} {t : Nat × Nat × Nat} (hv : mq_vr refs q) (ht : E.1 q.1 = t) (h : t.1 ≠ 9) : q ∈ refs := by
  rcases hv with hv | hv
  · exact hv
  · subst hv
    exact absurd (by rw [← ht]; exact h9) h
theorem mq_cvt {w w' : va_W} {H1 : Heap} (h : w = w') (hP : va_P D cl w H1) (hD : va_D A w) : va_P D cl w' H1 ∧ va_D A w' := by
  subst h; exact ⟨hP, hD⟩
theorem mq_ce0 {ad : Nat × Nat → Nat} (hk : E.1 q.1 = (0, ci, N)) : mq_ce E ad M q = .inr (ci, (List.range N).map (mq_fv E ad M q)) := by
  simp only [mq_ce, hk]
theorem mq_ceS {ad : Nat × Nat → Nat} {t : Nat} (ht : t = 1 ∨ t = 4 ∨ t = 5) (hk : E.1 q.1 = (t, ci, N)) : mq_ce E ad M q = .inl (E.2.2 t, (N, .inl (M.2.1 q.1 q.2))) := by
  rcases ht with rfl | rfl | rfl <;> simp only [mq_ce, hk]
theorem mq_ce2 {ad : Nat × Nat → Nat} (hk : E.1 q.1 = (2, ci, N)) : mq_ce E ad M q = .inl (E.2.2 2, (N, .inr (.inl (M.2.2.2 q.1 q.2)))) := by
  simp only [mq_ce, hk]
theorem mq_ce3 {ad : Nat × Nat → Nat} (hk : E.1 q.1 = (3, ci, N)) : mq_ce E ad M q = .inl (E.2.2 (100 + ci), (N, .inr (.inr (.inr (.inr (fun j => (M.2.2.1 q.1 q.2 j).map ad)))))) := by
  simp only [mq_ce, hk]
theorem mq_g_get0 (C : mq_C p s m args c cc nL own Ts D cl tys A X) (h9 : (E.1 999).1 = 9) (hk : E.1 q.1 = (0, ci, N)) (hc : cl[ci]? = some (C1, T, N)) (hin : ∀ w ∈ u_ws C1 T N, w ∈ Ts) (hb : b < N) (hr : E.2.1 ci b = false) (hlink : Jvm.Cond.fieldLink own ix (T b).1 (T b).2.1 (T b).2.2.1 ∈ Ts) (hd : decode cc pc = .ok (.getfield ix, 3))
    (kk : mq_G p l e R s m args below meth c Q nL E D cl A ad0 refs0 (pc + 3) lv (.inl (M.2.1 q.1 q.2 b) :: r) M cs ss) : mq_G p l e R s m args below meth c Q nL E D cl A ad0 refs0 pc lv (.inr (.inl (some q)) :: r) M cs ss := by
  intro H locs ls ad refs hB hl hvl hvs
  have hm : q ∈ refs := mq_in h9 (hvs q List.mem_cons_self) hk (Nat.ne_of_beq_eq_false rfl)
  obtain ⟨j, hj⟩ := List.getElem?_of_mem hm
  have he := mq_W_at (E := E) (ad := ad) (M := M) hj
  rw [mq_ce0 hk] at he
  refine va_get (v := .int (M.2.1 q.1 q.2 b)) C.1 C.2.1 C.2.2.2.2.1 hin C.2.2.2.1 C.2.2.2.2.2.1 hB.1 j he hc b hb (C.2.2.2.2.1 _ hlink) (fun _ h => h) ?_ hd (kk H locs ls ad refs hB hl hvl (mq_vs_int (mq_vs_tl hvs)))
  rw [mq_range_at hb]
  simp only [mq_fv, hk, hr, Bool.false_eq_true, if_false]
theorem mq_g_get1 (C : mq_C p s m args c cc nL own Ts D cl tys A X) (h9 : (E.1 999).1 = 9) (hk : E.1 q.1 = (0, ci, N)) (hc : cl[ci]? = some (C1, T, N)) (hin : ∀ w ∈ u_ws C1 T N, w ∈ Ts) (hb : b < N) (hr : E.2.1 ci b = true) (hlink : Jvm.Cond.fieldLink own ix (T b).1 (T b).2.1 (T b).2.2.1 ∈ Ts) (hd : decode cc pc = .ok (.getfield ix, 3))
    (kk : mq_G p l e R s m args below meth c Q nL E D cl A ad0 refs0 (pc + 3) lv (.inr (.inl (M.2.2.1 q.1 q.2 b)) :: r) M cs ss) : mq_G p l e R s m args below meth c Q nL E D cl A ad0 refs0 pc lv (.inr (.inl (some q)) :: r) M cs ss := by
  intro H locs ls ad refs hB hl hvl hvs
  have hm : q ∈ refs := mq_in h9 (hvs q List.mem_cons_self) hk (Nat.ne_of_beq_eq_false rfl)
  obtain ⟨j, hj⟩ := List.getElem?_of_mem hm
  have he := mq_W_at (E := E) (ad := ad) (M := M) hj
  rw [mq_ce0 hk] at he
  refine va_get (v := va_rf ((M.2.2.1 q.1 q.2 b).map ad)) C.1 C.2.1 C.2.2.2.2.1 hin C.2.2.2.1 C.2.2.2.2.2.1 hB.1 j he hc b hb (C.2.2.2.2.1 _ hlink) (fun _ h => h) ?_ hd (kk H locs ls ad refs hB hl hvl (mq_vs_cons (mq_vs_tl hvs) (fun r' e => ?_)))
  · rw [mq_range_at hb]
    simp only [mq_fv, hk, hr, if_true]
  · exact Or.inl (hB.2.2.2.1.2 q hm b (by rw [hk]; exact hb) r' (by injection e with e; injection e))
/-- the world behind a write to the ints of one cell -/
theorem mq_B_up {ad : Nat × Nat → Nat} {refs : List (Nat × Nat)} {H H1 : Heap} {locs locs1 : List Loc} {M' : mMm} (hB : mq_B E D cl A s ad0 refs0 ad refs M H locs) (h1 : M'.1 = M.1) (h2 : ∀ r, r ∈ refs → ∀ j, j < (E.1 r.1).2.2 → ∀ r', M'.2.2.1 r.1 r.2 j = some r' → r' ∈ refs) (hP : va_P D cl (mq_W E ad refs M') H1) (hD : va_D A (mq_W E ad refs M')) (hS : va_S A s.heap H1 locs1) : mq_B E D cl A s ad0 refs0 ad refs M' H1 locs1 :=
  ⟨hP, hD, hS, ⟨fun r => by rw [h1]; exact hB.2.2.2.1.1 r, h2⟩, hB.2.2.2.2.1, hB.2.2.2.2.2⟩
theorem mq_g_put0 (C : mq_C p s m args c cc nL own Ts D cl tys A X) (h9 : (E.1 999).1 = 9) (hk : E.1 q.1 = (0, ci, N)) (hc : cl[ci]? = some (C1, T, N)) (hin : ∀ w ∈ u_ws C1 T N, w ∈ Ts) (ty0 : Nat → FieldType) (hty : ∀ k, k < N → parseFieldDescriptor (T k).2.2.1 = some (ty0 k)) (hnm : ∀ a, a < N → ∀ b, b < N → a ≠ b → (T a).2.1 ≠ (T b).2.1) (hb : b < N) (hr : E.2.1 ci b = false) (hlink : Jvm.Cond.fieldLink own ix (T b).1 (T b).2.1 (T b).2.2.1 ∈ Ts) (hfin : (T b).2.2.2 = false ∨ ((T b).2.2.2 = true ∧ meth.name = "<init>" ∧ (T b).1 = own)) (hn : narrow (ty0 b) (.int x) = .int x) (hft : fits (ty0 b) (.int x) = true) (hd : decode cc pc = .ok (.putfield ix, 3))
    (kk : mq_G p l e R s m args below meth c Q nL E D cl A ad0 refs0 (pc + 3) lv r (M.1, mq_up M.2.1 q.1 q.2 b x, M.2.2) cs ss) : mq_G p l e R s m args below meth c Q nL E D cl A ad0 refs0 pc lv (.inl x :: .inr (.inl (some q)) :: r) M cs ss := by
  intro H locs ls ad refs hB hl hvl hvs
  have hm : q ∈ refs := mq_in h9 (hvs q (List.mem_cons_of_mem _ List.mem_cons_self)) hk (Nat.ne_of_beq_eq_false rfl)
  obtain ⟨j, hj⟩ := List.getElem?_of_mem hm
  have he := mq_W_at (E := E) (ad := ad) (M := M) hj
  rw [mq_ce0 hk] at he
  have hset : (mq_W E ad refs M).set j (ad q, .inr (ci, ((List.range N).map (mq_fv E ad M q)).set b (.int x))) = mq_W E ad refs (M.1, mq_up M.2.1 q.1 q.2 b x, M.2.2) := by
    refine mq_W_set hB.2.1 hj (fun r' hr' => mq_ce_eq (mq_up_ne (by exact hr')) rfl rfl) ?_
    rw [mq_ce0 hk, mq_range_set hb]
    congr 2
    apply List.map_congr_left
    intro j' _
    by_cases hjb : j' = b
    · subst hjb
      simp only [mq_fv, hk, hr, Bool.false_eq_true, if_false, if_true, mq_up_at]
    · simp only [mq_fv, mq_up_at, hjb, if_false]
  rcases hfin with hfin | ⟨hfin, hin2, hdecl⟩
  · refine va_put (ty := ty0 b) C.1 C.2.1 C.2.2.2.2.1 hin ty0 hty hnm C.2.2.2.1 C.2.2.2.2.2.1 hB.1 hB.2.1 hB.2.2.1 j he hc b hb (C.2.2.2.2.1 _ hlink) (fun _ h => h) hfin (hty b hb) hn hft (by simpa using hb) hd (fun H1 locs1 hP hD hS => ?_)
    obtain ⟨hP, hD⟩ := mq_cvt hset hP hD
    exact kk H1 locs1 ls ad refs (mq_B_up hB rfl hB.2.2.2.1.2 hP hD hS) hl hvl (mq_vs_tl (mq_vs_tl hvs))
  · refine va_putF (ty := ty0 b) C.1 C.2.1 C.2.2.2.2.1 hin ty0 hty hnm C.2.2.2.1 C.2.2.2.2.2.1 hB.1 hB.2.1 hB.2.2.1 j he hc b hb (C.2.2.2.2.1 _ hlink) (fun _ h => h) hfin hin2 hdecl (hty b hb) hn hft (by simpa using hb) hd (fun H1 locs1 hP hD hS => ?_)
    obtain ⟨hP, hD⟩ := mq_cvt hset hP hD
    exact kk H1 locs1 ls ad refs (mq_B_up hB rfl hB.2.2.2.1.2 hP hD hS) hl hvl (mq_vs_tl (mq_vs_tl hvs))
theorem mq_V_up {refs : List (Nat × Nat)} {w : mRf} (hV : mq_V E M refs) (hw : ∀ r, w = some r → r ∈ refs) : ∀ r, r ∈ refs → ∀ j, j < (E.1 r.1).2.2 → ∀ r', mq_up M.2.2.1 q.1 q.2 b w r.1 r.2 j = some r' → r' ∈ refs := by
  intro r hr j hj r' h
  unfold mq_up at h
  split at h
  · exact hw r' h
  · exact hV.2 r hr j hj r' h
theorem mq_g_put1 (C : mq_C p s m args c cc nL own Ts D cl tys A X) (h9 : (E.1 999).1 = 9) {w : mRf} (hw9 : w ≠ some mq_sr) (hk : E.1 q.1 = (0, ci, N)) (hc : cl[ci]? = some (C1, T, N)) (hin : ∀ w ∈ u_ws C1 T N, w ∈ Ts) (ty0 : Nat → FieldType) (hty : ∀ k, k < N → parseFieldDescriptor (T k).2.2.1 = some (ty0 k)) (hnm : ∀ a, a < N → ∀ b, b < N → a ≠ b → (T a).2.1 ≠ (T b).2.1) (hb : b < N) (hr : E.2.1 ci b = true) (hlink : Jvm.Cond.fieldLink own ix (T b).1 (T b).2.1 (T b).2.2.1 ∈ Ts) (hfin : (T b).2.2.2 = false ∨ ((T b).2.2.2 = true ∧ meth.name = "<init>" ∧ (T b).1 = own)) (hrt : (∃ n, ty0 b = .object n) ∨ ∃ t, ty0 b = .array t) (hd : decode cc pc = .ok (.putfield ix, 3))
    (kk : mq_G p l e R s m args below meth c Q nL E D cl A ad0 refs0 (pc + 3) lv r (M.1, M.2.1, mq_up M.2.2.1 q.1 q.2 b w, M.2.2.2) cs ss) : mq_G p l e R s m args below meth c Q nL E D cl A ad0 refs0 pc lv (.inr (.inl w) :: .inr (.inl (some q)) :: r) M cs ss := by
  intro H locs ls ad refs hB hl hvl hvs
  have hm : q ∈ refs := mq_in h9 (hvs q (List.mem_cons_of_mem _ List.mem_cons_self)) hk (Nat.ne_of_beq_eq_false rfl)
  have hw : ∀ r, w = some r → r ∈ refs := fun r' h => by
    subst h
    rcases hvs r' List.mem_cons_self with h | h
    · exact h
    · exact absurd (by rw [h]) hw9
  obtain ⟨j, hj⟩ := List.getElem?_of_mem hm
  have he := mq_W_at (E := E) (ad := ad) (M := M) hj
  rw [mq_ce0 hk] at he
  have hset : (mq_W E ad refs M).set j (ad q, .inr (ci, ((List.range N).map (mq_fv E ad M q)).set b (va_rf (w.map ad)))) = mq_W E ad refs (M.1, M.2.1, mq_up M.2.2.1 q.1 q.2 b w, M.2.2.2) := by
    refine mq_W_set hB.2.1 hj (fun r' hr' => mq_ce_eq rfl (mq_up_ne (by exact hr')) rfl) ?_
    rw [mq_ce0 hk, mq_range_set hb]
    congr 2
    apply List.map_congr_left
    intro j' _
    by_cases hjb : j' = b
    · subst hjb
      simp only [mq_fv, hk, hr, if_true, mq_up_at]
    · simp only [mq_fv, mq_up_at, hjb, if_false]
  have hn : narrow (ty0 b) (va_rf (w.map ad)) = va_rf (w.map ad) := by
    rcases hrt with ⟨n, h⟩ | ⟨n, h⟩ <;> rw [h] <;> rcases w with _ | w <;> rfl
  have hft : fits (ty0 b) (va_rf (w.map ad)) = true := by
    rcases hrt with ⟨n, h⟩ | ⟨n, h⟩ <;> rw [h] <;> rcases w with _ | w <;> rfl
  rcases hfin with hfin | ⟨hfin, hin2, hdecl⟩
  · refine va_put (ty := ty0 b) C.1 C.2.1 C.2.2.2.2.1 hin ty0 hty hnm C.2.2.2.1 C.2.2.2.2.2.1 hB.1 hB.2.1 hB.2.2.1 j he hc b hb (C.2.2.2.2.1 _ hlink) (fun _ h => h) hfin (hty b hb) hn hft (by simpa using hb) hd (fun H1 locs1 hP hD hS => ?_)
    obtain ⟨hP, hD⟩ := mq_cvt hset hP hD
    exact kk H1 locs1 ls ad refs (mq_B_up hB rfl (mq_V_up hB.2.2.2.1 hw) hP hD hS) hl hvl (mq_vs_tl (mq_vs_tl hvs))
  · refine va_putF (ty := ty0 b) C.1 C.2.1 C.2.2.2.2.1 hin ty0 hty hnm C.2.2.2.1 C.2.2.2.2.2.1 hB.1 hB.2.1 hB.2.2.1 j he hc b hb (C.2.2.2.2.1 _ hlink) (fun _ h => h) hfin hin2 hdecl (hty b hb) hn hft (by simpa using hb) hd (fun H1 locs1 hP hD hS => ?_)
    obtain ⟨hP, hD⟩ := mq_cvt hset hP hD
    exact kk H1 locs1 ls ad refs (mq_B_up hB rfl (mq_V_up hB.2.2.2.1 hw) hP hD hS) hl hvl (mq_vs_tl (mq_vs_tl hvs))
/-! arrays -/
theorem mq_g_iald (C : mq_C p s m args c cc nL own Ts D cl tys A X) (h9 : (E.1 999).1 = 9) (hk : E.1 q.1 = (1, ci, N)) (ht : tys[t0]? = some (E.2.2 1, .int)) (hi : vp_in x N) (hd : decode cc pc = .ok (.iaload, 1))
    (kk : mq_G p l e R s m args below meth c Q nL E D cl A ad0 refs0 (pc + 1) lv (.inl (M.2.1 q.1 q.2 x.toNatClampNeg) :: r) M cs ss) : mq_G p l e R s m args below meth c Q nL E D cl A ad0 refs0 pc lv (.inl x :: .inr (.inl (some q)) :: r) M cs ss := by
  intro H locs ls ad refs hB hl hvl hvs
  have hm : q ∈ refs := mq_in h9 (hvs q (List.mem_cons_of_mem _ List.mem_cons_self)) hk (Nat.ne_of_beq_eq_false rfl)
  obtain ⟨j, hj⟩ := List.getElem?_of_mem hm
  have he := mq_W_at (E := E) (ad := ad) (M := M) hj
  rw [mq_ceS (.inl rfl) hk] at he
  exact va_iald C.1 C.2.1 C.2.2.2.2.2.1 hB.1 j t0 he ht hi hd (kk H locs ls ad refs hB hl hvl (mq_vs_int (mq_vs_tl (mq_vs_tl hvs))))
theorem mq_g_bald (C : mq_C p s m args c cc nL own Ts D cl tys A X) (h9 : (E.1 999).1 = 9) (hk : E.1 q.1 = (4, ci, N)) (ht : tys[t0]? = some (E.2.2 4, .byte)) (hi : vp_in x N) (hd : decode cc pc = .ok (.baload, 1))
    (kk : mq_G p l e R s m args below meth c Q nL E D cl A ad0 refs0 (pc + 1) lv (.inl (M.2.1 q.1 q.2 x.toNatClampNeg) :: r) M cs ss) : mq_G p l e R s m args below meth c Q nL E D cl A ad0 refs0 pc lv (.inl x :: .inr (.inl (some q)) :: r) M cs ss := by
  intro H locs ls ad refs hB hl hvl hvs
  have hm : q ∈ refs := mq_in h9 (hvs q (List.mem_cons_of_mem _ List.mem_cons_self)) hk (Nat.ne_of_beq_eq_false rfl)
  obtain ⟨j, hj⟩ := List.getElem?_of_mem hm
  have he := mq_W_at (E := E) (ad := ad) (M := M) hj
  rw [mq_ceS (.inr (.inl rfl)) hk] at he
  exact va_bald C.1 C.2.1 C.2.2.2.2.2.1 hB.1 j t0 he ht hi hd (kk H locs ls ad refs hB hl hvl (mq_vs_int (mq_vs_tl (mq_vs_tl hvs))))
theorem mq_g_zald (C : mq_C p s m args c cc nL own Ts D cl tys A X) (h9 : (E.1 999).1 = 9) (hk : E.1 q.1 = (5, ci, N)) (ht : tys[t0]? = some (E.2.2 5, .boolean)) (hi : vp_in x N) (hd : decode cc pc = .ok (.baload, 1))
    (kk : mq_G p l e R s m args below meth c Q nL E D cl A ad0 refs0 (pc + 1) lv (.inl (M.2.1 q.1 q.2 x.toNatClampNeg) :: r) M cs ss) : mq_G p l e R s m args below meth c Q nL E D cl A ad0 refs0 pc lv (.inl x :: .inr (.inl (some q)) :: r) M cs ss := by
  intro H locs ls ad refs hB hl hvl hvs
  have hm : q ∈ refs := mq_in h9 (hvs q (List.mem_cons_of_mem _ List.mem_cons_self)) hk (Nat.ne_of_beq_eq_false rfl)
  obtain ⟨j, hj⟩ := List.getElem?_of_mem hm
  have he := mq_W_at (E := E) (ad := ad) (M := M) hj
  rw [mq_ceS (.inr (.inr rfl)) hk] at he
  exact va_zald C.1 C.2.1 C.2.2.2.2.2.1 hB.1 j t0 he ht hi hd (kk H locs ls ad refs hB hl hvl (mq_vs_int (mq_vs_tl (mq_vs_tl hvs))))
theorem mq_g_lald (C : mq_C p s m args c cc nL own Ts D cl tys A X) (h9 : (E.1 999).1 = 9) (hk : E.1 q.1 = (2, ci, N)) (ht : tys[t0]? = some (E.2.2 2, .long)) (hi : vp_in x N) (hd : decode cc pc = .ok (.laload, 1))
    (kk : mq_G p l e R s m args below meth c Q nL E D cl A ad0 refs0 (pc + 1) lv (.inr (.inr (M.2.2.2 q.1 q.2 x.toNatClampNeg)) :: r) M cs ss) : mq_G p l e R s m args below meth c Q nL E D cl A ad0 refs0 pc lv (.inl x :: .inr (.inl (some q)) :: r) M cs ss := by
  intro H locs ls ad refs hB hl hvl hvs
  have hm : q ∈ refs := mq_in h9 (hvs q (List.mem_cons_of_mem _ List.mem_cons_self)) hk (Nat.ne_of_beq_eq_false rfl)
  obtain ⟨j, hj⟩ := List.getElem?_of_mem hm
  have he := mq_W_at (E := E) (ad := ad) (M := M) hj
  rw [mq_ce2 hk] at he
  exact va_lald C.1 C.2.1 C.2.2.2.2.2.1 hB.1 j t0 he ht hi hd (kk H locs ls ad refs hB hl hvl (mq_vs_long (mq_vs_tl (mq_vs_tl hvs))))
theorem mq_g_aald (C : mq_C p s m args c cc nL own Ts D cl tys A X) (h9 : (E.1 999).1 = 9) (hk : E.1 q.1 = (3, ci, N)) (ht : tys[t0]? = some (E.2.2 (100 + ci), .object C1)) (hi : vp_in x N) (hd : decode cc pc = .ok (.aaload, 1))
    (kk : mq_G p l e R s m args below meth c Q nL E D cl A ad0 refs0 (pc + 1) lv (.inr (.inl (M.2.2.1 q.1 q.2 x.toNatClampNeg)) :: r) M cs ss) : mq_G p l e R s m args below meth c Q nL E D cl A ad0 refs0 pc lv (.inl x :: .inr (.inl (some q)) :: r) M cs ss := by
  intro H locs ls ad refs hB hl hvl hvs
  have hm : q ∈ refs := mq_in h9 (hvs q (List.mem_cons_of_mem _ List.mem_cons_self)) hk (Nat.ne_of_beq_eq_false rfl)
  obtain ⟨j, hj⟩ := List.getElem?_of_mem hm
  have he := mq_W_at (E := E) (ad := ad) (M := M) hj
  rw [mq_ce3 hk] at he
  have hlt : x.toNatClampNeg < N := Nat.not_le.mp fun z => hi (Or.inr z)
  exact va_aldq C.1 C.2.1 C.2.2.2.2.2.1 hB.1 j t0 he ht hi hd (kk H locs ls ad refs hB hl hvl (mq_vs_cons (mq_vs_tl (mq_vs_tl hvs)) (fun r' e => Or.inl (hB.2.2.2.1.2 q hm _ (by rw [hk]; exact hlt) r' (by injection e with e; injection e)))))
theorem mq_g_iast (C : mq_C p s m args c cc nL own Ts D cl tys A X) (h9 : (E.1 999).1 = 9) (hk : E.1 q.1 = (1, ci, N)) (ht : tys[t0]? = some (E.2.2 1, .int)) (hi : vp_in y N) (hd : decode cc pc = .ok (.iastore, 1))
    (kk : mq_G p l e R s m args below meth c Q nL E D cl A ad0 refs0 (pc + 1) lv r (M.1, mq_up M.2.1 q.1 q.2 y.toNatClampNeg x, M.2.2) cs ss) : mq_G p l e R s m args below meth c Q nL E D cl A ad0 refs0 pc lv (.inl x :: .inl y :: .inr (.inl (some q)) :: r) M cs ss := by
  intro H locs ls ad refs hB hl hvl hvs
  have hm : q ∈ refs := mq_in h9 (hvs q (List.mem_cons_of_mem _ (List.mem_cons_of_mem _ List.mem_cons_self))) hk (Nat.ne_of_beq_eq_false rfl)
  obtain ⟨j, hj⟩ := List.getElem?_of_mem hm
  have he := mq_W_at (E := E) (ad := ad) (M := M) hj
  rw [mq_ceS (.inl rfl) hk] at he
  refine va_iast C.1 C.2.1 C.2.2.2.2.2.1 hB.1 hB.2.1 hB.2.2.1 j t0 he ht hi hd (fun H1 locs1 hP hD hS => ?_)
  have hset : (mq_W E ad refs M).set j (ad q, .inl (E.2.2 1, N, .inl (upd (M.2.1 q.1 q.2) y.toNatClampNeg x))) = mq_W E ad refs (M.1, mq_up M.2.1 q.1 q.2 y.toNatClampNeg x, M.2.2) := by
    refine mq_W_set hB.2.1 hj (fun r' hr' => mq_ce_eq (mq_up_ne (by exact hr')) rfl rfl) ?_
    rw [mq_ceS (.inl rfl) hk]
    simp only [mq_up_at]
    rfl
  obtain ⟨hP, hD⟩ := mq_cvt hset hP hD
  exact kk H1 locs1 ls ad refs (mq_B_up hB rfl hB.2.2.2.1.2 hP hD hS) hl hvl (mq_vs_tl (mq_vs_tl (mq_vs_tl hvs)))
theorem mq_g_bast (C : mq_C p s m args c cc nL own Ts D cl tys A X) (h9 : (E.1 999).1 = 9) (hk : E.1 q.1 = (4, ci, N)) (ht : tys[t0]? = some (E.2.2 4, .byte)) (hi : vp_in y N) (hd : decode cc pc = .ok (.bastore, 1))
    (kk : mq_G p l e R s m args below meth c Q nL E D cl A ad0 refs0 (pc + 1) lv r (M.1, mq_up M.2.1 q.1 q.2 y.toNatClampNeg x.toInt8.toInt32, M.2.2) cs ss) : mq_G p l e R s m args below meth c Q nL E D cl A ad0 refs0 pc lv (.inl x :: .inl y :: .inr (.inl (some q)) :: r) M cs ss := by
  intro H locs ls ad refs hB hl hvl hvs
  have hm : q ∈ refs := mq_in h9 (hvs q (List.mem_cons_of_mem _ (List.mem_cons_of_mem _ List.mem_cons_self))) hk (Nat.ne_of_beq_eq_false rfl)
  obtain ⟨j, hj⟩ := List.getElem?_of_mem hm
  have he := mq_W_at (E := E) (ad := ad) (M := M) hj
  rw [mq_ceS (.inr (.inl rfl)) hk] at he
  refine va_bast C.1 C.2.1 C.2.2.2.2.2.1 hB.1 hB.2.1 hB.2.2.1 j t0 he ht hi hd (fun H1 locs1 hP hD hS => ?_)
  have hset : (mq_W E ad refs M).set j (ad q, .inl (E.2.2 4, N, .inl (upd (M.2.1 q.1 q.2) y.toNatClampNeg x.toInt8.toInt32))) = mq_W E ad refs (M.1, mq_up M.2.1 q.1 q.2 y.toNatClampNeg x.toInt8.toInt32, M.2.2) := by
    refine mq_W_set hB.2.1 hj (fun r' hr' => mq_ce_eq (mq_up_ne (by exact hr')) rfl rfl) ?_
    rw [mq_ceS (.inr (.inl rfl)) hk]
    simp only [mq_up_at]
    rfl
  rw [vp_nar_byte] at hP hD
  obtain ⟨hP, hD⟩ := mq_cvt hset hP hD
  exact kk H1 locs1 ls ad refs (mq_B_up hB rfl hB.2.2.2.1.2 hP hD hS) hl hvl (mq_vs_tl (mq_vs_tl (mq_vs_tl hvs)))
theorem mq_g_zast (C : mq_C p s m args c cc nL own Ts D cl tys A X) (h9 : (E.1 999).1 = 9) (hk : E.1 q.1 = (5, ci, N)) (ht : tys[t0]? = some (E.2.2 5, .boolean)) (hi : vp_in y N) (hx : x = 0 ∨ x = 1) (hd : decode cc pc = .ok (.bastore, 1))
    (kk : mq_G p l e R s m args below meth c Q nL E D cl A ad0 refs0 (pc + 1) lv r (M.1, mq_up M.2.1 q.1 q.2 y.toNatClampNeg x, M.2.2) cs ss) : mq_G p l e R s m args below meth c Q nL E D cl A ad0 refs0 pc lv (.inl x :: .inl y :: .inr (.inl (some q)) :: r) M cs ss := by
  intro H locs ls ad refs hB hl hvl hvs
  have hm : q ∈ refs := mq_in h9 (hvs q (List.mem_cons_of_mem _ (List.mem_cons_of_mem _ List.mem_cons_self))) hk (Nat.ne_of_beq_eq_false rfl)
  obtain ⟨j, hj⟩ := List.getElem?_of_mem hm
  have he := mq_W_at (E := E) (ad := ad) (M := M) hj
  rw [mq_ceS (.inr (.inr rfl)) hk] at he
  refine va_zast C.1 C.2.1 C.2.2.2.2.2.1 hB.1 hB.2.1 hB.2.2.1 j t0 he ht hi hd (fun H1 locs1 hP hD hS => ?_)
  have hset : (mq_W E ad refs M).set j (ad q, .inl (E.2.2 5, N, .inl (upd (M.2.1 q.1 q.2) y.toNatClampNeg x))) = mq_W E ad refs (M.1, mq_up M.2.1 q.1 q.2 y.toNatClampNeg x, M.2.2) := by
    refine mq_W_set hB.2.1 hj (fun r' hr' => mq_ce_eq (mq_up_ne (by exact hr')) rfl rfl) ?_
    rw [mq_ceS (.inr (.inr rfl)) hk]
    simp only [mq_up_at]
    rfl
  have hnx : vp_nar .boolean x = x := by rcases hx with rfl | rfl <;> rfl
  rw [hnx] at hP hD
  obtain ⟨hP, hD⟩ := mq_cvt hset hP hD
  exact kk H1 locs1 ls ad refs (mq_B_up hB rfl hB.2.2.2.1.2 hP hD hS) hl hvl (mq_vs_tl (mq_vs_tl (mq_vs_tl hvs)))
theorem mq_g_last (C : mq_C p s m args c cc nL own Ts D cl tys A X) (h9 : (E.1 999).1 = 9) {z : Int64} (hk : E.1 q.1 = (2, ci, N)) (ht : tys[t0]? = some (E.2.2 2, .long)) (hi : vp_in y N) (hd : decode cc pc = .ok (.lastore, 1))
    (kk : mq_G p l e R s m args below meth c Q nL E D cl A ad0 refs0 (pc + 1) lv r (M.1, M.2.1, M.2.2.1, mq_up M.2.2.2 q.1 q.2 y.toNatClampNeg z) cs ss) : mq_G p l e R s m args below meth c Q nL E D cl A ad0 refs0 pc lv (.inr (.inr z) :: .inl y :: .inr (.inl (some q)) :: r) M cs ss := by
  intro H locs ls ad refs hB hl hvl hvs
  have hm : q ∈ refs := mq_in h9 (hvs q (List.mem_cons_of_mem _ (List.mem_cons_of_mem _ List.mem_cons_self))) hk (Nat.ne_of_beq_eq_false rfl)
  obtain ⟨j, hj⟩ := List.getElem?_of_mem hm
  have he := mq_W_at (E := E) (ad := ad) (M := M) hj
  rw [mq_ce2 hk] at he
  refine va_last C.1 C.2.1 C.2.2.2.2.2.1 hB.1 hB.2.1 hB.2.2.1 j t0 he ht hi hd (fun H1 locs1 hP hD hS => ?_)
  have hset : (mq_W E ad refs M).set j (ad q, .inl (E.2.2 2, N, .inr (.inl (vp_updL (M.2.2.2 q.1 q.2) y.toNatClampNeg z)))) = mq_W E ad refs (M.1, M.2.1, M.2.2.1, mq_up M.2.2.2 q.1 q.2 y.toNatClampNeg z) := by
    refine mq_W_set hB.2.1 hj (fun r' hr' => mq_ce_eq rfl rfl (mq_up_ne (by exact hr'))) ?_
    rw [mq_ce2 hk]
    simp only [mq_up_at]
    rfl
  obtain ⟨hP, hD⟩ := mq_cvt hset hP hD
  exact kk H1 locs1 ls ad refs (mq_B_up hB rfl hB.2.2.2.1.2 hP hD hS) hl hvl (mq_vs_tl (mq_vs_tl (mq_vs_tl hvs)))
theorem mq_g_aast (C : mq_C p s m args c cc nL own Ts D cl tys A X) (h9 : (E.1 999).1 = 9) {w : Nat × Nat} {N1 : Nat} (hk : E.1 q.1 = (3, ci, N)) (hkw : E.1 w.1 = (0, ci, N1)) (hc : cl[ci]? = some (C1, T, N1)) (ht : tys[t0]? = some (E.2.2 (100 + ci), .object C1)) (hi : vp_in y N) (hd : decode cc pc = .ok (.aastore, 1))
    (kk : mq_G p l e R s m args below meth c Q nL E D cl A ad0 refs0 (pc + 1) lv r (M.1, M.2.1, mq_up M.2.2.1 q.1 q.2 y.toNatClampNeg (some w), M.2.2.2) cs ss) : mq_G p l e R s m args below meth c Q nL E D cl A ad0 refs0 pc lv (.inr (.inl (some w)) :: .inl y :: .inr (.inl (some q)) :: r) M cs ss := by
  intro H locs ls ad refs hB hl hvl hvs
  have hm : q ∈ refs := mq_in h9 (hvs q (List.mem_cons_of_mem _ (List.mem_cons_of_mem _ List.mem_cons_self))) hk (Nat.ne_of_beq_eq_false rfl)
  have hmw : w ∈ refs := mq_in h9 (hvs w List.mem_cons_self) hkw (Nat.ne_of_beq_eq_false rfl)
  obtain ⟨j, hj⟩ := List.getElem?_of_mem hm
  obtain ⟨jw, hjw⟩ := List.getElem?_of_mem hmw
  have he := mq_W_at (E := E) (ad := ad) (M := M) hj
  have hew := mq_W_at (E := E) (ad := ad) (M := M) hjw
  rw [mq_ce3 hk] at he
  rw [mq_ce0 hkw] at hew
  refine va_astq (r := (C1, T, N1)) C.1 C.2.1 C.2.2.2.2.2.1 hB.1 hB.2.1 hB.2.2.1 j t0 jw ci he ht hew hc hi hd (fun H1 locs1 hP hD hS => ?_)
  have hset : (mq_W E ad refs M).set j (ad q, .inl (E.2.2 (100 + ci), N, .inr (.inr (.inr (.inr (va_up (fun j => (M.2.2.1 q.1 q.2 j).map ad) y.toNatClampNeg (some (ad w)))))))) = mq_W E ad refs (M.1, M.2.1, mq_up M.2.2.1 q.1 q.2 y.toNatClampNeg (some w), M.2.2.2) := by
    refine mq_W_set hB.2.1 hj (fun r' hr' => mq_ce_eq rfl (mq_up_ne (by exact hr')) rfl) ?_
    rw [mq_ce3 hk]
    congr 7
    funext j'
    by_cases hjb : j' = y.toNatClampNeg
    · simp only [mq_up_at, va_up, hjb, if_true, Option.map_some]
    · simp only [mq_up_at, va_up, hjb, if_false]
  obtain ⟨hP, hD⟩ := mq_cvt hset hP hD
  exact kk H1 locs1 ls ad refs (mq_B_up hB rfl (mq_V_up hB.2.2.2.1 (fun r' h => by cases h; exact hmw)) hP hD hS) hl hvl (mq_vs_tl (mq_vs_tl (mq_vs_tl hvs)))
theorem mq_g_alen {cA : ClassId} {ty : FieldType} {z : vp_A} (C : mq_C p s m args c cc nL own Ts D cl tys A X) (h9 : (E.1 999).1 = 9) {t : Nat × Nat × Nat} (hk : E.1 q.1 = t) (h9' : t.1 ≠ 9) (hz : ∀ ad, mq_ce E ad M q = .inl (cA, z)) (hz1 : z.1 = t.2.2) (ht : tys[t0]? = some (cA, ty)) (hd : decode cc pc = .ok (.arraylength, 1))
    (kk : mq_G p l e R s m args below meth c Q nL E D cl A ad0 refs0 (pc + 1) lv (.inl (Int32.ofNat t.2.2) :: r) M cs ss) : mq_G p l e R s m args below meth c Q nL E D cl A ad0 refs0 pc lv (.inr (.inl (some q)) :: r) M cs ss := by
  intro H locs ls ad refs hB hl hvl hvs
  have hm : q ∈ refs := mq_in h9 (hvs q List.mem_cons_self) hk h9'
  obtain ⟨j, hj⟩ := List.getElem?_of_mem hm
  have he := mq_W_at (E := E) (ad := ad) (M := M) hj
  rw [hz ad] at he
  exact va_alen C.1 C.2.1 C.2.2.2.2.2.1 hB.1 j t0 he ht (by rw [hz1]) hd (kk H locs ls ad refs hB hl hvl (mq_vs_int (mq_vs_tl hvs)))
end MQM
