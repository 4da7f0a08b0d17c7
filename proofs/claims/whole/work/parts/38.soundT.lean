/-! The throwing roads of the class's seven methods that throw: by their number. -/
theorem pg_k8 (k : Nat) (h : (pg_ki k).1 = 8) : (pg_ki k).2.1 = k ∧ (pg_ki k).2.2 = 6 := by
  unfold pg_ki at h ⊢
  split at h <;> first | (exact ⟨rfl, rfl⟩) | cases h
theorem mq_As {D : va_G} {cl : List vw_C} {ws : va_W} {H : Heap} (hP : va_P D cl ws H) (q : Nat) (cell : Cell) (hA : va_A ws H.size q) (hc : H[q]? = some cell) : cell.vm.isStatics = false := by
  rcases hA with ⟨k, e, hk⟩ | hA
  · have h := hP k _ hk
    rcases e with x | o
    · have h : H[q]? = some (vp_cell _ _) := h
      rw [hc] at h
      cases h
      obtain ⟨n, f | f | f | f | f⟩ := x.2 <;> rfl
    · obtain ⟨r, -, cell', h1, -, h2, -⟩ := h
      have h1 : H[q]? = some cell' := h1
      rw [hc] at h1
      cases h1
      rw [h2]; rfl
  · have := (Array.getElem?_eq_some_iff.mp hc).1
    omega
abbrev pg_nm : List String := ["java/lang/RuntimeException", "java/lang/Exception"]
/-- a throwing method's start: also the throws' words, and Throwable's statics -/
def pg_PT (cA : Nat → ClassId) (D : va_G) (sz : Nat) (ad : Nat × Nat → Nat) (refs : List (Nat × Nat)) (as : List mLV) (M : mMm) : Array Value → State → Prop := fun v U =>
  mq_Pc pg_X (pg_E cA) D pg_cl (pg_tys cA) sz ad refs as M v U ∧ pg_W U ∧ mq_Y (va_A (mq_W (pg_E cA) ad refs M) sz) U U.heap
set_option maxHeartbeats 4000000 in
theorem pg_soundT {l : Launch} {D : va_G} {F : Nat} (cA : Nat → ClassId) (hfl : l.flags = flags0) (d mi : Nat) (hd5 : 5 ≤ d) (hot : ∀ en ∈ pg_c mi, mq_okt (pg_Z.2.1 mi) (pg_Z.1 mi).cls (mq_ws pg_Z mi) pg_ki pg_ex pg_nm pg_W en) (as : List mLV) (M : mMm) (x : Nat) (M1 : mMm) (h : pX F (d + 1) mi as M = some (.inr x, M1))
    (ad : Nat × Nat → Nat) (refs : List (Nat × Nat)) (sz : Nat) (hV : mq_V (pg_E cA) M refs) (hva : ∀ r, (.inr (some r) : mLV) ∈ as → mq_vr refs r) :
    mq_MT l (pg_Z.1 mi) (mq_ws pg_Z mi) (mq_rm pg_mx (d + 1) mi) (pg_PT cA D sz ad refs as M) (mq_QT (pg_E cA) D pg_cl (pg_tys cA) (va_A (mq_W (pg_E cA) ad refs M) sz) ad refs (pg_ex x) M1) (pg_mx mi).1 (pg_mx mi).2.1 (va_A (mq_W (pg_E cA) ad refs M) sz) := by
  have h : (if as.length ≤ pg_Z.2.2.1 mi then mq_loop (pg_E cA).1 pg_sw (fun _ _ => none) pg_mx (mq_ex pg_ki pg_sw (fun _ _ => none) pg_mx pg_Z.2.2.1 pg_c F d) (pg_c mi) (pg_mx mi) none F 0 (mq_en 0 as) [] M 0 0 else none) = some (.inr x, M1) := h
  split at h
  · rename_i hlen
    have hne : pg_c mi ≠ [] := by
      intro h0
      rw [h0] at h
      cases F with
      | zero => cases h
      | succ f => cases h
    obtain ⟨hpl, hno8, hrows⟩ := pg_oka cA mi hne
    refine mq_MT_ofW (cc := pg_Z.2.1 mi) (maxL := pg_Z.2.2.1 mi) (ret := pg_Z.2.2.2.1 mi) hpl rfl ?_
    intro p e s m args below meth c s₁ B hml hv
    obtain ⟨⟨rfl, hsz, hP, hK, hD0, hX⟩, hW, hY⟩ := hv
    have hts := atoms_spec (ws := mq_ws pg_Z mi) B.pre
    have hown : s.vm.findClass (pg_Z.1 mi).cls = some m.cls := findClass_of_methodNamed B.named
    have hlocks := B.notSynchronized
    have hname : meth.name = (pg_Z.1 mi).name := (name_of_methodNamed B.named B.method).1
    have hemp : c.exceptionTable.isEmpty = true := B.noHandlers (hts _ List.mem_cons_self)
    have htr : e.platform.stackTraces = false := Launch.traces_off hfl B.admits
    subst hsz
    have hD := hD0.self (sz := s.heap.size)
    have C : mq_C p s m (as.map (mq_cl ad)).toArray c (pg_Z.2.1 mi) (pg_Z.2.2.1 mi) (pg_Z.1 mi).cls (mq_ws pg_Z mi) D pg_cl (pg_tys cA) (va_A (mq_W (pg_E cA) ad refs M) s.heap.size) pg_X := ⟨B.exec, B.bytes, hml, hown, hts, hK, fun q h => Or.inr h, hX, pX_warm⟩
    have hl := lv_entry (as.map (mq_cl ad)) (n := pg_Z.2.2.1 mi) (by rw [mq_sl_len]; exact hlen)
    rw [lg_entry_eq]
    generalize (lg_sl (as.map (mq_cl ad)) ++ List.replicate (pg_Z.2.2.1 mi - (lg_sl (as.map (mq_cl ad))).length) Slot.unset).toArray = ls at hl ⊢
    rw [mq_lv_args] at hl
    exact mq_main (res := (.inr x, M1)) (rt := pg_Z.2.2.2.1 mi) (lim := pg_mx mi) (d := d) (tI := 0) (tL := 1) (tB := 2) (tZ := 3) C rfl (fun hi => by rw [hname]; exact of_decide_eq_true hi) rfl rfl rfl rfl (pg_htQ cA) pg_htO hrows (fun a as M rv M' h => pg_sound cA d a as M rv M' h) ⟨Nat.le_refl _, Nat.le_refl _, Nat.le_refl _, Nat.le_refl _⟩ (fun w h => by cases h)
      (fun pc ix nx a b sc v _ lv st M cs ss q as r x M' hp _ _ _ _ _ _ _ hh => by cases hh)
      (fun pc ix nx a b v hm lv st M cs ss as r w M' _ _ _ _ _ _ => by have h8 := List.all_eq_true.mp hno8 _ hm; cases h8)
      (fun pc lv x' M2 cs ss hd hb he hcs hss => by cases he)
      (fun pc lv w M2 cs ss hd hb he hcs hss => by cases he)
      (fun pc lv M2 cs ss hd hb he hcs hss => by cases he)
      (fun en hen ix hix h8 lv M2 cs ss he hc1 hc2 => by
        obtain ⟨e1, e2⟩ := pg_k8 _ h8
        have he' := Prod.mk.inj he
        have hx : x = en.2.2.2.1 := (Sum.inr.inj he'.1).trans e1
        have hM := he'.2
        subst hM
        subst hx
        have hc2 : ss + (pg_ki en.2.2.2.1).2.2 ≤ (pg_mx mi).2.1 := hc2
        rw [e2] at hc2
        obtain ⟨o1, o2, o3, o4, is, ic, tx, o5, ⟨d0, d3, d4, d6, d9⟩, o6⟩ := hot en hen ix hix h8
        obtain ⟨a0, ha0⟩ := o5 s hW
        exact mq_g_throw C htr hlocks hemp (mq_As hP) (names := pg_nm) o1 (by decide +kernel) (o6 _ _ s hts hW hY) o2 o3 o4 ha0 d0 d3 d4 d6 d9 ⟨by show 2 + 3 < d + 1; omega, by show 13 * (2 + 1) + 43 ≤ 37 * (d + 1); omega⟩ ⟨hc1, hc2⟩ ⟨hc1, hc2⟩)
      F 0 (mq_en 0 as) [] M 0 0 (Nat.zero_le _) (Nat.zero_le _) h s.heap [] ls ad refs ⟨hP, hD, va_S.rf, hV, fun _ h => h, fun _ _ => rfl⟩ hl (fun i r h => hva r (mq_en_mem h)) (fun r h => by cases h)
  · cases h
