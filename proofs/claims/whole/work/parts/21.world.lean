/-! The machine's memory as a world of the kit: refs lists the cells there are, ad says where each lies. -/
/-- the kinds; which places of a class are references; the array classes -/
abbrev mEv : Type := (Nat → Nat × Nat × Nat) × (Nat → Nat → Bool) × (Nat → ClassId)
def mq_sr : Nat × Nat := (999, 0)
def mq_cl (ad : Nat × Nat → Nat) : mLV → Value
  | .inl x => .int x
  | .inr q => va_rf (q.map ad)
def mq_cv (ad : Nat × Nat → Nat) : mAV → Value
  | .inl x => .int x
  | .inr (.inl q) => va_rf (q.map ad)
  | .inr (.inr x) => .long x
def mq_fv (E : mEv) (ad : Nat × Nat → Nat) (M : mMm) (r : Nat × Nat) (j : Nat) : Value := if E.2.1 (E.1 r.1).2.1 j then va_rf ((M.2.2.1 r.1 r.2 j).map ad) else .int (M.2.1 r.1 r.2 j)
def mq_ce (E : mEv) (ad : Nat × Nat → Nat) (M : mMm) (r : Nat × Nat) : va_E := match (E.1 r.1).1 with
  | 0 => .inr ((E.1 r.1).2.1, (List.range (E.1 r.1).2.2).map (mq_fv E ad M r))
  | 2 => .inl (E.2.2 2, ((E.1 r.1).2.2, .inr (.inl (M.2.2.2 r.1 r.2))))
  | 3 => .inl (E.2.2 (100 + (E.1 r.1).2.1), ((E.1 r.1).2.2, .inr (.inr (.inr (.inr (fun j => (M.2.2.1 r.1 r.2 j).map ad))))))
  | t => .inl (E.2.2 t, ((E.1 r.1).2.2, .inl (M.2.1 r.1 r.2)))
def mq_W (E : mEv) (ad : Nat × Nat → Nat) (refs : List (Nat × Nat)) (M : mMm) : va_W := refs.map (fun r => (ad r, mq_ce E ad M r))
section MQW
variable {E : mEv} {ad ad' : Nat × Nat → Nat} {refs : List (Nat × Nat)} {M M' : mMm} {r r' : Nat × Nat} {i j : Nat} {A : Nat → Prop} {D : va_G} {cl : List vw_C} {H : Heap}
theorem mq_W_at (h : refs[j]? = some r) : (mq_W E ad refs M)[j]? = some (ad r, mq_ce E ad M r) := by
  rw [mq_W, List.getElem?_map, h]; rfl
theorem mq_W_inv {q : Nat × va_E} (h : (mq_W E ad refs M)[j]? = some q) : ∃ r, refs[j]? = some r ∧ q = (ad r, mq_ce E ad M r) := by
  rw [mq_W, List.getElem?_map] at h
  cases hr : refs[j]? with
  | none => rw [hr] at h; cases h
  | some r => rw [hr] at h; exact ⟨r, rfl, (Option.some.inj h).symm⟩
theorem mq_inj (hD : va_D A (mq_W E ad refs M)) (hi : refs[i]? = some r) (hj : refs[j]? = some r') (h : ad r = ad r') : i = j := hD.1 i j _ _ (mq_W_at hi) (mq_W_at hj) h
theorem mq_injr (hD : va_D A (mq_W E ad refs M)) (hi : r ∈ refs) (hj : r' ∈ refs) (h : ad r = ad r') : r = r' := by
  obtain ⟨i, h1⟩ := List.getElem?_of_mem hi
  obtain ⟨j, h2⟩ := List.getElem?_of_mem hj
  have e := mq_inj hD h1 h2 h
  subst e
  exact Option.some.inj (h1.symm.trans h2)
theorem mq_W_in (hD : va_D A (mq_W E ad refs M)) (h : r ∈ refs) : A (ad r) := by
  obtain ⟨i, h1⟩ := List.getElem?_of_mem h
  exact hD.2 i _ (mq_W_at h1)
theorem mq_W_set {e' : va_E} (hD : va_D A (mq_W E ad refs M)) (hj : refs[j]? = some r) (ho : ∀ r', r' ≠ r → mq_ce E ad M' r' = mq_ce E ad M r') (he : mq_ce E ad M' r = e') : (mq_W E ad refs M).set j (ad r, e') = mq_W E ad refs M' := by
  apply List.ext_getElem?
  intro i
  by_cases hij : i = j
  · subst hij
    rw [List.getElem?_set_self (List.getElem?_eq_some_iff.mp (mq_W_at (E := E) (ad := ad) (M := M) hj)).1, mq_W_at hj, he]
  · rw [List.getElem?_set_ne (Ne.symm hij)]
    cases hi : refs[i]? with
    | none => simp only [mq_W, List.getElem?_map, hi, Option.map_none]
    | some r' =>
      have hne : r' ≠ r := fun q => hij (mq_inj hD hi hj (by rw [q]))
      rw [mq_W_at hi, mq_W_at hi, ho r' hne]
theorem mq_up_ne {α : Type} {f : Nat → Nat → Nat → α} {k i j : Nat} {v : α} (h : r' ≠ (k, i)) : mq_up f k i j v r'.1 r'.2 = f r'.1 r'.2 := by
  funext j'
  have hn : ¬ (r'.1 = k ∧ r'.2 = i ∧ j' = j) := fun q => h (Prod.ext q.1 q.2.1)
  simp only [mq_up, if_neg hn]
theorem mq_up_at {α : Type} {f : Nat → Nat → Nat → α} {k i j : Nat} {v : α} : mq_up f k i j v k i = fun j' => if j' = j then v else f k i j' := by
  funext j'
  simp [mq_up]
theorem mq_cr_ne {α : Type} {f : Nat → Nat → Nat → α} {k i : Nat} {v : α} (h : r' ≠ (k, i)) : mq_cr f k i v r'.1 r'.2 = f r'.1 r'.2 := by
  funext j'
  have hn : ¬ (r'.1 = k ∧ r'.2 = i) := fun q => h (Prod.ext q.1 q.2)
  simp only [mq_cr, if_neg hn]
theorem mq_cr_at {α : Type} {f : Nat → Nat → Nat → α} {k i : Nat} {v : α} : mq_cr f k i v k i = fun _ => v := by
  funext j'
  simp [mq_cr]
theorem mq_ce_eq (h1 : M'.2.1 r.1 r.2 = M.2.1 r.1 r.2) (h2 : M'.2.2.1 r.1 r.2 = M.2.2.1 r.1 r.2) (h3 : M'.2.2.2 r.1 r.2 = M.2.2.2 r.1 r.2) : mq_ce E ad M' r = mq_ce E ad M r := by
  have h0 : mq_fv E ad M' r = mq_fv E ad M r := by
    funext j
    unfold mq_fv
    rw [h1, h2]
  unfold mq_ce
  rw [h0, h1, h2, h3]
theorem mq_range_set {N b : Nat} {f : Nat → Value} {v : Value} (hb : b < N) : ((List.range N).map f).set b v = (List.range N).map (fun j => if j = b then v else f j) := by
  apply List.ext_getElem?
  intro i
  by_cases hij : i = b
  · subst hij
    rw [List.getElem?_set_self (by simpa using hb), List.getElem?_map, List.getElem?_range hb]
    simp
  · rw [List.getElem?_set_ne (Ne.symm hij)]
    by_cases hi : i < N
    · rw [List.getElem?_map, List.getElem?_map, List.getElem?_range hi]
      simp [hij]
    · rw [List.getElem?_eq_none (by simpa using hi), List.getElem?_eq_none (by simpa using hi)]
theorem mq_range_at {N b : Nat} {f : Nat → Value} (hb : b < N) : ((List.range N).map f)[b]? = some (f b) := by
  rw [List.getElem?_map, List.getElem?_range hb]; rfl
theorem mq_arrV {cA : ClassId} {n : Nat} {f g : Nat → Value} (h : ∀ j, j < n → f j = g j) : arrV cA n f = arrV cA n g := by
  have e : (fun j : Fin n => f j.val) = fun j : Fin n => g j.val := funext fun j => h j.val j.isLt
  unfold arrV
  rw [e]
/-- a cell is the same where its places are -/
theorem mq_at_congr {a : Nat} (h1 : ∀ j, j < (E.1 r.1).2.2 → M'.2.1 r.1 r.2 j = M.2.1 r.1 r.2 j) (h2 : ∀ j, j < (E.1 r.1).2.2 → (M'.2.2.1 r.1 r.2 j).map ad' = (M.2.2.1 r.1 r.2 j).map ad) (h3 : ∀ j, j < (E.1 r.1).2.2 → M'.2.2.2 r.1 r.2 j = M.2.2.2 r.1 r.2 j) (h : va_at D cl (a, mq_ce E ad M r) H) : va_at D cl (a, mq_ce E ad' M' r) H := by
  unfold mq_ce at h ⊢
  split at h
  · have e : (List.range (E.1 r.1).2.2).map (mq_fv E ad' M' r) = (List.range (E.1 r.1).2.2).map (mq_fv E ad M r) := by
      apply List.map_congr_left
      intro j hj
      have hj := List.mem_range.mp hj
      unfold mq_fv
      rw [h1 j hj, h2 j hj]
    rw [e]
    exact h
  · have h : H[a]? = some (vp_cell _ _) := h
    show H[a]? = some (vp_cell _ _)
    rw [h, vp_cell_l, vp_cell_l]
    exact congrArg some (mq_arrV fun j hj => by rw [h3 j hj])
  · have h : H[a]? = some (vp_cell _ _) := h
    show H[a]? = some (vp_cell _ _)
    rw [h, vp_cell_q, vp_cell_q]
    exact congrArg some (mq_arrV fun j hj => by rw [h2 j hj])
  · have h : H[a]? = some (vp_cell _ _) := h
    show H[a]? = some (vp_cell _ _)
    rw [h, vp_cell_i, vp_cell_i]
    exact congrArg some (mq_arrV fun j hj => by rw [h1 j hj])
theorem mq_D_same {w w' : va_W} (hD : va_D A w) (h : w'.map (·.1) = w.map (·.1)) : va_D A w' := by
  have key : ∀ (k : Nat) (q : Nat × va_E), w'[k]? = some q → ∃ q0, w[k]? = some q0 ∧ q0.1 = q.1 := by
    intro k q hk
    have h1 : (w'.map (·.1))[k]? = some q.1 := by rw [List.getElem?_map, hk]; rfl
    rw [h, List.getElem?_map] at h1
    cases h2 : w[k]? with
    | none => rw [h2] at h1; cases h1
    | some q0 => rw [h2] at h1; exact ⟨q0, rfl, Option.some.inj h1⟩
  refine ⟨fun i j x y hi hj hxy => ?_, fun k q hk => ?_⟩
  · obtain ⟨x0, a1, a2⟩ := key i x hi
    obtain ⟨y0, b1, b2⟩ := key j y hj
    exact hD.1 i j x0 y0 a1 b1 (a2.trans (hxy.trans b2.symm))
  · obtain ⟨q0, a1, a2⟩ := key k q hk
    rw [← a2]
    exact hD.2 k q0 a1
theorem mq_W_fst : (mq_W E ad refs M).map (·.1) = refs.map ad := by
  rw [mq_W, List.map_map]; rfl
end MQW
