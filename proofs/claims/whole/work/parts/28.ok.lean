/-! A method's rows, by program: its bytes decoded at once, the rest row by row. -/
def mq_swok (pc : Nat) : Int → List (Int32 × Nat) → List Int → Prop
  | _, [], [] => True
  | lo, q :: P, o :: os => q.1.toInt = lo ∧ (pc : Int) + o = (q.2 : Int) ∧ mq_swok pc (lo + 1) P os
  | _, _, _ => False
def mq_lsok (pc : Nat) : List (Int32 × Nat) → List (Int × Int) → Prop
  | [], [] => True
  | q :: P, o :: os => q.1.toInt = o.1 ∧ (pc : Int) + o.2 = (q.2 : Int) ∧ mq_lsok pc P os
  | _, _ => False
theorem mq_swok_out {pc a : Nat} {x : Int32} : ∀ {P : List (Int32 × Nat)} {lo : Int} {os : List Int}, mq_swok pc lo P os → (x.toInt < lo ∨ lo + P.length ≤ x.toInt) → mq_swt x a P = a
  | [], _, [], _, _ => rfl
  | [], _, _ :: _, h, _ => h.elim
  | _ :: _, _, [], h, _ => h.elim
  | q :: P, lo, o :: os, h, hx => by
    obtain ⟨h1, h2, h3⟩ := h
    have hne : ¬ x = q.1 := by
      intro e
      rw [e, h1] at hx
      simp only [List.length_cons] at hx
      omega
    unfold mq_swt
    rw [if_neg hne]
    exact mq_swok_out h3 (by simp only [List.length_cons] at hx; omega)
theorem mq_swok_in {pc a : Nat} {x : Int32} : ∀ {P : List (Int32 × Nat)} {lo : Int} {os : List Int}, mq_swok pc lo P os → lo ≤ x.toInt → x.toInt < lo + P.length → ∃ off, os[(x.toInt - lo).toNat]? = some off ∧ (pc : Int) + off = (mq_swt x a P : Nat)
  | [], lo, _, _, h1, h2 => by simp only [List.length_nil] at h2; omega
  | _ :: _, _, [], h, _, _ => h.elim
  | q :: P, lo, o :: os, h, h1, h2 => by
    obtain ⟨g1, g2, g3⟩ := h
    by_cases e : x = q.1
    · refine ⟨o, ?_, ?_⟩
      · rw [e, g1, Int.sub_self]; rfl
      · unfold mq_swt
        rw [if_pos e]
        exact g2
    · have hlt : lo < x.toInt := by
        rcases Int.lt_or_eq_of_le h1 with h | h
        · exact h
        · exact absurd (Int32.toInt_inj.mp (by rw [g1, ← h])) e
      obtain ⟨off, k1, k2⟩ := mq_swok_in (a := a) (x := x) g3 (by omega) (by simp only [List.length_cons] at h2; omega)
      refine ⟨off, ?_, ?_⟩
      · have e2 : (x.toInt - lo).toNat = (x.toInt - (lo + 1)).toNat + 1 := by omega
        rw [e2, List.getElem?_cons_succ]
        exact k1
      · unfold mq_swt
        rw [if_neg e]
        exact k2
theorem mq_lsok_at {pc a : Nat} {d : Int} {x : Int32} (hd : (pc : Int) + d = (a : Int)) : ∀ {P : List (Int32 × Nat)} {os : List (Int × Int)}, mq_lsok pc P os → (pc : Int) + Op.lookupswitch.offset os d x.toInt = (mq_swt x a P : Nat)
  | [], [], _ => hd
  | [], _ :: _, h => h.elim
  | _ :: _, [], h => h.elim
  | q :: P, (k, o) :: os, h => by
    obtain ⟨g1, g2, g3⟩ := h
    unfold mq_swt
    rw [Op.lookupswitch.offset_cons]
    by_cases e : x = q.1
    · rw [if_pos (by rw [e]; exact g1.symm), if_pos e]
      exact g2
    · rw [if_neg (fun z => e (Int32.toInt_inj.mp (by rw [g1]; exact z.symm))), if_neg e]
      exact mq_lsok_at hd g3
def mq_okx (nL : Nat) (own : String) (Ts : List Cond) (cl : List vw_C) (tys : List (ClassId × FieldType)) (E : mEv) (Z : mCe) (sw : Nat → List (Int32 × Nat)) (mx : Nat → Nat × Nat × Nat) (ini : Bool) (rt : Option FieldType) (X : State → Prop) : mEn → Prop
  | (pc, ins, nx, a, b, c, v) =>
    match ins with
    | .tableswitch d lo hi offs => (pc : Int) + d = (a : Int) ∧ hi + 1 = lo + (sw b).length ∧ mq_swok pc lo (sw b) offs.toList
    | .lookupswitch d ps => (pc : Int) + d = (a : Int) ∧ (ps.toList.zip (ps.toList.drop 1)).all (fun (a, next) => a.1 < next.1) = true ∧ mq_lsok pc (sw b) ps.toList
    | ins => nx = pc + mq_len ins ∧ mq_ext nL own Ts cl tys E Z mx ini rt X (pc, ins, nx, a, b, c, v)
def mq_all (P : mEn → Prop) : List mEn → Prop
  | [] => True
  | e :: r => P e ∧ mq_all P r
theorem mq_all_mem {P : mEn → Prop} : ∀ {l : List mEn}, mq_all P l → ∀ e ∈ l, P e
  | [], _, e, h => by cases h
  | w :: r, hp, e, h => by
    rcases List.mem_cons.mp h with h | h
    · rw [h]; exact hp.1
    · exact mq_all_mem hp.2 e h
set_option maxHeartbeats 4000000 in
set_option maxRecDepth 100000 in
theorem mq_ok_of {cc : ByteArray} {nL : Nat} {own : String} {Ts : List Cond} {cl : List vw_C} {tys : List (ClassId × FieldType)} {E : mEv} {Z : mCe} {sw : Nat → List (Int32 × Nat)} {mx : Nat → Nat × Nat × Nat} {ini : Bool} {rt : Option FieldType} {X : State → Prop} {code : List mEn}
    (hd : ∀ en ∈ code, decode cc en.1 = .ok (en.2.1, en.2.2.1 - en.1)) (hx : mq_all (mq_okx nL own Ts cl tys E Z sw mx ini rt X) code) : ∀ en ∈ code, mq_ok cc nL own Ts cl tys E Z sw mx ini rt X en := by
  intro en hen
  have h1 := hd en hen
  have h2 := mq_all_mem hx en hen
  obtain ⟨pc, ins, nx, a, b, c, v⟩ := en
  dsimp only at h1
  cases ins
  case tableswitch d lo hi offs =>
    obtain ⟨g1, g2, g3⟩ := h2
    refine ⟨_, h1, fun x hx => ⟨mq_swok_out g3 (by omega), g1⟩, fun x k1 k2 => ?_⟩
    obtain ⟨off, e1, e2⟩ := mq_swok_in (a := a) (x := x) g3 (by omega) (by omega)
    exact ⟨off, by rw [← Array.getElem?_toList]; exact e1, e2⟩
  case lookupswitch d ps =>
    obtain ⟨g1, g2, g3⟩ := h2
    exact ⟨_, h1, g2, fun x => mq_lsok_at g1 g3⟩
  all_goals
    obtain ⟨g1, g2⟩ := h2
    refine ⟨⟨?_, g1⟩, g2⟩
    rw [g1, Nat.add_sub_cancel_left] at h1
    exact h1
