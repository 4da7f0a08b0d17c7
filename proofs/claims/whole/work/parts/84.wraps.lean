/-! The law's wrappers: a call, or the number of what it threw. -/
abbrev pW (F : Nat) (hn : Nat → Nat → Option Nat) (k : Nat) (code : List mEn) (f pc : Nat) (lv : List (Nat × mLV)) (st : List mAV) (M : mMm) (cs ss : Nat) : mRs := mq_loop pg_ki pg_sw hn pg_mx (pX F 8) code (pg_mx k) none f pc lv st M cs ss
/-- a call of the law's, with fuel enough -/
def Wp (k : Nat) (as : List mLV) (ρ : mSg) (τ : mLg) (w : Option mLV) (ρ1 : mSg) (τ1 : mLg) : Prop := ∃ F0, ∀ F, F0 ≤ F → ∀ c, pl_call F k as (c, ρ, pr, τ) = some (.inl w, (c, ρ1, pr, τ1))
section WRAP
variable {k mi N N' nx sc hp cs ss x : Nat} {as bs : List mLV} {hn : Nat → Nat → Option Nat} {code : List mEn} {lv : List (Nat × mLV)} {r : List mAV} {ρ ρ1 : mSg} {τ τ1 : mLg} {w : Option mLV} {t v x1 x2 x3 x4 x5 : Int32}
def wT (k mi N nx sc : Nat) (as bs : List mLV) (hn : Nat → Nat → Option Nat) (code : List mEn) (lv : List (Nat × mLV)) (r : List mAV) : Prop :=
  ∀ F f M, pW F hn k code (f + N) 0 (mq_en 0 as) [] M 0 0 = (match pX F 8 mi bs M with
    | some (.inl w, M') => pW F hn k code f nx lv (mq_psh w r) M' 1 6
    | some (.inr x, M') => (match hn sc x with
      | some hp => pW F hn k code f hp [] [] M' 1 6
      | none => none)
    | none => none)
theorem wr_ok (hE : ∀ F M, pl_call F k as M = pW F hn k code F 0 (mq_en 0 as) [] M 0 0) (hT : wT k mi N nx sc as bs hn code lv r) (h : Sp 8 mi bs ρ (.inl w) ρ1)
    (hR : ∀ F f c, pW F hn k code (f + N') nx lv (mq_psh w r) (c, ρ1, pr, τ) 1 6 = some (.inl (some (.inl t)), (c, ρ1, pr, τ1))) : Wp k as ρ τ (some (.inl t)) ρ1 τ1 := by
  obtain ⟨F0, h⟩ := h
  refine ⟨F0 + (N' + N), fun F hF c => ?_⟩
  obtain ⟨f, rfl⟩ : ∃ f, F = f + N' + N := ⟨F - (N' + N), by omega⟩
  rw [hE, hT, h _ (by omega)]
  exact hR _ _ _
theorem wr_thr (hE : ∀ F M, pl_call F k as M = pW F hn k code F 0 (mq_en 0 as) [] M 0 0) (hT : wT k mi N nx sc as bs hn code lv r) (h : Sp 8 mi bs ρ (.inr x) ρ1) (hh : hn sc x = some hp)
    (hR : ∀ F f M, pW F hn k code (f + N') hp [] [] M 1 6 = some (.inl (some (.inl t)), M)) : Wp k as ρ τ (some (.inl t)) ρ1 τ := by
  obtain ⟨F0, h⟩ := h
  refine ⟨F0 + (N' + N), fun F hF c => ?_⟩
  obtain ⟨f, rfl⟩ : ∃ f, F = f + N' + N := ⟨F - (N' + N), by omega⟩
  rw [hE, hT, h _ (by omega)]
  show (match hn sc x with
      | some hp => pW _ hn k code (f + N') hp [] [] _ 1 6
      | none => none) = _
  rw [hh]
  exact hR _ _ _
theorem w151T : wT 151 71 4 6 0 [.inr (some (6, 0)), .inl x1, .inl x2] [.inr (some (6, 0)), .inl x1, .inl x2] hn_151 cd_151 [(0, .inr (some (6, 0))), (1, .inl x1), (2, .inl x2)] [] := fun _ _ _ => rfl
theorem w151 {rC : mRz} (h : Sp 8 71 [.inr (some (6, 0)), .inl x1, .inl x2] ρ rC ρ1) (hk : (rC = .inl none ∧ t = 0) ∨ ∃ x, rC = .inr x ∧ kd3 x t) : Wp 151 [.inr (some (6, 0)), .inl x1, .inl x2] ρ τ (some (.inl t)) ρ1 τ := by
  rcases hk with ⟨rfl, rfl⟩ | ⟨x, rfl, ⟨rfl, rfl⟩ | ⟨rfl, rfl⟩ | ⟨rfl, rfl⟩⟩
  · exact wr_ok (N' := 3) (fun _ _ => rfl) w151T h (fun _ _ _ => rfl)
  · exact wr_thr (N' := 2) (fun _ _ => rfl) w151T h rfl (fun _ _ _ => rfl)
  · exact wr_thr (N' := 2) (fun _ _ => rfl) w151T h rfl (fun _ _ _ => rfl)
  · exact wr_thr (N' := 2) (fun _ _ => rfl) w151T h rfl (fun _ _ _ => rfl)
theorem w152T : wT 152 72 9 14 0 [.inr (some (6, 0)), .inl x1, .inl x2, .inl x3, .inl x4, .inl x5, .inr (some (40, 0))] [.inr (some (6, 0)), .inl x1, .inl x2, .inl x3, .inl x4, .inl x5] hn_152 cd_152 [(0, .inr (some (6, 0))), (1, .inl x1), (2, .inl x2), (3, .inl x3), (4, .inl x4), (5, .inl x5), (6, .inr (some (40, 0)))] [.inl 0, .inr (.inl (some (40, 0)))] := fun _ _ _ => rfl
theorem w152 {rC : mRz} (h : Sp 8 72 [.inr (some (6, 0)), .inl x1, .inl x2, .inl x3, .inl x4, .inl x5] ρ rC ρ1) (hk : (rC = rI v ∧ t = 0) ∨ ∃ x, rC = .inr x ∧ kd3 x t) : ∃ τ1, Wp 152 [.inr (some (6, 0)), .inl x1, .inl x2, .inl x3, .inl x4, .inl x5, .inr (some (40, 0))] ρ τ (some (.inl t)) ρ1 τ1 ∧ (t = 0 → τ1 40 0 0 = v.toInt64) := by
  rcases hk with ⟨rfl, rfl⟩ | ⟨x, rfl, ⟨rfl, rfl⟩ | ⟨rfl, rfl⟩ | ⟨rfl, rfl⟩⟩
  · exact ⟨mq_up τ 40 0 0 v.toInt64, wr_ok (N' := 5) (fun _ _ => rfl) w152T h (fun _ _ _ => rfl), fun _ => up_eq _ _ _ _ _⟩
  · exact ⟨τ, wr_thr (N' := 2) (fun _ _ => rfl) w152T h rfl (fun _ _ _ => rfl), fun z => absurd z (by decide)⟩
  · exact ⟨τ, wr_thr (N' := 2) (fun _ _ => rfl) w152T h rfl (fun _ _ _ => rfl), fun z => absurd z (by decide)⟩
  · exact ⟨τ, wr_thr (N' := 2) (fun _ _ => rfl) w152T h rfl (fun _ _ _ => rfl), fun z => absurd z (by decide)⟩
theorem w153T : wT 153 73 8 12 0 [.inr (some (6, 0)), .inl x1, .inl x2, .inl x3, .inl x4, .inr (some (40, 0))] [.inr (some (6, 0)), .inl x1, .inl x2, .inl x3, .inl x4] hn_153 cd_153 [(0, .inr (some (6, 0))), (1, .inl x1), (2, .inl x2), (3, .inl x3), (4, .inl x4), (5, .inr (some (40, 0)))] [.inl 0, .inr (.inl (some (40, 0)))] := fun _ _ _ => rfl
theorem w153 {rC : mRz} (h : Sp 8 73 [.inr (some (6, 0)), .inl x1, .inl x2, .inl x3, .inl x4] ρ rC ρ1) (hk : (rC = rI v ∧ t = 0) ∨ ∃ x, rC = .inr x ∧ kd3 x t) : ∃ τ1, Wp 153 [.inr (some (6, 0)), .inl x1, .inl x2, .inl x3, .inl x4, .inr (some (40, 0))] ρ τ (some (.inl t)) ρ1 τ1 ∧ (t = 0 → τ1 40 0 0 = v.toInt64) := by
  rcases hk with ⟨rfl, rfl⟩ | ⟨x, rfl, ⟨rfl, rfl⟩ | ⟨rfl, rfl⟩ | ⟨rfl, rfl⟩⟩
  · exact ⟨mq_up τ 40 0 0 v.toInt64, wr_ok (N' := 5) (fun _ _ => rfl) w153T h (fun _ _ _ => rfl), fun _ => up_eq _ _ _ _ _⟩
  · exact ⟨τ, wr_thr (N' := 2) (fun _ _ => rfl) w153T h rfl (fun _ _ _ => rfl), fun z => absurd z (by decide)⟩
  · exact ⟨τ, wr_thr (N' := 2) (fun _ _ => rfl) w153T h rfl (fun _ _ _ => rfl), fun z => absurd z (by decide)⟩
  · exact ⟨τ, wr_thr (N' := 2) (fun _ _ => rfl) w153T h rfl (fun _ _ _ => rfl), fun z => absurd z (by decide)⟩
theorem w154T : wT 154 74 5 7 0 [.inr (some (6, 0)), .inl x1, .inl x2, .inl x3] [.inr (some (6, 0)), .inl x1, .inl x2, .inl x3] hn_154 cd_154 [(0, .inr (some (6, 0))), (1, .inl x1), (2, .inl x2), (3, .inl x3)] [] := fun _ _ _ => rfl
theorem w154 {rC : mRz} (h : Sp 8 74 [.inr (some (6, 0)), .inl x1, .inl x2, .inl x3] ρ rC ρ1) (hk : (rC = .inl none ∧ t = 0) ∨ ∃ x, rC = .inr x ∧ kd4 x t) : Wp 154 [.inr (some (6, 0)), .inl x1, .inl x2, .inl x3] ρ τ (some (.inl t)) ρ1 τ := by
  rcases hk with ⟨rfl, rfl⟩ | ⟨x, rfl, ⟨rfl, rfl⟩ | ⟨rfl, rfl⟩⟩
  · exact wr_ok (N' := 3) (fun _ _ => rfl) w154T h (fun _ _ _ => rfl)
  · exact wr_thr (N' := 2) (fun _ _ => rfl) w154T h rfl (fun _ _ _ => rfl)
  · exact wr_thr (N' := 2) (fun _ _ => rfl) w154T h rfl (fun _ _ _ => rfl)
theorem w155T : wT 155 75 5 7 0 [.inr (some (6, 0)), .inl x1, .inl x2, .inl x3] [.inr (some (6, 0)), .inl x1, .inl x2, .inl x3] hn_155 cd_155 [(0, .inr (some (6, 0))), (1, .inl x1), (2, .inl x2), (3, .inl x3)] [] := fun _ _ _ => rfl
theorem w155 {rC : mRz} (h : Sp 8 75 [.inr (some (6, 0)), .inl x1, .inl x2, .inl x3] ρ rC ρ1) (hk : (rC = .inl none ∧ t = 0) ∨ ∃ x, rC = .inr x ∧ kd5 x t) : Wp 155 [.inr (some (6, 0)), .inl x1, .inl x2, .inl x3] ρ τ (some (.inl t)) ρ1 τ := by
  rcases hk with ⟨rfl, rfl⟩ | ⟨x, rfl, ⟨rfl, rfl⟩⟩
  · exact wr_ok (N' := 3) (fun _ _ => rfl) w155T h (fun _ _ _ => rfl)
  · exact wr_thr (N' := 2) (fun _ _ => rfl) w155T h rfl (fun _ _ _ => rfl)
theorem w156T : wT 156 76 2 4 0 [.inr (some (6, 0))] [.inr (some (6, 0))] hn_156 cd_156 [(0, .inr (some (6, 0)))] [] := fun _ _ _ => rfl
theorem w156 {rC : mRz} (h : Sp 8 76 [.inr (some (6, 0))] ρ rC ρ1) (hk : (rC = .inl none ∧ t = 0) ∨ ∃ x, rC = .inr x ∧ kd6 x t) : Wp 156 [.inr (some (6, 0))] ρ τ (some (.inl t)) ρ1 τ := by
  rcases hk with ⟨rfl, rfl⟩ | ⟨x, rfl, ⟨rfl, rfl⟩⟩
  · exact wr_ok (N' := 3) (fun _ _ => rfl) w156T h (fun _ _ _ => rfl)
  · exact wr_thr (N' := 2) (fun _ _ => rfl) w156T h rfl (fun _ _ _ => rfl)
theorem w157T : wT 157 77 5 7 0 [.inr (some (6, 0)), .inl x1, .inr (some (40, 0))] [.inr (some (6, 0)), .inl x1] hn_157 cd_157 [(0, .inr (some (6, 0))), (1, .inl x1), (2, .inr (some (40, 0)))] [.inl 0, .inr (.inl (some (40, 0)))] := fun _ _ _ => rfl
theorem w157 {rC : mRz} (h : Sp 8 77 [.inr (some (6, 0)), .inl x1] ρ rC ρ1) (hk : (rC = rI v ∧ t = 0) ∨ ∃ x, rC = .inr x ∧ kd7 x t) : ∃ τ1, Wp 157 [.inr (some (6, 0)), .inl x1, .inr (some (40, 0))] ρ τ (some (.inl t)) ρ1 τ1 ∧ (t = 0 → τ1 40 0 0 = v.toInt64) := by
  rcases hk with ⟨rfl, rfl⟩ | ⟨x, rfl, ⟨rfl, rfl⟩ | ⟨rfl, rfl⟩⟩
  · exact ⟨mq_up τ 40 0 0 v.toInt64, wr_ok (N' := 5) (fun _ _ => rfl) w157T h (fun _ _ _ => rfl), fun _ => up_eq _ _ _ _ _⟩
  · exact ⟨τ, wr_thr (N' := 2) (fun _ _ => rfl) w157T h rfl (fun _ _ _ => rfl), fun z => absurd z (by decide)⟩
  · exact ⟨τ, wr_thr (N' := 2) (fun _ _ => rfl) w157T h rfl (fun _ _ _ => rfl), fun z => absurd z (by decide)⟩
end WRAP
