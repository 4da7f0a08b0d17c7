/-! References that nobody reads may be anything: beyond an array's end. -/
def RG (f g : Nat → Nat → Nat → mRf) : Prop := ∀ k i j, ((pg_ki k).1 = 3 → j < (pg_ki k).2.2) → f k i j = g k i j
def RR (r r' : mRs) : Prop := ∀ x M, r = some (x, M) → ∃ g, r' = some (x, (M.1, M.2.1, g, M.2.2.2)) ∧ RG M.2.2.1 g
/-- a code reads fields of objects alone -/
def gfk (en : mEn) : Bool := match en.2.1 with
  | .getfield _ => !((pg_ki en.2.2.2.1).1 == 3)
  | _ => true
theorem rg_up {f g : Nat → Nat → Nat → mRf} (h : RG f g) (k i j : Nat) (v : mRf) : RG (mq_up f k i j v) (mq_up g k i j v) := fun a b c hc => by
  show (if _ then _ else _) = (if _ then _ else _)
  split
  · rfl
  · exact h a b c hc
theorem rg_cr {f g : Nat → Nat → Nat → mRf} (h : RG f g) (k i : Nat) (v : mRf) : RG (mq_cr f k i v) (mq_cr g k i v) := fun a b c hc => by
  show (if _ then _ else _) = (if _ then _ else _)
  split
  · rfl
  · exact h a b c hc
section CG
variable {sw : Nat → List (Int32 × Nat)} {hn : Nat → Nat → Option Nat} {call call' : Nat → List mLV → mMm → mRs} {code : List mEn} {lim : Nat × Nat × Nat} {scr : Option (Nat × (Nat → Int32))} {go go' : Nat → List (Nat × mLV) → List mAV → mMm → Nat → Nat → mRs}
set_option maxHeartbeats 4000000 in
theorem st_rg (hgo : ∀ pc lv st c σ f g τ cs ss, RG f g → RR (go pc lv st (c, σ, f, τ) cs ss) (go' pc lv st (c, σ, g, τ) cs ss)) (hcall : ∀ a as c σ f g τ, RG f g → RR (call a as (c, σ, f, τ)) (call' a as (c, σ, g, τ))) (hcode : ∀ en ∈ code, gfk en = true)
    {pc cs ss : Nat} {lv : List (Nat × mLV)} {st : List mAV} {c : Nat → Nat} {σ : Nat → Nat → Nat → Int32} {τ : Nat → Nat → Nat → Int64} {f g : Nat → Nat → Nat → mRf} (hg : RG f g) : RR (mq_st pg_ki sw hn pg_mx call code lim scr go pc lv st (c, σ, f, τ) cs ss) (mq_st pg_ki sw hn pg_mx call' code lim scr go' pc lv st (c, σ, g, τ) cs ss) := by
  intro X M' h
  unfold mq_st at h ⊢
  cases hlk : mq_lk pc code with
  | none => rw [hlk] at h; cases h
  | some en =>
    rw [hlk] at h
    obtain ⟨hpc, hmem⟩ := mq_lk_spec hlk
    have hok := hcode _ hmem
    obtain ⟨pc', ins, nx, a, b, sc, v⟩ := en
    clear hlk hpc hmem
    cases ins
    all_goals dsimp only at h ⊢
    all_goals first | (cases h; done) | exact hgo _ _ _ _ _ _ _ _ _ _ hg _ _ h | skip
    all_goals try (split at h <;> first | (cases h; done) | (exact hgo _ _ _ _ _ _ _ _ _ _ hg _ _ h; done))
    case aaload =>
      split at h
      · rename_i i q r
        split at h
        · rename_i heq
          try simp only [heq]
          split at h
          · cases h
          · rename_i hb
            rw [if_neg hb, ← hg q.1 q.2 i.toNatClampNeg (fun _ => Nat.lt_of_not_le (fun z => hb (Or.inr z)))]
            exact hgo _ _ _ _ _ _ _ _ _ _ hg _ _ h
        · cases h
      · cases h
    case aastore =>
      split at h
      · rename_i y i q r
        split at h
        · rename_i heq
          try simp only [heq]
          split at h
          · cases h
          · rename_i hb
            split at h
            · rename_i hb2
              rw [if_neg hb, if_pos hb2]
              exact hgo _ _ _ _ _ _ _ _ _ _ (rg_up hg _ _ _ _) _ _ h
            · cases h
        · cases h
      · cases h
    case anewarray ix =>
      split at h
      · split at h
        · rename_i hb
          try dsimp only
          rw [if_pos hb]
          exact hgo _ _ _ _ _ _ _ _ _ _ (rg_cr hg _ _ _) _ _ h
        · cases h
      · cases h
    case newarray ix =>
      split at h
      · split at h
        · rename_i hb
          try dsimp only
          rw [if_pos hb]
          exact hgo _ _ _ _ _ _ _ _ _ _ (rg_cr hg _ _ _) _ _ h
        · cases h
      · cases h
    case new ix =>
      split at h
      · rename_i hb
        rw [if_pos hb]
        split at h
        · rename_i heq
          try simp only [heq]
          exact hgo _ _ _ _ _ _ _ _ _ _ (rg_cr hg _ _ _) _ _ h
        · rename_i heq
          try simp only [heq]
          split at h
          · cases h
            exact ⟨g, rfl, hg⟩
          · cases h
        · cases h
      · cases h
    case areturn =>
      split at h
      · cases h
        exact ⟨g, rfl, hg⟩
      · cases h
    case return_ =>
      split at h
      · cases h
        exact ⟨g, rfl, hg⟩
      · cases h
    case ireturn =>
      split at h
      · split at h
        · split at h
          · rename_i hb
            cases h
            try dsimp only
            rw [if_pos hb]
            exact ⟨g, rfl, hg⟩
          · cases h
        · cases h
          try dsimp only
          exact ⟨g, rfl, hg⟩
      · cases h
    case arraylength =>
      split at h
      · rename_i q r
        split at h
        · rename_i heq
          try simp only [heq]
          exact hgo _ _ _ _ _ _ _ _ _ _ hg _ _ h
        · rename_i heq
          try simp only [heq]
          exact hgo _ _ _ _ _ _ _ _ _ _ hg _ _ h
        · rename_i heq
          try simp only [heq]
          split at h
          · rename_i hb
            rw [if_pos hb]
            split at h
            · exact hgo _ _ _ _ _ _ _ _ _ _ hg _ _ h
            · cases h
          · cases h
        · cases h
      · cases h
    case baload =>
      split at h
      · rename_i i q r
        split at h
        · rename_i heq
          try simp only [heq]
          split at h
          · cases h
          · rename_i hb
            rw [if_neg hb]
            exact hgo _ _ _ _ _ _ _ _ _ _ hg _ _ h
        · rename_i heq
          try simp only [heq]
          split at h
          · cases h
          · rename_i hb
            rw [if_neg hb]
            exact hgo _ _ _ _ _ _ _ _ _ _ hg _ _ h
        · cases h
      · cases h
    case bastore =>
      split at h
      · rename_i x i q r
        split at h
        · rename_i heq
          try simp only [heq]
          split at h
          · cases h
          · rename_i hb
            rw [if_neg hb]
            exact hgo _ _ _ _ _ _ _ _ _ _ hg _ _ h
        · rename_i heq
          try simp only [heq]
          split at h
          · cases h
          · rename_i hb
            split at h
            · rename_i hb2
              rw [if_neg hb, if_pos hb2]
              exact hgo _ _ _ _ _ _ _ _ _ _ hg _ _ h
            · cases h
        · cases h
      · cases h
    case dup =>
      split at h
      · split at h
        · rename_i heq
          try simp only [heq]
          exact hgo _ _ _ _ _ _ _ _ _ _ hg _ _ h
        · cases h
      · cases h
    case pop =>
      split at h
      · split at h
        · rename_i heq
          try simp only [heq]
          exact hgo _ _ _ _ _ _ _ _ _ _ hg _ _ h
        · cases h
      · cases h
    case dup_x1 =>
      split at h
      · split at h
        · rename_i h1 h2
          try simp only [h1, h2]
          exact hgo _ _ _ _ _ _ _ _ _ _ hg _ _ h
        · cases h
      · cases h
    case dup2 =>
      split at h
      · split at h
        · rename_i h1 h2
          try simp only [h1, h2]
          exact hgo _ _ _ _ _ _ _ _ _ _ hg _ _ h
        · cases h
      · cases h
    case dup_x2 =>
      split at h
      · split at h
        · rename_i h1 h2 h3
          try simp only [h1, h2, h3]
          exact hgo _ _ _ _ _ _ _ _ _ _ hg _ _ h
        · cases h
      · cases h
    case getfield ix =>
      have hk : ¬ (pg_ki a).1 = 3 := by
        intro e
        simp [gfk, e] at hok
      split at h
      · rename_i q r
        split at h
        · rename_i hb
          try dsimp only
          rw [if_pos hb]
          split at h
          · rw [← hg q.1 q.2 b (fun z => absurd z (by rw [hb]; exact hk))]
            exact hgo _ _ _ _ _ _ _ _ _ _ hg _ _ h
          · exact hgo _ _ _ _ _ _ _ _ _ _ hg _ _ h
        · cases h
      · cases h
    case putfield ix =>
      split at h
      · rename_i x q r
        split at h
        · rename_i hb
          try dsimp only
          rw [if_pos hb]
          split at h
          · exact hgo _ _ _ _ _ _ _ _ _ _ hg _ _ h
          · split at h
            · rename_i hb2
              try dsimp only
              rw [if_pos hb2]
              exact hgo _ _ _ _ _ _ _ _ _ _ hg _ _ h
            · cases h
          · cases h
        · cases h
      · rename_i y q r
        split at h
        · rename_i hb
          try dsimp only
          rw [if_pos hb]
          split at h
          · split at h
            · cases h
            · rename_i hb2
              try dsimp only
              rw [if_neg hb2]
              exact hgo _ _ _ _ _ _ _ _ _ _ (rg_up hg _ _ _ _) _ _ h
          · cases h
        · cases h
      · cases h
    case iaload =>
      split at h
      · rename_i i q r
        split at h
        · rename_i heq
          try simp only [heq]
          split at h
          · cases h
          · rename_i hb
            rw [if_neg hb]
            exact hgo _ _ _ _ _ _ _ _ _ _ hg _ _ h
        · rename_i heq
          try simp only [heq]
          split at h
          · rename_i hb
            rw [if_pos hb]
            split at h
            · split at h
              · cases h
              · rename_i hb2
                try dsimp only
                rw [if_neg hb2]
                exact hgo _ _ _ _ _ _ _ _ _ _ hg _ _ h
            · cases h
          · cases h
        · cases h
      · cases h
    case iastore =>
      split at h
      · split at h
        · rename_i heq
          try simp only [heq]
          split at h
          · cases h
          · rename_i hb
            rw [if_neg hb]
            exact hgo _ _ _ _ _ _ _ _ _ _ hg _ _ h
        · cases h
      · cases h
    case laload =>
      split at h
      · split at h
        · rename_i heq
          try simp only [heq]
          split at h
          · cases h
          · rename_i hb
            rw [if_neg hb]
            exact hgo _ _ _ _ _ _ _ _ _ _ hg _ _ h
        · cases h
      · cases h
    case lastore =>
      split at h
      · split at h
        · rename_i heq
          try simp only [heq]
          split at h
          · cases h
          · rename_i hb
            rw [if_neg hb]
            exact hgo _ _ _ _ _ _ _ _ _ _ hg _ _ h
        · cases h
      · cases h
    case idiv =>
      split at h
      · split at h
        · cases h
        · rename_i hb
          try dsimp only
          rw [if_neg hb]
          exact hgo _ _ _ _ _ _ _ _ _ _ hg _ _ h
      · cases h
    case irem =>
      split at h
      · split at h
        · cases h
        · rename_i hb
          try dsimp only
          rw [if_neg hb]
          exact hgo _ _ _ _ _ _ _ _ _ _ hg _ _ h
      · cases h
    case ifCond cnd off =>
      split at h
      · cases cnd <;> dsimp only at h ⊢ <;> (split at h <;> rename_i hb <;> first | rw [if_pos hb] | rw [if_neg hb]) <;> exact hgo _ _ _ _ _ _ _ _ _ _ hg _ _ h
      · cases h
    case if_icmp cnd off =>
      split at h
      · cases cnd <;> dsimp only at h ⊢ <;> (split at h <;> rename_i hb <;> first | rw [if_pos hb] | rw [if_neg hb]) <;> exact hgo _ _ _ _ _ _ _ _ _ _ hg _ _ h
      · cases h
    case invokespecial ix =>
      split at h
      · rename_i q as r hpop
        try simp only [hpop]
        split at h
        · rename_i hr
          rw [if_pos hr]
          cases a with
          | zero => exact hgo _ _ _ _ _ _ _ _ _ _ hg _ _ h
          | succ a =>
            dsimp only at h ⊢
            split at h
            · rename_i hb
              rw [if_pos hb]
              split at h
              · rename_i w M1 hc
                obtain ⟨g1, e1, hg1⟩ := hcall _ _ _ _ _ _ _ hg _ _ hc
                obtain ⟨c1, σ1, f1, τ1⟩ := M1
                rw [e1]
                exact hgo _ _ _ _ _ _ _ _ _ _ hg1 _ _ h
              · cases h
            · cases h
        · cases h
      · cases h
    case invokevirtual ix =>
      split at h
      · rename_i q as r hpop
        try simp only [hpop]
        split at h
        · rename_i hb
          rw [if_pos hb]
          split at h
          · rename_i w M1 hc
            obtain ⟨g1, e1, hg1⟩ := hcall _ _ _ _ _ _ _ hg _ _ hc
            obtain ⟨c1, σ1, f1, τ1⟩ := M1
            rw [e1]
            exact hgo _ _ _ _ _ _ _ _ _ _ hg1 _ _ h
          · rename_i w M1 hc
            obtain ⟨g1, e1, hg1⟩ := hcall _ _ _ _ _ _ _ hg _ _ hc
            obtain ⟨c1, σ1, f1, τ1⟩ := M1
            rw [e1]
            try dsimp only
            split at h
            · rename_i hh
              try simp only [hh]
              exact hgo _ _ _ _ _ _ _ _ _ _ hg1 _ _ h
            · cases h
          · cases h
        · cases h
      · cases h
    case invokestatic ix =>
      split at h
      · split at h
        · split at h
          · rename_i hb
            try dsimp only
            rw [if_pos hb]
            exact hgo _ _ _ _ _ _ _ _ _ _ hg _ _ h
          · cases h
        · cases h
      · split at h
        · rename_i as r hpop
          try simp only [hpop]
          split at h
          · rename_i hb
            rw [if_pos hb]
            split at h
            · rename_i w M1 hc
              obtain ⟨g1, e1, hg1⟩ := hcall _ _ _ _ _ _ _ hg _ _ hc
              obtain ⟨c1, σ1, f1, τ1⟩ := M1
              rw [e1]
              exact hgo _ _ _ _ _ _ _ _ _ _ hg1 _ _ h
            · cases h
          · cases h
        · cases h
theorem loop_rg (hcall : ∀ a as c σ f g τ, RG f g → RR (call a as (c, σ, f, τ)) (call' a as (c, σ, g, τ))) (hcode : ∀ en ∈ code, gfk en = true) : ∀ (n pc : Nat) (lv : List (Nat × mLV)) (st : List mAV) (c : Nat → Nat) (σ : Nat → Nat → Nat → Int32) (f g : Nat → Nat → Nat → mRf) (τ : Nat → Nat → Nat → Int64) (cs ss : Nat), RG f g → RR (mq_loop pg_ki sw hn pg_mx call code lim scr n pc lv st (c, σ, f, τ) cs ss) (mq_loop pg_ki sw hn pg_mx call' code lim scr n pc lv st (c, σ, g, τ) cs ss)
  | 0, _, _, _, _, _, _, _, _, _, _, _ => fun _ _ h => by cases h
  | n + 1, _, _, _, _, _, _, _, _, _, _, hg => st_rg (loop_rg hcall hcode n) hcall hcode hg
end CG
theorem pg_gfs : ∀ l ∈ pg_cds, ∀ en ∈ l, gfk en = true := by decide +kernel
theorem pg_gf (k : Nat) : ∀ en ∈ pg_c k, gfk en = true := by
  unfold pg_c
  rw [List.getD_eq_getElem?_getD]
  cases h : pg_cds[k]? with
  | none => intro en he; cases he
  | some l => exact pg_gfs l (List.mem_of_getElem? h)
theorem ex_rg (F : Nat) : ∀ (d a : Nat) (as : List mLV) (c : Nat → Nat) (σ : Nat → Nat → Nat → Int32) (f g : Nat → Nat → Nat → mRf) (τ : Nat → Nat → Nat → Int64), RG f g → RR (pX F d a as (c, σ, f, τ)) (pX F d a as (c, σ, g, τ))
  | 0, _, _, _, _, _, _, _ => fun _ _ _ h => by cases h
  | d + 1, a, as, c, σ, f, g, τ => fun hg => by
    show RR (if as.length ≤ pg_Z.2.2.1 a then _ else none) (if as.length ≤ pg_Z.2.2.1 a then _ else none)
    split
    · exact loop_rg (ex_rg F d) (pg_gf a) F 0 (mq_en 0 as) [] c σ f g τ 0 0 hg
    · intro _ _ h; cases h
theorem wr_rg (F : Nat) {hn : Nat → Nat → Option Nat} {code : List mEn} (hcode : ∀ en ∈ code, gfk en = true) (k : Nat) (as : List mLV) (c : Nat → Nat) (σ : Nat → Nat → Nat → Int32) (f g : Nat → Nat → Nat → mRf) (τ : Nat → Nat → Nat → Int64) (hg : RG f g) : RR (pWr F 8 hn k code as (c, σ, f, τ)) (pWr F 8 hn k code as (c, σ, g, τ)) := by
  unfold pWr
  split
  · exact loop_rg (ex_rg F 8) hcode F 0 (mq_en 0 as) [] c σ f g τ 0 0 hg
  · intro _ _ h; cases h
theorem call_rg (F : Nat) (a : Nat) (as : List mLV) (c : Nat → Nat) (σ : Nat → Nat → Nat → Int32) (f g : Nat → Nat → Nat → mRf) (τ : Nat → Nat → Nat → Int64) (hg : RG f g) : RR (pl_call F a as (c, σ, f, τ)) (pl_call F a as (c, σ, g, τ)) := by
  unfold pl_call
  split
  · exact wr_rg F (by decide +kernel) _ _ _ _ _ _ _ hg
  · exact wr_rg F (by decide +kernel) _ _ _ _ _ _ _ hg
  · exact wr_rg F (by decide +kernel) _ _ _ _ _ _ _ hg
  · exact wr_rg F (by decide +kernel) _ _ _ _ _ _ _ hg
  · exact wr_rg F (by decide +kernel) _ _ _ _ _ _ _ hg
  · exact wr_rg F (by decide +kernel) _ _ _ _ _ _ _ hg
  · exact wr_rg F (by decide +kernel) _ _ _ _ _ _ _ hg
  · exact ex_rg F 9 _ _ _ _ _ _ _ hg
theorem pl_gf : ∀ en ∈ pl_cd, gfk en = true := by decide +kernel
/-- the law's run, where references agree as far as arrays go -/
theorem law_rg {F L f pc cs ss : Nat} {xs : Nat → Int32} {lv : List (Nat × mLV)} {st : List mAV} {c : Nat → Nat} {ρ : mSg} {τ : mLg} {g : Nat → Nat → Nat → mRf} (hg : RG pr g) : RR (pLL F L xs f pc lv st (c, ρ, pr, τ) cs ss) (pLL F L xs f pc lv st (c, ρ, g, τ) cs ss) := loop_rg (call_rg F) pl_gf f pc lv st c ρ pr g τ cs ss hg
