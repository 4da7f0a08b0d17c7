/-! The reference's constructor. -/
section CM
variable {d pc pc1 cs ss cs1 ss1 kk ii s : Nat} {y : Int32} {c : Nat → Nat} {σ : mSg} {g : Nat → Nat → Nat → mRf} {τ : mLg} {M : mMm} {lv : List (Nat × mLV)} {r : mRz × mMm}
theorem mstep (hT : ∀ F f c σ g τ, pC F d 99 (f + 4) pc lv [] (c, σ, g, τ) cs ss = pC F d 99 f pc1 lv [] (cu c kk, mq_cr σ kk (c kk) 0, mq_up (mq_cr g kk (c kk) none) 7 0 s (some (kk, c kk)), mq_cr τ kk (c kk) 0) cs1 ss1) (hc : c kk = ii) (hz : ∀ j, iF 0 kk ii j = 0) (hs : prA 4 8 32 7 0 s = some (kk, ii)) (hn : ∀ j, prA 4 8 32 kk ii j = none) (h7 : kk ≠ 7) (h : Cn d 99 pc1 lv [] (cu c kk, iF 0, gk (prA 4 8 32) 7 0 (s + 1), Zl) cs1 ss1 r) : Cn d 99 pc lv [] (c, iF 0, gk (prA 4 8 32) 7 0 s, Zl) cs ss r := by
  refine cn_go (N := 4) (fun F f => ?_) h
  rw [hT, hc, cr_z hz, Zl_cr, gk_cr h7 hn, gk_up hs]
theorem iF_13 (i j : Nat) : iF 0 13 i j = 0 := by simp [iF]
theorem m99h (F f : Nat) : pC F d 99 (f + 3) 261 [(0, .inr (some (7, 0))), (1, .inl y)] [] M cs ss = if y < 32 then pC F d 99 f 267 [(0, .inr (some (7, 0))), (1, .inl y)] [] M cs ss else pC F d 99 f 294 [(0, .inr (some (7, 0))), (1, .inl y)] [] M cs ss := rfl
theorem m99i (F f : Nat) : pC F d 99 (f + 17) 267 [(0, .inr (some (7, 0))), (1, .inl y)] [] (c, σ, prA 4 8 32, τ) cs ss = if y < 0 ∨ 32 ≤ y.toNatClampNeg then none else if y < 0 ∨ 32 ≤ y.toNatClampNeg then none else if y < 0 ∨ 32 ≤ y.toNatClampNeg then none else pC F d 99 f 261 [(0, .inr (some (7, 0))), (1, .inl (y + 1))] [] (c, mq_up (mq_up (mq_up σ 13 38 y.toNatClampNeg (-1)) 13 39 y.toNatClampNeg (-1)) 13 40 y.toNatClampNeg (-1), prA 4 8 32, τ) cs ss := rfl
theorem m99k (F f : Nat) : pC F d 99 (f + 1) 294 [(0, .inr (some (7, 0))), (1, .inl y)] [] M cs ss = some (.inl none, M) := rfl
theorem iF_up (k : Nat) : mq_up (mq_up (mq_up (iF k) 13 38 k (-1)) 13 39 k (-1)) 13 40 k (-1) = iF (k + 1) := by
  funext a b j
  by_cases e : a = 13
  · subst e
    have e1 : ∀ n, iF n 13 b j = if (b = 38 ∨ b = 39 ∨ b = 40) ∧ j < n then -1 else 0 := fun n => by simp [iF]
    rw [e1]
    show (if 13 = 13 ∧ b = 40 ∧ j = k then -1 else if 13 = 13 ∧ b = 39 ∧ j = k then -1 else if 13 = 13 ∧ b = 38 ∧ j = k then -1 else iF k 13 b j) = _
    rw [e1]
    by_cases h40 : b = 40 ∧ j = k
    · rw [if_pos ⟨rfl, h40⟩, if_pos (by omega)]
    · rw [if_neg (fun z => h40 z.2)]
      by_cases h39 : b = 39 ∧ j = k
      · rw [if_pos ⟨rfl, h39⟩, if_pos (by omega)]
      · rw [if_neg (fun z => h39 z.2)]
        by_cases h38 : b = 38 ∧ j = k
        · rw [if_pos ⟨rfl, h38⟩, if_pos (by omega)]
        · rw [if_neg (fun z => h38 z.2)]
          by_cases hh : (b = 38 ∨ b = 39 ∨ b = 40) ∧ j < k
          · rw [if_pos hh, if_pos ⟨hh.1, by omega⟩]
          · rw [if_neg hh, if_neg (by omega)]
  · rw [up_nk' e, up_nk' e, up_nk' e]
    simp [iF, e]
theorem loopM : ∀ m k, k + m = 32 → Cn d 99 261 [(0, .inr (some (7, 0))), (1, .inl (nI k))] [] (c, iF k, prA 4 8 32, Zl) cs ss (.inl none, (c, iF 32, prA 4 8 32, Zl))
  | 0, k, h => by
    have ee : k = 32 := by omega
    subst ee
    exact cn_go (N := 3) (pc1 := 294) (fun F f => (m99h F f).trans (if_neg (by decide))) (cn_ret (N := 1) (fun F f => m99k F f))
  | m + 1, k, h => by
    have hk : k < 32 := by omega
    have ih := loopM m (k + 1) (by omega)
    refine cn_go (N := 3) (fun F f => (m99h F f).trans (if_pos ((nI_ltI (b := 32) (by omega) (by decide)).mpr hk))) ?_
    have T : ∀ F f, pC F d 99 (f + 17) 267 [(0, .inr (some (7, 0))), (1, .inl (nI k))] [] (c, iF k, prA 4 8 32, Zl) cs ss = _ := fun F f => (m99i F f).trans ((if_neg (nI_in hk (by decide))).trans ((if_neg (nI_in hk (by decide))).trans (if_neg (nI_in hk (by decide)))))
    rw [nI_clamp (by omega), iF_up, nI_1] at T
    exact cn_go T ih
theorem ctor99 (h10 : c 10 = 8) (h11 : c 11 = 10) (h12 : c 12 = 0) (h13 : c 13 = 32) (h14 : c 14 = 4) (h16 : c 16 = 0) (h30 : c 30 = 0) (h31 : c 31 = 0) (h32 : c 32 = 0) : ∃ c', c' 40 = c 40 ∧ Cs (d + 1) 99 [.inr (some (7, 0))] (c, mq_cr (iF 0) 7 0 0, mq_cr (prA 4 8 32) 7 0 none, mq_cr Zl 7 0 0) (.inl none, (c', iF 32, prA 4 8 32, Zl)) := by
  refine ⟨(cu (cu (cu (cu (cu (cu (cu (cu (cu (cu (cu (cu (cu (cu (cu (cu (cu (cu (cu (cu (cu (cu (cu (cu (cu (cu (cu (cu (cu (cu (cu (cu c 11) 11) 30) 12) 12) 10) 10) 31) 13) 13) 13) 13) 13) 13) 13) 13) 13) 13) 13) 13) 16) 32) 11) 11) 11) 11) 11) 14) 14) 14) 14) 14), by simp [cu], ?_⟩
  refine cs_en (pc := 0) (lv := [(0, .inr (some (7, 0)))]) (st := []) (cs := 0) (ss := 0) (fun F => rfl) ?_
  rw [Zl_cr, gk_0 (prA 4 8 32) 7 0, cr_z (k := 7) (fun j => iF_z (by decide) (by decide) (by decide) (by decide) 0 0 j)]
  refine cn_go (N := 2) (pc1 := 4) (lv1 := [(0, .inr (some (7, 0)))]) (st1 := []) (cs1 := 0) (ss1 := 0) (fun _ _ => rfl) ?_
  rw [gk_sk (f := prA 4 8 32) (k := 7) (i := 0) (s := 0) rfl, gk_sk (f := prA 4 8 32) (k := 7) (i := 0) (s := 0 + 1) rfl, gk_sk (f := prA 4 8 32) (k := 7) (i := 0) (s := 1 + 1) rfl, gk_sk (f := prA 4 8 32) (k := 7) (i := 0) (s := 2 + 1) rfl, gk_sk (f := prA 4 8 32) (k := 7) (i := 0) (s := 3 + 1) rfl, gk_sk (f := prA 4 8 32) (k := 7) (i := 0) (s := 4 + 1) rfl]
  refine mstep (pc1 := 12) (kk := 11) (ii := 10) (s := 6) (cs1 := 1) (ss1 := 8) (fun _ _ _ _ _ _ => rfl) (by simp [cu, h10, h11, h12, h13, h14, h16, h30, h31, h32]) (fun j => iF_z (by decide) (by decide) (by decide) (by decide) 0 10 j) rfl (fun j => pr_11 10 j) (by decide) ?_
  refine mstep (pc1 := 20) (kk := 11) (ii := 11) (s := 7) (cs1 := 2) (ss1 := 16) (fun _ _ _ _ _ _ => rfl) (by simp [cu, h10, h11, h12, h13, h14, h16, h30, h31, h32]) (fun j => iF_z (by decide) (by decide) (by decide) (by decide) 0 11 j) rfl (fun j => pr_11 11 j) (by decide) ?_
  refine mstep (pc1 := 29) (kk := 30) (ii := 0) (s := 8) (cs1 := 3) (ss1 := 4112) (fun _ _ _ _ _ _ => rfl) (by simp [cu, h10, h11, h12, h13, h14, h16, h30, h31, h32]) (fun j => iF_z (by decide) (by decide) (by decide) (by decide) 0 0 j) rfl (fun j => pr_30 0 j) (by decide) ?_
  refine mstep (pc1 := 37) (kk := 12) (ii := 0) (s := 9) (cs1 := 4) (ss1 := 4128) (fun _ _ _ _ _ _ => rfl) (by simp [cu, h10, h11, h12, h13, h14, h16, h30, h31, h32]) (fun j => iF_z (by decide) (by decide) (by decide) (by decide) 0 0 j) rfl (fun j => pr_12 0 j) (by decide) ?_
  refine mstep (pc1 := 45) (kk := 12) (ii := 1) (s := 10) (cs1 := 5) (ss1 := 4144) (fun _ _ _ _ _ _ => rfl) (by simp [cu, h10, h11, h12, h13, h14, h16, h30, h31, h32]) (fun j => iF_z (by decide) (by decide) (by decide) (by decide) 0 1 j) rfl (fun j => pr_12 1 j) (by decide) ?_
  refine mstep (pc1 := 52) (kk := 10) (ii := 8) (s := 11) (cs1 := 6) (ss1 := 4148) (fun _ _ _ _ _ _ => rfl) (by simp [cu, h10, h11, h12, h13, h14, h16, h30, h31, h32]) (fun j => iF_z (by decide) (by decide) (by decide) (by decide) 0 8 j) rfl (fun j => pr_10 8 j) (by decide) ?_
  refine mstep (pc1 := 59) (kk := 10) (ii := 9) (s := 12) (cs1 := 7) (ss1 := 4152) (fun _ _ _ _ _ _ => rfl) (by simp [cu, h10, h11, h12, h13, h14, h16, h30, h31, h32]) (fun j => iF_z (by decide) (by decide) (by decide) (by decide) 0 9 j) rfl (fun j => pr_10 9 j) (by decide) ?_
  refine mstep (pc1 := 66) (kk := 31) (ii := 0) (s := 13) (cs1 := 8) (ss1 := 4156) (fun _ _ _ _ _ _ => rfl) (by simp [cu, h10, h11, h12, h13, h14, h16, h30, h31, h32]) (fun j => iF_z (by decide) (by decide) (by decide) (by decide) 0 0 j) rfl (fun j => pr_31 0 j) (by decide) ?_
  refine mstep (pc1 := 74) (kk := 13) (ii := 32) (s := 14) (cs1 := 9) (ss1 := 4188) (fun _ _ _ _ _ _ => rfl) (by simp [cu, h10, h11, h12, h13, h14, h16, h30, h31, h32]) (fun j => iF_13 32 j) rfl (fun j => pr_13 32 j) (by decide) ?_
  refine mstep (pc1 := 82) (kk := 13) (ii := 33) (s := 15) (cs1 := 10) (ss1 := 4220) (fun _ _ _ _ _ _ => rfl) (by simp [cu, h10, h11, h12, h13, h14, h16, h30, h31, h32]) (fun j => iF_13 33 j) rfl (fun j => pr_13 33 j) (by decide) ?_
  refine mstep (pc1 := 90) (kk := 13) (ii := 34) (s := 16) (cs1 := 11) (ss1 := 4252) (fun _ _ _ _ _ _ => rfl) (by simp [cu, h10, h11, h12, h13, h14, h16, h30, h31, h32]) (fun j => iF_13 34 j) rfl (fun j => pr_13 34 j) (by decide) ?_
  refine mstep (pc1 := 98) (kk := 13) (ii := 35) (s := 17) (cs1 := 12) (ss1 := 4284) (fun _ _ _ _ _ _ => rfl) (by simp [cu, h10, h11, h12, h13, h14, h16, h30, h31, h32]) (fun j => iF_13 35 j) rfl (fun j => pr_13 35 j) (by decide) ?_
  refine mstep (pc1 := 106) (kk := 13) (ii := 36) (s := 18) (cs1 := 13) (ss1 := 4316) (fun _ _ _ _ _ _ => rfl) (by simp [cu, h10, h11, h12, h13, h14, h16, h30, h31, h32]) (fun j => iF_13 36 j) rfl (fun j => pr_13 36 j) (by decide) ?_
  refine mstep (pc1 := 114) (kk := 13) (ii := 37) (s := 19) (cs1 := 14) (ss1 := 4348) (fun _ _ _ _ _ _ => rfl) (by simp [cu, h10, h11, h12, h13, h14, h16, h30, h31, h32]) (fun j => iF_13 37 j) rfl (fun j => pr_13 37 j) (by decide) ?_
  refine mstep (pc1 := 122) (kk := 13) (ii := 38) (s := 20) (cs1 := 15) (ss1 := 4380) (fun _ _ _ _ _ _ => rfl) (by simp [cu, h10, h11, h12, h13, h14, h16, h30, h31, h32]) (fun j => iF_13 38 j) rfl (fun j => pr_13 38 j) (by decide) ?_
  refine mstep (pc1 := 130) (kk := 13) (ii := 39) (s := 21) (cs1 := 16) (ss1 := 4412) (fun _ _ _ _ _ _ => rfl) (by simp [cu, h10, h11, h12, h13, h14, h16, h30, h31, h32]) (fun j => iF_13 39 j) rfl (fun j => pr_13 39 j) (by decide) ?_
  refine mstep (pc1 := 138) (kk := 13) (ii := 40) (s := 22) (cs1 := 17) (ss1 := 4444) (fun _ _ _ _ _ _ => rfl) (by simp [cu, h10, h11, h12, h13, h14, h16, h30, h31, h32]) (fun j => iF_13 40 j) rfl (fun j => pr_13 40 j) (by decide) ?_
  refine mstep (pc1 := 146) (kk := 13) (ii := 41) (s := 23) (cs1 := 18) (ss1 := 4476) (fun _ _ _ _ _ _ => rfl) (by simp [cu, h10, h11, h12, h13, h14, h16, h30, h31, h32]) (fun j => iF_13 41 j) rfl (fun j => pr_13 41 j) (by decide) ?_
  refine mstep (pc1 := 154) (kk := 13) (ii := 42) (s := 24) (cs1 := 19) (ss1 := 4508) (fun _ _ _ _ _ _ => rfl) (by simp [cu, h10, h11, h12, h13, h14, h16, h30, h31, h32]) (fun j => iF_13 42 j) rfl (fun j => pr_13 42 j) (by decide) ?_
  refine mstep (pc1 := 162) (kk := 13) (ii := 43) (s := 25) (cs1 := 20) (ss1 := 4540) (fun _ _ _ _ _ _ => rfl) (by simp [cu, h10, h11, h12, h13, h14, h16, h30, h31, h32]) (fun j => iF_13 43 j) rfl (fun j => pr_13 43 j) (by decide) ?_
  refine mstep (pc1 := 171) (kk := 16) (ii := 0) (s := 26) (cs1 := 21) (ss1 := 5564) (fun _ _ _ _ _ _ => rfl) (by simp [cu, h10, h11, h12, h13, h14, h16, h30, h31, h32]) (fun j => iF_z (by decide) (by decide) (by decide) (by decide) 0 0 j) rfl (fun j => pr_16 0 j) (by decide) ?_
  rw [gk_sk (f := prA 4 8 32) (k := 7) (i := 0) (s := 26 + 1) rfl, gk_sk (f := prA 4 8 32) (k := 7) (i := 0) (s := 27 + 1) rfl]
  refine mstep (pc1 := 179) (kk := 32) (ii := 0) (s := 29) (cs1 := 22) (ss1 := 5572) (fun _ _ _ _ _ _ => rfl) (by simp [cu, h10, h11, h12, h13, h14, h16, h30, h31, h32]) (fun j => iF_z (by decide) (by decide) (by decide) (by decide) 0 0 j) rfl (fun j => pr_32 0 j) (by decide) ?_
  refine mstep (pc1 := 187) (kk := 11) (ii := 12) (s := 30) (cs1 := 23) (ss1 := 5580) (fun _ _ _ _ _ _ => rfl) (by simp [cu, h10, h11, h12, h13, h14, h16, h30, h31, h32]) (fun j => iF_z (by decide) (by decide) (by decide) (by decide) 0 12 j) rfl (fun j => pr_11 12 j) (by decide) ?_
  refine mstep (pc1 := 195) (kk := 11) (ii := 13) (s := 31) (cs1 := 24) (ss1 := 5588) (fun _ _ _ _ _ _ => rfl) (by simp [cu, h10, h11, h12, h13, h14, h16, h30, h31, h32]) (fun j => iF_z (by decide) (by decide) (by decide) (by decide) 0 13 j) rfl (fun j => pr_11 13 j) (by decide) ?_
  refine mstep (pc1 := 203) (kk := 11) (ii := 14) (s := 32) (cs1 := 25) (ss1 := 5596) (fun _ _ _ _ _ _ => rfl) (by simp [cu, h10, h11, h12, h13, h14, h16, h30, h31, h32]) (fun j => iF_z (by decide) (by decide) (by decide) (by decide) 0 14 j) rfl (fun j => pr_11 14 j) (by decide) ?_
  refine mstep (pc1 := 211) (kk := 11) (ii := 15) (s := 33) (cs1 := 26) (ss1 := 5604) (fun _ _ _ _ _ _ => rfl) (by simp [cu, h10, h11, h12, h13, h14, h16, h30, h31, h32]) (fun j => iF_z (by decide) (by decide) (by decide) (by decide) 0 15 j) rfl (fun j => pr_11 15 j) (by decide) ?_
  refine mstep (pc1 := 219) (kk := 11) (ii := 16) (s := 34) (cs1 := 27) (ss1 := 5612) (fun _ _ _ _ _ _ => rfl) (by simp [cu, h10, h11, h12, h13, h14, h16, h30, h31, h32]) (fun j => iF_z (by decide) (by decide) (by decide) (by decide) 0 16 j) rfl (fun j => pr_11 16 j) (by decide) ?_
  refine mstep (pc1 := 227) (kk := 14) (ii := 4) (s := 35) (cs1 := 28) (ss1 := 5676) (fun _ _ _ _ _ _ => rfl) (by simp [cu, h10, h11, h12, h13, h14, h16, h30, h31, h32]) (fun j => iF_z (by decide) (by decide) (by decide) (by decide) 0 4 j) rfl (fun j => pr_14 4 j) (by decide) ?_
  rw [gk_sk (f := prA 4 8 32) (k := 7) (i := 0) (s := 35 + 1) rfl]
  refine mstep (pc1 := 235) (kk := 14) (ii := 5) (s := 37) (cs1 := 29) (ss1 := 5740) (fun _ _ _ _ _ _ => rfl) (by simp [cu, h10, h11, h12, h13, h14, h16, h30, h31, h32]) (fun j => iF_z (by decide) (by decide) (by decide) (by decide) 0 5 j) rfl (fun j => pr_14 5 j) (by decide) ?_
  refine mstep (pc1 := 243) (kk := 14) (ii := 6) (s := 38) (cs1 := 30) (ss1 := 5804) (fun _ _ _ _ _ _ => rfl) (by simp [cu, h10, h11, h12, h13, h14, h16, h30, h31, h32]) (fun j => iF_z (by decide) (by decide) (by decide) (by decide) 0 6 j) rfl (fun j => pr_14 6 j) (by decide) ?_
  refine mstep (pc1 := 251) (kk := 14) (ii := 7) (s := 39) (cs1 := 31) (ss1 := 5868) (fun _ _ _ _ _ _ => rfl) (by simp [cu, h10, h11, h12, h13, h14, h16, h30, h31, h32]) (fun j => iF_z (by decide) (by decide) (by decide) (by decide) 0 7 j) rfl (fun j => pr_14 7 j) (by decide) ?_
  refine mstep (pc1 := 259) (kk := 14) (ii := 8) (s := 40) (cs1 := 32) (ss1 := 5932) (fun _ _ _ _ _ _ => rfl) (by simp [cu, h10, h11, h12, h13, h14, h16, h30, h31, h32]) (fun j => iF_z (by decide) (by decide) (by decide) (by decide) 0 8 j) rfl (fun j => pr_14 8 j) (by decide) ?_
  rw [gk_end (f := prA 4 8 32) (k := 7) (i := 0) (s := 40 + 1) (fun j h => pr_7 0 j h)]
  refine cn_go (N := 2) (pc1 := 261) (lv1 := [(0, .inr (some (7, 0))), (1, .inl (nI 0))]) (st1 := []) (cs1 := 32) (ss1 := 5932) (fun _ _ => rfl) ?_
  exact loopM 32 0 rfl
end CM
