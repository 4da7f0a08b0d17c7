/-! Who is first, and who wakes: both sides say the same. -/
def cnt (ok : Nat → Bool) : Nat → Nat
  | 0 => 0
  | n + 1 => cnt ok n + (if ok n then 1 else 0)
theorem cnt_le {ok : Nat → Bool} : ∀ n, cnt ok n ≤ n
  | 0 => Nat.le_refl _
  | n + 1 => by
    have h := cnt_le (ok := ok) n
    unfold cnt
    split <;> omega
theorem cnt_eq {ok ok' : Nat → Bool} : ∀ n, (∀ q, q < n → ok' q = ok q) → cnt ok' n = cnt ok n
  | 0, _ => rfl
  | n + 1, h => by
    unfold cnt
    rw [cnt_eq n (fun q hq => h q (by omega)), h n (by omega)]
theorem cnt_rem {ok ok' : Nat → Bool} {b : Nat} (h1 : ok b = true) (h2 : ok' b = false) (h3 : ∀ q, q ≠ b → ok' q = ok q) : ∀ n, b < n → cnt ok' n + 1 = cnt ok n
  | 0, h => by omega
  | n + 1, h => by
    unfold cnt
    by_cases e : b = n
    · subst e
      rw [h1, h2, cnt_eq b (fun q hq => h3 q (by omega))]
      rfl
    · have ih := cnt_rem h1 h2 h3 n (by omega)
      rw [h3 n (by omega)]
      omega
theorem cnt_bst {ok : Nat → Bool} {ld : Nat → Nat → Bool} {n : Nat} (h : cnt ok n = 0) : bst ok ld n = none := by
  induction n with
  | zero => rfl
  | succ n ih =>
    unfold cnt at h
    have h1 : cnt ok n = 0 := by omega
    have h2 : ok n = false := by
      cases hn : ok n with
      | false => rfl
      | true => rw [hn] at h; simp at h
    rw [bst_s, ih h1, h2]
    rfl
section WAKE
variable {d p q K b N : Nat} {σ μ σ0 μ0 μ1 : mSg} {now a : Int32}
theorem Rel.st (h : Rel σ0 μ0 σ μ) (hK : K < 32) : μ 13 37 K = σ 5 K 7 := h.get (lk_p' hK 7 37 rfl)
theorem Rel.pri (h : Rel σ0 μ0 σ μ) (hK : K < 32) : μ 13 33 K = σ 5 K 3 := h.get (lk_p' hK 3 33 rfl)
theorem Rel.sem (h : Rel σ0 μ0 σ μ) (hK : K < 32) : μ 13 40 K = σ 5 K 11 := h.get (lk_p' hK 11 40 rfl)
theorem Rel.wt (h : Rel σ0 μ0 σ μ) (hK : K < 32) : μ 13 39 K = σ 5 K 10 := h.get (lk_p' hK 10 39 rfl)
theorem Rel.cnt (h : Rel σ0 μ0 σ μ) (hp : p < 4) : μ 10 8 p = σ 4 p 5 := h.get (lk_4 hp rfl)
theorem ld_eq (h : PK b σ0 μ0 σ μ) (hb : b < 2 ^ 31) (hp : p < 4) {q r : Nat} (hq : q < 8) (hr : r < 8) (hs : σ 5 (8 * p + q) 7 = 1 ∨ σ 5 (8 * p + q) 7 = 3) (hrs : σ 5 (8 * p + r) 7 = σ 5 (8 * p + q) 7) : ldC σ (8 * p + q) (8 * p + r) = ldM μ p q r := by
  have ho : σ 5 (8 * p + q) 12 < σ 5 (8 * p + r) 12 ↔ μ 13 41 (8 * p + q) < μ 13 41 (8 * p + r) := OG.lt h.2.2 hb hp hq hr hs hrs
  unfold ldC ldM
  rw [h.1.pri (by omega), h.1.pri (by omega)]
  by_cases e : σ 5 (8 * p + q) 3 = σ 5 (8 * p + r) 3
  · rw [if_pos e, e]
    simp only [ho, Int32.lt_irrefl, decide_false, Bool.false_or, decide_true, Bool.true_and]
  · rw [if_neg e]
    simp only [e, decide_false, Bool.false_and, Bool.or_false]
theorem first_eq (h : PK b σ0 μ0 σ μ) (hb : b < 2 ^ 31) (hp : p < 4) (hN : N ≤ 8) : bst (okC σ p 1 (-1)) (fun q r => ldC σ (8 * p + q) (8 * p + r)) N = bst (okM μ p) (ldM μ p) N := by
  have hok : ∀ q, q < 8 → okC σ p 1 (-1) q = okM μ p q := fun q hq => by
    unfold okC okM
    rw [h.1.st (by omega)]
    by_cases e : σ 5 (8 * p + q) 7 = 1
    · have h3 := (h.2.1 (8 * p + q) (by omega)).2.2.1 (by rw [e]; decide)
      simp [e, h3]
    · simp [e]
  refine bst_congr (fun q hq => hok q (by omega)) (fun q r hq hr hoq hor => ?_)
  simp only [okC, Bool.and_eq_true, decide_eq_true_eq] at hoq hor
  exact ld_eq h hb hp (by omega) (by omega) (Or.inl hoq.1) (by rw [hoq.1, hor.1])
theorem give_eq (h : PK b σ0 μ0 σ μ) (hb : b < 2 ^ 31) (hp : p < 4) (hN : N ≤ 8) : bst (okC σ p 3 a) (fun q r => ldC σ (8 * p + q) (8 * p + r)) N = bst (okB μ p a) (ldM μ p) N := by
  refine bst_congr (fun q hq => ?_) (fun q r hq hr hoq hor => ?_)
  · unfold okC okB
    rw [h.1.st (by omega), h.1.sem (by omega)]
  · simp only [okC, Bool.and_eq_true, decide_eq_true_eq] at hoq hor
    exact ld_eq h hb hp (by omega) (by omega) (Or.inr hoq.1) (by rw [hoq.1, hor.1])
theorem sleep_eq (h : Rel σ0 μ0 σ μ) (hp : p < 4) (hN : N ≤ 8) (hn : now = μ 7 0 2) : bst (okS σ p now) (ldS σ p) N = bst (okW μ p) (ldW μ p) N := by
  refine bst_congr (fun q hq => ?_) (fun q r hq hr _ _ => ?_)
  · unfold okS okW
    rw [h.st (by omega), h.wt (by omega), hn]
  · unfold ldS ldW
    rw [h.wt (by omega), h.wt (by omega)]
theorem S133 (hp : p < 4) (hN : N ≤ 8) (hc : μ 10 8 p = nI N) : Sp (d + 1) 133 [.inr (some (7, 0)), .inl (nI p)] μ (.inl (some (.inl (bI p (bst (okM μ p) (ldM μ p) N))))) μ := by
  have e := nI_clamp (n := p) (by omega)
  have hpb : ¬ (nI p < 0 ∨ 4 ≤ (nI p).toNatClampNeg) := nI_in hp (by decide)
  refine P133_1 (L133 hp hN hc (fun h0 => ?_) (fun xs => ?_))
  · subst h0
    exact P133_4_7 hpb (by rw [e, hc]; exact fun h => Int32.lt_irrefl h)
  · exact P133_4a_7 hpb (by rw [e, hc]; exact fun h => Int32.lt_irrefl h)
/-- the reference's wake, from the head of its outer loop -/
def WM (d p : Nat) (μ μ1 : mSg) : Prop := Rn d 131 2 [(0, .inr (some (7, 0))), (1, .inl (nI p)), (2, .inl 1)] [] μ (.inl none) μ1 ∧ (∀ x3 x4, Rn d 131 2 [(0, .inr (some (7, 0))), (1, .inl (nI p)), (2, .inl 1), (3, .inl x3), (4, .inl x4)] [] μ (.inl none) μ1) ∧ ∀ x3 x4 x5, Rn d 131 2 [(0, .inr (some (7, 0))), (1, .inl (nI p)), (2, .inl 1), (3, .inl x3), (4, .inl x4), (5, .inl x5)] [] μ (.inl none) μ1
theorem WM.of (hp : p < 4) (hN : N ≤ 8) (hc : μ 10 8 p = nI N) (hx0 : N = 0 → Rn d 131 11 [(0, .inr (some (7, 0))), (1, .inl (nI p)), (2, .inl 1), (3, .inl (-1)), (4, .inl 0)] [] μ (.inl none) μ1) (hx : ∀ xs, Rn d 131 11 [(0, .inr (some (7, 0))), (1, .inl (nI p)), (2, .inl 1), (3, .inl (bI p (bst (okW μ p) (ldW μ p) N))), (4, .inl (nI N)), (5, .inl xs)] [] μ (.inl none) μ1) : WM d p μ μ1 :=
  ⟨P131_2_2 (by decide) (L131 hp hN hc hx0 hx), fun x3 x4 => P131_2a_2 (by decide) (L131 hp hN hc hx0 hx), fun x3 x4 x5 => P131_2b_2 (by decide) (L131a hp hN hc hx N 0 (by omega) x5)⟩
theorem WM.none (hp : p < 4) (hN : N ≤ 8) (hc : μ 10 8 p = nI N) (h : bst (okW μ p) (ldW μ p) N = none) : WM d p μ μ := by
  have e := nI_clamp (n := p) (by omega)
  have hpb : ¬ (nI p < 0 ∨ 4 ≤ (nI p).toNatClampNeg) := nI_in hp (by decide)
  have hl : ¬ nI N < μ 10 8 (nI p).toNatClampNeg := by rw [e, hc]; exact fun h => Int32.lt_irrefl h
  refine WM.of hp hN hc (fun h0 => ?_) (fun xs => ?_)
  · subst h0
    exact P131_11_6 hpb hl rfl (P131_2a_1 rfl)
  · rw [h]
    exact P131_11a_6 hpb hl rfl (P131_2b_1 rfl)
theorem WM.some (hp : p < 4) (hN : N ≤ 8) (hc : μ 10 8 p = nI N) (h : bst (okW μ p) (ldW μ p) N = some q) (ih : WM (d + 1) p (mReady μ (8 * p + q)) μ1) : WM (d + 1) p μ μ1 := by
  have e := nI_clamp (n := p) (by omega)
  have hq := (bst_ok h).1
  have hpb : ¬ (nI p < 0 ∨ 4 ≤ (nI p).toNatClampNeg) := nI_in hp (by decide)
  have hl : ¬ nI N < μ 10 8 (nI p).toNatClampNeg := by rw [e, hc]; exact fun h => Int32.lt_irrefl h
  refine WM.of hp hN hc (fun h0 => absurd h0 (by omega)) (fun xs => ?_)
  rw [h]
  exact P131_11a_7 hpb hl (nI_m1 (by omega)) (S102 (by omega)) (ih.2.2 _ _ _)
/-- the class's wake, from the head of its loop -/
def WC (d p : Nat) (now : Int32) (k : Nat) (σ σ1 : mSg) : Prop := Rn d 30 2 [(0, .inr (some (4, p))), (1, .inl now), (2, .inl (nI k))] [] σ (.inl none) σ1 ∧ ∀ r3 : Nat, Rn d 30 2 [(0, .inr (some (4, p))), (1, .inl now), (2, .inl (nI k)), (3, .inr (some (5, r3)))] [] σ (.inl none) σ1
theorem wake_sim {e : Nat} (hp : p < 4) (hN : N ≤ 8) : ∀ (m k : Nat) (σ μ : mSg) (b : Nat), k + m = N → cnt (okS σ p now) N ≤ m → PK b σ0 μ0 σ μ → now = μ 7 0 2 → σ 4 p 5 = nI N → ∃ σ1 μ1, WC (d + 1) p now k σ σ1 ∧ WM (e + 1) p μ μ1 ∧ PK (b + m) σ0 μ0 σ1 μ1 ∧ PF σ σ1 ∧ MF μ μ1
  | 0, k, σ, μ, b, hk, hcn, h, hn, hc => by
    have hcm : μ 10 8 p = nI N := (h.1.cnt hp).trans hc
    have ee : k = N := by omega
    subst ee
    have hx : ¬ nI k < σ 4 p 5 := by rw [hc]; exact fun h => Int32.lt_irrefl h
    have h0 : bst (okW μ p) (ldW μ p) k = none := by
      rw [← sleep_eq h.1 hp hN hn]
      exact cnt_bst (by omega)
    exact ⟨σ, μ, ⟨P30_2_3 hx, fun r3 => P30_2a_3 hx⟩, WM.none hp hN hcm h0, h, PF.rf, MF.rf⟩
  | m + 1, k, σ, μ, b, hk, hcn, h, hn, hc => by
    have hcm : μ 10 8 p = nI N := (h.1.cnt hp).trans hc
    have hx : nI k < σ 4 p 5 := by rw [hc]; exact (nI_ltI (by omega) (by omega)).mpr (by omega)
    have hs := sleep_eq (N := N) h.1 hp hN hn
    have s40 := S40 (d := d) (p := p) (now := now) hN hc
    cases hq : bst (okS σ p now) (ldS σ p) N with
    | none =>
      rw [hq] at hs s40
      exact ⟨σ, μ, ⟨P30_2_1 hx s40, fun r3 => P30_2a_1 hx s40⟩, WM.none hp hN hcm hs.symm, h.mono (by omega), PF.rf, MF.rf⟩
    | some q =>
      rw [hq] at hs s40
      obtain ⟨hqN, hok⟩ := bst_ok hq
      have h2 := h.ready hp (show q < 8 by omega)
      have hcnt : cnt (okS (cEnter σ p (8 * p + q) 1 (-1) (-1)) p now) N + 1 = cnt (okS σ p now) N := by
        refine cnt_rem hok ?_ (fun r hr => ?_) N hqN
        · unfold okS
          rw [ce_7]
          rfl
        · unfold okS
          rw [ce_ne (by omega), ce_ne (by omega)]
      obtain ⟨σ1, μ1, w1, w2, w3, w4, w5⟩ := wake_sim hp hN m (k + 1) (cEnter σ p (8 * p + q) 1 (-1) (-1)) (mReady μ (8 * p + q)) (b + 1) (by omega) (by omega) h2 (hn.trans (mf_ready 7 0 2 (by decide) (by decide) (by decide)).symm) ((pf_enter 4 p 5 (by decide) (by decide) (by decide)).trans hc)
      refine ⟨σ1, μ1, ⟨P30_2_2 hx s40 S41 ?_, fun r3 => P30_2a_2 hx s40 S41 ?_⟩, WM.some hp hN hcm hs.symm w2, ?_, pf_enter.tr w4, mf_ready.tr w5⟩
      · rw [nI_1]; exact w1.2 _
      · rw [nI_1]; exact w1.2 _
      · rw [show b + (m + 1) = b + 1 + m by omega]; exact w3
theorem wake_both {e : Nat} (h : PK b σ0 μ0 σ μ) (hp : p < 4) (hN : N ≤ 8) (hn : now = μ 7 0 2) (hc : σ 4 p 5 = nI N) : ∃ σ1 μ1, Sp (d + 2) 30 [.inr (some (4, p)), .inl now] σ (.inl none) σ1 ∧ Sp (e + 2) 131 [.inr (some (7, 0)), .inl (nI p)] μ (.inl none) μ1 ∧ PK (b + 8) σ0 μ0 σ1 μ1 ∧ PF σ σ1 ∧ MF μ μ1 := by
  obtain ⟨σ1, μ1, w1, w2, w3, w4, w5⟩ := wake_sim (d := d) (e := e) hp hN N 0 σ μ b (by omega) (cnt_le N) h hn hc
  exact ⟨σ1, μ1, P30_1 w1.1, P131_1 w2.1, w3.mono (by omega), w4, w5⟩
end WAKE
