/-! One instruction: the class's step and the reference's instruct. -/
def cSet (σ : mSg) (K r : Nat) (v : Int32) : mSg := if r = 0 then σ else mq_up σ 13 K r v
def cFin (σ : mSg) (K rd : Nat) (vo : Option Int32) (nx : Int32) : mSg := match vo with
  | none => mq_up σ 5 K 6 nx
  | some v => cSet (mq_up σ 5 K 6 nx) K rd v
def FinM (μ : mSg) (nx : Int32) (vo : Option Int32) : Prop := μ 7 0 41 = nx ∧ (vo = none → μ 7 0 43 = 0) ∧ ∀ v, vo = some v → μ 7 0 43 = 1 ∧ μ 7 0 42 = v
def rI (x : Int32) : mRz := .inl (some (.inl x))
/-- an error, alike, or both fine and ready to be ended -/
def OK2 (b : Nat) (σ0 μ0 σ : mSg) (K rd : Nat) (C M : mRz → mSg → Prop) : Prop :=
  (∃ (e : Nat) (μ1 : mSg), e < 2 ∧ C (rI (nI e)) σ ∧ M (rI (nI e)) μ1 ∧ KI b σ0 μ0 σ μ1) ∨
  ∃ (σm : mSg) (nx : Int32) (vo : Option Int32) (μ1 : mSg), C (rI (-1)) (cFin σm K rd vo nx) ∧ M (rI (-1)) μ1 ∧ KI b σ0 μ0 σm μ1 ∧ FinM μ1 nx vo ∧ (∀ k i j, k ≠ 15 → σm k i j = σ k i j)
def mU (μ : mSg) (pc : Int32) : mSg := mq_up (mq_up μ 7 0 41 (pc + 4)) 7 0 43 0
def mG (μ : mSg) (v : Int32) : mSg := mq_up (mq_up μ 7 0 42 v) 7 0 43 1
section STEP
variable {d e b p q K r r1 r2 rd : Nat} {σ μ σ0 μ0 : mSg} {v w nx pc : Int32}
theorem OK2.map {C M C' M' : mRz → mSg → Prop} (h : OK2 b σ0 μ0 σ K rd C M) (hC : ∀ x ω, C (rI x) ω → C' (rI x) ω) (hM : ∀ x ω, M (rI x) ω → M' (rI x) ω) : OK2 b σ0 μ0 σ K rd C' M' := by
  rcases h with ⟨e, μ1, h1, h2, h3, h4⟩ | ⟨σm, nx, vo, μ1, h1, h2, h3, h4, h5⟩
  · exact Or.inl ⟨e, μ1, h1, hC _ _ h2, hM _ _ h3, h4⟩
  · exact Or.inr ⟨σm, nx, vo, μ1, hC _ _ h1, hM _ _ h2, h3, h4, h5⟩
theorem KI.scr (h : KI b σ0 μ0 σ μ) {j : Nat} (hj : j = 41 ∨ j = 42 ∨ j = 43 ∨ j = 44) (v : Int32) : KI b σ0 μ0 σ (mq_up μ 7 0 j v) := by
  obtain ⟨⟨h1, h2, h3⟩, h4, h5⟩ := h
  have e1 : kl 7 0 j = none := by rcases hj with rfl | rfl | rfl | rfl <;> rfl
  refine ⟨⟨h1.right e1 rfl v (by omega), h2, og_eq h3 (fun _ => rfl) (fun _ => rfl) (fun _ => rfl) (fun _ => rfl) (up_nj (by omega))⟩, h4.frame RFc.rf (RFm.up ?_) (Nat.le_refl _), h5⟩
  rcases hj with rfl | rfl | rfl | rfl <;> rfl
theorem KI.mU (h : KI b σ0 μ0 σ μ) : KI b σ0 μ0 σ (mU μ pc) := (h.scr (Or.inl rfl) _).scr (Or.inr (Or.inr (Or.inl rfl))) _
theorem KI.mG (h : KI b σ0 μ0 σ μ) : KI b σ0 μ0 σ (mG μ v) := (h.scr (Or.inr (Or.inl rfl)) _).scr (Or.inr (Or.inr (Or.inl rfl))) _
theorem S43 (hr : r < 32) : Sp (d + 1) 43 [.inr (some (5, K)), .inl (nI r)] σ (rI (σ 13 K r)) σ := by
  have h := P43_2 (d := d) (r0 := K) (σ := σ) (x1 := nI r) (nI_pos (by omega)) ((nI_ltI (by omega) (by decide)).mpr hr) (nI_in hr (by decide))
  rw [nI_clamp (by omega)] at h
  exact h
theorem S44 (hr : r < 32) : Sp (d + 1) 44 [.inr (some (5, K)), .inl (nI r), .inl v] σ (.inl none) (cSet σ K r v) := by
  unfold cSet
  by_cases h0 : r = 0
  · subst h0
    exact P44_3 (by decide)
  · rw [if_neg h0]
    have h := P44_1 (d := d) (r0 := K) (σ := σ) (x1 := nI r) (x2 := v) ((nI_ltI (a := 0) (by decide) (by omega)).mpr (by omega)) ((nI_ltI (by omega) (by decide)).mpr hr) (nI_in hr (by decide))
    rw [nI_clamp (by omega)] at h
    exact h
theorem S51 (hrd : rd < 32) (hw : fd w 7 31 = nI rd) : Sp (d + 2) 51 [.inr (some (5, K)), .inl w, .inl v, .inl nx] σ (rI (-1)) (cFin σ K rd (some v) nx) := P51_1 (by
  show Sp (d + 1) 44 [.inr (some (5, K)), .inl (fd w 7 31), .inl v] _ _ _
  rw [hw]; exact S44 hrd)
theorem S63 (hr : r1 < 32) (hw : fd w 15 31 = nI r1) : Sp (d + 2) 63 [.inr (some (5, K)), .inl w] σ (rI (σ 13 K r1)) σ := P63_1 (by
  show Sp (d + 1) 43 [.inr (some (5, K)), .inl (fd w 15 31)] _ _ _
  rw [hw]; exact S43 hr)
theorem S64 (hr : r2 < 32) (hw : fd w 20 31 = nI r2) : Sp (d + 2) 64 [.inr (some (5, K)), .inl w] σ (rI (σ 13 K r2)) σ := P64_1 (by
  show Sp (d + 1) 43 [.inr (some (5, K)), .inl (fd w 20 31)] _ _ _
  rw [hw]; exact S43 hr)
theorem S112 : Sp (d + 1) 112 [.inr (some (7, 0)), .inl v] μ (rI (-1)) (mG μ v) := P112_1
theorem fin_G (h : KI b σ0 μ0 σ μ) (h41 : μ 7 0 41 = nx) : KI b σ0 μ0 σ (mG μ v) ∧ FinM (mG μ v) nx (some v) := ⟨h.mG, h41, (fun h => by cases h), (fun x hx => by cases hx; exact ⟨rfl, rfl⟩)⟩
/-- both go on with a value -/
theorem ok_G {C M : mRz → mSg → Prop} (h : KI b σ0 μ0 σ μ) (h41 : μ 7 0 41 = nx) (hC : C (rI (-1)) (cFin σ K rd (some v) nx)) (hM : M (rI (-1)) (mG μ v)) : OK2 b σ0 μ0 σ K rd C M := Or.inr ⟨σ, nx, some v, mG μ v, hC, hM, (fin_G h h41).1, (fin_G h h41).2, fun _ _ _ _ => rfl⟩
theorem ok_E {C M : mRz → mSg → Prop} (h : KI b σ0 μ0 σ μ) {e : Nat} (he : e < 2) (hC : C (rI (nI e)) σ) (hM : M (rI (nI e)) μ) : OK2 b σ0 μ0 σ K rd C M := Or.inl ⟨e, μ, he, hC, hM, h⟩
theorem f3_cases (w : Int32) : ∃ f, f < 8 ∧ fd w 12 7 = nI f := by
  obtain ⟨f, h1, h2⟩ := and_r (w >>> ((12 : Int32) &&& 31)) 7 (by decide)
  exact ⟨f, by omega, h2⟩
theorem load_both (h : KI b σ0 μ0 σ μ) (hp : p < 4) (hr1 : r1 < 32) (hrd : rd < 32) (w1 : fd w 15 31 = nI r1) (w7 : fd w 7 31 = nI rd) (h41 : μ 7 0 41 = σ 5 K 6 + 4) :
    OK2 b σ0 μ0 σ K rd (Sp (d + 4) 54 [.inr (some (5, K)), .inl w, .inr (some (3, p))] σ) (Sp (e + 3) 113 [.inr (some (7, 0)), .inl (nI p), .inl (fd w 12 7), .inl (σ 13 K r1 + (w >>> ((20 : Int32) &&& 31)))] μ) := by
  obtain ⟨f, hf, ef⟩ := f3_cases w
  have s61 : Sp (d + 3) 61 [.inl w] σ (rI (nI f)) σ := by rw [← ef]; exact S61
  have s63 := S63 (d := d + 1) (K := K) (σ := σ) hr1 w1
  rw [ef]
  have go : ∀ s : Nat, (s = 1 ∨ s = 2 ∨ s = 4) → ¬ nI f = 3 → ¬ 5 < nI f → ((1 : Int32) <<< ((nI f &&& 3) &&& 31)) = nI s → (∀ n, n < 1024 → n % s = 0 → ∃ x, (∀ d, Sp (d + 1) 55 [.inl (((σ 15 p (n / 4)).toUInt32 >>> ((nI (8 * (n % 4))).toUInt32 &&& Int32.toUInt32 31)).toInt32), .inl (nI f)] σ (rI x) σ) ∧ (Sp (e + 2) 108 [.inr (some (7, 0)), .inl (nI p), .inl (nI n), .inl (nI s)] μ (rI x) μ ∧ ¬ nI f = 0 ∧ ¬ nI f = 1 ∨ (∃ y, Sp (e + 2) 108 [.inr (some (7, 0)), .inl (nI p), .inl (nI n), .inl (nI s)] μ (rI y) μ ∧ nI f = 0 ∧ x = ((y <<< ((24 : Int32) &&& 31)) >>> ((24 : Int32) &&& 31))) ∨ ∃ y, Sp (e + 2) 108 [.inr (some (7, 0)), .inl (nI p), .inl (nI n), .inl (nI s)] μ (rI y) μ ∧ nI f = 1 ∧ x = ((y <<< ((16 : Int32) &&& 31)) >>> ((16 : Int32) &&& 31)))) →
      OK2 b σ0 μ0 σ K rd (Sp (d + 4) 54 [.inr (some (5, K)), .inl w, .inr (some (3, p))] σ) (Sp (e + 3) 113 [.inr (some (7, 0)), .inl (nI p), .inl (nI f), .inl (σ 13 K r1 + (w >>> ((20 : Int32) &&& 31)))] μ) := fun s hs g3 g5 gs gv => by
    rcases place_both (s := s) (σ 13 K r1 + (w >>> ((20 : Int32) &&& 31))) hs with ⟨n, hn, hns, ea, c16, c107⟩ | ⟨c16, c107⟩
    · rw [← gs] at c16 c107
      obtain ⟨x, hx1, hx2⟩ := gv n hn hns
      have s19 : Sp (d + 3) 19 [.inr (some (3, p)), .inl (σ 13 K r1 + (w >>> ((20 : Int32) &&& 31)))] σ (rI (((σ 15 p (n / 4)).toUInt32 >>> ((nI (8 * (n % 4))).toUInt32 &&& Int32.toUInt32 31)).toInt32)) σ := by rw [ea]; exact S19 hn
      refine ok_G (v := x) h h41 (P54_4 s61 g3 g5 s63 P65_1 (c16 _ _) (by decide) s19 (hx1 _) (S51 hrd w7)) ?_
      rcases hx2 with ⟨t1, t2, t3⟩ | ⟨y, t1, t2, t3⟩ | ⟨y, t1, t2, t3⟩
      · exact P113_6 g3 g5 (c107 _ _) (by decide) (by rw [gs, ea]; exact t1) t2 t3 S112
      · subst t3
        exact P113_4 g3 g5 (c107 _ _) (by decide) (by rw [gs, ea]; exact t1) t2 S112
      · subst t3
        exact P113_5 g3 g5 (c107 _ _) (by decide) (by rw [gs, ea]; exact t1) (by rw [t2]; decide) t2 S112
    · rw [← gs] at c16 c107
      exact ok_E (e := 1) h (by decide) (P54_3 s61 g3 g5 s63 P65_1 (c16 _ _) rfl) (P113_3 g3 g5 (c107 _ _) rfl)
  have by1 : ∀ n, n < 1024 → μ 30 0 (1024 * p + n) = byt (σ 15 p (n / 4)) (n % 4) := fun n hn => h.byte hp hn (k := 0) (by omega)
  have by2 : ∀ n, n < 1024 → n % 4 + 1 < 4 → μ 30 0 (1024 * p + n + 1) = byt (σ 15 p (n / 4)) (n % 4 + 1) := fun n hn h1 => h.byte hp hn (k := 1) h1
  have m1 : ∀ n, n < 1024 → Sp (e + 2) 108 [.inr (some (7, 0)), .inl (nI p), .inl (nI n), .inl (nI 1)] μ (rI (v1 (byt (σ 15 p (n / 4)) (n % 4)))) μ := fun n hn => by
    have t := S108 (d := e + 1) (p := p) (n := n) (μ := μ) (s := 1) (Or.inl rfl) (by omega)
    rw [if_pos rfl, by1 n hn] at t
    exact t
  have m2 : ∀ n, n < 1024 → n % 2 = 0 → Sp (e + 2) 108 [.inr (some (7, 0)), .inl (nI p), .inl (nI n), .inl (nI 2)] μ (rI (v2 (byt (σ 15 p (n / 4)) (n % 4 + 1)) (byt (σ 15 p (n / 4)) (n % 4)))) μ := fun n hn h2 => by
    have t := S108 (d := e + 1) (p := p) (n := n) (μ := μ) (s := 2) (Or.inr (Or.inl rfl)) (by omega)
    rw [if_neg (by decide), if_pos rfl, by1 n hn, by2 n hn (by omega)] at t
    exact t
  rcases (show f = 0 ∨ f = 1 ∨ f = 2 ∨ f = 3 ∨ f = 4 ∨ f = 5 ∨ f = 6 ∨ f = 7 by omega) with rfl | rfl | rfl | rfl | rfl | rfl | rfl | rfl
  · exact go 1 (Or.inl rfl) (by decide) (by decide) (by decide) (fun n hn _ => ⟨_, fun d => P55_1 rfl, Or.inr (Or.inl ⟨_, m1 n hn, rfl, rd_b _ (by omega)⟩)⟩)
  · exact go 2 (Or.inr (Or.inl rfl)) (by decide) (by decide) (by decide) (fun n hn h2 => ⟨_, fun d => P55_2 rfl, Or.inr (Or.inr ⟨_, m2 n hn h2, rfl, rd_h _ (by omega)⟩)⟩)
  · refine go 4 (Or.inr (Or.inr rfl)) (by decide) (by decide) (by decide) (fun n hn h4 => ⟨σ 15 p (n / 4), fun d => ?_, Or.inl ⟨load4 h hp hn h4, by decide, by decide⟩⟩)
    rw [h4, Nat.mul_zero, rd_w]
    exact P55_3 rfl
  · exact ok_E (e := 0) h (by decide) (P54_1 s61 rfl) (P113_1 rfl)
  · refine go 1 (Or.inl rfl) (by decide) (by decide) (by decide) (fun n hn _ => ⟨_, fun d => P55_5 rfl, Or.inl ⟨?_, by decide, by decide⟩⟩)
    rw [rd_bu _ (by omega)]; exact m1 n hn
  · refine go 2 (Or.inr (Or.inl rfl)) (by decide) (by decide) (by decide) (fun n hn h2 => ⟨_, fun d => P55_6 rfl, Or.inl ⟨?_, by decide, by decide⟩⟩)
    rw [rd_hu _ (by omega)]; exact m2 n hn h2
  · exact ok_E (e := 0) h (by decide) (P54_2 s61 (by decide) (by decide)) (P113_2 (by decide) (by decide))
  · exact ok_E (e := 0) h (by decide) (P54_2 s61 (by decide) (by decide)) (P113_2 (by decide) (by decide))
theorem store_both (h : KI b σ0 μ0 σ μ) (hp : p < 4) (hr1 : r1 < 32) (hr2 : r2 < 32) (w1 : fd w 15 31 = nI r1) (w2 : fd w 20 31 = nI r2) (h41 : μ 7 0 41 = σ 5 K 6 + 4) (h43 : μ 7 0 43 = 0) :
    OK2 b σ0 μ0 σ K rd (Sp (d + 4) 56 [.inr (some (5, K)), .inl w, .inr (some (3, p))] σ) (Sp (e + 3) 114 [.inr (some (7, 0)), .inl (nI p), .inl (fd w 12 7), .inl (σ 13 K r1 + (((w >>> ((25 : Int32) &&& 31)) <<< ((5 : Int32) &&& 31)) ||| fd w 7 31)), .inl (σ 13 K r2)] μ) := by
  obtain ⟨f, hf, ef⟩ := f3_cases w
  have s61 : Sp (d + 3) 61 [.inl w] σ (rI (nI f)) σ := by rw [← ef]; exact S61
  have s63 := S63 (d := d + 1) (K := K) (σ := σ) hr1 w1
  have s64 := S64 (d := d + 1) (K := K) (σ := σ) hr2 w2
  rw [ef]
  have go : ∀ s : Nat, (s = 1 ∨ s = 2 ∨ s = 4) → ¬ 2 < nI f → ((1 : Int32) <<< (nI f &&& 31)) = nI s →
      OK2 b σ0 μ0 σ K rd (Sp (d + 4) 56 [.inr (some (5, K)), .inl w, .inr (some (3, p))] σ) (Sp (e + 3) 114 [.inr (some (7, 0)), .inl (nI p), .inl (nI f), .inl (σ 13 K r1 + (((w >>> ((25 : Int32) &&& 31)) <<< ((5 : Int32) &&& 31)) ||| fd w 7 31)), .inl (σ 13 K r2)] μ) := fun s hs g2 gs => by
    rcases place_both (s := s) (σ 13 K r1 + (((w >>> ((25 : Int32) &&& 31)) <<< ((5 : Int32) &&& 31)) ||| fd w 7 31)) hs with ⟨n, hn, hns, ea, c16, c107⟩ | ⟨c16, c107⟩
    · rw [← gs] at c16 c107
      have s20 := S20 (d := d) (p := p) (σ := σ) (n := n) (s := s) (v := σ 13 K r2) hn hs
      have s109 := S109 (d := e + 1) (p := p) (μ := μ) (n := n) (s := s) (v := σ 13 K r2) (by omega) (by rcases hs with rfl | rfl | rfl <;> omega)
      refine Or.inr ⟨mq_up σ 15 p (n / 4) (wNew (σ 15 p (n / 4)) (σ 13 K r2) (n % 4) s), σ 5 K 6 + 4, none, mSt μ (1024 * p + n) (σ 13 K r2) s, P56_3 s61 g2 s63 P67_1 (c16 _ _) (by decide) s64 (by show Sp (d + 3) 20 [.inr (some (3, p)), .inl (σ 13 K r1 + (((w >>> ((25 : Int32) &&& 31)) <<< ((5 : Int32) &&& 31)) ||| fd w 7 31)), _, _] _ _ _; rw [gs, ea]; exact s20), P114_3 g2 (c107 _ _) (by decide) (by rw [gs, ea]; exact s109), h.store hp hn hs hns, ⟨(mSt_o _ _ _ _ _ (by decide)).trans h41, fun _ => (mSt_o _ _ _ _ _ (by decide)).trans h43, (fun x hx => by cases hx)⟩, fun k i j hk => up_nk hk⟩
    · rw [← gs] at c16 c107
      exact ok_E (e := 1) h (by decide) (P56_2 s61 g2 s63 P67_1 (c16 _ _) rfl) (P114_2 g2 (c107 _ _) rfl)
  rcases (show f = 0 ∨ f = 1 ∨ f = 2 ∨ f = 3 ∨ f = 4 ∨ f = 5 ∨ f = 6 ∨ f = 7 by omega) with rfl | rfl | rfl | rfl | rfl | rfl | rfl | rfl
  · exact go 1 (Or.inl rfl) (by decide) (by decide)
  · exact go 2 (Or.inr (Or.inl rfl)) (by decide) (by decide)
  · exact go 4 (Or.inr (Or.inr rfl)) (by decide) (by decide)
  all_goals exact ok_E (e := 0) h (by decide) (P56_1 s61 (by decide)) (P114_1 (by decide))
theorem imm_both (h : KI b σ0 μ0 σ μ) (hr1 : r1 < 32) (hrd : rd < 32) (w1 : fd w 15 31 = nI r1) (w7 : fd w 7 31 = nI rd) (h41 : μ 7 0 41 = σ 5 K 6 + 4) (hop : ¬ (w &&& 127) = 51) {y : Int32} :
    OK2 b σ0 μ0 σ K rd (Sp (d + 4) 57 [.inr (some (5, K)), .inl w] σ) (Sp (e + 3) 118 [.inr (some (7, 0)), .inl w, .inl (σ 13 K r1), .inl y] μ) := by
  have s61 := S61 (d := d + 2) (w := w) (σ := σ)
  have s62 := S62 (d := d + 2) (w := w) (σ := σ)
  have s63 := S63 (d := d + 1) (K := K) (σ := σ) hr1 w1
  have t1 := B12 (d := e + 1) (w := w) (μ := μ)
  have t2 := B25 (d := e + 1) (w := w) (μ := μ)
  by_cases f1 : fd w 12 7 = 1
  · by_cases h7 : f7 w = 0
    · exact ok_G h h41 (P57_1 s61 f1 s62 h7 s63 P65_1 S59 (S51 hrd w7)) (P118_6 t1 t2 hop f1 h7 S116 S112)
    · exact ok_E (e := 0) h (by decide) (P57_2 s61 f1 s62 h7) (P118_7 t1 t2 hop f1 h7)
  · by_cases f5 : fd w 12 7 = 5
    · by_cases h32 : f7 w = 32
      · exact ok_G h h41 (P57_4 s61 f1 f5 s62 h32 s62 (by rw [h32]; decide) s63 P65_1 S59 (S51 hrd w7)) (P118_9 t1 t2 hop f1 f5 (by rw [h32]; decide) h32 S116 S112)
      · by_cases h7 : f7 w = 0
        · exact ok_G h h41 (P57_5 s61 f1 f5 s62 h32 s62 h7 s63 P65_1 S59 (S51 hrd w7)) (P118_8 t1 t2 hop f1 f5 h7 S116 S112)
        · exact ok_E (e := 0) h (by decide) (P57_6 s61 f1 f5 s62 h32 s62 h7) (P118_10 t1 t2 hop f1 f5 h7 h32)
    · exact ok_G h h41 (P57_7 s61 f1 f5 s63 P65_1 S59 (S51 hrd w7)) (P118_11 t1 t2 hop f1 f5 S116 S112)
theorem reg_both (h : KI b σ0 μ0 σ μ) (hr1 : r1 < 32) (hr2 : r2 < 32) (hrd : rd < 32) (w1 : fd w 15 31 = nI r1) (w2 : fd w 20 31 = nI r2) (w7 : fd w 7 31 = nI rd) (h41 : μ 7 0 41 = σ 5 K 6 + 4) (hop : (w &&& 127) = 51) :
    OK2 b σ0 μ0 σ K rd (Sp (d + 4) 58 [.inr (some (5, K)), .inl w] σ) (Sp (e + 3) 118 [.inr (some (7, 0)), .inl w, .inl (σ 13 K r1), .inl (σ 13 K r2)] μ) := by
  have s61 := S61 (d := d + 2) (w := w) (σ := σ)
  have s62 := S62 (d := d + 2) (w := w) (σ := σ)
  have s63 := S63 (d := d + 1) (K := K) (σ := σ) hr1 w1
  have s64 := S64 (d := d + 1) (K := K) (σ := σ) hr2 w2
  have t1 := B12 (d := e + 1) (w := w) (μ := μ)
  have t2 := B25 (d := e + 1) (w := w) (μ := μ)
  by_cases f0 : fd w 12 7 = 0
  · by_cases h32 : f7 w = 32
    · exact ok_G h h41 (P58_2 s61 f0 s62 h32 s62 (by rw [h32]; decide) s63 s64 S59 (S51 hrd w7)) (P118_2 t1 t2 hop (by rw [h32]; decide) h32 f0 S116 S112)
    · by_cases h7 : f7 w = 0
      · exact ok_G h h41 (P58_3 s61 f0 s62 h32 s62 h7 s63 s64 S59 (S51 hrd w7)) (P118_1 t1 t2 hop h7 S116 S112)
      · exact ok_E (e := 0) h (by decide) (P58_4 s61 f0 s62 h32 s62 h7) (P118_5 t1 t2 hop h7 h32)
  · by_cases f5 : fd w 12 7 = 5
    · by_cases h32 : f7 w = 32
      · exact ok_G h h41 (P58_6 s61 f0 f5 s62 h32 s62 (by rw [h32]; decide) s63 s64 S59 (S51 hrd w7)) (P118_3 t1 t2 hop (by rw [h32]; decide) h32 f0 f5 S116 S112)
      · by_cases h7 : f7 w = 0
        · exact ok_G h h41 (P58_7 s61 f0 f5 s62 h32 s62 h7 s63 s64 S59 (S51 hrd w7)) (P118_1 t1 t2 hop h7 S116 S112)
        · exact ok_E (e := 0) h (by decide) (P58_8 s61 f0 f5 s62 h32 s62 h7) (P118_5 t1 t2 hop h7 h32)
    · by_cases h7 : f7 w = 0
      · exact ok_G h h41 (P58_9 s61 f0 f5 s62 h7 s63 s64 S59 (S51 hrd w7)) (P118_1 t1 t2 hop h7 S116 S112)
      · by_cases h32 : f7 w = 32
        · exact ok_E (e := 0) h (by decide) (P58_10 s61 f0 f5 s62 h7) (P118_4 t1 t2 hop h7 h32 f0 f5)
        · exact ok_E (e := 0) h (by decide) (P58_10 s61 f0 f5 s62 h7) (P118_5 t1 t2 hop h7 h32)
theorem ok_N {C M : mRz → mSg → Prop} (h : KI b σ0 μ0 σ μ) (h41 : μ 7 0 41 = nx) (h43 : μ 7 0 43 = 0) (hC : C (rI (-1)) (mq_up σ 5 K 6 nx)) (hM : M (rI (-1)) μ) : OK2 b σ0 μ0 σ K rd C M := Or.inr ⟨σ, nx, none, μ, hC, hM, h, ⟨h41, fun _ => h43, (fun v hv => by cases hv)⟩, fun _ _ _ _ => rfl⟩
theorem jalr_both (h : KI b σ0 μ0 σ μ) (hK : K < 32) (hr1 : r1 < 32) (hrd : rd < 32) (w1 : fd w 15 31 = nI r1) (w7 : fd w 7 31 = nI rd) (hop : (w &&& 127) = 103) :
    OK2 b σ0 μ0 σ K rd (Sp (d + 4) 52 [.inr (some (5, K)), .inl w] σ) (Sp (e + 3) 117 [.inr (some (7, 0)), .inl (nI K), .inl w, .inl (σ 13 K r1)] μ) := by
  have s61 := S61 (d := d + 2) (w := w) (σ := σ)
  have s63 := S63 (d := d + 1) (K := K) (σ := σ) hr1 w1
  have hkb : ¬ (nI K < 0 ∨ 32 ≤ (nI K).toNatClampNeg) := nI_in hK (by decide)
  have e0 : μ 13 36 (nI K).toNatClampNeg = σ 5 K 6 := by rw [nI_clamp (by omega)]; exact h.1.1.get (lk_p' hK 6 36 rfl)
  have n111 : ¬ (w &&& 127) = 111 := by rw [hop]; decide
  by_cases f0 : fd w 12 7 = 0
  · refine ok_G (v := σ 5 K 6 + 4) (h.scr (Or.inl rfl) ((σ 13 K r1 + (w >>> ((20 : Int32) &&& 31))) &&& (-2))) rfl (P52_1 s61 f0 s63 P65_1 (S51 hrd w7)) ?_
    rw [← e0]
    exact P117_2 hkb n111 hop B12 f0 S112
  · exact ok_E (e := 0) h (by decide) (P52_2 s61 f0) (P117_3 hkb n111 hop B12 f0)
theorem jal_off : ((((w >>> ((31 : Int32) &&& 31)) <<< ((20 : Int32) &&& 31)) ||| (fd w 12 255 <<< ((12 : Int32) &&& 31))) ||| (fd w 20 1 <<< ((11 : Int32) &&& 31))) ||| (fd w 21 1023 <<< ((1 : Int32) &&& 31)) = ((((w >>> ((31 : Int32) &&& 31)) <<< ((20 : Int32) &&& 31)) ||| (((w >>> ((12 : Int32) &&& 31)) &&& 255) <<< ((12 : Int32) &&& 31))) ||| (((w >>> ((20 : Int32) &&& 31)) &&& 1) <<< ((11 : Int32) &&& 31))) ||| (((w >>> ((21 : Int32) &&& 31)) &&& 1023) <<< ((1 : Int32) &&& 31)) := rfl
def hdv (f x y : Int32) : Bool := if f = 0 then decide (x = y) else if f = 1 then !decide (x = y) else if f = 4 then decide (x < y) else if f = 5 then !decide (x < y) else if f = 6 then blw x y else !blw x y
theorem S115 {f x y : Int32} (h2 : ¬ f = 2) (h3 : ¬ f = 3) : Sp (d + 2) 115 [.inl f, .inl x, .inl y] μ (rI (if hdv f x y then 1 else 0)) μ := by
  have s := S111 (d := d) (x := x) (y := y) (μ := μ)
  unfold hdv
  by_cases h0 : f = 0
  · rw [if_pos h0]
    by_cases e : x = y
    · simp only [e, decide_true, if_true]; exact P115_1 h0 rfl
    · simp only [e, decide_false]; exact P115_2 h0 e
  · rw [if_neg h0]
    by_cases h1 : f = 1
    · rw [if_pos h1]
      by_cases e : x = y
      · simp only [e, decide_true, Bool.not_true]; exact P115_3 h1 rfl
      · simp only [e, decide_false, Bool.not_false, if_true]; exact P115_4 h1 e
    · rw [if_neg h1]
      by_cases h4 : f = 4
      · rw [if_pos h4]
        by_cases e : x < y
        · simp only [e, decide_true, if_true]; exact P115_9 h4 e
        · simp only [e, decide_false]; exact P115_10 h4 e
      · rw [if_neg h4]
        by_cases h5 : f = 5
        · rw [if_pos h5]
          by_cases e : x < y
          · simp only [e, decide_true, Bool.not_true]; exact P115_11 h5 e
          · simp only [e, decide_false, Bool.not_false, if_true]; exact P115_12 h5 e
        · rw [if_neg h5]
          by_cases h6 : f = 6
          · rw [if_pos h6]
            refine P115_13 h6 s ?_
            cases blw x y
            · exact Or.inl rfl
            · exact Or.inr rfl
          · rw [if_neg h6]
            cases hb : blw x y with
            | true => rw [hb] at s; exact P115_15 h0 h1 h2 h3 h4 h5 h6 s (by decide)
            | false => rw [hb] at s; exact P115_14 h0 h1 h2 h3 h4 h5 h6 s (by decide)
theorem branch_both (h : KI b σ0 μ0 σ μ) (hK : K < 32) (hr1 : r1 < 32) (hr2 : r2 < 32) (w1 : fd w 15 31 = nI r1) (w2 : fd w 20 31 = nI r2) (hop : (w &&& 127) = 99) (h41 : μ 7 0 41 = σ 5 K 6 + 4) (h43 : μ 7 0 43 = 0) :
    OK2 b σ0 μ0 σ K rd (Sp (d + 4) 53 [.inr (some (5, K)), .inl w] σ) (Sp (e + 3) 117 [.inr (some (7, 0)), .inl (nI K), .inl w, .inl (σ 13 K r1)] μ) := by
  obtain ⟨f, hf, ef⟩ := f3_cases w
  have s61 : Sp (d + 3) 61 [.inl w] σ (rI (nI f)) σ := by rw [← ef]; exact S61
  have t12 : Sp (e + 2) 110 [.inl w, .inl 12, .inl 3] μ (rI (nI f)) μ := by rw [← ef]; exact B12
  have s63 := S63 (d := d + 1) (K := K) (σ := σ) hr1 w1
  have s64 := S64 (d := d + 1) (K := K) (σ := σ) hr2 w2
  have s60 := S60 (d := d + 2) (x := σ 13 K r1) (y := σ 13 K r2) (σ := σ)
  have hkb : ¬ (nI K < 0 ∨ 32 ≤ (nI K).toNatClampNeg) := nI_in hK (by decide)
  have e0 : μ 13 36 (nI K).toNatClampNeg = σ 5 K 6 := by rw [nI_clamp (by omega)]; exact h.1.1.get (lk_p' hK 6 36 rfl)
  have n111 : ¬ (w &&& 127) = 111 := by rw [hop]; decide
  have n103 : ¬ (w &&& 127) = 103 := by rw [hop]; decide
  have t20 : Sp (e + 2) 110 [.inl w, .inl 20, .inl 5] μ (rI (nI r2)) μ := by rw [← w2]; exact B20
  have h32b : ¬ (32 * nI K + nI r2 < 0 ∨ 1024 ≤ (32 * nI K + nI r2).toNatClampNeg) := by rw [ix32]; exact nI_in (by omega) (by decide)
  have e2 : μ 16 0 (32 * nI K + nI r2).toNatClampNeg = σ 13 K r2 := by rw [ix32, nI_clamp (by omega)]; exact h.1.1.get (lk_r hK hr2)
  -- the two ways on
  have yes : ¬ nI f = 2 → ¬ nI f = 3 → hdv (nI f) (σ 13 K r1) (σ 13 K r2) = true → (∀ wo, Sp (d + 3) 69 [.inl w] σ (rI wo) σ → Sp (d + 4) 53 [.inr (some (5, K)), .inl w] σ (rI (-1)) (mq_up σ 5 K 6 (σ 5 K 6 + wo))) → OK2 b σ0 μ0 σ K rd (Sp (d + 4) 53 [.inr (some (5, K)), .inl w] σ) (Sp (e + 3) 117 [.inr (some (7, 0)), .inl (nI K), .inl w, .inl (σ 13 K r1)] μ) := fun g2 g3 hd hC => by
    have s115 := S115 (d := e) (μ := μ) (f := nI f) (x := σ 13 K r1) (y := σ 13 K r2) g2 g3
    rw [hd] at s115
    refine ok_N (h.scr (Or.inl rfl) _) rfl h43 (hC _ P69_1) ?_
    have t := P117_7 hkb n111 n103 t12 g2 g3 t20 h32b (by rw [e2]; exact s115) (by decide) B7_1 B25_6 B8_4
    rw [e0] at t
    exact t
  have no : ¬ nI f = 2 → ¬ nI f = 3 → hdv (nI f) (σ 13 K r1) (σ 13 K r2) = false → Sp (d + 4) 53 [.inr (some (5, K)), .inl w] σ (rI (-1)) (mq_up σ 5 K 6 (σ 5 K 6 + 4)) → OK2 b σ0 μ0 σ K rd (Sp (d + 4) 53 [.inr (some (5, K)), .inl w] σ) (Sp (e + 3) 117 [.inr (some (7, 0)), .inl (nI K), .inl w, .inl (σ 13 K r1)] μ) := fun g2 g3 hd hC => by
    have s115 := S115 (d := e) (μ := μ) (f := nI f) (x := σ 13 K r1) (y := σ 13 K r2) g2 g3
    rw [hd] at s115
    exact ok_N h h41 h43 hC (P117_6 hkb n111 n103 t12 g2 g3 t20 h32b (by rw [e2]; exact s115) rfl)
  rcases (show f = 0 ∨ f = 1 ∨ f = 2 ∨ f = 3 ∨ f = 4 ∨ f = 5 ∨ f = 6 ∨ f = 7 by omega) with rfl | rfl | rfl | rfl | rfl | rfl | rfl | rfl
  · by_cases c : σ 13 K r1 = σ 13 K r2
    · exact yes (by decide) (by decide) (by simp [hdv, show nI 0 = 0 from rfl, c]) (fun wo s69 => P53_1 s63 s64 s61 rfl c s69)
    · exact no (by decide) (by decide) (by simp [hdv, show nI 0 = 0 from rfl, c]) (P53_2 s63 s64 s61 rfl c)
  · by_cases c : σ 13 K r1 = σ 13 K r2
    · exact no (by decide) (by decide) (by simp [hdv, show nI 1 = 1 from rfl, c]) (P53_3 s63 s64 s61 rfl c)
    · exact yes (by decide) (by decide) (by simp [hdv, show nI 1 = 1 from rfl, c]) (fun wo s69 => P53_4 s63 s64 s61 rfl c s69)
  · exact ok_E (e := 0) h (by decide) (P53_5 s63 s64 s61 rfl) (P117_4 hkb n111 n103 t12 rfl)
  · exact ok_E (e := 0) h (by decide) (P53_6 s63 s64 s61 rfl) (P117_5 hkb n111 n103 t12 (by decide) rfl)
  · by_cases c : σ 13 K r1 < σ 13 K r2
    · exact yes (by decide) (by decide) (by simp [hdv, show nI 4 = 4 from rfl, c]) (fun wo s69 => P53_7 s63 s64 s61 rfl c s69)
    · exact no (by decide) (by decide) (by simp [hdv, show nI 4 = 4 from rfl, c]) (P53_8 s63 s64 s61 rfl c)
  · by_cases c : σ 13 K r1 < σ 13 K r2
    · exact no (by decide) (by decide) (by simp [hdv, show nI 5 = 5 from rfl, c]) (P53_9 s63 s64 s61 rfl c)
    · exact yes (by decide) (by decide) (by simp [hdv, show nI 5 = 5 from rfl, c]) (fun wo s69 => P53_10 s63 s64 s61 rfl c s69)
  · cases c : blw (σ 13 K r1) (σ 13 K r2) with
    | true =>
      rw [c] at s60
      exact yes (by decide) (by decide) (by simp [hdv, show nI 6 = 6 from rfl, c]) (fun wo s69 => P53_12 s63 s64 s61 rfl s60 (by decide) s69)
    | false =>
      rw [c] at s60
      exact no (by decide) (by decide) (by simp [hdv, show nI 6 = 6 from rfl, c]) (P53_11 s63 s64 s61 rfl s60 rfl)
  · cases c : blw (σ 13 K r1) (σ 13 K r2) with
    | true =>
      rw [c] at s60
      exact no (by decide) (by decide) (by simp [hdv, show nI 7 = 7 from rfl, c]) (P53_14 s63 s64 s61 rfl s60 (by decide))
    | false =>
      rw [c] at s60
      exact yes (by decide) (by decide) (by simp [hdv, show nI 7 = 7 from rfl, c]) (fun wo s69 => P53_13 s63 s64 s61 rfl s60 rfl s69)
end STEP
