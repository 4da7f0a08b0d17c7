/-! The calls that set up, begin and run: class and reference alike. -/
/-- before it has begun: no deadline runs, no word is on its way -/
def NB (σ : mSg) : Prop := σ 6 0 7 = 0 → (∀ K, K < 32 → σ 5 K 8 = -1) ∧ ∀ ch, ch < 8 → σ 0 ch 5 = 0 ∧ σ 0 ch 6 = 0 ∧ σ 0 ch 7 = -1
/-- which throw goes with which number -/
def kd3 (x : Nat) (t : Int32) : Prop := (x = 50 ∧ t = 1) ∨ (x = 51 ∧ t = 2) ∨ (x = 52 ∧ t = 3)
def kd4 (x : Nat) (t : Int32) : Prop := (x = 50 ∧ t = 1) ∨ (x = 51 ∧ t = 2)
def kd5 (x : Nat) (t : Int32) : Prop := x = 50 ∧ t = 1
def kd6 (x : Nat) (t : Int32) : Prop := x = 52 ∧ t = 1
def kd7 (x : Nat) (t : Int32) : Prop := (x = 51 ∧ t = 1) ∨ (x = 52 ∧ t = 2)
/-- a call that answers nothing, on both sides -/
def OV (kd : Nat → Int32 → Prop) (b : Nat) (σ μ : mSg) (C M : mRz → mSg → Prop) : Prop := ∃ t rC σ1 μ1, C rC σ1 ∧ M (.inl none) μ1 ∧ KI b σ (mq_up μ 7 0 0 t) σ1 μ1 ∧ NB σ1 ∧ ((rC = .inl none ∧ t = 0) ∨ ∃ x, rC = .inr x ∧ kd x t)
/-- a call that answers an int, on both sides -/
def OW (kd : Nat → Int32 → Prop) (b : Nat) (σ μ : mSg) (C M : mRz → mSg → Prop) : Prop := ∃ t rC v σ1 μ1, C rC σ1 ∧ M (rI v) μ1 ∧ KI b σ (mq_up μ 7 0 0 t) σ1 μ1 ∧ NB σ1 ∧ ((rC = rI v ∧ t = 0) ∨ ∃ x, rC = .inr x ∧ kd x t)
section SET
variable {d e b p : Nat} {σ μ σ0 μ0 : mSg} {x1 x2 x3 x4 x5 : Int32} {C M : mRz → mSg → Prop} {kd : Nat → Int32 → Prop}
theorem OV.thr (h : KI b σ0 μ0 σ μ) (hJ : NB σ) {x : Nat} {t : Int32} (hC : C (.inr x) σ) (hM : M (.inl none) (mq_up μ 7 0 0 t)) (hk : kd x t) : OV kd b σ μ C M := ⟨t, .inr x, σ, mq_up μ 7 0 0 t, hC, hM, h.thr t, hJ, Or.inr ⟨x, rfl, hk⟩⟩
theorem OW.thr (h : KI b σ0 μ0 σ μ) (hJ : NB σ) {x : Nat} {t v : Int32} (hC : C (.inr x) σ) (hM : M (rI v) (mq_up μ 7 0 0 t)) (hk : kd x t) : OW kd b σ μ C M := ⟨t, .inr x, v, σ, mq_up μ 7 0 0 t, hC, hM, h.thr t, hJ, Or.inr ⟨x, rfl, hk⟩⟩
theorem in01_of {x y : Int32} (h : ¬ in01 x y = 0) : ¬ x < 0 ∧ x < y := Decidable.byContradiction fun c => h (in01_0 c)
theorem KI.win (h : KI b σ0 μ0 σ μ) {W p L : Nat} (hW : W < 8) (hp : p < 4) (hL : 1 ≤ L ∧ L ≤ 100) (h7 : σ 6 0 7 = 0) (h2 : σ 2 0 2 = nI W) : KI b σ0 μ0 (mq_up (mq_up (mq_up σ 11 0 W (nI p)) 11 1 W (nI L)) 2 0 2 (nI (W + 1))) (mq_up (mq_up (mq_up (mq_up μ 11 10 W (nI p)) 11 11 W (nI L)) 7 0 4 (μ 7 0 4 + nI L)) 7 0 3 (nI (W + 1))) := by
  obtain ⟨⟨h1, hPI, h3⟩, ⟨c1, c2, c3, c4, c5⟩, h5⟩ := h
  have l0 : lk 11 0 W = some (11, 10, W) := by show (if 0 < 2 ∧ W < 8 then some (11, 10, W) else none) = _; rw [if_pos (by omega)]
  have l1 : lk 11 1 W = some (11, 11, W) := by show (if 1 < 2 ∧ W < 8 then some (11, 11, W) else none) = _; rw [if_pos (by omega)]
  refine ⟨⟨((((h1.both l0 _).both l1 _).right (k' := 7) (i' := 0) (j' := 4) rfl rfl _).both (k := 2) (i := 0) (j := 2) rfl _), fun K hK => hPI K hK, og_eq h3 (fun _ => rfl) (fun _ => rfl) (fun _ => rfl) (fun _ => rfl) rfl⟩, ⟨c1, c2, c3, fun ch hch => ?_, ?_⟩, h5.frame (fun _ => rfl) (Nat.le_refl _)⟩
  · obtain ⟨hd, n, g1, g2, g3, g4, g5, g6, g7⟩ := c4 ch hch
    refine ⟨hd, n, g1, g2, g3, g4, fun j hj => ?_, g6, g7⟩
    refine (g5 j hj).trans ?_
    rw [up_nk (by decide), up_ni (by omega), up_ni (by omega)]
  · obtain ⟨W', T, c, s, ln, g1, g2, g3, g4, g5, g6, g7, g8, g9, g10⟩ := c5
    have hWW : W' = W := by rw [h2] at g3; exact ((nI_eq (by omega) (by omega)).mp g3).symm
    subst hWW
    have hs : ∀ n, n ≤ W' → sumN (fun j => if j = W' then L else ln j) n = sumN ln n := fun n hn => by
      induction n with
      | zero => rfl
      | succ n ih =>
        show sumN _ n + (if n = W' then L else ln n) = sumN ln n + ln n
        rw [ih (by omega), if_neg (by omega)]
    refine ⟨W' + 1, T, c, s, fun j => if j = W' then L else ln j, by omega, g2, rfl, g4, g5, g6, ?_, fun j hj => ?_, g9, fun z => absurd h7 z⟩
    · show μ 7 0 4 + nI L = nI (sumN _ W' + (if W' = W' then L else ln W'))
      rw [if_pos rfl, hs W' (Nat.le_refl _), g7, nI_add]
    · show 1 ≤ (if j = W' then L else ln j) ∧ (if j = W' then L else ln j) ≤ 100 ∧ _
      by_cases ej : j = W'
      · subst ej
        rw [if_pos rfl]
        refine ⟨hL.1, hL.2, ?_, p, hp, ?_⟩
        · rw [up_nk (by decide), up_eq]; show nI L = nI (if j = j then L else ln j); rw [if_pos rfl]
        · rw [up_nk (by decide), up_ni (by decide), up_eq]
      · rw [if_neg ej]
        obtain ⟨a1, a2, a3, o, a4, a5⟩ := g8 j (by omega)
        refine ⟨a1, a2, ?_, o, a4, ?_⟩
        · rw [up_nk (by decide), up_nj ej, up_ni (by decide), a3]; show _ = nI (if j = W' then L else ln j); rw [if_neg ej]
        · rw [up_nk (by decide), up_ni (by decide), up_nj ej]; exact a5
theorem set_window (h : KI b σ0 μ0 σ μ) (hJ : NB σ) : OV kd3 b σ μ (Sp (d + 2) 71 [.inr (some (6, 0)), .inl x1, .inl x2] σ) (Sp (e + 2) 135 [.inr (some (7, 0)), .inl x1, .inl x2] μ) := by
  have e7 : μ 7 0 1 = σ 6 0 7 := h.1.1.get (k := 6) (i := 0) (j := 7) rfl
  have e3 : μ 7 0 3 = σ 2 0 2 := h.1.1.get (k := 2) (i := 0) (j := 2) rfl
  by_cases hin : in01 x1 4 = 0
  · exact OV.thr h hJ (P71_1 S86 hin) (P135_1 S101 hin (by decide)) (Or.inl ⟨rfl, rfl⟩)
  · obtain ⟨p, hp, rfl⟩ := of_lt (n := 4) (by decide) (in01_of hin).1 (in01_of hin).2
    by_cases h1 : x2 < 1
    · exact OV.thr h hJ (P71_2 S86 hin h1) (P135_3 S101 hin h1 (by decide)) (Or.inr (Or.inl ⟨rfl, rfl⟩))
    · by_cases h100 : 100 < x2
      · exact OV.thr h hJ (P71_3 S86 hin h1 h100) (P135_5 S101 hin h1 h100 (by decide)) (Or.inr (Or.inl ⟨rfl, rfl⟩))
      · by_cases h7 : σ 6 0 7 = 0
        · obtain ⟨W, T, c, s, ln, g1, g2, g3, -⟩ := h.2.1.2.2.2.2
          by_cases hW : W < 8
          · have hcb : ¬ (nI W < 0 ∨ 8 ≤ (nI W).toNatClampNeg) := nI_in hW (by decide)
            have h0 : ¬ x2 < 0 := fun z => h1 (Int32.lt_trans z (by decide))
            obtain ⟨L, hL, rfl⟩ := nI_of h0
            have hL1 : 1 ≤ L := Nat.le_of_not_lt fun z => h1 ((nI_ltI (b := 1) hL (by decide)).mpr z)
            have hL2 : L ≤ 100 := Nat.le_of_not_lt fun z => h100 ((nI_ltI (a := 100) (by decide) hL).mpr z)
            have t1 := P71_5 (σ := σ) (S86 (d := d)) hin h1 h100 h7 (P12_1 (d := d) (x1 := nI p) (x2 := nI L) (by rw [g3]; exact (nI_ltI (b := 8) (by omega) (by decide)).mpr hW) (by rw [g3]; exact hcb)) (by decide)
            have t2 := P135_10 (σ := μ) (d := e + 1) (x1 := nI p) (x2 := nI L) S101 hin h1 h100 (by rw [e7]; exact h7) (by rw [e3, g3]; exact fun z => absurd ((nI_eq (b := 8) (by omega) (by decide)).mp z) (by omega)) (by decide) (by rw [e3, g3]; exact hcb)
            rw [g3, nI_clamp (by omega), nI_1] at t1
            rw [e3, g3, nI_clamp (by omega), nI_1] at t2
            exact ⟨0, _, _, _, t1, t2, (h.thr 0).win hW hp ⟨hL1, hL2⟩ h7 g3, fun _ => ⟨(hJ h7).1, (hJ h7).2⟩, Or.inl ⟨rfl, rfl⟩⟩
          · have hW8 : W = 8 := by omega
            subst hW8
            exact OV.thr h hJ (P71_4 S86 hin h1 h100 h7 (P12_2 (by rw [g3]; decide)) rfl) (P135_7 S101 hin h1 h100 (by rw [e7]; exact h7) (by rw [e3, g3]; rfl) (by decide)) (Or.inr (Or.inr ⟨rfl, rfl⟩))
        · exact OV.thr h hJ (P71_6 S86 hin h1 h100 h7) (P135_11 S101 hin h1 h100 (by rw [e7]; exact h7) (by decide)) (Or.inr (Or.inr ⟨rfl, rfl⟩))
theorem wNew4 (w v : Int32) : wNew w v 0 4 = v := by
  show (w &&& ((-1 : Int32) <<< ((0 : Int32) &&& 31) ^^^ (-1))) ||| (v <<< ((0 : Int32) &&& 31) &&& (-1 : Int32) <<< ((0 : Int32) &&& 31)) = v
  have e : ∀ x : Int32, x <<< ((0 : Int32) &&& 31) = x := fun x => by
    apply Int32.toBitVec_inj.mp
    rw [Int32.toBitVec_shiftLeft]
    show x.toBitVec <<< _ = _
    exact BitVec.shiftLeft_zero _
  rw [e, e]
  rw [show (-1 : Int32) ^^^ (-1) = 0 from by decide, Int32.and_zero, Int32.zero_or, Int32.and_neg_one]
theorem set_poke (h : KI b σ0 μ0 σ μ) (hJ : NB σ) : OV kd5 b σ μ (Sp (d + 3) 75 [.inr (some (6, 0)), .inl x1, .inl x2, .inl x3] σ) (Sp (e + 3) 139 [.inr (some (7, 0)), .inl x1, .inl x2, .inl x3] μ) := by
  rcases part_cases x1 with ⟨p, hp, rfl, s89, hin⟩ | ⟨s89, hin⟩
  · rcases place_both (s := 4) x2 (Or.inr (Or.inr rfl)) with ⟨n, hn, hn4, rfl, c16, c107⟩ | ⟨c16, c107⟩
    · have t := (h.thr 0).store (v := x3) hp hn (Or.inr (Or.inr rfl)) hn4
      rw [hn4, wNew4] at t
      exact ⟨0, _, _, _, P75_3 (s89 _ _) (c16 _ _) (by decide) (S18 hn hn4), P139_5 S101 (by rw [hin]; decide) (c107 _ _) (by decide) rfl (S109 (s := 4) (Nat.le_refl _) (by omega)), t, hJ, Or.inl ⟨rfl, rfl⟩⟩
    · exact OV.thr h hJ (P75_2 (s89 _ _) (c16 _ _) rfl) (P139_4 S101 (by rw [hin]; decide) (c107 _ _) rfl (by decide)) ⟨rfl, rfl⟩
  · exact OV.thr h hJ (P75_1 (s89 _ _)) (P139_2 S101 hin (by decide)) ⟨rfl, rfl⟩
theorem KI.act (h : KI b σ0 μ0 σ μ) (hp : p < 4) {s v : Nat} (hs : s < 4) (hv : v ≤ 4) : KI b σ0 μ0 (mq_up σ 10 (2 * p + 1) s (nI v)) (mq_up μ 12 0 (4 * p + s) (nI v)) := by
  obtain ⟨⟨h1, h2, h3⟩, ⟨c1, c2, c3, c4, c5⟩, h5⟩ := h
  refine ⟨⟨h1.both (lk_a hp hs) _, fun K hK => h2 K hK, og_eq h3 (fun _ => rfl) (fun _ => rfl) (fun _ => rfl) (fun _ => rfl) rfl⟩, ⟨?_, ⟨fun p' s' hp' hs' => ?_, fun h7 p' s' hp' hs' => ?_⟩, c3, c4, c5⟩, h5.frame (fun _ => rfl) (Nat.le_refl _)⟩
  · obtain ⟨g1, g2, g3, n, g4, g5⟩ := c1
    refine ⟨g1, g2, fun p' e hp' he => ?_, n, g4, g5⟩
    by_cases ee : p' = p ∧ e = s
    · obtain ⟨rfl, rfl⟩ := ee
      exact ⟨v, hv, up_eq _ _ _ _ _⟩
    · rw [up_if, if_neg (by omega)]
      exact g3 p' e hp' he
  · rw [up_ni (by omega)]
    exact c2.1 p' s' hp' hs'
  · rw [up_ni (by omega)]
    exact c2.2 h7 p' s' hp' hs'
theorem set_action (h : KI b σ0 μ0 σ μ) (hJ : NB σ) : OV kd4 b σ μ (Sp (d + 3) 74 [.inr (some (6, 0)), .inl x1, .inl x2, .inl x3] σ) (Sp (e + 2) 138 [.inr (some (7, 0)), .inl x1, .inl x2, .inl x3] μ) := by
  rcases part_cases x1 with ⟨p, hp, rfl, s89, hin⟩ | ⟨s89, hin⟩
  · by_cases h0 : x2 < 0
    · exact OV.thr h hJ (P74_2 (s89 _ _) h0) (P138_4 S101 (by rw [hin]; decide) S101 (in01_0 (fun c => c.1 h0)) (by decide)) (Or.inl ⟨rfl, rfl⟩)
    · by_cases h4 : x2 < 4
      · have hin2 : ¬ in01 x2 4 = 0 := by rw [in01_1 h0 h4]; decide
        obtain ⟨s, hs, rfl⟩ := of_lt (n := 4) (by decide) h0 h4
        by_cases g0 : x3 < 0
        · exact OV.thr h hJ (P74_3 (s89 _ _) h0 h4 g0) (P138_6 S101 (by rw [hin]; decide) S101 hin2 S101 (in01_0 (fun c => c.1 g0)) (by decide)) (Or.inr ⟨rfl, rfl⟩)
        · obtain ⟨v, hv, rfl⟩ := nI_of g0
          by_cases g4 : 4 < v
          · exact OV.thr h hJ (P74_4 (s89 _ _) h0 h4 g0 ((nI_ltI (a := 4) (by decide) hv).mpr g4)) (P138_6 S101 (by rw [hin]; decide) S101 hin2 S101 (in01_0 (fun c => absurd ((nI_ltI (b := 5) hv (by decide)).mp c.2) (by omega))) (by decide)) (Or.inr ⟨rfl, rfl⟩)
          · have t1 := P74_5 (d := d + 2) (σ := σ) (x1 := nI p) (x2 := nI s) (x3 := nI v) (s89 _ _) h0 h4 g0 (fun z => g4 ((nI_ltI (a := 4) (by decide) hv).mp z)) (nI_in hs (by decide))
            have t2 := P138_7 (d := e + 1) (σ := μ) (x1 := nI p) (x2 := nI s) (x3 := nI v) S101 (by rw [hin]; decide) S101 hin2 S101 (by rw [show in01 (nI v) 5 = 1 from in01_1 g0 ((nI_ltI (b := 5) hv (by decide)).mpr (by omega))]; decide) rfl (by rw [ix4]; exact nI_in (show 4 * p + s < 16 by omega) (by decide))
            rw [nI_clamp (by omega)] at t1
            rw [ix4, nI_clamp (by omega)] at t2
            exact ⟨0, _, _, _, t1, t2, (h.thr 0).act hp hs (by omega), hJ, Or.inl ⟨rfl, rfl⟩⟩
      · exact OV.thr h hJ (P74_6 (s89 _ _) h0 h4) (P138_4 S101 (by rw [hin]; decide) S101 (in01_0 (fun c => h4 c.2)) (by decide)) (Or.inl ⟨rfl, rfl⟩)
  · exact OV.thr h hJ (P74_1 (s89 _ _)) (P138_2 S101 hin (by decide)) (Or.inl ⟨rfl, rfl⟩)
theorem KI.addp (h : KI b σ0 μ0 σ μ) (hJ : NB σ) {N : Nat} (hp : p < 4) (hN : N < 8) (h7 : σ 6 0 7 = 0) : KI b σ0 μ0 (mq_up (mq_up (mq_up (mq_up (mq_up σ 5 (8 * p + N) 2 x2) 5 (8 * p + N) 3 x3) 5 (8 * p + N) 4 x4) 5 (8 * p + N) 5 x5) 4 p 5 (nI (N + 1))) (mq_up (mq_up (mq_up (mq_up (mq_up μ 13 32 (8 * p + N) x2) 13 33 (8 * p + N) x3) 13 34 (8 * p + N) x4) 13 35 (8 * p + N) x5) 10 8 p (nI (N + 1))) := by
  have hK : 8 * p + N < 32 := by omega
  obtain ⟨⟨h1, hPI, h3⟩, ⟨c1, c2, c3, c4, c5⟩, h5⟩ := h
  refine ⟨⟨((((h1.both (lk_p' hK 2 32 rfl) _).both (lk_p' hK 3 33 rfl) _).both (lk_p' hK 4 34 rfl) _).both (lk_p' hK 5 35 rfl) _).both (lk_4 (j := 5) hp rfl) _, fun K hK' => ?_, og_eq h3 (fun k => ?_) (fun k => ?_) (fun k => ?_) (fun k => ?_) rfl⟩, ⟨?_, c2, c3, c4, c5⟩, h5.frame (fun _ => rfl) (Nat.le_refl _)⟩
  · obtain ⟨a1, a2, a3, a4⟩ := hPI K hK'
    have hd := (hJ h7).1 K hK'
    have f : ∀ j, 6 ≤ j → mq_up (mq_up (mq_up (mq_up (mq_up σ 5 (8 * p + N) 2 x2) 5 (8 * p + N) 3 x3) 5 (8 * p + N) 4 x4) 5 (8 * p + N) 5 x5) 4 p 5 (nI (N + 1)) 5 K j = σ 5 K j := fun j hj => by
      rw [up_nk (by decide), up_nj (by omega), up_nj (by omega), up_nj (by omega), up_nj (by omega)]
    unfold PI
    rw [f 7 (by decide), f 8 (by decide), f 11 (by decide), f 10 (by decide)]
    exact ⟨a1, fun _ => hd, a3, a4⟩
  · rw [up_nk (by decide), up_nj (by decide), up_nj (by decide), up_nj (by decide), up_nj (by decide)]
  · rw [up_nk (by decide), up_nj (by decide), up_nj (by decide), up_nj (by decide), up_nj (by decide)]
  · rw [up_nj (by decide), up_nk (by decide), up_nk (by decide), up_nk (by decide), up_nk (by decide)]
  · rw [up_nk (by decide), up_ni (by decide), up_ni (by decide), up_ni (by decide), up_ni (by decide)]
  · obtain ⟨g1, g2, g3, n, g4, g5⟩ := c1
    refine ⟨fun p' hp' => ?_, fun p' q hp' hq => ?_, g3, n, g4, g5⟩
    · obtain ⟨i1, i2⟩ := g1 p' hp'
      refine ⟨?_, ?_⟩
      · rw [up_nj (by decide), up_nk (by decide), up_nk (by decide), up_nk (by decide), up_nk (by decide)]; exact i1
      · by_cases ee : p' = p
        · subst ee
          exact ⟨N + 1, by omega, up_eq _ _ _ _ _⟩
        · rw [up_ni ee, up_nk (by decide), up_nk (by decide), up_nk (by decide), up_nk (by decide)]; exact i2
    · rw [up_nk (by decide), up_nj (by decide), up_nj (by decide), up_nj (by decide), up_nj (by decide)]
      exact g2 p' q hp' hq
theorem set_process (h : KI b σ0 μ0 σ μ) (hJ : NB σ) : OW kd3 b σ μ (Sp (d + 3) 72 [.inr (some (6, 0)), .inl x1, .inl x2, .inl x3, .inl x4, .inl x5] σ) (Sp (e + 2) 136 [.inr (some (7, 0)), .inl x1, .inl x2, .inl x3, .inl x4, .inl x5] μ) := by
  have e7 : μ 7 0 1 = σ 6 0 7 := h.1.1.get (k := 6) (i := 0) (j := 7) rfl
  rcases part_cases x1 with ⟨p, hp, rfl, s89, hin⟩ | ⟨s89, hin⟩
  · have hin' : ¬ in01 (nI p) 4 = 0 := by rw [hin]; decide
    by_cases h3 : in01 x3 16 = 0
    · exact OW.thr h hJ (P72_2 (s89 _ _) S87 h3) (P136_3 S101 hin' S101 h3 (by decide)) (Or.inr (Or.inl ⟨rfl, rfl⟩))
    · by_cases h4 : in01 x4 100001 = 0
      · exact OW.thr h hJ (P72_3 (s89 _ _) S87 h3 S88 h4) (P136_5 S101 hin' S101 h3 S101 h4 (by decide)) (Or.inr (Or.inl ⟨rfl, rfl⟩))
      · by_cases h5 : in01 x5 100001 = 0
        · exact OW.thr h hJ (P72_4 (s89 _ _) S87 h3 S88 h4 S88 h5) (P136_7 S101 hin' S101 h3 S101 h4 S101 h5 (by decide)) (Or.inr (Or.inl ⟨rfl, rfl⟩))
        · by_cases h7 : σ 6 0 7 = 0
          · obtain ⟨N, hN, hc⟩ := h.cnt hp
            have ep := nI_clamp (n := p) (by omega)
            have hpb : ¬ (nI p < 0 ∨ 4 ≤ (nI p).toNatClampNeg) := nI_in hp (by decide)
            have hm : μ 10 8 p = nI N := (h.1.1.cnt hp).trans hc
            by_cases hN8 : N < 8
            · have t1 := P23_1 (d := d + 1) (r0 := p) (σ := σ) (x1 := x2) (x2 := x3) (x3 := x4) (x4 := x5) (by rw [hc]; exact (nI_ltI (b := 8) (by omega) (by decide)).mpr hN8) (by rw [hc]; exact nI_in hN8 (by decide))
              rw [hc, nI_clamp (by omega), nI_1] at t1
              have hval : mq_up (mq_up (mq_up (mq_up σ 5 (8 * p + N) 2 x2) 5 (8 * p + N) 3 x3) 5 (8 * p + N) 4 x4) 5 (8 * p + N) 5 x5 5 (8 * p + N) 0 = nI N := by
                rw [up_nj (by decide), up_nj (by decide), up_nj (by decide), up_nj (by decide)]
                exact h.2.1.1.2.1 p N hp hN8
              rw [hval] at t1
              have t2 := P136_12 (d := e + 1) (σ := μ) (x1 := nI p) (x2 := x2) (x3 := x3) (x4 := x4) (x5 := x5) S101 hin' S101 h3 S101 h4 S101 h5 (by rw [e7]; exact h7) hpb (by rw [ep, hm]; exact fun z => absurd ((nI_eq (b := 8) (by omega) (by decide)).mp z) (by omega)) (by decide) (by rw [ep, hm, ix8]; exact nI_in (show 8 * p + N < 32 by omega) (by decide))
              rw [ep, hm, ix8, nI_clamp (by omega), nI_1, up_eq, show nI (N + 1) - 1 = nI N from nI_sub (a := N + 1) (b := 1) (by omega)] at t2
              refine ⟨0, _, _, _, _, P72_6 (s89 _ _) S87 h3 S88 h4 S88 h5 h7 t1 (nI_m1 (by omega)), t2, (h.thr 0).addp hJ hp hN8 h7, fun _ => ⟨fun K hK => ?_, (hJ h7).2⟩, Or.inl ⟨rfl, rfl⟩⟩
              rw [up_nk (by decide), up_nj (by decide), up_nj (by decide), up_nj (by decide), up_nj (by decide)]
              exact (hJ h7).1 K hK
            · have hN' : N = 8 := by omega
              subst hN'
              exact OW.thr h hJ (P72_5 (s89 _ _) S87 h3 S88 h4 S88 h5 h7 (P23_2 (by rw [hc]; decide)) rfl) (P136_9 S101 hin' S101 h3 S101 h4 S101 h5 (by rw [e7]; exact h7) hpb (by rw [ep, hm]; rfl) (by decide)) (Or.inr (Or.inr ⟨rfl, rfl⟩))
          · exact OW.thr h hJ (P72_7 (s89 _ _) S87 h3 S88 h4 S88 h5 h7) (P136_13 S101 hin' S101 h3 S101 h4 S101 h5 (by rw [e7]; exact h7) (by decide)) (Or.inr (Or.inr ⟨rfl, rfl⟩))
  · exact OW.thr h hJ (P72_1 (s89 _ _)) (P136_1 S101 hin (by decide)) (Or.inl ⟨rfl, rfl⟩)
theorem KI.opn (h : KI b σ0 μ0 σ μ) (hJ : NB σ) {N : Nat} (hN : N < 8) (h7 : σ 6 0 7 = 0) (hq : (x1 = 0) ∨ (¬ x1 = 0 ∧ ∃ l, l ≤ 8 ∧ x4 = nI l)) : KI b σ0 μ0 (mq_up (mq_up (mq_up (mq_up (mq_up σ 0 N 1 x1) 0 N 2 x2) 0 N 3 x3) 0 N 4 x4) 6 0 4 (nI (N + 1))) (mq_up (mq_up (mq_up (mq_up (mq_up μ 32 0 N x1) 11 12 N x2) 11 13 N x3) 11 14 N x4) 7 0 28 (nI (N + 1))) := by
  obtain ⟨⟨h1, hPI, h3⟩, ⟨c1, c2, c3, c4, c5⟩, h5⟩ := h
  have f0 : ∀ ch j, ¬ ch = N → mq_up (mq_up (mq_up (mq_up (mq_up σ 0 N 1 x1) 0 N 2 x2) 0 N 3 x3) 0 N 4 x4) 6 0 4 (nI (N + 1)) 0 ch j = σ 0 ch j := fun ch j hn => by
    rw [up_nk (by decide), up_ni hn, up_ni hn, up_ni hn, up_ni hn]
  have f1 : ∀ j, 5 ≤ j → mq_up (mq_up (mq_up (mq_up (mq_up σ 0 N 1 x1) 0 N 2 x2) 0 N 3 x3) 0 N 4 x4) 6 0 4 (nI (N + 1)) 0 N j = σ 0 N j := fun j hj => by
    rw [up_nk (by decide), up_nj (by omega), up_nj (by omega), up_nj (by omega), up_nj (by omega)]
  refine ⟨⟨((((h1.both (lk_0 (j := 1) hN rfl) _).both (lk_0 (j := 2) hN rfl) _).both (lk_0 (j := 3) hN rfl) _).both (lk_0 (j := 4) hN rfl) _).both (k := 6) (i := 0) (j := 4) rfl _, fun K hK' => hPI K hK', og_eq h3 (fun k => rfl) (fun k => rfl) (fun k => rfl) (fun k => rfl) rfl⟩, ⟨?_, c2, c3, fun ch hch => ?_, c5⟩, h5.frame (fun _ => rfl) (Nat.le_refl _)⟩
  · obtain ⟨g1, g2, g3, n, g4, g5⟩ := c1
    exact ⟨g1, g2, g3, N + 1, by omega, rfl⟩
  · by_cases ee : ch = N
    · subst ee
      obtain ⟨j5, j6, j7⟩ := (hJ h7).2 ch hch
      refine ⟨0, 0, by decide, by decide, by rw [f1 5 (by decide)]; exact j5, by rw [f1 6 (by decide)]; exact j6, fun j hj => absurd hj (by omega), fun _ => ⟨rfl, by decide, fun _ => by rw [f1 7 (by decide)]; exact j7, fun z => absurd z (by decide)⟩, fun z => ⟨by rw [f1 7 (by decide)]; exact j7, ?_⟩⟩
      have z : ¬ x1 = 0 := by
        rw [up_nk (by decide), up_nj (by decide), up_nj (by decide), up_nj (by decide), up_eq] at z
        exact z
      rcases hq with hq | ⟨-, l, hl, e4⟩
      · exact absurd hq z
      · exact ⟨l, hl, by rw [up_nk (by decide), up_eq]; exact e4, by omega⟩
    · obtain ⟨hd, n, g1, g2, g3, g4, g5, g6, g7⟩ := c4 ch hch
      refine ⟨hd, n, g1, g2, by rw [f0 ch _ ee]; exact g3, by rw [f0 ch _ ee]; exact g4, g5, ?_, ?_⟩
      · rw [f0 ch _ ee, f0 ch _ ee]; exact g6
      · rw [f0 ch _ ee, f0 ch _ ee, f0 ch _ ee]; exact g7
theorem opn_both (h : KI b σ0 μ0 σ μ) (hJ : NB σ) (hx : x1 = 0 ∨ x1 = 1) (h7 : σ 6 0 7 = 0) (hq : (x1 = 0) ∨ (¬ x1 = 0 ∧ ∃ l, l ≤ 8 ∧ x4 = nI l)) : (∃ N, N < 8 ∧ σ 6 0 4 = nI N ∧ μ 7 0 28 = nI N ∧ (∀ d, Sp (d + 1) 2 [.inr (some (0, N)), .inl x1, .inl x2, .inl x3, .inl x4] σ (.inl none) (mq_up (mq_up (mq_up (mq_up σ 0 N 1 x1) 0 N 2 x2) 0 N 3 x3) 0 N 4 x4)) ∧ KI b σ (mq_up μ 7 0 0 0) (mq_up (mq_up (mq_up (mq_up (mq_up σ 0 N 1 x1) 0 N 2 x2) 0 N 3 x3) 0 N 4 x4) 6 0 4 (nI (N + 1))) (mq_up (mq_up (mq_up (mq_up (mq_up (mq_up μ 7 0 0 0) 32 0 N x1) 11 12 N x2) 11 13 N x3) 11 14 N x4) 7 0 28 (nI (N + 1))) ∧ NB (mq_up (mq_up (mq_up (mq_up (mq_up σ 0 N 1 x1) 0 N 2 x2) 0 N 3 x3) 0 N 4 x4) 6 0 4 (nI (N + 1)))) ∨ (σ 6 0 4 = nI 8 ∧ μ 7 0 28 = nI 8) := by
  obtain ⟨N, hN, hc⟩ := h.2.1.1.2.2.2
  have hm : μ 7 0 28 = nI N := (h.1.1.get (k := 6) (i := 0) (j := 4) rfl).trans hc
  by_cases hN8 : N < 8
  · refine Or.inl ⟨N, hN8, hc, hm, fun d => P2_1 hx, (h.thr 0).opn hJ hN8 h7 hq, fun _ => ⟨(hJ h7).1, fun ch hch => ?_⟩⟩
    have f : ∀ j, 5 ≤ j → mq_up (mq_up (mq_up (mq_up (mq_up σ 0 N 1 x1) 0 N 2 x2) 0 N 3 x3) 0 N 4 x4) 6 0 4 (nI (N + 1)) 0 ch j = σ 0 ch j := fun j hj => by
      rw [up_nk (by decide), up_nj (by omega), up_nj (by omega), up_nj (by omega), up_nj (by omega)]
    rw [f 5 (by decide), f 6 (by decide), f 7 (by decide)]
    exact (hJ h7).2 ch hch
  · have hN' : N = 8 := by omega
    subst hN'
    exact Or.inr ⟨hc, hm⟩
theorem set_channel (h : KI b σ0 μ0 σ μ) (hJ : NB σ) (hx : x1 = 0 ∨ x1 = 1) : OW kd3 b σ μ (Sp (d + 3) 73 [.inr (some (6, 0)), .inl x1, .inl x2, .inl x3, .inl x4] σ) (Sp (e + 2) 137 [.inr (some (7, 0)), .inl x1, .inl x2, .inl x3, .inl x4] μ) := by
  have e7 : μ 7 0 1 = σ 6 0 7 := h.1.1.get (k := 6) (i := 0) (j := 7) rfl
  by_cases h2 : in01 x2 4 = 0
  · exact OW.thr h hJ (P73_1 S86 h2) (P137_1 S101 h2 (by decide)) (Or.inl ⟨rfl, rfl⟩)
  · by_cases h3 : in01 x3 4 = 0
    · exact OW.thr h hJ (P73_2 S86 h2 S86 h3) (P137_3 S101 h2 S101 h3 (by decide)) (Or.inl ⟨rfl, rfl⟩)
    · have fin : ∀ N : Nat, N < 8 → nI N < 8 ∧ ¬ (nI N < 0 ∨ 8 ≤ (nI N).toNatClampNeg) ∧ ¬ nI N = 8 ∧ (nI N).toNatClampNeg = N := fun N hN => ⟨(nI_ltI (b := 8) (by omega) (by decide)).mpr hN, nI_in hN (by decide), fun z => absurd ((nI_eq (b := 8) (by omega) (by decide)).mp z) (by omega), nI_clamp (by omega)⟩
      by_cases hx1 : x1 = 0
      · by_cases h4 : in01 x4 100001 = 0
        · exact OW.thr h hJ (P73_3 S86 h2 S86 h3 hx1 S88 h4) (P137_5 S101 h2 S101 h3 hx1 S101 h4 (by decide)) (Or.inr (Or.inl ⟨rfl, rfl⟩))
        · by_cases h7 : σ 6 0 7 = 0
          · rcases opn_both (x2 := x2) (x3 := x3) (x4 := x4) h hJ hx h7 (Or.inl hx1) with ⟨N, hN, hc, hm, o1, o2, o3⟩ | ⟨hc, hm⟩
            · obtain ⟨n1, n2, n3, n4⟩ := fin N hN
              have t1 := P73_4 (d := d + 2) (σ := σ) (x1 := x1) (x2 := x2) (x3 := x3) (x4 := x4) S86 h2 S86 h3 hx1 S88 h4 h7 (by rw [hc]; exact n1) (by rw [hc]; exact n2) (by rw [hc, n4]; exact o1 _)
              have t2 := P137_10 (d := e + 1) (σ := μ) (x1 := x1) (x2 := x2) (x3 := x3) (x4 := x4) S101 h2 S101 h3 hx1 S101 h4 (by rw [e7]; exact h7) (by rw [hm]; exact n3) (by decide) (by rw [hm]; exact n2) hx
              have t1 : Sp (d + 3) 73 [.inr (some (6, 0)), .inl x1, .inl x2, .inl x3, .inl x4] σ (.inl (some (.inl (σ 6 0 4 + 1 - 1)))) (mq_up (mq_up (mq_up (mq_up (mq_up σ 0 N 1 x1) 0 N 2 x2) 0 N 3 x3) 0 N 4 x4) 6 0 4 (σ 6 0 4 + 1)) := t1
              rw [hc, nI_1] at t1
              rw [hm, n4, nI_1] at t2
              exact ⟨0, _, _, _, _, t1, t2, o2, o3, Or.inl ⟨rfl, rfl⟩⟩
            · exact OW.thr h hJ (P73_5 S86 h2 S86 h3 hx1 S88 h4 h7 (by rw [hc]; decide)) (P137_7 S101 h2 S101 h3 hx1 S101 h4 (by rw [e7]; exact h7) (by rw [hm]; rfl) (by decide)) (Or.inr (Or.inr ⟨rfl, rfl⟩))
          · exact OW.thr h hJ (P73_6 S86 h2 S86 h3 hx1 S88 h4 h7) (P137_11 S101 h2 S101 h3 hx1 S101 h4 (by rw [e7]; exact h7) (by decide)) (Or.inr (Or.inr ⟨rfl, rfl⟩))
      · by_cases h1 : x4 < 1
        · exact OW.thr h hJ (P73_7 S86 h2 S86 h3 hx1 h1) (P137_13 S101 h2 S101 h3 hx1 h1 (by decide)) (Or.inr (Or.inl ⟨rfl, rfl⟩))
        · by_cases h8 : 8 < x4
          · exact OW.thr h hJ (P73_8 S86 h2 S86 h3 hx1 h1 h8) (P137_15 S101 h2 S101 h3 hx1 h1 h8 (by decide)) (Or.inr (Or.inl ⟨rfl, rfl⟩))
          · by_cases h7 : σ 6 0 7 = 0
            · have h0 : ¬ x4 < 0 := fun z => h1 (Int32.lt_trans z (by decide))
              obtain ⟨l, hl, hxl⟩ := nI_of h0
              have hl8 : l ≤ 8 := Nat.le_of_not_lt fun z => h8 (by rw [hxl]; exact (nI_ltI (a := 8) (by decide) hl).mpr z)
              rcases opn_both (x2 := x2) (x3 := x3) (x4 := x4) h hJ hx h7 (Or.inr ⟨hx1, l, hl8, hxl⟩) with ⟨N, hN, hc, hm, o1, o2, o3⟩ | ⟨hc, hm⟩
              · obtain ⟨n1, n2, n3, n4⟩ := fin N hN
                have t1 := P73_9 (d := d + 2) (σ := σ) (x1 := x1) (x2 := x2) (x3 := x3) (x4 := x4) S86 h2 S86 h3 hx1 h1 h8 h7 (by rw [hc]; exact n1) (by rw [hc]; exact n2) (by rw [hc, n4]; exact o1 _)
                have t2 := P137_20 (d := e + 1) (σ := μ) (x1 := x1) (x2 := x2) (x3 := x3) (x4 := x4) S101 h2 S101 h3 hx1 h1 h8 (by rw [e7]; exact h7) (by rw [hm]; exact n3) (by decide) (by rw [hm]; exact n2) hx
                have t1 : Sp (d + 3) 73 [.inr (some (6, 0)), .inl x1, .inl x2, .inl x3, .inl x4] σ (.inl (some (.inl (σ 6 0 4 + 1 - 1)))) (mq_up (mq_up (mq_up (mq_up (mq_up σ 0 N 1 x1) 0 N 2 x2) 0 N 3 x3) 0 N 4 x4) 6 0 4 (σ 6 0 4 + 1)) := t1
                rw [hc, nI_1] at t1
                rw [hm, n4, nI_1] at t2
                exact ⟨0, _, _, _, _, t1, t2, o2, o3, Or.inl ⟨rfl, rfl⟩⟩
              · exact OW.thr h hJ (P73_10 S86 h2 S86 h3 hx1 h1 h8 h7 (by rw [hc]; decide)) (P137_17 S101 h2 S101 h3 hx1 h1 h8 (by rw [e7]; exact h7) (by rw [hm]; rfl) (by decide)) (Or.inr (Or.inr ⟨rfl, rfl⟩))
            · exact OW.thr h hJ (P73_11 S86 h2 S86 h3 hx1 h1 h8 h7) (P137_21 S101 h2 S101 h3 hx1 h1 h8 (by rw [e7]; exact h7) (by decide)) (Or.inr (Or.inr ⟨rfl, rfl⟩))
end SET
