/-! class and reference side by side: what is the same, what is kept -/
def kr_t (N : Nat) (σ : kx_S) (μ : km_S) (t : Nat) : Prop :=
  (kI σ 10 t = mI μ 4 t ∧ kI σ 16 t = mI μ 8 t ∧ kI σ 13 t = mI μ 15 t ∧ kI σ 14 t = mI μ 7 t ∧ (kI σ 17 t = mI μ 12 t ∧ vp_in (kI σ 17 t) 4) ∧ kI σ 19 t = mI μ 13 t ∧ kI σ 20 t = mI μ 14 t) ∧
  (¬ kI σ 10 t = 0 → kI σ 11 t = mI μ 5 t ∧ kI σ 15 t = mI μ 11 t) ∧
  ((kJ σ 1 t = 1000000000000 ∧ mI μ 10 t = 0) ∨ ∃ d : Nat, 0 < d ∧ d < 2 ^ 30 ∧ kJ σ 1 t = lN d ∧ mI μ 10 t = nI d ∧ kI σ 10 t = 2) ∧
  (¬ kI σ 10 t = 2 → kI σ 16 t = 0) ∧
  (kI σ 10 t = 1 → ∃ a, a ≤ N ∧ kJ σ 0 t = lN a ∧ mI μ 6 t = nI a) ∧
  (kI σ 10 t = 2 → ∃ a, a ≤ N ∧ kJ σ 0 t = lN a ∧ mI μ 9 t = nI a) ∧
  (∀ m : Nat, m < 4 → kI σ 16 t = 10 + nI m → (mI μ 16 t = 0 → kI σ 18 t = 0) ∧ (¬ mI μ 16 t = 0 → kI σ 18 t = mI μ 11 t))
def kr_g (N B : Nat) (σ : kx_S) (μ : km_S) : Prop :=
  kI σ 0 0 = mI μ 0 0 ∧ kI σ 1 0 = mI μ 1 0 ∧ (∃ T, T ≤ B ∧ kI σ 2 0 = nI T ∧ mI μ 2 0 = nI T) ∧ ∃ n, n ≤ N ∧ kJ σ 2 0 = lN n ∧ mI μ 3 0 = nI n
def kr_o (σ : kx_S) (μ : km_S) : Prop := ∀ m, m < 4 → kI σ 3 m = mI μ 17 m ∧ (kI σ 3 m = -1 ∨ ∃ t, t < 8 ∧ kI σ 3 m = nI t ∧ (kI σ 10 t = 1 ∨ kI σ 10 t = 2))
def kr_v (σ : kx_S) (μ : km_S) : Prop := ∀ s, s < 2 → kI σ 4 s = mI μ 18 s ∧ ∃ j, j ≤ 99 ∧ kI σ 4 s = nI j
def kr_q (σ : kx_S) (μ : km_S) : Prop := ∀ q, q < 2 → ∃ j, j ≤ 4 ∧ kI σ 9 q = nI j ∧ mI μ 19 q = nI j ∧ ∀ i, i < j → kI σ (5 + q) i = mI μ 20 (4 * q + i) ∧ kI σ (7 + q) i = mI μ 21 (4 * q + i)
def kr_b (x : Nat) (σ : kx_S) : Prop := ∀ t q, t < 8 → q < 2 → ¬ q = x → (kI σ 16 t = 40 + nI q → kI σ 9 q = 4) ∧ (kI σ 16 t = 50 + nI q → kI σ 9 q = 0)
def kr (N B x : Nat) (σ : kx_S) (μ : km_S) : Prop := kr_g N B σ μ ∧ kr_o σ μ ∧ kr_v σ μ ∧ kr_q σ μ ∧ kr_b x σ ∧ ∀ t, t < 8 → kr_t N σ μ t
theorem kr_t_fr {N N' : Nat} {σ σ' : kx_S} {μ μ' : km_S} {t : Nat} (hN : N ≤ N') (hx : ∀ f, 10 ≤ f → f ≠ 12 → kI σ' f t = kI σ f t) (hj : ∀ f, f < 2 → kJ σ' f t = kJ σ f t) (hm : ∀ f, 4 ≤ f → f ≤ 16 → mI μ' f t = mI μ f t) (h : kr_t N σ μ t) : kr_t N' σ' μ' t := by
  unfold kr_t at h ⊢
  rw [hx 10 (by decide) (by decide), hx 16 (by decide) (by decide), hx 13 (by decide) (by decide), hx 14 (by decide) (by decide), hx 17 (by decide) (by decide), hx 19 (by decide) (by decide), hx 20 (by decide) (by decide), hx 11 (by decide) (by decide), hx 15 (by decide) (by decide), hx 18 (by decide) (by decide), hj 0 (by decide), hj 1 (by decide),
    hm 4 (by decide) (by decide), hm 8 (by decide) (by decide), hm 15 (by decide) (by decide), hm 7 (by decide) (by decide), hm 12 (by decide) (by decide), hm 13 (by decide) (by decide), hm 14 (by decide) (by decide), hm 5 (by decide) (by decide), hm 11 (by decide) (by decide), hm 10 (by decide) (by decide), hm 6 (by decide) (by decide), hm 9 (by decide) (by decide), hm 16 (by decide) (by decide)]
  obtain ⟨h1, h2, h3, h4, h5, h6, h7⟩ := h
  refine ⟨h1, h2, h3, h4, fun e => ?_, fun e => ?_, h7⟩
  · obtain ⟨a, ha, r⟩ := h5 e; exact ⟨a, Nat.le_trans ha hN, r⟩
  · obtain ⟨a, ha, r⟩ := h6 e; exact ⟨a, Nat.le_trans ha hN, r⟩
theorem kr_up {N N' B x : Nat} {σ σ' : kx_S} {μ μ' : km_S} {t : Nat} (h : kr N B x σ μ) (hN : N ≤ N')
    (hx : ∀ f i, f ≠ 12 → ¬ (10 ≤ f ∧ i = t) → kI σ' f i = kI σ f i)
    (hj : ∀ f i, f < 2 → i ≠ t → kJ σ' f i = kJ σ f i)
    (hm : ∀ f i, f ≠ 22 → f ≠ 3 → ¬ (4 ≤ f ∧ f ≤ 16 ∧ i = t) → mI μ' f i = mI μ f i)
    (hc : ∃ n, n ≤ N' ∧ kJ σ' 2 0 = lN n ∧ mI μ' 3 0 = nI n)
    (ht : kr_t N' σ' μ' t)
    (hb : ∀ q, q < 2 → ¬ q = x → (kI σ' 16 t = 40 + nI q → kI σ 9 q = 4) ∧ (kI σ' 16 t = 50 + nI q → kI σ 9 q = 0))
    (ho : (kI σ' 10 t = 1 ∨ kI σ' 10 t = 2) ∨ ∀ m, m < 4 → ¬ kI σ 3 m = nI t) : kr N' B x σ' μ' := by
  obtain ⟨⟨g1, g2, ⟨T, gT, g3, g4⟩, -⟩, o, v, q, b, th⟩ := h
  refine ⟨⟨?_, ?_, ⟨T, gT, ?_, ?_⟩, hc⟩, ?_, ?_, ?_, ?_, ?_⟩
  · rw [hx 0 0 (by decide) (by omega), hm 0 0 (by decide) (by decide) (by omega)]; exact g1
  · rw [hx 1 0 (by decide) (by omega), hm 1 0 (by decide) (by decide) (by omega)]; exact g2
  · rw [hx 2 0 (by decide) (by omega)]; exact g3
  · rw [hm 2 0 (by decide) (by decide) (by omega)]; exact g4
  · intro m h4
    rw [hx 3 m (by decide) (by omega), hm 17 m (by decide) (by decide) (by omega)]
    obtain ⟨a, c⟩ := o m h4
    refine ⟨a, ?_⟩
    rcases c with c | ⟨t2, c1, c2, c3⟩
    · exact Or.inl c
    · refine Or.inr ⟨t2, c1, c2, ?_⟩
      by_cases e : t2 = t
      · subst e
        rcases ho with ho | ho
        · exact ho
        · exact absurd c2 (ho m h4)
      · rw [hx 10 t2 (by decide) (by omega)]; exact c3
  · intro s hs
    rw [hx 4 s (by decide) (by omega), hm 18 s (by decide) (by decide) (by omega)]; exact v s hs
  · intro q2 hq
    obtain ⟨j, hj4, e1, e2, e3⟩ := q q2 hq
    refine ⟨j, hj4, ?_, ?_, fun i hi => ?_⟩
    · rw [hx 9 q2 (by decide) (by omega)]; exact e1
    · rw [hm 19 q2 (by decide) (by decide) (by omega)]; exact e2
    · rw [hx (5 + q2) i (by omega) (by omega), hx (7 + q2) i (by omega) (by omega), hm 20 _ (by decide) (by decide) (by omega), hm 21 _ (by decide) (by decide) (by omega)]
      exact e3 i hi
  · intro t2 q2 ht2 hq hqx
    rw [hx 9 q2 (by decide) (by omega)]
    by_cases e : t2 = t
    · subst e; exact hb q2 hq hqx
    · rw [hx 16 t2 (by decide) (by omega)]; exact b t2 q2 ht2 hq hqx
  · intro t2 ht2
    by_cases e : t2 = t
    · subst e; exact ht
    · exact kr_t_fr hN (fun f h1 h2 => hx f t2 h2 (by omega)) (fun f h1 => hj f t2 h1 e) (fun f h1 h2 => hm f t2 (by omega) (by omega) (by omega)) (th t2 ht2)
/-- nothing but the weighing has changed -/
theorem kr_fr {N B x : Nat} {σ σ' : kx_S} {μ μ' : km_S} (h : kr N B x σ μ) (hx : ∀ f i, f ≠ 12 → kI σ' f i = kI σ f i) (hj : ∀ f i, kJ σ' f i = kJ σ f i) (hm : ∀ f i, f ≠ 22 → mI μ' f i = mI μ f i) : kr N B x σ' μ' := by
  have h8 := h
  obtain ⟨⟨-, -, -, n, n1, n2, n3⟩, -, -, -, b, th⟩ := h8
  by_cases e : 9 < 8
  · omega
  · refine kr_up (t := 0) h (Nat.le_refl N) (fun f i h1 _ => hx f i h1) (fun f i _ _ => hj f i) (fun f i h1 _ _ => hm f i h1) ⟨n, n1, by rw [hj]; exact n2, by rw [hm _ _ (by decide)]; exact n3⟩ (kr_t_fr (Nat.le_refl N) (fun f _ h2 => hx f 0 h2) (fun f _ => hj f 0) (fun f _ h2 => hm f 0 (by omega)) (th 0 (by decide))) (fun q hq hqx => ?_) ?_
    · rw [hx 16 0 (by decide)]; exact b 0 q (by decide) hq hqx
    · rw [hx 10 0 (by decide)]
      by_cases e1 : kI σ 10 0 = 1
      · exact Or.inl (Or.inl e1)
      · by_cases e2 : kI σ 10 0 = 2
        · exact Or.inl (Or.inr e2)
        · refine Or.inr (fun m hm4 e3 => ?_)
          rcases (h.2.1 m hm4).2 with c | ⟨t2, c1, c2, c3⟩
          · rw [c] at e3; exact absurd e3 (by decide)
          · rw [c2] at e3
            have := (nI_eq (a := t2) (b := 0) (by omega) (by omega)).mp e3
            subst this
            rcases c3 with c3 | c3
            · exact e1 c3
            · exact e2 c3
theorem kr_mono {N N' B x : Nat} {σ : kx_S} {μ : km_S} (hN : N ≤ N') (h : kr N B x σ μ) : kr N' B x σ μ := by
  obtain ⟨⟨g1, g2, g3, n, n1, n2⟩, o, v, q, b, th⟩ := h
  exact ⟨⟨g1, g2, g3, n, Nat.le_trans n1 hN, n2⟩, o, v, q, b, fun t ht => kr_t_fr hN (fun _ _ _ => rfl) (fun _ _ => rfl) (fun _ _ _ => rfl) (th t ht)⟩
theorem kr_monoB {N B B' x : Nat} {σ : kx_S} {μ : km_S} (hB : B ≤ B') (h : kr N B x σ μ) : kr N B' x σ μ := by
  obtain ⟨⟨g1, g2, ⟨T, t1, t2⟩, n⟩, r⟩ := h
  exact ⟨⟨g1, g2, ⟨T, Nat.le_trans t1 hB, t2⟩, n⟩, r⟩
theorem kr_own {N B x : Nat} {σ : kx_S} {μ : km_S} {m : Nat} {v : Int32} (h : kr N B x σ μ) (hv : v = -1 ∨ ∃ t, t < 8 ∧ v = nI t ∧ (kI σ 10 t = 1 ∨ kI σ 10 t = 2)) : kr N B x (sI σ 3 m v) (sM μ 17 m v) := by
  obtain ⟨g, o, vv, q, b, th⟩ := h
  refine ⟨g, fun m2 hm2 => ?_, vv, fun q2 hq2 => ?_, b, fun t ht => kr_t_fr (Nat.le_refl N) (fun f h1 _ => by rw [kI_sI, if_neg (by omega)]) (fun _ _ => rfl) (fun f h1 h2 => by rw [mI_sM, if_neg (by omega)]) (th t ht)⟩
  · rw [kI_sI, mI_sM]
    by_cases e : m2 = m
    · rw [if_pos ⟨rfl, e⟩, if_pos ⟨rfl, e⟩]
      exact ⟨rfl, hv⟩
    · rw [if_neg (fun z => e z.2), if_neg (fun z => e z.2)]
      exact o m2 hm2
  · obtain ⟨j, j1, j2, j3, j4⟩ := q q2 hq2
    refine ⟨j, j1, j2, j3, fun i hi => ?_⟩
    rw [kI_sI, if_neg (by omega), kI_sI, if_neg (by omega)]
    exact j4 i hi
