/-! what the class's weighing leaves alone; numbers out of range; a result is set; a mutex is given, taken again -/
theorem xf_L13_fr : ∀ (n k : Nat) (r : Int32) (σ : kx_S) (f i : Nat), (f ≠ 12 → kI (xf_inheritOnce_L13 n k r σ).2 f i = kI σ f i) ∧ kJ (xf_inheritOnce_L13 n k r σ).2 f i = kJ σ f i := by
  intro n
  induction n with
  | zero => intro k r σ f i; exact ⟨fun _ => rfl, rfl⟩
  | succ n ih =>
    intro k r σ f i
    rw [xf_inheritOnce_L13, kk_b_eq (xf_heir σ k)]
    split
    · exact ih _ _ _ _ _
    · split
      · exact ih _ _ _ _ _
      · refine ⟨fun hf => ?_, (ih _ _ _ _ _).2⟩
        rw [(ih _ _ _ _ _).1 hf, kI_sI, if_neg (fun z => hf z.1)]
theorem xf_L69_fr : ∀ (n k : Nat) (r : Int32) (σ : kx_S) (f i : Nat), (f ≠ 12 → kI (xf_work_L69 n k r σ) f i = kI σ f i) ∧ kJ (xf_work_L69 n k r σ) f i = kJ σ f i := by
  intro n
  induction n with
  | zero => intro k r σ f i; exact ⟨fun _ => rfl, rfl⟩
  | succ n ih =>
    intro k r σ f i
    rw [xf_work_L69]
    split
    · exact ⟨fun _ => rfl, rfl⟩
    · rw [kk_b]
      refine ⟨fun hf => ?_, ?_⟩
      · rw [(ih _ _ _ _ _).1 hf]; exact (xf_L13_fr 8 0 0 σ f i).1 hf
      · rw [(ih _ _ _ _ _).2]; exact (xf_L13_fr 8 0 0 σ f i).2
theorem xf_L10_fr : ∀ (n k : Nat) (σ : kx_S) (f i : Nat), (f ≠ 12 → kI (xf_work_L10 n k σ) f i = kI σ f i) ∧ kJ (xf_work_L10 n k σ) f i = kJ σ f i := by
  intro n
  induction n with
  | zero => intro k σ f i; exact xf_L69_fr _ _ _ _ _ _
  | succ n ih =>
    intro k σ f i
    rw [xf_work_L10]
    split
    · exact ⟨fun hf => by rw [(ih _ _ _ _).1 hf, kI_sI, if_neg (fun z => hf z.1)], (ih _ _ _ _).2⟩
    · exact ⟨fun hf => by rw [(ih _ _ _ _).1 hf, kI_sI, if_neg (fun z => hf z.1)], (ih _ _ _ _).2⟩
theorem xf_work_fr (σ : kx_S) (f i : Nat) : (f ≠ 12 → kI (xf_work σ) f i = kI σ f i) ∧ kJ (xf_work σ) f i = kJ σ f i := xf_L10_fr 8 0 σ f i
theorem xf_L20_st (s w : Int32) : ∀ (n k : Nat) (best : Option Nat) (σ : kx_S), (xf_foremost_L20 s w n k best σ).2 = σ := by
  intro n
  induction n with
  | zero => intro k best σ; rw [xf_foremost_L20]; cases best <;> rfl
  | succ n ih =>
    intro k best σ
    rw [xf_foremost_L20]
    cases best with
    | none => rw [kk_o_none]; repeat' split
              all_goals exact ih _ _ _
    | some t => rw [kk_o_some, kk_b_eq (xf_ahead σ k t)]; repeat' split
                all_goals exact ih _ _ _
theorem xf_L20_none (s w : Int32) : ∀ (n k : Nat) (best : Option Nat) (σ : kx_S), n + k = 8 → (xf_foremost_L20 s w n k best σ).1 = none → best = none ∧ ∀ t, k ≤ t → t < 8 → ¬ (kI σ 10 t = s ∧ kI σ 16 t = w) := by
  intro n
  induction n with
  | zero =>
    intro k best σ hnk h
    rw [xf_foremost_L20] at h
    cases best with
    | none => exact ⟨rfl, fun t h1 h2 => by omega⟩
    | some t => cases h
  | succ n ih =>
    intro k best σ hnk h
    rw [xf_foremost_L20] at h
    cases best with
    | none =>
      rw [kk_o_none] at h
      refine ⟨rfl, fun t h1 h2 z => ?_⟩
      by_cases c1 : kI σ 10 k = s
      · rw [if_pos c1] at h
        by_cases c2 : kI σ 16 k = w
        · rw [if_pos c2] at h
          have := (ih _ _ _ (by omega) h).1
          cases this
        · rw [if_neg c2] at h
          by_cases e : t = k
          · subst e; exact c2 z.2
          · exact (ih _ _ _ (by omega) h).2 t (by omega) h2 z
      · rw [if_neg c1] at h
        by_cases e : t = k
        · subst e; exact c1 z.1
        · exact (ih _ _ _ (by omega) h).2 t (by omega) h2 z
    | some t0 =>
      exfalso
      rw [kk_o_some, kk_b_eq (xf_ahead σ k t0)] at h
      have key : ∀ b : Nat, (xf_foremost_L20 s w n (k + 1) (some b) σ).1 = none → False := fun b hb => by
        have := (ih _ _ _ (by omega) hb).1
        cases this
      by_cases c1 : kI σ 10 k = s
      · rw [if_pos c1] at h
        by_cases c2 : kI σ 16 k = w
        · rw [if_pos c2] at h
          by_cases c3 : (if kI σ 12 t0 < kI σ 12 k ∨ (kI σ 12 k = kI σ 12 t0 ∧ kJ σ 0 k < kJ σ 0 t0) then (1 : Int32) else 0) = 0
          · rw [if_pos c3] at h; exact key _ h
          · rw [if_neg c3] at h; exact key _ h
        · rw [if_neg c2] at h; exact key _ h
      · rw [if_neg c1] at h; exact key _ h
theorem xf_fw_eq (σ : kx_S) (w : Int32) : xf_firstWaiter σ w = xf_foremost_L20 2 w 8 0 none (xf_work σ) := by
  rw [xf_firstWaiter, xf_foremost, kk_v]
  obtain ⟨o3, σ3, e3⟩ : ∃ o3 σ3, xf_foremost_L20 2 w 8 0 none (xf_work σ) = (o3, σ3) := ⟨_, _, rfl⟩
  rw [kk_b_eq e3, e3]
  cases o3 <;> rfl
theorem xf_run_eq (σ : kx_S) : xf_runner σ = xf_foremost_L20 1 0 8 0 none (xf_work σ) := by
  rw [xf_runner, xf_foremost, kk_v]
  obtain ⟨o3, σ3, e3⟩ : ∃ o3 σ3, xf_foremost_L20 1 0 8 0 none (xf_work σ) = (o3, σ3) := ⟨_, _, rfl⟩
  rw [kk_b_eq e3, e3]
  cases o3 <;> rfl
theorem xf_fw_st {σ σ2 : kx_S} {w : Int32} {o : Option Nat} (h : xf_firstWaiter σ w = (o, σ2)) : σ2 = xf_work σ := by
  rw [xf_fw_eq] at h
  have := xf_L20_st 2 w 8 0 none (xf_work σ)
  rw [h] at this
  exact this
theorem xf_fw_none {σ σ2 : kx_S} {w : Int32} (h : xf_firstWaiter σ w = (none, σ2)) : ∀ t, t < 8 → ¬ (kI σ2 10 t = 2 ∧ kI σ2 16 t = w) := by
  have e := xf_fw_st h
  rw [xf_fw_eq] at h
  have h2 := (xf_L20_none 2 w 8 0 none (xf_work σ) rfl (by rw [h])).2
  rw [e]
  exact fun t ht => h2 t (Nat.zero_le t) ht
theorem xf_fw_fr {σ σ2 : kx_S} {w : Int32} {o : Option Nat} (h : xf_firstWaiter σ w = (o, σ2)) (f i : Nat) (hf : f ≠ 12) : kI σ2 f i = kI σ f i := by
  rw [xf_fw_st h]; exact (xf_work_fr σ f i).1 hf
theorem kk_lt_iff {x y : Int32} : x < y ↔ x.toInt < y.toInt := Int32.lt_iff_toInt_lt
theorem kk_le_iff {x y : Int32} : x ≤ y ↔ x.toInt ≤ y.toInt := Int32.le_iff_toInt_le
theorem kk_bo (x n : Int32) : xf_isBelow x n = 0 ↔ ¬ mf_out x n = 0 := by
  unfold xf_isBelow mf_out
  by_cases c : x < 0
  · rw [if_pos c, if_pos c]; exact ⟨fun _ => by decide, fun _ => rfl⟩
  · rw [if_neg c, if_neg c]
    by_cases d : n ≤ x
    · rw [if_pos d, if_neg (Int32.not_lt.mpr d)]; exact ⟨fun _ => by decide, fun _ => rfl⟩
    · rw [if_neg d, if_pos (Int32.not_le.mp d)]; exact ⟨fun z => absurd z (by decide), fun z => absurd rfl z⟩
theorem kk_bt (x : Int32) : xf_isTimeout x = 0 ↔ ¬ mf_out x 1001 = 0 := by
  unfold xf_isTimeout mf_out
  by_cases c : x < 0
  · rw [if_pos c, if_pos c]; exact ⟨fun _ => by decide, fun _ => rfl⟩
  · rw [if_neg c, if_neg c]
    have e : (1000 : Int32) < x ↔ ¬ x < 1001 := by
      rw [kk_lt_iff, kk_lt_iff, show (1000 : Int32).toInt = 1000 from by decide, show (1001 : Int32).toInt = 1001 from by decide]
      omega
    by_cases d : (1000 : Int32) < x
    · rw [if_pos d, if_neg (e.mp d)]; exact ⟨fun _ => by decide, fun _ => rfl⟩
    · rw [if_neg d]
      by_cases g : x < 1001
      · rw [if_pos g]; exact ⟨fun z => absurd z (by decide), fun z => absurd rfl z⟩
      · exact absurd (e.mpr g) d
theorem kk_tm {x : Int32} (h : ¬ xf_isTimeout x = 0) : ∃ j : Nat, j ≤ 1000 ∧ x = nI j := by
  unfold xf_isTimeout at h
  by_cases c : x < 0
  · rw [if_pos c] at h; exact absurd rfl h
  · rw [if_neg c] at h
    by_cases d : (1000 : Int32) < x
    · rw [if_pos d] at h; exact absurd rfl h
    · exact nI_of2 (M := 1000) (by decide) c (Int32.not_lt.mp d)
theorem kr_ho {N B x : Nat} {σ : kx_S} {μ : km_S} (h : kr N B x σ μ) (t : Nat) (ht : t < 8) : (kI σ 10 t = 1 ∨ kI σ 10 t = 2) ∨ ∀ m, m < 4 → ¬ kI σ 3 m = nI t := by
  by_cases e1 : kI σ 10 t = 1
  · exact Or.inl (Or.inl e1)
  · by_cases e2 : kI σ 10 t = 2
    · exact Or.inl (Or.inr e2)
    · refine Or.inr (fun m hm4 e3 => ?_)
      rcases (h.2.1 m hm4).2 with c | ⟨t2, c1, c2, c3⟩
      · rw [c] at e3
        have := nI_pos (n := t) (by omega)
        rw [← e3] at this
        exact this (by decide)
      · rw [c2] at e3
        have := (nI_eq (a := t2) (b := t) (by omega) (by omega)).mp e3
        subst this
        rcases c3 with c3 | c3
        · exact e1 c3
        · exact e2 c3
/-- a thread's cells change, not its state nor what it is blocked on -/
theorem kr_th {N B x : Nat} {σ σ' : kx_S} {μ μ' : km_S} {t : Nat} (h : kr N B x σ μ) (ht : t < 8) (hx : ∀ f i, ¬ (10 ≤ f ∧ i = t) → kI σ' f i = kI σ f i) (hj : ∀ f i, kJ σ' f i = kJ σ f i) (hm : ∀ f i, ¬ (4 ≤ f ∧ f ≤ 16 ∧ i = t) → mI μ' f i = mI μ f i)
    (e1 : kI σ' 10 t = kI σ 10 t) (e2 : kI σ' 16 t = kI σ 16 t) (h2 : kr_t N σ' μ' t) : kr N B x σ' μ' := by
  obtain ⟨n, hn, n1, n2⟩ := h.1.2.2.2
  refine kr_up (t := t) h (Nat.le_refl N) (fun f i _ h3 => hx f i h3) (fun f i _ _ => hj f i) (fun f i _ _ h3 => hm f i h3) ⟨n, hn, by rw [hj]; exact n1, by rw [hm 3 0 (by omega)]; exact n2⟩ h2 (fun q hq hqx => ?_) ?_
  · rw [e2]; exact h.2.2.2.2.1 t q ht hq hqx
  · rw [e1]; exact kr_ho h t ht
theorem kr_res {N B x : Nat} {σ : kx_S} {μ : km_S} {t : Nat} (v : Int32) (h : kr N B x σ μ) (ht : t < 8) (hm : ∀ m, m < 4 → ¬ kI σ 16 t = 10 + nI m) : kr N B x (sI σ 15 t v) (sM μ 11 t v) := by
  obtain ⟨⟨a1, a2, a3, a4, a5, a6, a7⟩, b, c, d, e, f, g⟩ := h.2.2.2.2.2 t ht
  refine kr_th h ht (fun f i h1 => by rw [kI_sI, if_neg (by omega)]) (fun _ _ => rfl) (fun f i h1 => by rw [mI_sM, if_neg (by omega)]) (by rw [kI_sI, if_neg (by omega)]) (by rw [kI_sI, if_neg (by omega)]) ⟨⟨?_, ?_, ?_, ?_, ⟨?_, ?_⟩, ?_, ?_⟩, ?_, ?_, ?_, ?_, ?_, ?_⟩
  · simpa [kI_sI, mI_sM] using a1
  · simpa [kI_sI, mI_sM] using a2
  · simpa [kI_sI, mI_sM] using a3
  · simpa [kI_sI, mI_sM] using a4
  · simpa [kI_sI, mI_sM] using a5.1
  · simpa [kI_sI, mI_sM] using a5.2
  · simpa [kI_sI, mI_sM] using a6
  · simpa [kI_sI, mI_sM] using a7
  · intro z; exact ⟨by simpa [kI_sI, mI_sM] using (b (by simpa [kI_sI] using z)).1, by simp [kI_sI, mI_sM]⟩
  · simpa [kI_sI, kJ_sI, mI_sM] using c
  · simpa [kI_sI, mI_sM] using d
  · simpa [kI_sI, kJ_sI, mI_sM] using e
  · simpa [kI_sI, kJ_sI, mI_sM] using f
  · intro m hm4 z; exact absurd (by simpa [kI_sI] using z) (hm m hm4)
/-- the class's note for when the mutex comes -/
theorem kr_rw {N B x : Nat} {σ : kx_S} {μ : km_S} {t : Nat} (v : Int32) (h : kr N B x σ μ) (ht : t < 8) (hm : ∀ m, m < 4 → ¬ kI σ 16 t = 10 + nI m) : kr N B x (sI σ 18 t v) μ := by
  obtain ⟨⟨a1, a2, a3, a4, a5, a6, a7⟩, b, c, d, e, f, g⟩ := h.2.2.2.2.2 t ht
  refine kr_th h ht (fun f i h1 => by rw [kI_sI, if_neg (by omega)]) (fun _ _ => rfl) (fun f i h1 => rfl) (by rw [kI_sI, if_neg (by omega)]) (by rw [kI_sI, if_neg (by omega)]) ⟨⟨?_, ?_, ?_, ?_, ⟨?_, ?_⟩, ?_, ?_⟩, ?_, ?_, ?_, ?_, ?_, ?_⟩
  · simpa [kI_sI, mI_sM] using a1
  · simpa [kI_sI, mI_sM] using a2
  · simpa [kI_sI, mI_sM] using a3
  · simpa [kI_sI, mI_sM] using a4
  · simpa [kI_sI, mI_sM] using a5.1
  · simpa [kI_sI, mI_sM] using a5.2
  · simpa [kI_sI, mI_sM] using a6
  · simpa [kI_sI, mI_sM] using a7
  · simpa [kI_sI, mI_sM] using b
  · simpa [kI_sI, kJ_sI, mI_sM] using c
  · simpa [kI_sI, mI_sM] using d
  · simpa [kI_sI, kJ_sI, mI_sM] using e
  · simpa [kI_sI, kJ_sI, mI_sM] using f
  · intro m hm4 z; exact absurd (by simpa [kI_sI] using z) (hm m hm4)
theorem kr_mind {N B x : Nat} {σ : kx_S} {μ : km_S} {t : Nat} {v : Int32} (h : kr N B x σ μ) (ht : t < 8) (hv : vp_in v 4) : kr N B x (sI σ 17 t v) (sM μ 12 t v) := by
  obtain ⟨⟨a1, a2, a3, a4, a5, a6, a7⟩, b, c, d, e, f, g⟩ := h.2.2.2.2.2 t ht
  refine kr_th h ht (fun f i h1 => by rw [kI_sI, if_neg (by omega)]) (fun _ _ => rfl) (fun f i h1 => by rw [mI_sM, if_neg (by omega)]) (by rw [kI_sI, if_neg (by omega)]) (by rw [kI_sI, if_neg (by omega)]) ⟨⟨?_, ?_, ?_, ?_, ⟨?_, ?_⟩, ?_, ?_⟩, ?_, ?_, ?_, ?_, ?_, ?_⟩
  · simpa [kI_sI, mI_sM] using a1
  · simpa [kI_sI, mI_sM] using a2
  · simpa [kI_sI, mI_sM] using a3
  · simpa [kI_sI, mI_sM] using a4
  · simp [kI_sI, mI_sM]
  · simpa [kI_sI, mI_sM] using hv
  · simpa [kI_sI, mI_sM] using a6
  · simpa [kI_sI, mI_sM] using a7
  · simpa [kI_sI, mI_sM] using b
  · simpa [kI_sI, kJ_sI, mI_sM] using c
  · simpa [kI_sI, mI_sM] using d
  · simpa [kI_sI, kJ_sI, mI_sM] using e
  · simpa [kI_sI, kJ_sI, mI_sM] using f
  · simpa [kI_sI, mI_sM] using g
theorem kr_msg {N B x : Nat} {σ : kx_S} {μ : km_S} {t : Nat} (v w : Int32) (h : kr N B x σ μ) (ht : t < 8) : kr N B x (sI (sI σ 19 t v) 20 t w) (sM (sM μ 13 t v) 14 t w) := by
  obtain ⟨⟨a1, a2, a3, a4, a5, a6, a7⟩, b, c, d, e, f, g⟩ := h.2.2.2.2.2 t ht
  refine kr_th h ht (fun f i h1 => by rw [kI_sI, if_neg (by omega), kI_sI, if_neg (by omega)]) (fun _ _ => rfl) (fun f i h1 => by rw [mI_sM, if_neg (by omega), mI_sM, if_neg (by omega)]) (by rw [kI_sI, if_neg (by omega), kI_sI, if_neg (by omega)]) (by rw [kI_sI, if_neg (by omega), kI_sI, if_neg (by omega)]) ⟨⟨?_, ?_, ?_, ?_, ⟨?_, ?_⟩, ?_, ?_⟩, ?_, ?_, ?_, ?_, ?_, ?_⟩
  · simpa [kI_sI, mI_sM] using a1
  · simpa [kI_sI, mI_sM] using a2
  · simpa [kI_sI, mI_sM] using a3
  · simpa [kI_sI, mI_sM] using a4
  · simpa [kI_sI, mI_sM] using a5.1
  · simpa [kI_sI, mI_sM] using a5.2
  · simp [kI_sI, mI_sM]
  · simp [kI_sI, mI_sM]
  · simpa [kI_sI, mI_sM] using b
  · simpa [kI_sI, kJ_sI, mI_sM] using c
  · simpa [kI_sI, mI_sM] using d
  · simpa [kI_sI, kJ_sI, mI_sM] using e
  · simpa [kI_sI, kJ_sI, mI_sM] using f
  · simpa [kI_sI, mI_sM] using g
theorem kk_nm1 {t : Nat} (ht : t < 8) : ¬ nI t = -1 := fun q => by
  have := nI_pos (n := t) (by omega)
  rw [q] at this
  exact this (by decide)
theorem kr_give {N B x j : Nat} {σ : kx_S} {μ : km_S} (hN : N < 2 ^ 30) (h : kr N B x σ μ) (hj : j < 4) : kr (N + 1) B x (xf_give σ (nI j)) (mf_give μ (nI j)) := by
  have c : (nI j).toNatClampNeg = j := nI_clamp (by omega)
  rw [xf_give, mf_give, c]
  have h0 : kr N B x (sI σ 3 j (-1)) (sM μ 17 j (-1)) := kr_own h (Or.inl rfl)
  obtain ⟨o1, s1, e1⟩ : ∃ o1 s1, xf_firstWaiter (sI σ 3 j (-1)) (10 + nI j) = (o1, s1) := ⟨_, _, rfl⟩
  obtain ⟨r1, u1, e2⟩ : ∃ r1 u1, mf_firstWaiter (sM μ 17 j (-1)) (10 + nI j) = (r1, u1) := ⟨_, _, rfl⟩
  rw [kk_b_eq e1, kk_b_eq e2]
  obtain ⟨h1, ha⟩ := kr_fw hN h0 e1 e2
  rcases ha with ⟨rfl, rfl⟩ | ⟨t, ht, rfl, rfl, hs, hon⟩
  · rw [kk_o_none, if_neg (by decide)]; exact kr_mono (Nat.le_succ N) h1
  · have e10 : kI (sI s1 3 j (nI t)) 10 t = 2 := by rw [kI_sI, if_neg (by omega)]; exact hs
    have n0 : ¬ kI (sI s1 3 j (nI t)) 10 t = 0 := by rw [e10]; decide
    rw [kk_o_some, if_pos (nI_pos' (by omega)), kk_v, xf_makeOwner, c, if_neg (by rw [e10]; decide), kk_v, nI_clamp (n := t) (by omega)]
    have h2 : kr N B x (sI s1 3 j (nI t)) (sM u1 17 j (nI t)) := kr_own h1 (Or.inr ⟨t, ht, rfl, Or.inr hs⟩)
    have g := (h2.2.2.2.2.2 t ht).2.2.2.2.2.2 j hj (by rw [kI_sI, if_neg (by omega)]; exact hon)
    by_cases z : mI (sM u1 17 j (nI t)) 16 t = 0
    · rw [if_pos z, g.1 z, kk_v]; exact kr_ready h2 ht n0
    · rw [if_neg z, kk_v]; exact kr_ready2 h2 ht n0 (g.2 z)
theorem kk_m40 : ∀ j, j < 4 → ∀ q, q < 2 → ¬ 10 + nI j = 40 + nI q ∧ ¬ 10 + nI j = 50 + nI q := by decide
theorem kr_retake {N B x : Nat} {σ : kx_S} {μ : km_S} {t : Nat} (r : Int32) (h : kr N B x σ μ) (ht : t < 8) (hs : kI σ 10 t = 2) (hm : ∀ m, m < 4 → ¬ kI σ 16 t = 10 + nI m) : kr (N + 1) B x (xf_endAwait σ t r) (mf_retake μ (nI t) r) := by
  have T := h.2.2.2.2.2 t ht
  obtain ⟨j, hj, ej⟩ := vp_in_of T.1.2.2.2.2.1.2 (by decide)
  have c : (nI j).toNatClampNeg = j := nI_clamp (by omega)
  have em : mI μ 12 t = nI j := T.1.2.2.2.2.1.1 ▸ ej
  have h1 : kr N B x (sI (sI σ 15 t r) 18 t r) (sM μ 11 t r) := kr_rw r (kr_res r h ht hm) ht (fun m hm4 z => hm m hm4 (by rw [kI_sI, if_neg (by omega)] at z; exact z))
  have e17 : kI (sI (sI σ 15 t r) 18 t r) 17 t = nI j := by rw [kI_sI, if_neg (by omega), kI_sI, if_neg (by omega)]; exact ej
  have e18 : kI (sI (sI σ 15 t r) 18 t r) 18 t = r := by rw [kI_sI, if_pos ⟨rfl, rfl⟩]
  have e10 : kI (sI (sI σ 15 t r) 18 t r) 10 t = 2 := by rw [kI_sI, if_neg (by omega), kI_sI, if_neg (by omega)]; exact hs
  have m11 : mI (sM μ 11 t r) 11 t = r := by rw [mI_sM, if_pos ⟨rfl, rfl⟩]
  rw [xf_endAwait, kk_v, e17, xf_take, c, mf_retake, nI_clamp (n := t) (by omega), em, c]
  obtain ⟨o1, o2⟩ := h1.2.1 j hj
  rw [← o1]
  generalize sI (sI σ 15 t r) 18 t r = σ1 at *
  generalize sM μ 11 t r = μ1 at *
  rcases o2 with o2 | ⟨t2, ht2, o2, o3⟩
  · rw [o2, if_pos rfl, if_neg (by decide), kk_v, kk_v, xf_makeOwner, c]
    have f10 : kI (sI σ1 3 j (nI t)) 10 t = 2 := by rw [kI_sI, if_neg (by omega)]; exact e10
    rw [if_neg (by rw [f10]; decide), kk_v]
    have h2 : kr N B x (sI σ1 3 j (nI t)) (sM μ1 17 j (nI t)) := kr_own h1 (Or.inr ⟨t, ht, rfl, Or.inr e10⟩)
    refine kr_ready2 h2 ht (by rw [f10]; decide) ?_
    rw [kI_sI, if_neg (by omega), e18, mI_sM, if_neg (by omega), m11]
  · rw [o2, if_neg (kk_nm1 ht2), if_pos (nI_pos' (by omega)), kk_v, kk_v]
    refine kr_block0 (k := 1) h1 ht (by rw [e10]; decide) (Or.inl ⟨rfl, rfl⟩) (fun f i => ?_) (fun m hm4 _ => ⟨fun z => absurd z (by decide), fun _ => by rw [e18, m11]⟩) (fun q hq _ => ⟨fun z => absurd z (kk_m40 j hj q hq).1, fun z => absurd z (kk_m40 j hj q hq).2⟩)
    rw [mI_sM, show vp_nar .boolean 1 = 1 from by decide]
