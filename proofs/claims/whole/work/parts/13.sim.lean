/-! the small steps: a thread gets ready, is blocked, starts its turn anew -/
theorem xready_I (σ : kx_S) (t : Nat) (r : Int32) (f i : Nat) : kI (xf_makeReady σ t r) f i = if f = 14 ∧ i = t then 0 else if f = 15 ∧ i = t then r else if f = 16 ∧ i = t then 0 else if f = 10 ∧ i = t then 1 else kI σ f i := by
  simp only [xf_makeReady, kI_sI, kI_sJ]
theorem xready_J (σ : kx_S) (t : Nat) (r : Int32) (f i : Nat) : kJ (xf_makeReady σ t r) f i = if f = 0 ∧ i = t then kJ σ 2 0 + 1 else if f = 2 ∧ i = 0 then kJ σ 2 0 + 1 else if f = 1 ∧ i = t then 1000000000000 else kJ σ f i := by
  simp [xf_makeReady, kJ_sI, kJ_sJ]
theorem xblock_I (σ : kx_S) (t : Nat) (w : Int32) (D : Int64) (f i : Nat) : kI (xf_block σ t w D) f i = if f = 16 ∧ i = t then w else if f = 10 ∧ i = t then 2 else kI σ f i := by
  simp only [xf_block, kI_sI, kI_sJ]
theorem xblock_J (σ : kx_S) (t : Nat) (w : Int32) (D : Int64) (f i : Nat) : kJ (xf_block σ t w D) f i = if f = 0 ∧ i = t then kJ σ 2 0 + 1 else if f = 2 ∧ i = 0 then kJ σ 2 0 + 1 else if f = 1 ∧ i = t then D else kJ σ f i := by
  simp [xf_block, kJ_sI, kJ_sJ]
theorem xstart_I (σ : kx_S) (t f i : Nat) : kI (xf_startTurn σ t) f i = if f = 14 ∧ i = t then 0 else kI σ f i := by
  simp only [xf_startTurn, kI_sI, kI_sJ]
theorem xstart_J (σ : kx_S) (t f i : Nat) : kJ (xf_startTurn σ t) f i = if f = 0 ∧ i = t then kJ σ 2 0 + 1 else if f = 2 ∧ i = 0 then kJ σ 2 0 + 1 else kJ σ f i := by
  simp [xf_startTurn, kJ_sI, kJ_sJ]
theorem mready_c (μ : km_S) {t : Nat} (ht : t < 8) (f i : Nat) : mI (mf_ready μ (nI t)) f i = if f = 7 ∧ i = t then 0 else if f = 6 ∧ i = t then mI μ 3 0 + 1 else if f = 3 ∧ i = 0 then mI μ 3 0 + 1 else if f = 10 ∧ i = t then 0 else if f = 8 ∧ i = t then 0 else if f = 4 ∧ i = t then 1 else mI μ f i := by
  simp [mf_ready, mf_newStamp, kk_b, nI_clamp (n := t) (by omega), mI_sM]
theorem mblock_c (μ : km_S) {t : Nat} (ht : t < 8) (w d : Int32) (f i : Nat) : mI (mf_block μ (nI t) w d) f i = if f = 16 ∧ i = t then 0 else if f = 9 ∧ i = t then mI μ 3 0 + 1 else if f = 3 ∧ i = 0 then mI μ 3 0 + 1 else if f = 10 ∧ i = t then d else if f = 8 ∧ i = t then w else if f = 4 ∧ i = t then 2 else mI μ f i := by
  have e : vp_nar .boolean 0 = 0 := by decide
  simp [mf_block, mf_newStamp, kk_b, nI_clamp (n := t) (by omega), mI_sM, e]
theorem kk_z40 {q : Nat} (hq : q < 2) : (¬ (0 : Int32) = 40 + nI q) ∧ ¬ (0 : Int32) = 50 + nI q := by
  rcases (show q = 0 ∨ q = 1 by omega) with rfl | rfl <;> decide
theorem kk_z10 {m : Nat} (hm : m < 4) : ¬ (0 : Int32) = 10 + nI m := by
  rcases (show m = 0 ∨ m = 1 ∨ m = 2 ∨ m = 3 by omega) with rfl | rfl | rfl | rfl <;> decide
/-- a thread that isn't FREE, or whose base and policy are set with it, gets READY with a result -/
theorem kr_ready0 {N B x : Nat} {σ σ0 : kx_S} {μ μ0 : km_S} {t : Nat} {res : Int32} (h : kr N B x σ μ) (ht : t < 8)
    (hx : ∀ f i, ¬ (10 ≤ f ∧ i = t) → kI σ0 f i = kI σ f i) (hj : ∀ f i, kJ σ0 f i = kJ σ f i) (hm : ∀ f i, ¬ (4 ≤ f ∧ f ≤ 16 ∧ i = t) → mI μ0 f i = mI μ f i)
    (hs : kI σ0 13 t = mI μ0 15 t ∧ (kI σ0 17 t = mI μ0 12 t ∧ vp_in (kI σ0 17 t) 4) ∧ kI σ0 19 t = mI μ0 13 t ∧ kI σ0 20 t = mI μ0 14 t ∧ kI σ0 11 t = mI μ0 5 t ∧ res = mI μ0 11 t) :
    kr (N + 1) B x (xf_makeReady σ0 t res) (mf_ready μ0 (nI t)) := by
  obtain ⟨n, hn, n1, n2⟩ := h.1.2.2.2
  refine kr_up (t := t) h (Nat.le_succ N) (fun f i h1 h2 => ?_) (fun f i h1 h2 => ?_) (fun f i h1 h2 h3 => ?_) ⟨n + 1, by omega, ?_, ?_⟩ ?_ (fun q hq _ => ?_) (Or.inl (Or.inl ?_))
  · rw [xready_I, if_neg (by omega), if_neg (by omega), if_neg (by omega), if_neg (by omega)]; exact hx f i h2
  · rw [xready_J, if_neg (by omega), if_neg (by omega), if_neg (by omega)]; exact hj f i
  · rw [mready_c μ0 ht, if_neg (by omega), if_neg (by omega), if_neg (by omega), if_neg (by omega), if_neg (by omega), if_neg (by omega)]; exact hm f i h3
  · rw [xready_J]; simp [hj, n1, lN_1]
  · rw [mready_c μ0 ht]; simp [hm 3 0 (by omega), n2, nI_1]
  · obtain ⟨s1, s2, s3, s4, s5, s6⟩ := hs
    refine ⟨⟨?_, ?_, ?_, ?_, ?_, ?_, ?_⟩, fun _ => ⟨?_, ?_⟩, Or.inl ⟨?_, ?_⟩, fun _ => ?_, fun _ => ⟨n + 1, by omega, ?_, ?_⟩, fun z => ?_, fun m hm4 z => ?_⟩
    · simp [xready_I, mready_c μ0 ht]
    · simp [xready_I, mready_c μ0 ht]
    · simp [xready_I, mready_c μ0 ht, s1]
    · simp [xready_I, mready_c μ0 ht]
    · exact ⟨by simp [xready_I, mready_c μ0 ht, s2.1], by simp only [xready_I]; simp; exact s2.2⟩
    · simp [xready_I, mready_c μ0 ht, s3]
    · simp [xready_I, mready_c μ0 ht, s4]
    · simp [xready_I, mready_c μ0 ht, s5]
    · simp [xready_I, mready_c μ0 ht, s6]
    · simp [xready_J]
    · simp [mready_c μ0 ht]
    · simp [xready_I]
    · simp [xready_J, hj, n1, lN_1]
    · simp [mready_c μ0 ht, hm 3 0 (by omega), n2, nI_1]
    · simp [xready_I] at z
    · simp [xready_I] at z; exact absurd z (kk_z10 hm4)
  · have e : kI (xf_makeReady σ0 t res) 16 t = 0 := by simp [xready_I]
    rw [e]
    exact ⟨fun z => absurd z (kk_z40 hq).1, fun z => absurd z (kk_z40 hq).2⟩
  · simp [xready_I]
theorem kr_ready {N B x : Nat} {σ : kx_S} {μ : km_S} {t : Nat} {res : Int32} (h : kr N B x σ μ) (ht : t < 8) (hs : ¬ kI σ 10 t = 0) : kr (N + 1) B x (xf_makeReady σ t res) (mf_ready (sM μ 11 t res) (nI t)) := by
  obtain ⟨⟨a1, a2, a3, a4, a5, a6, a7⟩, b, -⟩ := h.2.2.2.2.2 t ht
  refine kr_ready0 h ht (fun _ _ _ => rfl) (fun _ _ => rfl) (fun f i h1 => by rw [mI_sM, if_neg (by omega)]) ⟨?_, ?_, ?_, ?_, ?_, ?_⟩
  · simp [mI_sM, a3]
  · exact ⟨by simp [mI_sM, a5.1], a5.2⟩
  · simp [mI_sM, a6]
  · simp [mI_sM, a7]
  · simp [mI_sM, (b hs).1]
  · simp [mI_sM]
/-- the same, where the result stands there already -/
theorem kr_ready2 {N B x : Nat} {σ : kx_S} {μ : km_S} {t : Nat} {res : Int32} (h : kr N B x σ μ) (ht : t < 8) (hs : ¬ kI σ 10 t = 0) (hr : res = mI μ 11 t) : kr (N + 1) B x (xf_makeReady σ t res) (mf_ready μ (nI t)) := by
  obtain ⟨⟨a1, a2, a3, a4, a5, a6, a7⟩, b, -⟩ := h.2.2.2.2.2 t ht
  exact kr_ready0 h ht (fun _ _ _ => rfl) (fun _ _ => rfl) (fun _ _ _ => rfl) ⟨a3, a5, a6, a7, (b hs).1, hr⟩
/-- a new turn: startTurn of the class is the reference's ready -/
theorem kr_turn {N B x : Nat} {σ : kx_S} {μ : km_S} {t : Nat} (h : kr N B x σ μ) (ht : t < 8) (hs : kI σ 10 t = 1) : kr (N + 1) B x (xf_startTurn σ t) (mf_ready μ (nI t)) := by
  obtain ⟨n, hn, n1, n2⟩ := h.1.2.2.2
  obtain ⟨⟨a1, a2, a3, a4, a5, a6, a7⟩, b, c, d, e, f, g⟩ := h.2.2.2.2.2 t ht
  have hon : kI σ 16 t = 0 := d (by rw [hs]; decide)
  have hdl : kJ σ 1 t = 1000000000000 := by
    rcases c with c | ⟨_, _, _, _, _, c⟩
    · exact c.1
    · rw [hs] at c; exact absurd c (by decide)
  have hb := b (by rw [hs]; decide)
  refine kr_up (t := t) h (Nat.le_succ N) (fun f i h1 h2 => ?_) (fun f i h1 h2 => ?_) (fun f i h1 h2 h3 => ?_) ⟨n + 1, by omega, ?_, ?_⟩ ?_ (fun q hq _ => ?_) (Or.inl (Or.inl ?_))
  · rw [xstart_I, if_neg (by omega)]
  · rw [xstart_J, if_neg (by omega), if_neg (by omega)]
  · rw [mready_c μ ht, if_neg (by omega), if_neg (by omega), if_neg (by omega), if_neg (by omega), if_neg (by omega), if_neg (by omega)]
  · rw [xstart_J]; simp [n1, lN_1]
  · rw [mready_c μ ht]; simp [n2, nI_1]
  · refine ⟨⟨?_, ?_, ?_, ?_, ?_, ?_, ?_⟩, fun _ => ⟨?_, ?_⟩, Or.inl ⟨?_, ?_⟩, fun _ => ?_, fun _ => ⟨n + 1, by omega, ?_, ?_⟩, fun z => ?_, fun m hm4 z => ?_⟩
    · simp [xstart_I, mready_c μ ht, hs]
    · simp [xstart_I, mready_c μ ht, hon]
    · simp [xstart_I, mready_c μ ht, a3]
    · simp [xstart_I, mready_c μ ht]
    · exact ⟨by simp [xstart_I, mready_c μ ht, a5.1], by simp only [xstart_I]; simp; exact a5.2⟩
    · simp [xstart_I, mready_c μ ht, a6]
    · simp [xstart_I, mready_c μ ht, a7]
    · simp [xstart_I, mready_c μ ht, hb.1]
    · simp [xstart_I, mready_c μ ht, hb.2]
    · simp [xstart_J, hdl]
    · simp [mready_c μ ht]
    · simp [xstart_I, hon]
    · simp [xstart_J, n1, lN_1]
    · simp [mready_c μ ht, n2, nI_1]
    · simp [xstart_I, hs] at z
    · simp [xstart_I, hon] at z; exact absurd z (kk_z10 hm4)
  · have e : kI (xf_startTurn σ t) 16 t = 0 := by simp [xstart_I, hon]
    rw [e]
    exact ⟨fun z => absurd z (kk_z40 hq).1, fun z => absurd z (kk_z40 hq).2⟩
  · simp [xstart_I, hs]
/-- what a deadline is on either side -/
def kr_d (D : Int64) (d : Int32) : Prop := (D = 1000000000000 ∧ d = 0) ∨ ∃ n : Nat, 0 < n ∧ n < 2 ^ 30 ∧ D = lN n ∧ d = nI n
/-- a thread is blocked; 'k' says whether the reference marks it as one that takes its mutex again -/
theorem kr_block0 {N B x : Nat} {σ : kx_S} {μ μ2 : km_S} {t : Nat} {w d k : Int32} {D : Int64} (h : kr N B x σ μ) (ht : t < 8) (hs : ¬ kI σ 10 t = 0) (hD : kr_d D d)
    (hμ : ∀ f i, mI μ2 f i = if f = 16 ∧ i = t then k else mI (mf_block μ (nI t) w d) f i)
    (hk : ∀ m, m < 4 → w = 10 + nI m → (k = 0 → kI σ 18 t = 0) ∧ (¬ k = 0 → kI σ 18 t = mI μ 11 t))
    (hq : ∀ q, q < 2 → ¬ q = x → (w = 40 + nI q → kI σ 9 q = 4) ∧ (w = 50 + nI q → kI σ 9 q = 0)) : kr (N + 1) B x (xf_block σ t w D) μ2 := by
  obtain ⟨n, hn, n1, n2⟩ := h.1.2.2.2
  obtain ⟨⟨a1, a2, a3, a4, a5, a6, a7⟩, b, -⟩ := h.2.2.2.2.2 t ht
  have hb := b hs
  refine kr_up (t := t) h (Nat.le_succ N) (fun f i h1 h2 => ?_) (fun f i h1 h2 => ?_) (fun f i h1 h2 h3 => ?_) ⟨n + 1, by omega, ?_, ?_⟩ ?_ (fun q hq2 hqx => ?_) (Or.inl (Or.inr ?_))
  · rw [xblock_I, if_neg (by omega), if_neg (by omega)]
  · rw [xblock_J, if_neg (by omega), if_neg (by omega), if_neg (by omega)]
  · rw [hμ, if_neg (by omega), mblock_c μ ht, if_neg (by omega), if_neg (by omega), if_neg (by omega), if_neg (by omega), if_neg (by omega), if_neg (by omega)]
  · rw [xblock_J]; simp [n1, lN_1]
  · rw [hμ]; simp [mblock_c μ ht, n2, nI_1]
  · refine ⟨⟨?_, ?_, ?_, ?_, ?_, ?_, ?_⟩, fun _ => ⟨?_, ?_⟩, ?_, fun z => ?_, fun z => ?_, fun _ => ⟨n + 1, by omega, ?_, ?_⟩, fun m hm4 z => ?_⟩
    · simp [hμ, xblock_I, mblock_c μ ht]
    · simp [hμ, xblock_I, mblock_c μ ht]
    · simp [hμ, xblock_I, mblock_c μ ht, a3]
    · simp [hμ, xblock_I, mblock_c μ ht, a4]
    · exact ⟨by simp [hμ, xblock_I, mblock_c μ ht, a5.1], by simp only [xblock_I]; simp; exact a5.2⟩
    · simp [hμ, xblock_I, mblock_c μ ht, a6]
    · simp [hμ, xblock_I, mblock_c μ ht, a7]
    · simp [hμ, xblock_I, mblock_c μ ht, hb.1]
    · simp [hμ, xblock_I, mblock_c μ ht, hb.2]
    · rcases hD with ⟨e1, e2⟩ | ⟨d2, p1, p2, p3, p4⟩
      · refine Or.inl ⟨?_, ?_⟩
        · simp [xblock_J, e1]
        · simp [hμ, mblock_c μ ht, e2]
      · refine Or.inr ⟨d2, p1, p2, ?_, ?_, ?_⟩
        · simp [xblock_J, p3]
        · simp [hμ, mblock_c μ ht, p4]
        · simp [xblock_I]
    · simp [xblock_I] at z
    · simp [xblock_I] at z
    · simp [xblock_J, n1, lN_1]
    · simp [hμ, mblock_c μ ht, n2, nI_1]
    · simp [xblock_I] at z
      have e := hk m hm4 z
      simp [hμ, xblock_I, mblock_c μ ht]
      exact e
  · have e : kI (xf_block σ t w D) 16 t = w := by simp [xblock_I]
    rw [e]
    exact hq q hq2 hqx
  · simp [xblock_I]
theorem kr_block {N B x : Nat} {σ : kx_S} {μ : km_S} {t : Nat} {w d : Int32} {D : Int64} (h : kr N B x σ μ) (ht : t < 8) (hs : ¬ kI σ 10 t = 0) (hD : kr_d D d)
    (hk : ∀ m, m < 4 → w = 10 + nI m → kI σ 18 t = 0) (hq : ∀ q, q < 2 → ¬ q = x → (w = 40 + nI q → kI σ 9 q = 4) ∧ (w = 50 + nI q → kI σ 9 q = 0)) : kr (N + 1) B x (xf_block σ t w D) (mf_block μ (nI t) w d) := by
  refine kr_block0 (k := 0) h ht hs hD (fun f i => ?_) (fun m hm e => ⟨fun _ => hk m hm e, fun z => absurd rfl z⟩) hq
  by_cases c : f = 16 ∧ i = t
  · rw [if_pos c, mblock_c μ ht, if_pos c]
  · rw [if_neg c]
