/-! the queues -/
theorem kI_n {S : kx_S} {f i a b : Nat} {v : Int32} (h : ¬ (a = f ∧ b = i)) : kI (sI S f i v) a b = kI S a b := by rw [kI_sI, if_neg h]
theorem mI_n {S : km_S} {f i a b : Nat} {v : Int32} (h : ¬ (a = f ∧ b = i)) : mI (sM S f i v) a b = mI S a b := by rw [mI_sM, if_neg h]
theorem kr_toq {N B q : Nat} {σ : kx_S} {μ : km_S} (h : kr N B 2 σ μ) : kr N B q σ μ := ⟨h.1, h.2.1, h.2.2.1, h.2.2.2.1, fun t q2 ht hq _ => h.2.2.2.2.1 t q2 ht hq (by omega), h.2.2.2.2.2⟩
theorem kr_fromq {N B q : Nat} {σ : kx_S} {μ : km_S} (h : kr N B q σ μ) (hq : ∀ t, t < 8 → (kI σ 16 t = 40 + nI q → kI σ 9 q = 4) ∧ (kI σ 16 t = 50 + nI q → kI σ 9 q = 0)) : kr N B 2 σ μ := by
  refine ⟨h.1, h.2.1, h.2.2.1, h.2.2.2.1, fun t q2 ht hq2 _ => ?_, h.2.2.2.2.2⟩
  by_cases e : q2 = q
  · subst e; exact hq t ht
  · exact h.2.2.2.2.1 t q2 ht hq2 e
theorem kr_qupd {N B x q : Nat} {σ σ' : kx_S} {μ μ' : km_S} (h : kr N B x σ μ) (hxq : x = 2 ∨ x = q) (hq2 : q < 2)
    (hx : ∀ f i, f ≠ 5 + q → f ≠ 7 + q → ¬ (f = 9 ∧ i = q) → kI σ' f i = kI σ f i) (hj : ∀ f i, kJ σ' f i = kJ σ f i)
    (hm : ∀ f i, ¬ ((f = 20 ∨ f = 21) ∧ 4 * q ≤ i ∧ i < 4 * q + 4) → ¬ (f = 19 ∧ i = q) → mI μ' f i = mI μ f i)
    (hn : ∃ j, j ≤ 4 ∧ kI σ' 9 q = nI j ∧ mI μ' 19 q = nI j ∧ ∀ i, i < j → kI σ' (5 + q) i = mI μ' 20 (4 * q + i) ∧ kI σ' (7 + q) i = mI μ' 21 (4 * q + i)) : kr N B q σ' μ' := by
  obtain ⟨⟨g1, g2, ⟨T, gT, g3, g4⟩, n, n1, n2, n3⟩, o, v, qq, b, th⟩ := h
  refine ⟨⟨?_, ?_, ⟨T, gT, ?_, ?_⟩, n, n1, ?_, ?_⟩, fun m hm4 => ?_, fun s hs => ?_, fun q2 hq => ?_, fun t q2 ht hq hne => ?_, fun t ht => kr_t_fr (Nat.le_refl N) (fun f h1 _ => hx f t (by omega) (by omega) (by omega)) (fun f _ => hj f t) (fun f h1 h2 => hm f t (by omega) (by omega)) (th t ht)⟩
  · rw [hx 0 0 (by omega) (by omega) (by omega), hm 0 0 (by omega) (by omega)]; exact g1
  · rw [hx 1 0 (by omega) (by omega) (by omega), hm 1 0 (by omega) (by omega)]; exact g2
  · rw [hx 2 0 (by omega) (by omega) (by omega)]; exact g3
  · rw [hm 2 0 (by omega) (by omega)]; exact g4
  · rw [hj]; exact n2
  · rw [hm 3 0 (by omega) (by omega)]; exact n3
  · rw [hx 3 m (by omega) (by omega) (by omega), hm 17 m (by omega) (by omega)]
    obtain ⟨a, c⟩ := o m hm4
    refine ⟨a, c.imp id (fun ⟨t2, c1, c2, c3⟩ => ⟨t2, c1, c2, ?_⟩)⟩
    rw [hx 10 t2 (by omega) (by omega) (by omega)]; exact c3
  · rw [hx 4 s (by omega) (by omega) (by omega), hm 18 s (by omega) (by omega)]; exact v s hs
  · by_cases e : q2 = q
    · subst e; exact hn
    · obtain ⟨j, j1, j2, j3, j4⟩ := qq q2 hq
      refine ⟨j, j1, by rw [hx 9 q2 (by omega) (by omega) (by omega)]; exact j2, by rw [hm 19 q2 (by omega) (by omega)]; exact j3, fun i hi => ?_⟩
      rw [hx (5 + q2) i (by omega) (by omega) (by omega), hx (7 + q2) i (by omega) (by omega) (by omega), hm 20 _ (by omega) (by omega), hm 21 _ (by omega) (by omega)]
      exact j4 i hi
  · rw [hx 9 q2 (by omega) (by omega) (by omega), hx 16 t (by omega) (by omega) (by omega)]
    exact b t q2 ht hq (by omega)
set_option maxHeartbeats 4000000 in
theorem kr_ins_0_0 {N B x : Nat} {σ : kx_S} {μ : km_S} (rank value : Int32) (h : kr N B x σ μ) (hxq : x = 2 ∨ x = 0) (hs : kI σ 9 0 = nI 0) : kr N B 0 (xf_insert_0 σ rank value) (mf_comeIn μ 0 rank value) ∧ kI (xf_insert_0 σ rank value) 9 0 = nI 1 ∧ ∀ f k, 10 ≤ f → kI (xf_insert_0 σ rank value) f k = kI σ f k := by
  obtain ⟨j, j1, j2, j3, j4⟩ := h.2.2.2.1 0 (by decide)
  obtain rfl : j = 0 := (nI_eq (by omega) (by omega)).mp (j2.symm.trans hs)
  have full : xf_isFull_0 σ = (0, σ) := by unfold xf_isFull_0; rw [if_neg (by rw [hs]; decide)]
  rw [xf_insert_0, kk_b_eq full, if_pos rfl, if_pos (show kI σ 9 0 = 0 by rw [hs]; decide)]
  rw [mf_comeIn, if_pos rfl, if_pos (show mI μ 19 0 = 0 by rw [j3]; decide)]
  refine ⟨?_, ?_, fun f k hf => ?_⟩
  · skip
    refine kr_qupd h hxq (by decide) (fun f i h1 h2 h3 => ?_) (fun _ _ => rfl) (fun f i h1 h2 => ?_) ⟨1, by decide, ?_, ?_, fun i hi => ?_⟩
    · rw [kI_n (by omega), kI_n (by omega), kI_n (by omega)]
    · rw [mI_n (by omega), mI_n (by omega), mI_n (by omega)]
    · exact (show _ = kI σ 9 0 + 1 from rfl).trans (by rw [hs]; decide)
    · exact (show _ = mI μ 19 0 + 1 from rfl).trans (by rw [j3]; decide)
    · rcases (show i = 0 by omega) with rfl
      exact ⟨by first | rfl, by first | rfl⟩
  · exact (show _ = kI σ 9 0 + 1 from rfl).trans (by rw [hs]; decide)
  · rw [kI_n (by omega), kI_n (by omega), kI_n (by omega)]
set_option maxHeartbeats 4000000 in
theorem kr_ins_0_1 {N B x : Nat} {σ : kx_S} {μ : km_S} (rank value : Int32) (h : kr N B x σ μ) (hxq : x = 2 ∨ x = 0) (hs : kI σ 9 0 = nI 1) : kr N B 0 (xf_insert_0 σ rank value) (mf_comeIn μ 0 rank value) ∧ kI (xf_insert_0 σ rank value) 9 0 = nI 2 ∧ ∀ f k, 10 ≤ f → kI (xf_insert_0 σ rank value) f k = kI σ f k := by
  obtain ⟨j, j1, j2, j3, j4⟩ := h.2.2.2.1 0 (by decide)
  obtain rfl : j = 1 := (nI_eq (by omega) (by omega)).mp (j2.symm.trans hs)
  have a0 := j4 0 (by decide)
  have full : xf_isFull_0 σ = (0, σ) := by unfold xf_isFull_0; rw [if_neg (by rw [hs]; decide)]
  rw [xf_insert_0, kk_b_eq full, if_pos rfl, if_neg (show ¬ kI σ 9 0 = 0 by rw [hs]; decide), if_pos (show kI σ 9 0 = 1 by rw [hs]; decide)]
  rw [mf_comeIn, if_pos rfl, if_neg (show ¬ mI μ 19 0 = 0 by rw [j3]; decide), if_pos (show mI μ 19 0 = 1 by rw [j3]; decide)]
  have e0 : (mI μ 20 0) = (kI σ 5 0) := by first | exact a0.1.symm
  by_cases c0 : rank ≤ (kI σ 5 0)
  · rw [if_pos c0, if_pos (show rank ≤ (mI μ 20 0) by rw [e0]; exact c0)]
    refine ⟨?_, ?_, fun f k hf => ?_⟩
    · skip
      refine kr_qupd h hxq (by decide) (fun f i h1 h2 h3 => ?_) (fun _ _ => rfl) (fun f i h1 h2 => ?_) ⟨2, by decide, ?_, ?_, fun i hi => ?_⟩
      · rw [kI_n (by omega), kI_n (by omega), kI_n (by omega)]
      · rw [mI_n (by omega), mI_n (by omega), mI_n (by omega)]
      · exact (show _ = kI σ 9 0 + 1 from rfl).trans (by rw [hs]; decide)
      · exact (show _ = mI μ 19 0 + 1 from rfl).trans (by rw [j3]; decide)
      · rcases (show i = 0 ∨ i = 1 by omega) with rfl | rfl
        · exact ⟨by first | rfl | exact a0.1, by first | rfl | exact a0.2⟩
        · exact ⟨by first | rfl | exact a0.1, by first | rfl | exact a0.2⟩
    · exact (show _ = kI σ 9 0 + 1 from rfl).trans (by rw [hs]; decide)
    · rw [kI_n (by omega), kI_n (by omega), kI_n (by omega)]
  · rw [if_neg c0, if_neg (show ¬ rank ≤ (mI μ 20 0) by rw [e0]; exact c0)]
    refine ⟨?_, ?_, fun f k hf => ?_⟩
    · skip
      refine kr_qupd h hxq (by decide) (fun f i h1 h2 h3 => ?_) (fun _ _ => rfl) (fun f i h1 h2 => ?_) ⟨2, by decide, ?_, ?_, fun i hi => ?_⟩
      · rw [kI_n (by omega), kI_n (by omega), kI_n (by omega), kI_n (by omega), kI_n (by omega)]
      · rw [mI_n (by omega), mI_n (by omega), mI_n (by omega), mI_n (by omega), mI_n (by omega)]
      · exact (show _ = kI σ 9 0 + 1 from rfl).trans (by rw [hs]; decide)
      · exact (show _ = mI μ 19 0 + 1 from rfl).trans (by rw [j3]; decide)
      · rcases (show i = 0 ∨ i = 1 by omega) with rfl | rfl
        · exact ⟨by first | rfl | exact a0.1, by first | rfl | exact a0.2⟩
        · exact ⟨by first | rfl | exact a0.1, by first | rfl | exact a0.2⟩
    · exact (show _ = kI σ 9 0 + 1 from rfl).trans (by rw [hs]; decide)
    · rw [kI_n (by omega), kI_n (by omega), kI_n (by omega), kI_n (by omega), kI_n (by omega)]
set_option maxHeartbeats 4000000 in
theorem kr_ins_0_2 {N B x : Nat} {σ : kx_S} {μ : km_S} (rank value : Int32) (h : kr N B x σ μ) (hxq : x = 2 ∨ x = 0) (hs : kI σ 9 0 = nI 2) : kr N B 0 (xf_insert_0 σ rank value) (mf_comeIn μ 0 rank value) ∧ kI (xf_insert_0 σ rank value) 9 0 = nI 3 ∧ ∀ f k, 10 ≤ f → kI (xf_insert_0 σ rank value) f k = kI σ f k := by
  obtain ⟨j, j1, j2, j3, j4⟩ := h.2.2.2.1 0 (by decide)
  obtain rfl : j = 2 := (nI_eq (by omega) (by omega)).mp (j2.symm.trans hs)
  have a0 := j4 0 (by decide)
  have a1 := j4 1 (by decide)
  have full : xf_isFull_0 σ = (0, σ) := by unfold xf_isFull_0; rw [if_neg (by rw [hs]; decide)]
  rw [xf_insert_0, kk_b_eq full, if_pos rfl, if_neg (show ¬ kI σ 9 0 = 0 by rw [hs]; decide), if_neg (show ¬ kI σ 9 0 = 1 by rw [hs]; decide), if_pos (show kI σ 9 0 = 2 by rw [hs]; decide)]
  rw [mf_comeIn, if_pos rfl, if_neg (show ¬ mI μ 19 0 = 0 by rw [j3]; decide), if_neg (show ¬ mI μ 19 0 = 1 by rw [j3]; decide), if_pos (show mI μ 19 0 = 2 by rw [j3]; decide)]
  have e0 : (mI μ 20 1) = (kI σ 5 1) := by first | exact a0.1.symm | exact a1.1.symm
  by_cases c0 : rank ≤ (kI σ 5 1)
  · rw [if_pos c0, if_pos (show rank ≤ (mI μ 20 1) by rw [e0]; exact c0)]
    refine ⟨?_, ?_, fun f k hf => ?_⟩
    · skip
      refine kr_qupd h hxq (by decide) (fun f i h1 h2 h3 => ?_) (fun _ _ => rfl) (fun f i h1 h2 => ?_) ⟨3, by decide, ?_, ?_, fun i hi => ?_⟩
      · rw [kI_n (by omega), kI_n (by omega), kI_n (by omega)]
      · rw [mI_n (by omega), mI_n (by omega), mI_n (by omega)]
      · exact (show _ = kI σ 9 0 + 1 from rfl).trans (by rw [hs]; decide)
      · exact (show _ = mI μ 19 0 + 1 from rfl).trans (by rw [j3]; decide)
      · rcases (show i = 0 ∨ i = 1 ∨ i = 2 by omega) with rfl | rfl | rfl
        · exact ⟨by first | rfl | exact a0.1 | exact a1.1, by first | rfl | exact a0.2 | exact a1.2⟩
        · exact ⟨by first | rfl | exact a0.1 | exact a1.1, by first | rfl | exact a0.2 | exact a1.2⟩
        · exact ⟨by first | rfl | exact a0.1 | exact a1.1, by first | rfl | exact a0.2 | exact a1.2⟩
    · exact (show _ = kI σ 9 0 + 1 from rfl).trans (by rw [hs]; decide)
    · rw [kI_n (by omega), kI_n (by omega), kI_n (by omega)]
  · rw [if_neg c0, if_neg (show ¬ rank ≤ (mI μ 20 1) by rw [e0]; exact c0)]
    have e1 : (mI (sM (sM μ 20 2 (mI μ 20 1)) 21 2 (mI (sM μ 20 2 (mI μ 20 1)) 21 1)) 20 0) = (kI (sI (sI σ 5 2 (kI σ 5 1)) 7 2 (kI (sI σ 5 2 (kI σ 5 1)) 7 1)) 5 0) := by first | exact a0.1.symm | exact a1.1.symm
    by_cases c1 : rank ≤ (kI (sI (sI σ 5 2 (kI σ 5 1)) 7 2 (kI (sI σ 5 2 (kI σ 5 1)) 7 1)) 5 0)
    · rw [if_pos c1, if_pos (show rank ≤ (mI (sM (sM μ 20 2 (mI μ 20 1)) 21 2 (mI (sM μ 20 2 (mI μ 20 1)) 21 1)) 20 0) by rw [e1]; exact c1)]
      refine ⟨?_, ?_, fun f k hf => ?_⟩
      · skip
        refine kr_qupd h hxq (by decide) (fun f i h1 h2 h3 => ?_) (fun _ _ => rfl) (fun f i h1 h2 => ?_) ⟨3, by decide, ?_, ?_, fun i hi => ?_⟩
        · rw [kI_n (by omega), kI_n (by omega), kI_n (by omega), kI_n (by omega), kI_n (by omega)]
        · rw [mI_n (by omega), mI_n (by omega), mI_n (by omega), mI_n (by omega), mI_n (by omega)]
        · exact (show _ = kI σ 9 0 + 1 from rfl).trans (by rw [hs]; decide)
        · exact (show _ = mI μ 19 0 + 1 from rfl).trans (by rw [j3]; decide)
        · rcases (show i = 0 ∨ i = 1 ∨ i = 2 by omega) with rfl | rfl | rfl
          · exact ⟨by first | rfl | exact a0.1 | exact a1.1, by first | rfl | exact a0.2 | exact a1.2⟩
          · exact ⟨by first | rfl | exact a0.1 | exact a1.1, by first | rfl | exact a0.2 | exact a1.2⟩
          · exact ⟨by first | rfl | exact a0.1 | exact a1.1, by first | rfl | exact a0.2 | exact a1.2⟩
      · exact (show _ = kI σ 9 0 + 1 from rfl).trans (by rw [hs]; decide)
      · rw [kI_n (by omega), kI_n (by omega), kI_n (by omega), kI_n (by omega), kI_n (by omega)]
    · rw [if_neg c1, if_neg (show ¬ rank ≤ (mI (sM (sM μ 20 2 (mI μ 20 1)) 21 2 (mI (sM μ 20 2 (mI μ 20 1)) 21 1)) 20 0) by rw [e1]; exact c1)]
      refine ⟨?_, ?_, fun f k hf => ?_⟩
      · skip
        refine kr_qupd h hxq (by decide) (fun f i h1 h2 h3 => ?_) (fun _ _ => rfl) (fun f i h1 h2 => ?_) ⟨3, by decide, ?_, ?_, fun i hi => ?_⟩
        · rw [kI_n (by omega), kI_n (by omega), kI_n (by omega), kI_n (by omega), kI_n (by omega), kI_n (by omega), kI_n (by omega)]
        · rw [mI_n (by omega), mI_n (by omega), mI_n (by omega), mI_n (by omega), mI_n (by omega), mI_n (by omega), mI_n (by omega)]
        · exact (show _ = kI σ 9 0 + 1 from rfl).trans (by rw [hs]; decide)
        · exact (show _ = mI μ 19 0 + 1 from rfl).trans (by rw [j3]; decide)
        · rcases (show i = 0 ∨ i = 1 ∨ i = 2 by omega) with rfl | rfl | rfl
          · exact ⟨by first | rfl | exact a0.1 | exact a1.1, by first | rfl | exact a0.2 | exact a1.2⟩
          · exact ⟨by first | rfl | exact a0.1 | exact a1.1, by first | rfl | exact a0.2 | exact a1.2⟩
          · exact ⟨by first | rfl | exact a0.1 | exact a1.1, by first | rfl | exact a0.2 | exact a1.2⟩
      · exact (show _ = kI σ 9 0 + 1 from rfl).trans (by rw [hs]; decide)
      · rw [kI_n (by omega), kI_n (by omega), kI_n (by omega), kI_n (by omega), kI_n (by omega), kI_n (by omega), kI_n (by omega)]
set_option maxHeartbeats 4000000 in
theorem kr_ins_0_3 {N B x : Nat} {σ : kx_S} {μ : km_S} (rank value : Int32) (h : kr N B x σ μ) (hxq : x = 2 ∨ x = 0) (hs : kI σ 9 0 = nI 3) : kr N B 0 (xf_insert_0 σ rank value) (mf_comeIn μ 0 rank value) ∧ kI (xf_insert_0 σ rank value) 9 0 = nI 4 ∧ ∀ f k, 10 ≤ f → kI (xf_insert_0 σ rank value) f k = kI σ f k := by
  obtain ⟨j, j1, j2, j3, j4⟩ := h.2.2.2.1 0 (by decide)
  obtain rfl : j = 3 := (nI_eq (by omega) (by omega)).mp (j2.symm.trans hs)
  have a0 := j4 0 (by decide)
  have a1 := j4 1 (by decide)
  have a2 := j4 2 (by decide)
  have full : xf_isFull_0 σ = (0, σ) := by unfold xf_isFull_0; rw [if_neg (by rw [hs]; decide)]
  rw [xf_insert_0, kk_b_eq full, if_pos rfl, if_neg (show ¬ kI σ 9 0 = 0 by rw [hs]; decide), if_neg (show ¬ kI σ 9 0 = 1 by rw [hs]; decide), if_neg (show ¬ kI σ 9 0 = 2 by rw [hs]; decide)]
  rw [mf_comeIn, if_pos rfl, if_neg (show ¬ mI μ 19 0 = 0 by rw [j3]; decide), if_neg (show ¬ mI μ 19 0 = 1 by rw [j3]; decide), if_neg (show ¬ mI μ 19 0 = 2 by rw [j3]; decide)]
  have e0 : (mI μ 20 2) = (kI σ 5 2) := by first | exact a0.1.symm | exact a1.1.symm | exact a2.1.symm
  by_cases c0 : rank ≤ (kI σ 5 2)
  · rw [if_pos c0, if_pos (show rank ≤ (mI μ 20 2) by rw [e0]; exact c0)]
    refine ⟨?_, ?_, fun f k hf => ?_⟩
    · skip
      refine kr_qupd h hxq (by decide) (fun f i h1 h2 h3 => ?_) (fun _ _ => rfl) (fun f i h1 h2 => ?_) ⟨4, by decide, ?_, ?_, fun i hi => ?_⟩
      · rw [kI_n (by omega), kI_n (by omega), kI_n (by omega)]
      · rw [mI_n (by omega), mI_n (by omega), mI_n (by omega)]
      · exact (show _ = kI σ 9 0 + 1 from rfl).trans (by rw [hs]; decide)
      · exact (show _ = mI μ 19 0 + 1 from rfl).trans (by rw [j3]; decide)
      · rcases (show i = 0 ∨ i = 1 ∨ i = 2 ∨ i = 3 by omega) with rfl | rfl | rfl | rfl
        · exact ⟨by first | rfl | exact a0.1 | exact a1.1 | exact a2.1, by first | rfl | exact a0.2 | exact a1.2 | exact a2.2⟩
        · exact ⟨by first | rfl | exact a0.1 | exact a1.1 | exact a2.1, by first | rfl | exact a0.2 | exact a1.2 | exact a2.2⟩
        · exact ⟨by first | rfl | exact a0.1 | exact a1.1 | exact a2.1, by first | rfl | exact a0.2 | exact a1.2 | exact a2.2⟩
        · exact ⟨by first | rfl | exact a0.1 | exact a1.1 | exact a2.1, by first | rfl | exact a0.2 | exact a1.2 | exact a2.2⟩
    · exact (show _ = kI σ 9 0 + 1 from rfl).trans (by rw [hs]; decide)
    · rw [kI_n (by omega), kI_n (by omega), kI_n (by omega)]
  · rw [if_neg c0, if_neg (show ¬ rank ≤ (mI μ 20 2) by rw [e0]; exact c0)]
    have e1 : (mI (sM (sM μ 20 3 (mI μ 20 2)) 21 3 (mI (sM μ 20 3 (mI μ 20 2)) 21 2)) 20 1) = (kI (sI (sI σ 5 3 (kI σ 5 2)) 7 3 (kI (sI σ 5 3 (kI σ 5 2)) 7 2)) 5 1) := by first | exact a0.1.symm | exact a1.1.symm | exact a2.1.symm
    by_cases c1 : rank ≤ (kI (sI (sI σ 5 3 (kI σ 5 2)) 7 3 (kI (sI σ 5 3 (kI σ 5 2)) 7 2)) 5 1)
    · rw [if_pos c1, if_pos (show rank ≤ (mI (sM (sM μ 20 3 (mI μ 20 2)) 21 3 (mI (sM μ 20 3 (mI μ 20 2)) 21 2)) 20 1) by rw [e1]; exact c1)]
      refine ⟨?_, ?_, fun f k hf => ?_⟩
      · skip
        refine kr_qupd h hxq (by decide) (fun f i h1 h2 h3 => ?_) (fun _ _ => rfl) (fun f i h1 h2 => ?_) ⟨4, by decide, ?_, ?_, fun i hi => ?_⟩
        · rw [kI_n (by omega), kI_n (by omega), kI_n (by omega), kI_n (by omega), kI_n (by omega)]
        · rw [mI_n (by omega), mI_n (by omega), mI_n (by omega), mI_n (by omega), mI_n (by omega)]
        · exact (show _ = kI σ 9 0 + 1 from rfl).trans (by rw [hs]; decide)
        · exact (show _ = mI μ 19 0 + 1 from rfl).trans (by rw [j3]; decide)
        · rcases (show i = 0 ∨ i = 1 ∨ i = 2 ∨ i = 3 by omega) with rfl | rfl | rfl | rfl
          · exact ⟨by first | rfl | exact a0.1 | exact a1.1 | exact a2.1, by first | rfl | exact a0.2 | exact a1.2 | exact a2.2⟩
          · exact ⟨by first | rfl | exact a0.1 | exact a1.1 | exact a2.1, by first | rfl | exact a0.2 | exact a1.2 | exact a2.2⟩
          · exact ⟨by first | rfl | exact a0.1 | exact a1.1 | exact a2.1, by first | rfl | exact a0.2 | exact a1.2 | exact a2.2⟩
          · exact ⟨by first | rfl | exact a0.1 | exact a1.1 | exact a2.1, by first | rfl | exact a0.2 | exact a1.2 | exact a2.2⟩
      · exact (show _ = kI σ 9 0 + 1 from rfl).trans (by rw [hs]; decide)
      · rw [kI_n (by omega), kI_n (by omega), kI_n (by omega), kI_n (by omega), kI_n (by omega)]
    · rw [if_neg c1, if_neg (show ¬ rank ≤ (mI (sM (sM μ 20 3 (mI μ 20 2)) 21 3 (mI (sM μ 20 3 (mI μ 20 2)) 21 2)) 20 1) by rw [e1]; exact c1)]
      have e2 : (mI (sM (sM (sM (sM μ 20 3 (mI μ 20 2)) 21 3 (mI (sM μ 20 3 (mI μ 20 2)) 21 2)) 20 2 (mI (sM (sM μ 20 3 (mI μ 20 2)) 21 3 (mI (sM μ 20 3 (mI μ 20 2)) 21 2)) 20 1)) 21 2 (mI (sM (sM (sM μ 20 3 (mI μ 20 2)) 21 3 (mI (sM μ 20 3 (mI μ 20 2)) 21 2)) 20 2 (mI (sM (sM μ 20 3 (mI μ 20 2)) 21 3 (mI (sM μ 20 3 (mI μ 20 2)) 21 2)) 20 1)) 21 1)) 20 0) = (kI (sI (sI (sI (sI σ 5 3 (kI σ 5 2)) 7 3 (kI (sI σ 5 3 (kI σ 5 2)) 7 2)) 5 2 (kI (sI (sI σ 5 3 (kI σ 5 2)) 7 3 (kI (sI σ 5 3 (kI σ 5 2)) 7 2)) 5 1)) 7 2 (kI (sI (sI (sI σ 5 3 (kI σ 5 2)) 7 3 (kI (sI σ 5 3 (kI σ 5 2)) 7 2)) 5 2 (kI (sI (sI σ 5 3 (kI σ 5 2)) 7 3 (kI (sI σ 5 3 (kI σ 5 2)) 7 2)) 5 1)) 7 1)) 5 0) := by first | exact a0.1.symm | exact a1.1.symm | exact a2.1.symm
      by_cases c2 : rank ≤ (kI (sI (sI (sI (sI σ 5 3 (kI σ 5 2)) 7 3 (kI (sI σ 5 3 (kI σ 5 2)) 7 2)) 5 2 (kI (sI (sI σ 5 3 (kI σ 5 2)) 7 3 (kI (sI σ 5 3 (kI σ 5 2)) 7 2)) 5 1)) 7 2 (kI (sI (sI (sI σ 5 3 (kI σ 5 2)) 7 3 (kI (sI σ 5 3 (kI σ 5 2)) 7 2)) 5 2 (kI (sI (sI σ 5 3 (kI σ 5 2)) 7 3 (kI (sI σ 5 3 (kI σ 5 2)) 7 2)) 5 1)) 7 1)) 5 0)
      · rw [if_pos c2, if_pos (show rank ≤ (mI (sM (sM (sM (sM μ 20 3 (mI μ 20 2)) 21 3 (mI (sM μ 20 3 (mI μ 20 2)) 21 2)) 20 2 (mI (sM (sM μ 20 3 (mI μ 20 2)) 21 3 (mI (sM μ 20 3 (mI μ 20 2)) 21 2)) 20 1)) 21 2 (mI (sM (sM (sM μ 20 3 (mI μ 20 2)) 21 3 (mI (sM μ 20 3 (mI μ 20 2)) 21 2)) 20 2 (mI (sM (sM μ 20 3 (mI μ 20 2)) 21 3 (mI (sM μ 20 3 (mI μ 20 2)) 21 2)) 20 1)) 21 1)) 20 0) by rw [e2]; exact c2)]
        refine ⟨?_, ?_, fun f k hf => ?_⟩
        · skip
          refine kr_qupd h hxq (by decide) (fun f i h1 h2 h3 => ?_) (fun _ _ => rfl) (fun f i h1 h2 => ?_) ⟨4, by decide, ?_, ?_, fun i hi => ?_⟩
          · rw [kI_n (by omega), kI_n (by omega), kI_n (by omega), kI_n (by omega), kI_n (by omega), kI_n (by omega), kI_n (by omega)]
          · rw [mI_n (by omega), mI_n (by omega), mI_n (by omega), mI_n (by omega), mI_n (by omega), mI_n (by omega), mI_n (by omega)]
          · exact (show _ = kI σ 9 0 + 1 from rfl).trans (by rw [hs]; decide)
          · exact (show _ = mI μ 19 0 + 1 from rfl).trans (by rw [j3]; decide)
          · rcases (show i = 0 ∨ i = 1 ∨ i = 2 ∨ i = 3 by omega) with rfl | rfl | rfl | rfl
            · exact ⟨by first | rfl | exact a0.1 | exact a1.1 | exact a2.1, by first | rfl | exact a0.2 | exact a1.2 | exact a2.2⟩
            · exact ⟨by first | rfl | exact a0.1 | exact a1.1 | exact a2.1, by first | rfl | exact a0.2 | exact a1.2 | exact a2.2⟩
            · exact ⟨by first | rfl | exact a0.1 | exact a1.1 | exact a2.1, by first | rfl | exact a0.2 | exact a1.2 | exact a2.2⟩
            · exact ⟨by first | rfl | exact a0.1 | exact a1.1 | exact a2.1, by first | rfl | exact a0.2 | exact a1.2 | exact a2.2⟩
        · exact (show _ = kI σ 9 0 + 1 from rfl).trans (by rw [hs]; decide)
        · rw [kI_n (by omega), kI_n (by omega), kI_n (by omega), kI_n (by omega), kI_n (by omega), kI_n (by omega), kI_n (by omega)]
      · rw [if_neg c2, if_neg (show ¬ rank ≤ (mI (sM (sM (sM (sM μ 20 3 (mI μ 20 2)) 21 3 (mI (sM μ 20 3 (mI μ 20 2)) 21 2)) 20 2 (mI (sM (sM μ 20 3 (mI μ 20 2)) 21 3 (mI (sM μ 20 3 (mI μ 20 2)) 21 2)) 20 1)) 21 2 (mI (sM (sM (sM μ 20 3 (mI μ 20 2)) 21 3 (mI (sM μ 20 3 (mI μ 20 2)) 21 2)) 20 2 (mI (sM (sM μ 20 3 (mI μ 20 2)) 21 3 (mI (sM μ 20 3 (mI μ 20 2)) 21 2)) 20 1)) 21 1)) 20 0) by rw [e2]; exact c2)]
        refine ⟨?_, ?_, fun f k hf => ?_⟩
        · skip
          refine kr_qupd h hxq (by decide) (fun f i h1 h2 h3 => ?_) (fun _ _ => rfl) (fun f i h1 h2 => ?_) ⟨4, by decide, ?_, ?_, fun i hi => ?_⟩
          · rw [kI_n (by omega), kI_n (by omega), kI_n (by omega), kI_n (by omega), kI_n (by omega), kI_n (by omega), kI_n (by omega), kI_n (by omega), kI_n (by omega)]
          · rw [mI_n (by omega), mI_n (by omega), mI_n (by omega), mI_n (by omega), mI_n (by omega), mI_n (by omega), mI_n (by omega), mI_n (by omega), mI_n (by omega)]
          · exact (show _ = kI σ 9 0 + 1 from rfl).trans (by rw [hs]; decide)
          · exact (show _ = mI μ 19 0 + 1 from rfl).trans (by rw [j3]; decide)
          · rcases (show i = 0 ∨ i = 1 ∨ i = 2 ∨ i = 3 by omega) with rfl | rfl | rfl | rfl
            · exact ⟨by first | rfl | exact a0.1 | exact a1.1 | exact a2.1, by first | rfl | exact a0.2 | exact a1.2 | exact a2.2⟩
            · exact ⟨by first | rfl | exact a0.1 | exact a1.1 | exact a2.1, by first | rfl | exact a0.2 | exact a1.2 | exact a2.2⟩
            · exact ⟨by first | rfl | exact a0.1 | exact a1.1 | exact a2.1, by first | rfl | exact a0.2 | exact a1.2 | exact a2.2⟩
            · exact ⟨by first | rfl | exact a0.1 | exact a1.1 | exact a2.1, by first | rfl | exact a0.2 | exact a1.2 | exact a2.2⟩
        · exact (show _ = kI σ 9 0 + 1 from rfl).trans (by rw [hs]; decide)
        · rw [kI_n (by omega), kI_n (by omega), kI_n (by omega), kI_n (by omega), kI_n (by omega), kI_n (by omega), kI_n (by omega), kI_n (by omega), kI_n (by omega)]
set_option maxHeartbeats 4000000 in
theorem kr_ins_1_0 {N B x : Nat} {σ : kx_S} {μ : km_S} (rank value : Int32) (h : kr N B x σ μ) (hxq : x = 2 ∨ x = 1) (hs : kI σ 9 1 = nI 0) : kr N B 1 (xf_insert_1 σ rank value) (mf_comeIn μ 1 rank value) ∧ kI (xf_insert_1 σ rank value) 9 1 = nI 1 ∧ ∀ f k, 10 ≤ f → kI (xf_insert_1 σ rank value) f k = kI σ f k := by
  obtain ⟨j, j1, j2, j3, j4⟩ := h.2.2.2.1 1 (by decide)
  obtain rfl : j = 0 := (nI_eq (by omega) (by omega)).mp (j2.symm.trans hs)
  have full : xf_isFull_1 σ = (0, σ) := by unfold xf_isFull_1; rw [if_neg (by rw [hs]; decide)]
  rw [xf_insert_1, kk_b_eq full, if_pos rfl, if_pos (show kI σ 9 1 = 0 by rw [hs]; decide)]
  rw [mf_comeIn, if_neg (show ¬ (1 : Int32) = 0 by decide), if_pos (show mI μ 19 1 = 0 by rw [j3]; decide)]
  refine ⟨?_, ?_, fun f k hf => ?_⟩
  · skip
    refine kr_qupd h hxq (by decide) (fun f i h1 h2 h3 => ?_) (fun _ _ => rfl) (fun f i h1 h2 => ?_) ⟨1, by decide, ?_, ?_, fun i hi => ?_⟩
    · rw [kI_n (by omega), kI_n (by omega), kI_n (by omega)]
    · rw [mI_n (by omega), mI_n (by omega), mI_n (by omega)]
    · exact (show _ = kI σ 9 1 + 1 from rfl).trans (by rw [hs]; decide)
    · exact (show _ = mI μ 19 1 + 1 from rfl).trans (by rw [j3]; decide)
    · rcases (show i = 0 by omega) with rfl
      exact ⟨by first | rfl, by first | rfl⟩
  · exact (show _ = kI σ 9 1 + 1 from rfl).trans (by rw [hs]; decide)
  · rw [kI_n (by omega), kI_n (by omega), kI_n (by omega)]
set_option maxHeartbeats 4000000 in
theorem kr_ins_1_1 {N B x : Nat} {σ : kx_S} {μ : km_S} (rank value : Int32) (h : kr N B x σ μ) (hxq : x = 2 ∨ x = 1) (hs : kI σ 9 1 = nI 1) : kr N B 1 (xf_insert_1 σ rank value) (mf_comeIn μ 1 rank value) ∧ kI (xf_insert_1 σ rank value) 9 1 = nI 2 ∧ ∀ f k, 10 ≤ f → kI (xf_insert_1 σ rank value) f k = kI σ f k := by
  obtain ⟨j, j1, j2, j3, j4⟩ := h.2.2.2.1 1 (by decide)
  obtain rfl : j = 1 := (nI_eq (by omega) (by omega)).mp (j2.symm.trans hs)
  have a0 := j4 0 (by decide)
  have full : xf_isFull_1 σ = (0, σ) := by unfold xf_isFull_1; rw [if_neg (by rw [hs]; decide)]
  rw [xf_insert_1, kk_b_eq full, if_pos rfl, if_neg (show ¬ kI σ 9 1 = 0 by rw [hs]; decide), if_pos (show kI σ 9 1 = 1 by rw [hs]; decide)]
  rw [mf_comeIn, if_neg (show ¬ (1 : Int32) = 0 by decide), if_neg (show ¬ mI μ 19 1 = 0 by rw [j3]; decide), if_pos (show mI μ 19 1 = 1 by rw [j3]; decide)]
  have e0 : (mI μ 20 4) = (kI σ 6 0) := by first | exact a0.1.symm
  by_cases c0 : rank ≤ (kI σ 6 0)
  · rw [if_pos c0, if_pos (show rank ≤ (mI μ 20 4) by rw [e0]; exact c0)]
    refine ⟨?_, ?_, fun f k hf => ?_⟩
    · skip
      refine kr_qupd h hxq (by decide) (fun f i h1 h2 h3 => ?_) (fun _ _ => rfl) (fun f i h1 h2 => ?_) ⟨2, by decide, ?_, ?_, fun i hi => ?_⟩
      · rw [kI_n (by omega), kI_n (by omega), kI_n (by omega)]
      · rw [mI_n (by omega), mI_n (by omega), mI_n (by omega)]
      · exact (show _ = kI σ 9 1 + 1 from rfl).trans (by rw [hs]; decide)
      · exact (show _ = mI μ 19 1 + 1 from rfl).trans (by rw [j3]; decide)
      · rcases (show i = 0 ∨ i = 1 by omega) with rfl | rfl
        · exact ⟨by first | rfl | exact a0.1, by first | rfl | exact a0.2⟩
        · exact ⟨by first | rfl | exact a0.1, by first | rfl | exact a0.2⟩
    · exact (show _ = kI σ 9 1 + 1 from rfl).trans (by rw [hs]; decide)
    · rw [kI_n (by omega), kI_n (by omega), kI_n (by omega)]
  · rw [if_neg c0, if_neg (show ¬ rank ≤ (mI μ 20 4) by rw [e0]; exact c0)]
    refine ⟨?_, ?_, fun f k hf => ?_⟩
    · skip
      refine kr_qupd h hxq (by decide) (fun f i h1 h2 h3 => ?_) (fun _ _ => rfl) (fun f i h1 h2 => ?_) ⟨2, by decide, ?_, ?_, fun i hi => ?_⟩
      · rw [kI_n (by omega), kI_n (by omega), kI_n (by omega), kI_n (by omega), kI_n (by omega)]
      · rw [mI_n (by omega), mI_n (by omega), mI_n (by omega), mI_n (by omega), mI_n (by omega)]
      · exact (show _ = kI σ 9 1 + 1 from rfl).trans (by rw [hs]; decide)
      · exact (show _ = mI μ 19 1 + 1 from rfl).trans (by rw [j3]; decide)
      · rcases (show i = 0 ∨ i = 1 by omega) with rfl | rfl
        · exact ⟨by first | rfl | exact a0.1, by first | rfl | exact a0.2⟩
        · exact ⟨by first | rfl | exact a0.1, by first | rfl | exact a0.2⟩
    · exact (show _ = kI σ 9 1 + 1 from rfl).trans (by rw [hs]; decide)
    · rw [kI_n (by omega), kI_n (by omega), kI_n (by omega), kI_n (by omega), kI_n (by omega)]
set_option maxHeartbeats 4000000 in
theorem kr_ins_1_2 {N B x : Nat} {σ : kx_S} {μ : km_S} (rank value : Int32) (h : kr N B x σ μ) (hxq : x = 2 ∨ x = 1) (hs : kI σ 9 1 = nI 2) : kr N B 1 (xf_insert_1 σ rank value) (mf_comeIn μ 1 rank value) ∧ kI (xf_insert_1 σ rank value) 9 1 = nI 3 ∧ ∀ f k, 10 ≤ f → kI (xf_insert_1 σ rank value) f k = kI σ f k := by
  obtain ⟨j, j1, j2, j3, j4⟩ := h.2.2.2.1 1 (by decide)
  obtain rfl : j = 2 := (nI_eq (by omega) (by omega)).mp (j2.symm.trans hs)
  have a0 := j4 0 (by decide)
  have a1 := j4 1 (by decide)
  have full : xf_isFull_1 σ = (0, σ) := by unfold xf_isFull_1; rw [if_neg (by rw [hs]; decide)]
  rw [xf_insert_1, kk_b_eq full, if_pos rfl, if_neg (show ¬ kI σ 9 1 = 0 by rw [hs]; decide), if_neg (show ¬ kI σ 9 1 = 1 by rw [hs]; decide), if_pos (show kI σ 9 1 = 2 by rw [hs]; decide)]
  rw [mf_comeIn, if_neg (show ¬ (1 : Int32) = 0 by decide), if_neg (show ¬ mI μ 19 1 = 0 by rw [j3]; decide), if_neg (show ¬ mI μ 19 1 = 1 by rw [j3]; decide), if_pos (show mI μ 19 1 = 2 by rw [j3]; decide)]
  have e0 : (mI μ 20 5) = (kI σ 6 1) := by first | exact a0.1.symm | exact a1.1.symm
  by_cases c0 : rank ≤ (kI σ 6 1)
  · rw [if_pos c0, if_pos (show rank ≤ (mI μ 20 5) by rw [e0]; exact c0)]
    refine ⟨?_, ?_, fun f k hf => ?_⟩
    · skip
      refine kr_qupd h hxq (by decide) (fun f i h1 h2 h3 => ?_) (fun _ _ => rfl) (fun f i h1 h2 => ?_) ⟨3, by decide, ?_, ?_, fun i hi => ?_⟩
      · rw [kI_n (by omega), kI_n (by omega), kI_n (by omega)]
      · rw [mI_n (by omega), mI_n (by omega), mI_n (by omega)]
      · exact (show _ = kI σ 9 1 + 1 from rfl).trans (by rw [hs]; decide)
      · exact (show _ = mI μ 19 1 + 1 from rfl).trans (by rw [j3]; decide)
      · rcases (show i = 0 ∨ i = 1 ∨ i = 2 by omega) with rfl | rfl | rfl
        · exact ⟨by first | rfl | exact a0.1 | exact a1.1, by first | rfl | exact a0.2 | exact a1.2⟩
        · exact ⟨by first | rfl | exact a0.1 | exact a1.1, by first | rfl | exact a0.2 | exact a1.2⟩
        · exact ⟨by first | rfl | exact a0.1 | exact a1.1, by first | rfl | exact a0.2 | exact a1.2⟩
    · exact (show _ = kI σ 9 1 + 1 from rfl).trans (by rw [hs]; decide)
    · rw [kI_n (by omega), kI_n (by omega), kI_n (by omega)]
  · rw [if_neg c0, if_neg (show ¬ rank ≤ (mI μ 20 5) by rw [e0]; exact c0)]
    have e1 : (mI (sM (sM μ 20 6 (mI μ 20 5)) 21 6 (mI (sM μ 20 6 (mI μ 20 5)) 21 5)) 20 4) = (kI (sI (sI σ 6 2 (kI σ 6 1)) 8 2 (kI (sI σ 6 2 (kI σ 6 1)) 8 1)) 6 0) := by first | exact a0.1.symm | exact a1.1.symm
    by_cases c1 : rank ≤ (kI (sI (sI σ 6 2 (kI σ 6 1)) 8 2 (kI (sI σ 6 2 (kI σ 6 1)) 8 1)) 6 0)
    · rw [if_pos c1, if_pos (show rank ≤ (mI (sM (sM μ 20 6 (mI μ 20 5)) 21 6 (mI (sM μ 20 6 (mI μ 20 5)) 21 5)) 20 4) by rw [e1]; exact c1)]
      refine ⟨?_, ?_, fun f k hf => ?_⟩
      · skip
        refine kr_qupd h hxq (by decide) (fun f i h1 h2 h3 => ?_) (fun _ _ => rfl) (fun f i h1 h2 => ?_) ⟨3, by decide, ?_, ?_, fun i hi => ?_⟩
        · rw [kI_n (by omega), kI_n (by omega), kI_n (by omega), kI_n (by omega), kI_n (by omega)]
        · rw [mI_n (by omega), mI_n (by omega), mI_n (by omega), mI_n (by omega), mI_n (by omega)]
        · exact (show _ = kI σ 9 1 + 1 from rfl).trans (by rw [hs]; decide)
        · exact (show _ = mI μ 19 1 + 1 from rfl).trans (by rw [j3]; decide)
        · rcases (show i = 0 ∨ i = 1 ∨ i = 2 by omega) with rfl | rfl | rfl
          · exact ⟨by first | rfl | exact a0.1 | exact a1.1, by first | rfl | exact a0.2 | exact a1.2⟩
          · exact ⟨by first | rfl | exact a0.1 | exact a1.1, by first | rfl | exact a0.2 | exact a1.2⟩
          · exact ⟨by first | rfl | exact a0.1 | exact a1.1, by first | rfl | exact a0.2 | exact a1.2⟩
      · exact (show _ = kI σ 9 1 + 1 from rfl).trans (by rw [hs]; decide)
      · rw [kI_n (by omega), kI_n (by omega), kI_n (by omega), kI_n (by omega), kI_n (by omega)]
    · rw [if_neg c1, if_neg (show ¬ rank ≤ (mI (sM (sM μ 20 6 (mI μ 20 5)) 21 6 (mI (sM μ 20 6 (mI μ 20 5)) 21 5)) 20 4) by rw [e1]; exact c1)]
      refine ⟨?_, ?_, fun f k hf => ?_⟩
      · skip
        refine kr_qupd h hxq (by decide) (fun f i h1 h2 h3 => ?_) (fun _ _ => rfl) (fun f i h1 h2 => ?_) ⟨3, by decide, ?_, ?_, fun i hi => ?_⟩
        · rw [kI_n (by omega), kI_n (by omega), kI_n (by omega), kI_n (by omega), kI_n (by omega), kI_n (by omega), kI_n (by omega)]
        · rw [mI_n (by omega), mI_n (by omega), mI_n (by omega), mI_n (by omega), mI_n (by omega), mI_n (by omega), mI_n (by omega)]
        · exact (show _ = kI σ 9 1 + 1 from rfl).trans (by rw [hs]; decide)
        · exact (show _ = mI μ 19 1 + 1 from rfl).trans (by rw [j3]; decide)
        · rcases (show i = 0 ∨ i = 1 ∨ i = 2 by omega) with rfl | rfl | rfl
          · exact ⟨by first | rfl | exact a0.1 | exact a1.1, by first | rfl | exact a0.2 | exact a1.2⟩
          · exact ⟨by first | rfl | exact a0.1 | exact a1.1, by first | rfl | exact a0.2 | exact a1.2⟩
          · exact ⟨by first | rfl | exact a0.1 | exact a1.1, by first | rfl | exact a0.2 | exact a1.2⟩
      · exact (show _ = kI σ 9 1 + 1 from rfl).trans (by rw [hs]; decide)
      · rw [kI_n (by omega), kI_n (by omega), kI_n (by omega), kI_n (by omega), kI_n (by omega), kI_n (by omega), kI_n (by omega)]
set_option maxHeartbeats 4000000 in
theorem kr_ins_1_3 {N B x : Nat} {σ : kx_S} {μ : km_S} (rank value : Int32) (h : kr N B x σ μ) (hxq : x = 2 ∨ x = 1) (hs : kI σ 9 1 = nI 3) : kr N B 1 (xf_insert_1 σ rank value) (mf_comeIn μ 1 rank value) ∧ kI (xf_insert_1 σ rank value) 9 1 = nI 4 ∧ ∀ f k, 10 ≤ f → kI (xf_insert_1 σ rank value) f k = kI σ f k := by
  obtain ⟨j, j1, j2, j3, j4⟩ := h.2.2.2.1 1 (by decide)
  obtain rfl : j = 3 := (nI_eq (by omega) (by omega)).mp (j2.symm.trans hs)
  have a0 := j4 0 (by decide)
  have a1 := j4 1 (by decide)
  have a2 := j4 2 (by decide)
  have full : xf_isFull_1 σ = (0, σ) := by unfold xf_isFull_1; rw [if_neg (by rw [hs]; decide)]
  rw [xf_insert_1, kk_b_eq full, if_pos rfl, if_neg (show ¬ kI σ 9 1 = 0 by rw [hs]; decide), if_neg (show ¬ kI σ 9 1 = 1 by rw [hs]; decide), if_neg (show ¬ kI σ 9 1 = 2 by rw [hs]; decide)]
  rw [mf_comeIn, if_neg (show ¬ (1 : Int32) = 0 by decide), if_neg (show ¬ mI μ 19 1 = 0 by rw [j3]; decide), if_neg (show ¬ mI μ 19 1 = 1 by rw [j3]; decide), if_neg (show ¬ mI μ 19 1 = 2 by rw [j3]; decide)]
  have e0 : (mI μ 20 6) = (kI σ 6 2) := by first | exact a0.1.symm | exact a1.1.symm | exact a2.1.symm
  by_cases c0 : rank ≤ (kI σ 6 2)
  · rw [if_pos c0, if_pos (show rank ≤ (mI μ 20 6) by rw [e0]; exact c0)]
    refine ⟨?_, ?_, fun f k hf => ?_⟩
    · skip
      refine kr_qupd h hxq (by decide) (fun f i h1 h2 h3 => ?_) (fun _ _ => rfl) (fun f i h1 h2 => ?_) ⟨4, by decide, ?_, ?_, fun i hi => ?_⟩
      · rw [kI_n (by omega), kI_n (by omega), kI_n (by omega)]
      · rw [mI_n (by omega), mI_n (by omega), mI_n (by omega)]
      · exact (show _ = kI σ 9 1 + 1 from rfl).trans (by rw [hs]; decide)
      · exact (show _ = mI μ 19 1 + 1 from rfl).trans (by rw [j3]; decide)
      · rcases (show i = 0 ∨ i = 1 ∨ i = 2 ∨ i = 3 by omega) with rfl | rfl | rfl | rfl
        · exact ⟨by first | rfl | exact a0.1 | exact a1.1 | exact a2.1, by first | rfl | exact a0.2 | exact a1.2 | exact a2.2⟩
        · exact ⟨by first | rfl | exact a0.1 | exact a1.1 | exact a2.1, by first | rfl | exact a0.2 | exact a1.2 | exact a2.2⟩
        · exact ⟨by first | rfl | exact a0.1 | exact a1.1 | exact a2.1, by first | rfl | exact a0.2 | exact a1.2 | exact a2.2⟩
        · exact ⟨by first | rfl | exact a0.1 | exact a1.1 | exact a2.1, by first | rfl | exact a0.2 | exact a1.2 | exact a2.2⟩
    · exact (show _ = kI σ 9 1 + 1 from rfl).trans (by rw [hs]; decide)
    · rw [kI_n (by omega), kI_n (by omega), kI_n (by omega)]
  · rw [if_neg c0, if_neg (show ¬ rank ≤ (mI μ 20 6) by rw [e0]; exact c0)]
    have e1 : (mI (sM (sM μ 20 7 (mI μ 20 6)) 21 7 (mI (sM μ 20 7 (mI μ 20 6)) 21 6)) 20 5) = (kI (sI (sI σ 6 3 (kI σ 6 2)) 8 3 (kI (sI σ 6 3 (kI σ 6 2)) 8 2)) 6 1) := by first | exact a0.1.symm | exact a1.1.symm | exact a2.1.symm
    by_cases c1 : rank ≤ (kI (sI (sI σ 6 3 (kI σ 6 2)) 8 3 (kI (sI σ 6 3 (kI σ 6 2)) 8 2)) 6 1)
    · rw [if_pos c1, if_pos (show rank ≤ (mI (sM (sM μ 20 7 (mI μ 20 6)) 21 7 (mI (sM μ 20 7 (mI μ 20 6)) 21 6)) 20 5) by rw [e1]; exact c1)]
      refine ⟨?_, ?_, fun f k hf => ?_⟩
      · skip
        refine kr_qupd h hxq (by decide) (fun f i h1 h2 h3 => ?_) (fun _ _ => rfl) (fun f i h1 h2 => ?_) ⟨4, by decide, ?_, ?_, fun i hi => ?_⟩
        · rw [kI_n (by omega), kI_n (by omega), kI_n (by omega), kI_n (by omega), kI_n (by omega)]
        · rw [mI_n (by omega), mI_n (by omega), mI_n (by omega), mI_n (by omega), mI_n (by omega)]
        · exact (show _ = kI σ 9 1 + 1 from rfl).trans (by rw [hs]; decide)
        · exact (show _ = mI μ 19 1 + 1 from rfl).trans (by rw [j3]; decide)
        · rcases (show i = 0 ∨ i = 1 ∨ i = 2 ∨ i = 3 by omega) with rfl | rfl | rfl | rfl
          · exact ⟨by first | rfl | exact a0.1 | exact a1.1 | exact a2.1, by first | rfl | exact a0.2 | exact a1.2 | exact a2.2⟩
          · exact ⟨by first | rfl | exact a0.1 | exact a1.1 | exact a2.1, by first | rfl | exact a0.2 | exact a1.2 | exact a2.2⟩
          · exact ⟨by first | rfl | exact a0.1 | exact a1.1 | exact a2.1, by first | rfl | exact a0.2 | exact a1.2 | exact a2.2⟩
          · exact ⟨by first | rfl | exact a0.1 | exact a1.1 | exact a2.1, by first | rfl | exact a0.2 | exact a1.2 | exact a2.2⟩
      · exact (show _ = kI σ 9 1 + 1 from rfl).trans (by rw [hs]; decide)
      · rw [kI_n (by omega), kI_n (by omega), kI_n (by omega), kI_n (by omega), kI_n (by omega)]
    · rw [if_neg c1, if_neg (show ¬ rank ≤ (mI (sM (sM μ 20 7 (mI μ 20 6)) 21 7 (mI (sM μ 20 7 (mI μ 20 6)) 21 6)) 20 5) by rw [e1]; exact c1)]
      have e2 : (mI (sM (sM (sM (sM μ 20 7 (mI μ 20 6)) 21 7 (mI (sM μ 20 7 (mI μ 20 6)) 21 6)) 20 6 (mI (sM (sM μ 20 7 (mI μ 20 6)) 21 7 (mI (sM μ 20 7 (mI μ 20 6)) 21 6)) 20 5)) 21 6 (mI (sM (sM (sM μ 20 7 (mI μ 20 6)) 21 7 (mI (sM μ 20 7 (mI μ 20 6)) 21 6)) 20 6 (mI (sM (sM μ 20 7 (mI μ 20 6)) 21 7 (mI (sM μ 20 7 (mI μ 20 6)) 21 6)) 20 5)) 21 5)) 20 4) = (kI (sI (sI (sI (sI σ 6 3 (kI σ 6 2)) 8 3 (kI (sI σ 6 3 (kI σ 6 2)) 8 2)) 6 2 (kI (sI (sI σ 6 3 (kI σ 6 2)) 8 3 (kI (sI σ 6 3 (kI σ 6 2)) 8 2)) 6 1)) 8 2 (kI (sI (sI (sI σ 6 3 (kI σ 6 2)) 8 3 (kI (sI σ 6 3 (kI σ 6 2)) 8 2)) 6 2 (kI (sI (sI σ 6 3 (kI σ 6 2)) 8 3 (kI (sI σ 6 3 (kI σ 6 2)) 8 2)) 6 1)) 8 1)) 6 0) := by first | exact a0.1.symm | exact a1.1.symm | exact a2.1.symm
      by_cases c2 : rank ≤ (kI (sI (sI (sI (sI σ 6 3 (kI σ 6 2)) 8 3 (kI (sI σ 6 3 (kI σ 6 2)) 8 2)) 6 2 (kI (sI (sI σ 6 3 (kI σ 6 2)) 8 3 (kI (sI σ 6 3 (kI σ 6 2)) 8 2)) 6 1)) 8 2 (kI (sI (sI (sI σ 6 3 (kI σ 6 2)) 8 3 (kI (sI σ 6 3 (kI σ 6 2)) 8 2)) 6 2 (kI (sI (sI σ 6 3 (kI σ 6 2)) 8 3 (kI (sI σ 6 3 (kI σ 6 2)) 8 2)) 6 1)) 8 1)) 6 0)
      · rw [if_pos c2, if_pos (show rank ≤ (mI (sM (sM (sM (sM μ 20 7 (mI μ 20 6)) 21 7 (mI (sM μ 20 7 (mI μ 20 6)) 21 6)) 20 6 (mI (sM (sM μ 20 7 (mI μ 20 6)) 21 7 (mI (sM μ 20 7 (mI μ 20 6)) 21 6)) 20 5)) 21 6 (mI (sM (sM (sM μ 20 7 (mI μ 20 6)) 21 7 (mI (sM μ 20 7 (mI μ 20 6)) 21 6)) 20 6 (mI (sM (sM μ 20 7 (mI μ 20 6)) 21 7 (mI (sM μ 20 7 (mI μ 20 6)) 21 6)) 20 5)) 21 5)) 20 4) by rw [e2]; exact c2)]
        refine ⟨?_, ?_, fun f k hf => ?_⟩
        · skip
          refine kr_qupd h hxq (by decide) (fun f i h1 h2 h3 => ?_) (fun _ _ => rfl) (fun f i h1 h2 => ?_) ⟨4, by decide, ?_, ?_, fun i hi => ?_⟩
          · rw [kI_n (by omega), kI_n (by omega), kI_n (by omega), kI_n (by omega), kI_n (by omega), kI_n (by omega), kI_n (by omega)]
          · rw [mI_n (by omega), mI_n (by omega), mI_n (by omega), mI_n (by omega), mI_n (by omega), mI_n (by omega), mI_n (by omega)]
          · exact (show _ = kI σ 9 1 + 1 from rfl).trans (by rw [hs]; decide)
          · exact (show _ = mI μ 19 1 + 1 from rfl).trans (by rw [j3]; decide)
          · rcases (show i = 0 ∨ i = 1 ∨ i = 2 ∨ i = 3 by omega) with rfl | rfl | rfl | rfl
            · exact ⟨by first | rfl | exact a0.1 | exact a1.1 | exact a2.1, by first | rfl | exact a0.2 | exact a1.2 | exact a2.2⟩
            · exact ⟨by first | rfl | exact a0.1 | exact a1.1 | exact a2.1, by first | rfl | exact a0.2 | exact a1.2 | exact a2.2⟩
            · exact ⟨by first | rfl | exact a0.1 | exact a1.1 | exact a2.1, by first | rfl | exact a0.2 | exact a1.2 | exact a2.2⟩
            · exact ⟨by first | rfl | exact a0.1 | exact a1.1 | exact a2.1, by first | rfl | exact a0.2 | exact a1.2 | exact a2.2⟩
        · exact (show _ = kI σ 9 1 + 1 from rfl).trans (by rw [hs]; decide)
        · rw [kI_n (by omega), kI_n (by omega), kI_n (by omega), kI_n (by omega), kI_n (by omega), kI_n (by omega), kI_n (by omega)]
      · rw [if_neg c2, if_neg (show ¬ rank ≤ (mI (sM (sM (sM (sM μ 20 7 (mI μ 20 6)) 21 7 (mI (sM μ 20 7 (mI μ 20 6)) 21 6)) 20 6 (mI (sM (sM μ 20 7 (mI μ 20 6)) 21 7 (mI (sM μ 20 7 (mI μ 20 6)) 21 6)) 20 5)) 21 6 (mI (sM (sM (sM μ 20 7 (mI μ 20 6)) 21 7 (mI (sM μ 20 7 (mI μ 20 6)) 21 6)) 20 6 (mI (sM (sM μ 20 7 (mI μ 20 6)) 21 7 (mI (sM μ 20 7 (mI μ 20 6)) 21 6)) 20 5)) 21 5)) 20 4) by rw [e2]; exact c2)]
        refine ⟨?_, ?_, fun f k hf => ?_⟩
        · skip
          refine kr_qupd h hxq (by decide) (fun f i h1 h2 h3 => ?_) (fun _ _ => rfl) (fun f i h1 h2 => ?_) ⟨4, by decide, ?_, ?_, fun i hi => ?_⟩
          · rw [kI_n (by omega), kI_n (by omega), kI_n (by omega), kI_n (by omega), kI_n (by omega), kI_n (by omega), kI_n (by omega), kI_n (by omega), kI_n (by omega)]
          · rw [mI_n (by omega), mI_n (by omega), mI_n (by omega), mI_n (by omega), mI_n (by omega), mI_n (by omega), mI_n (by omega), mI_n (by omega), mI_n (by omega)]
          · exact (show _ = kI σ 9 1 + 1 from rfl).trans (by rw [hs]; decide)
          · exact (show _ = mI μ 19 1 + 1 from rfl).trans (by rw [j3]; decide)
          · rcases (show i = 0 ∨ i = 1 ∨ i = 2 ∨ i = 3 by omega) with rfl | rfl | rfl | rfl
            · exact ⟨by first | rfl | exact a0.1 | exact a1.1 | exact a2.1, by first | rfl | exact a0.2 | exact a1.2 | exact a2.2⟩
            · exact ⟨by first | rfl | exact a0.1 | exact a1.1 | exact a2.1, by first | rfl | exact a0.2 | exact a1.2 | exact a2.2⟩
            · exact ⟨by first | rfl | exact a0.1 | exact a1.1 | exact a2.1, by first | rfl | exact a0.2 | exact a1.2 | exact a2.2⟩
            · exact ⟨by first | rfl | exact a0.1 | exact a1.1 | exact a2.1, by first | rfl | exact a0.2 | exact a1.2 | exact a2.2⟩
        · exact (show _ = kI σ 9 1 + 1 from rfl).trans (by rw [hs]; decide)
        · rw [kI_n (by omega), kI_n (by omega), kI_n (by omega), kI_n (by omega), kI_n (by omega), kI_n (by omega), kI_n (by omega), kI_n (by omega), kI_n (by omega)]
theorem kr_ins {N B x q j : Nat} {σ : kx_S} {μ : km_S} (rank value : Int32) (h : kr N B x σ μ) (hxq : x = 2 ∨ x = q) (hq : q < 2) (hj : j < 4) (hs : kI σ 9 q = nI j) : kr N B q (xf_insert σ q rank value) (mf_comeIn μ (nI q) rank value) ∧ kI (xf_insert σ q rank value) 9 q = nI (j + 1) ∧ ∀ f k, 10 ≤ f → kI (xf_insert σ q rank value) f k = kI σ f k := by
  rcases (show q = 0 ∨ q = 1 by omega) with rfl | rfl
  · rcases (show j = 0 ∨ j = 1 ∨ j = 2 ∨ j = 3 by omega) with rfl | rfl | rfl | rfl
    · exact kr_ins_0_0 rank value h hxq hs
    · exact kr_ins_0_1 rank value h hxq hs
    · exact kr_ins_0_2 rank value h hxq hs
    · exact kr_ins_0_3 rank value h hxq hs
  · rcases (show j = 0 ∨ j = 1 ∨ j = 2 ∨ j = 3 by omega) with rfl | rfl | rfl | rfl
    · exact kr_ins_1_0 rank value h hxq hs
    · exact kr_ins_1_1 rank value h hxq hs
    · exact kr_ins_1_2 rank value h hxq hs
    · exact kr_ins_1_3 rank value h hxq hs
