/-! the states of the class (kx) and of the reference (km), as functions; the cells that hold them -/
abbrev kx_S : Type := (Nat → Nat → Int32) × (Nat → Nat → Int64)
def kI (S : kx_S) (f i : Nat) : Int32 := S.1 f i
def kJ (S : kx_S) (f i : Nat) : Int64 := S.2 f i
def sI (S : kx_S) (f i : Nat) (v : Int32) : kx_S := (fun a => if a = f then upd (S.1 f) i v else S.1 a, S.2)
def sJ (S : kx_S) (f i : Nat) (v : Int64) : kx_S := (S.1, fun a => if a = f then vp_updL (S.2 f) i v else S.2 a)
theorem kI_sI {S : kx_S} {f i a b : Nat} {v : Int32} : kI (sI S f i v) a b = if a = f ∧ b = i then v else kI S a b := by
  unfold kI sI upd
  by_cases h : a = f
  · subst h
    by_cases h2 : b = i <;> simp [h2]
  · simp [h]
theorem kI_sJ {S : kx_S} {f i a b : Nat} {v : Int64} : kI (sJ S f i v) a b = kI S a b := rfl
theorem kJ_sI {S : kx_S} {f i a b : Nat} {v : Int32} : kJ (sI S f i v) a b = kJ S a b := rfl
theorem kJ_sJ {S : kx_S} {f i a b : Nat} {v : Int64} : kJ (sJ S f i v) a b = if a = f ∧ b = i then v else kJ S a b := by
  unfold kJ sJ vp_updL
  by_cases h : a = f
  · subst h
    by_cases h2 : b = i <;> simp [h2]
  · simp [h]
def kx_ta (ad : Nat → Nat) (t : Nat) : Nat := ad (11 + t)
def kx_qa (ad : Nat → Nat) (q : Nat) : Nat := ad (5 + q)

def kx_tf (S : kx_S) (t : Nat) : List Value := [.int (nI t), .int (kI S 10 t), .int (kI S 11 t), .int (kI S 12 t), .int (kI S 13 t), .int (kI S 14 t), .int (kI S 15 t), .long (kJ S 0 t), .int (kI S 16 t), .long (kJ S 1 t), .int (kI S 17 t), .int (kI S 18 t), .int (kI S 19 t), .int (kI S 20 t)]
def kx_h (ad : Nat → Nat) (cs : Nat → ClassId) (S : kx_S) : va_W := [(ad 0, .inr (2, [.int (kI S 0 0), .int (kI S 1 0), .ref (ad 1), .ref (ad 2), .ref (ad 3), .ref (ad 4), .int (kI S 2 0), .long (kJ S 2 0)])), (ad 1, .inl (cs 1, 8, .inr (.inr (.inr (.inr (fun i => if i < 8 then some (kx_ta ad i) else none)))))), (ad 2, .inl (cs 2, 4, .inl (kI S 3))), (ad 3, .inl (cs 3, 2, .inl (kI S 4))), (ad 4, .inl (cs 4, 2, .inr (.inr (.inr (.inr (fun i => if i < 2 then some (kx_qa ad i) else none)))))), (ad 5, .inr (0, [.ref (ad 7), .ref (ad 9), .int (kI S 9 0)])), (ad 6, .inr (0, [.ref (ad 8), .ref (ad 10), .int (kI S 9 1)])), (ad 7, .inl (cs 7, 4, .inl (kI S 5))), (ad 8, .inl (cs 8, 4, .inl (kI S 6))), (ad 9, .inl (cs 9, 4, .inl (kI S 7))), (ad 10, .inl (cs 10, 4, .inl (kI S 8)))]
def kx_w (ad : Nat → Nat) (cs : Nat → ClassId) (S : kx_S) : va_W := kx_h ad cs S ++ (List.range 8).map (fun t => (kx_ta ad t, .inr (1, kx_tf S t)))
def kx_t (cs : Nat → ClassId) : List (ClassId × FieldType) := [(cs 1, .object R_T), (cs 2, .int), (cs 3, .int), (cs 4, .object R_Q), (cs 7, .int), (cs 8, .int), (cs 9, .int), (cs 10, .int)]
def kx_inj (ad : Nat → Nat) : Prop := ∀ i j, i < 19 → j < 19 → ad i = ad j → i = j
def kx_A (ad : Nat → Nat) (q : Nat) : Prop := ∃ k, k < 19 ∧ q = ad k
theorem kx_len (ad : Nat → Nat) (cs : Nat → ClassId) (S : kx_S) : (kx_w ad cs S).length = 19 := rfl
theorem kx_adr {ad : Nat → Nat} {cs : Nat → ClassId} {S : kx_S} : ∀ (k : Nat) (q : Nat × va_E), (kx_w ad cs S)[k]? = some q → k < 19 ∧ q.1 = ad k
  | 0, q, h => by have e := Option.some.inj h; subst e; exact ⟨by decide, rfl⟩
  | 1, q, h => by have e := Option.some.inj h; subst e; exact ⟨by decide, rfl⟩
  | 2, q, h => by have e := Option.some.inj h; subst e; exact ⟨by decide, rfl⟩
  | 3, q, h => by have e := Option.some.inj h; subst e; exact ⟨by decide, rfl⟩
  | 4, q, h => by have e := Option.some.inj h; subst e; exact ⟨by decide, rfl⟩
  | 5, q, h => by have e := Option.some.inj h; subst e; exact ⟨by decide, rfl⟩
  | 6, q, h => by have e := Option.some.inj h; subst e; exact ⟨by decide, rfl⟩
  | 7, q, h => by have e := Option.some.inj h; subst e; exact ⟨by decide, rfl⟩
  | 8, q, h => by have e := Option.some.inj h; subst e; exact ⟨by decide, rfl⟩
  | 9, q, h => by have e := Option.some.inj h; subst e; exact ⟨by decide, rfl⟩
  | 10, q, h => by have e := Option.some.inj h; subst e; exact ⟨by decide, rfl⟩
  | 11, q, h => by have e := Option.some.inj h; subst e; exact ⟨by decide, rfl⟩
  | 12, q, h => by have e := Option.some.inj h; subst e; exact ⟨by decide, rfl⟩
  | 13, q, h => by have e := Option.some.inj h; subst e; exact ⟨by decide, rfl⟩
  | 14, q, h => by have e := Option.some.inj h; subst e; exact ⟨by decide, rfl⟩
  | 15, q, h => by have e := Option.some.inj h; subst e; exact ⟨by decide, rfl⟩
  | 16, q, h => by have e := Option.some.inj h; subst e; exact ⟨by decide, rfl⟩
  | 17, q, h => by have e := Option.some.inj h; subst e; exact ⟨by decide, rfl⟩
  | 18, q, h => by have e := Option.some.inj h; subst e; exact ⟨by decide, rfl⟩
  | k + 19, q, h => by have h2 := (List.getElem?_eq_some_iff.mp h).1; rw [kx_len] at h2; omega
theorem kx_D {ad : Nat → Nat} (hj : kx_inj ad) {cs : Nat → ClassId} {S : kx_S} : va_D (kx_A ad) (kx_w ad cs S) := by
  refine ⟨fun i j p q hi hj2 e => ?_, fun k q hk => ⟨k, (kx_adr k q hk).1, (kx_adr k q hk).2⟩⟩
  obtain ⟨h1, h2⟩ := kx_adr i p hi
  obtain ⟨h3, h4⟩ := kx_adr j q hj2
  exact hj i j h1 h3 (by rw [← h2, ← h4, e])
theorem kx_wT {ad : Nat → Nat} {cs : Nat → ClassId} {S : kx_S} : ∀ {t : Nat}, t < 8 → (kx_w ad cs S)[11 + t]? = some (kx_ta ad t, .inr (1, kx_tf S t))
  | 0, _ => rfl
  | 1, _ => rfl
  | 2, _ => rfl
  | 3, _ => rfl
  | 4, _ => rfl
  | 5, _ => rfl
  | 6, _ => rfl
  | 7, _ => rfl
  | t + 8, h => by omega
theorem kk_rset {α : Type} (g : Nat → α) (n t : Nat) (x : α) : ((List.range n).map g).set t x = (List.range n).map (fun j => if j = t then x else g j) := by
  apply List.ext_getElem?
  intro j
  rw [List.getElem?_set]
  by_cases hj : j < n
  · by_cases ht : t = j
    · subst ht
      simp [hj]
    · have ht2 : ¬ j = t := fun h => ht h.symm
      simp [hj, ht, ht2]
  · by_cases ht : t = j
    · subst ht
      simp [hj]
    · simp [hj, ht]
theorem kx_uT {ad : Nat → Nat} {cs : Nat → ClassId} {S S2 : kx_S} {t k : Nat} {v : Value} (hh : kx_h ad cs S2 = kx_h ad cs S) (h1 : kx_tf S2 t = (kx_tf S t).set k v) (h2 : ∀ j, j ≠ t → kx_tf S2 j = kx_tf S j) : (kx_w ad cs S).set (11 + t) (kx_ta ad t, .inr (1, (kx_tf S t).set k v)) = kx_w ad cs S2 := by
  unfold kx_w
  rw [hh, List.set_append_right _ _ (by show 11 ≤ 11 + t; omega), show 11 + t - (kx_h ad cs S).length = t from by show 11 + t - 11 = t; omega, kk_rset]
  congr 1
  apply List.map_congr_left
  intro j _
  by_cases hj : j = t
  · subst hj
    simp [h1]
  · simp [hj, h2 j hj]
theorem kx_u_state {D : va_G} {cl : List vw_C} {H : Heap} {ad : Nat → Nat} {cs : Nat → ClassId} {S : kx_S} {t : Nat} {v : Int32} (_ : t < 8) (h : va_P D cl ((kx_w ad cs S).set (11 + t) (kx_ta ad t, .inr (1, (kx_tf S t).set 1 (.int v)))) H) : va_P D cl (kx_w ad cs (sI S 10 t v)) H := by
  rw [kx_uT (ad := ad) (cs := cs) (S := S) (S2 := sI S 10 t v) (t := t) (k := 1) (v := .int v) rfl (by simp [kx_tf, kI_sI, kI_sJ, kJ_sI, kJ_sJ]) (fun j hj => by simp [kx_tf, kI_sI, kI_sJ, kJ_sI, kJ_sJ, hj])] at h
  exact h
theorem kx_u_base {D : va_G} {cl : List vw_C} {H : Heap} {ad : Nat → Nat} {cs : Nat → ClassId} {S : kx_S} {t : Nat} {v : Int32} (_ : t < 8) (h : va_P D cl ((kx_w ad cs S).set (11 + t) (kx_ta ad t, .inr (1, (kx_tf S t).set 2 (.int v)))) H) : va_P D cl (kx_w ad cs (sI S 11 t v)) H := by
  rw [kx_uT (ad := ad) (cs := cs) (S := S) (S2 := sI S 11 t v) (t := t) (k := 2) (v := .int v) rfl (by simp [kx_tf, kI_sI, kI_sJ, kJ_sI, kJ_sJ]) (fun j hj => by simp [kx_tf, kI_sI, kI_sJ, kJ_sI, kJ_sJ, hj])] at h
  exact h
theorem kx_u_effective {D : va_G} {cl : List vw_C} {H : Heap} {ad : Nat → Nat} {cs : Nat → ClassId} {S : kx_S} {t : Nat} {v : Int32} (_ : t < 8) (h : va_P D cl ((kx_w ad cs S).set (11 + t) (kx_ta ad t, .inr (1, (kx_tf S t).set 3 (.int v)))) H) : va_P D cl (kx_w ad cs (sI S 12 t v)) H := by
  rw [kx_uT (ad := ad) (cs := cs) (S := S) (S2 := sI S 12 t v) (t := t) (k := 3) (v := .int v) rfl (by simp [kx_tf, kI_sI, kI_sJ, kJ_sI, kJ_sJ]) (fun j hj => by simp [kx_tf, kI_sI, kI_sJ, kJ_sI, kJ_sJ, hj])] at h
  exact h
theorem kx_u_sliced {D : va_G} {cl : List vw_C} {H : Heap} {ad : Nat → Nat} {cs : Nat → ClassId} {S : kx_S} {t : Nat} {v : Int32} (_ : t < 8) (h : va_P D cl ((kx_w ad cs S).set (11 + t) (kx_ta ad t, .inr (1, (kx_tf S t).set 4 (.int v)))) H) : va_P D cl (kx_w ad cs (sI S 13 t v)) H := by
  rw [kx_uT (ad := ad) (cs := cs) (S := S) (S2 := sI S 13 t v) (t := t) (k := 4) (v := .int v) rfl (by simp [kx_tf, kI_sI, kI_sJ, kJ_sI, kJ_sJ]) (fun j hj => by simp [kx_tf, kI_sI, kI_sJ, kJ_sI, kJ_sJ, hj])] at h
  exact h
theorem kx_u_used {D : va_G} {cl : List vw_C} {H : Heap} {ad : Nat → Nat} {cs : Nat → ClassId} {S : kx_S} {t : Nat} {v : Int32} (_ : t < 8) (h : va_P D cl ((kx_w ad cs S).set (11 + t) (kx_ta ad t, .inr (1, (kx_tf S t).set 5 (.int v)))) H) : va_P D cl (kx_w ad cs (sI S 14 t v)) H := by
  rw [kx_uT (ad := ad) (cs := cs) (S := S) (S2 := sI S 14 t v) (t := t) (k := 5) (v := .int v) rfl (by simp [kx_tf, kI_sI, kI_sJ, kJ_sI, kJ_sJ]) (fun j hj => by simp [kx_tf, kI_sI, kI_sJ, kJ_sI, kJ_sJ, hj])] at h
  exact h
theorem kx_u_result {D : va_G} {cl : List vw_C} {H : Heap} {ad : Nat → Nat} {cs : Nat → ClassId} {S : kx_S} {t : Nat} {v : Int32} (_ : t < 8) (h : va_P D cl ((kx_w ad cs S).set (11 + t) (kx_ta ad t, .inr (1, (kx_tf S t).set 6 (.int v)))) H) : va_P D cl (kx_w ad cs (sI S 15 t v)) H := by
  rw [kx_uT (ad := ad) (cs := cs) (S := S) (S2 := sI S 15 t v) (t := t) (k := 6) (v := .int v) rfl (by simp [kx_tf, kI_sI, kI_sJ, kJ_sI, kJ_sJ]) (fun j hj => by simp [kx_tf, kI_sI, kI_sJ, kJ_sI, kJ_sJ, hj])] at h
  exact h
theorem kx_u_since {D : va_G} {cl : List vw_C} {H : Heap} {ad : Nat → Nat} {cs : Nat → ClassId} {S : kx_S} {t : Nat} {v : Int64} (_ : t < 8) (h : va_P D cl ((kx_w ad cs S).set (11 + t) (kx_ta ad t, .inr (1, (kx_tf S t).set 7 (.long v)))) H) : va_P D cl (kx_w ad cs (sJ S 0 t v)) H := by
  rw [kx_uT (ad := ad) (cs := cs) (S := S) (S2 := sJ S 0 t v) (t := t) (k := 7) (v := .long v) rfl (by simp [kx_tf, kI_sI, kI_sJ, kJ_sI, kJ_sJ]) (fun j hj => by simp [kx_tf, kI_sI, kI_sJ, kJ_sI, kJ_sJ, hj])] at h
  exact h
theorem kx_u_waitsOn {D : va_G} {cl : List vw_C} {H : Heap} {ad : Nat → Nat} {cs : Nat → ClassId} {S : kx_S} {t : Nat} {v : Int32} (_ : t < 8) (h : va_P D cl ((kx_w ad cs S).set (11 + t) (kx_ta ad t, .inr (1, (kx_tf S t).set 8 (.int v)))) H) : va_P D cl (kx_w ad cs (sI S 16 t v)) H := by
  rw [kx_uT (ad := ad) (cs := cs) (S := S) (S2 := sI S 16 t v) (t := t) (k := 8) (v := .int v) rfl (by simp [kx_tf, kI_sI, kI_sJ, kJ_sI, kJ_sJ]) (fun j hj => by simp [kx_tf, kI_sI, kI_sJ, kJ_sI, kJ_sJ, hj])] at h
  exact h
theorem kx_u_deadline {D : va_G} {cl : List vw_C} {H : Heap} {ad : Nat → Nat} {cs : Nat → ClassId} {S : kx_S} {t : Nat} {v : Int64} (_ : t < 8) (h : va_P D cl ((kx_w ad cs S).set (11 + t) (kx_ta ad t, .inr (1, (kx_tf S t).set 9 (.long v)))) H) : va_P D cl (kx_w ad cs (sJ S 1 t v)) H := by
  rw [kx_uT (ad := ad) (cs := cs) (S := S) (S2 := sJ S 1 t v) (t := t) (k := 9) (v := .long v) rfl (by simp [kx_tf, kI_sI, kI_sJ, kJ_sI, kJ_sJ]) (fun j hj => by simp [kx_tf, kI_sI, kI_sJ, kJ_sI, kJ_sJ, hj])] at h
  exact h
theorem kx_u_mutexInMind {D : va_G} {cl : List vw_C} {H : Heap} {ad : Nat → Nat} {cs : Nat → ClassId} {S : kx_S} {t : Nat} {v : Int32} (_ : t < 8) (h : va_P D cl ((kx_w ad cs S).set (11 + t) (kx_ta ad t, .inr (1, (kx_tf S t).set 10 (.int v)))) H) : va_P D cl (kx_w ad cs (sI S 17 t v)) H := by
  rw [kx_uT (ad := ad) (cs := cs) (S := S) (S2 := sI S 17 t v) (t := t) (k := 10) (v := .int v) rfl (by simp [kx_tf, kI_sI, kI_sJ, kJ_sI, kJ_sJ]) (fun j hj => by simp [kx_tf, kI_sI, kI_sJ, kJ_sI, kJ_sJ, hj])] at h
  exact h
theorem kx_u_resultWhenOwning {D : va_G} {cl : List vw_C} {H : Heap} {ad : Nat → Nat} {cs : Nat → ClassId} {S : kx_S} {t : Nat} {v : Int32} (_ : t < 8) (h : va_P D cl ((kx_w ad cs S).set (11 + t) (kx_ta ad t, .inr (1, (kx_tf S t).set 11 (.int v)))) H) : va_P D cl (kx_w ad cs (sI S 18 t v)) H := by
  rw [kx_uT (ad := ad) (cs := cs) (S := S) (S2 := sI S 18 t v) (t := t) (k := 11) (v := .int v) rfl (by simp [kx_tf, kI_sI, kI_sJ, kJ_sI, kJ_sJ]) (fun j hj => by simp [kx_tf, kI_sI, kI_sJ, kJ_sI, kJ_sJ, hj])] at h
  exact h
theorem kx_u_rank {D : va_G} {cl : List vw_C} {H : Heap} {ad : Nat → Nat} {cs : Nat → ClassId} {S : kx_S} {t : Nat} {v : Int32} (_ : t < 8) (h : va_P D cl ((kx_w ad cs S).set (11 + t) (kx_ta ad t, .inr (1, (kx_tf S t).set 12 (.int v)))) H) : va_P D cl (kx_w ad cs (sI S 19 t v)) H := by
  rw [kx_uT (ad := ad) (cs := cs) (S := S) (S2 := sI S 19 t v) (t := t) (k := 12) (v := .int v) rfl (by simp [kx_tf, kI_sI, kI_sJ, kJ_sI, kJ_sJ]) (fun j hj => by simp [kx_tf, kI_sI, kI_sJ, kJ_sI, kJ_sJ, hj])] at h
  exact h
theorem kx_u_value {D : va_G} {cl : List vw_C} {H : Heap} {ad : Nat → Nat} {cs : Nat → ClassId} {S : kx_S} {t : Nat} {v : Int32} (_ : t < 8) (h : va_P D cl ((kx_w ad cs S).set (11 + t) (kx_ta ad t, .inr (1, (kx_tf S t).set 13 (.int v)))) H) : va_P D cl (kx_w ad cs (sI S 20 t v)) H := by
  rw [kx_uT (ad := ad) (cs := cs) (S := S) (S2 := sI S 20 t v) (t := t) (k := 13) (v := .int v) rfl (by simp [kx_tf, kI_sI, kI_sJ, kJ_sI, kJ_sJ]) (fun j hj => by simp [kx_tf, kI_sI, kI_sJ, kJ_sI, kJ_sJ, hj])] at h
  exact h
theorem kx_u_time {D : va_G} {cl : List vw_C} {H : Heap} {ad : Nat → Nat} {cs : Nat → ClassId} {S : kx_S} {v : Int32} (h : va_P D cl ((kx_w ad cs S).set 0 (ad 0, .inr (2, [.int (kI S 0 0), .int (kI S 1 0), .ref (ad 1), .ref (ad 2), .ref (ad 3), .ref (ad 4), .int (kI S 2 0), .long (kJ S 2 0)].set 6 (.int v)))) H) : va_P D cl (kx_w ad cs (sI S 2 0 v)) H := h
theorem kx_u_lastMoment {D : va_G} {cl : List vw_C} {H : Heap} {ad : Nat → Nat} {cs : Nat → ClassId} {S : kx_S} {v : Int64} (h : va_P D cl ((kx_w ad cs S).set 0 (ad 0, .inr (2, [.int (kI S 0 0), .int (kI S 1 0), .ref (ad 1), .ref (ad 2), .ref (ad 3), .ref (ad 4), .int (kI S 2 0), .long (kJ S 2 0)].set 7 (.long v)))) H) : va_P D cl (kx_w ad cs (sJ S 2 0 v)) H := h
theorem kx_u_size0 {D : va_G} {cl : List vw_C} {H : Heap} {ad : Nat → Nat} {cs : Nat → ClassId} {S : kx_S} {v : Int32} (h : va_P D cl ((kx_w ad cs S).set 5 (ad 5, .inr (0, [.ref (ad 7), .ref (ad 9), .int (kI S 9 0)].set 2 (.int v)))) H) : va_P D cl (kx_w ad cs (sI S 9 0 v)) H := h
theorem kx_u_size1 {D : va_G} {cl : List vw_C} {H : Heap} {ad : Nat → Nat} {cs : Nat → ClassId} {S : kx_S} {v : Int32} (h : va_P D cl ((kx_w ad cs S).set 6 (ad 6, .inr (0, [.ref (ad 8), .ref (ad 10), .int (kI S 9 1)].set 2 (.int v)))) H) : va_P D cl (kx_w ad cs (sI S 9 1 v)) H := h
theorem kx_u_a3 {D : va_G} {cl : List vw_C} {H : Heap} {ad : Nat → Nat} {cs : Nat → ClassId} {S : kx_S} {i : Nat} {v : Int32} (h : va_P D cl ((kx_w ad cs S).set 2 (ad 2, .inl (cs 2, 4, .inl (upd (kI S 3) i v)))) H) : va_P D cl (kx_w ad cs (sI S 3 i v)) H := h
theorem kx_u_a4 {D : va_G} {cl : List vw_C} {H : Heap} {ad : Nat → Nat} {cs : Nat → ClassId} {S : kx_S} {i : Nat} {v : Int32} (h : va_P D cl ((kx_w ad cs S).set 3 (ad 3, .inl (cs 3, 2, .inl (upd (kI S 4) i v)))) H) : va_P D cl (kx_w ad cs (sI S 4 i v)) H := h
theorem kx_u_a5 {D : va_G} {cl : List vw_C} {H : Heap} {ad : Nat → Nat} {cs : Nat → ClassId} {S : kx_S} {i : Nat} {v : Int32} (h : va_P D cl ((kx_w ad cs S).set 7 (ad 7, .inl (cs 7, 4, .inl (upd (kI S 5) i v)))) H) : va_P D cl (kx_w ad cs (sI S 5 i v)) H := h
theorem kx_u_a6 {D : va_G} {cl : List vw_C} {H : Heap} {ad : Nat → Nat} {cs : Nat → ClassId} {S : kx_S} {i : Nat} {v : Int32} (h : va_P D cl ((kx_w ad cs S).set 8 (ad 8, .inl (cs 8, 4, .inl (upd (kI S 6) i v)))) H) : va_P D cl (kx_w ad cs (sI S 6 i v)) H := h
theorem kx_u_a7 {D : va_G} {cl : List vw_C} {H : Heap} {ad : Nat → Nat} {cs : Nat → ClassId} {S : kx_S} {i : Nat} {v : Int32} (h : va_P D cl ((kx_w ad cs S).set 9 (ad 9, .inl (cs 9, 4, .inl (upd (kI S 7) i v)))) H) : va_P D cl (kx_w ad cs (sI S 7 i v)) H := h
theorem kx_u_a8 {D : va_G} {cl : List vw_C} {H : Heap} {ad : Nat → Nat} {cs : Nat → ClassId} {S : kx_S} {i : Nat} {v : Int32} (h : va_P D cl ((kx_w ad cs S).set 10 (ad 10, .inl (cs 10, 4, .inl (upd (kI S 8) i v)))) H) : va_P D cl (kx_w ad cs (sI S 8 i v)) H := h
def kx_wf (S : kx_S) : Prop := (∀ m, m < 4 → kI S 3 m = -1 ∨ ∃ t, t < 8 ∧ kI S 3 m = nI t) ∧ (∀ t, t < 8 → vp_in (kI S 17 t) 4) ∧ ∀ q, q < 2 → ∃ j, j ≤ 4 ∧ kI S 9 q = nI j
theorem kx_wf_J {S : kx_S} {f i : Nat} {v : Int64} (h : kx_wf S) : kx_wf (sJ S f i v) := h
theorem kx_wf_I {S : kx_S} {f i : Nat} {v : Int32} (h : kx_wf S) (hf : f ≠ 3 ∧ f ≠ 17 ∧ f ≠ 9) : kx_wf (sI S f i v) := by
  refine ⟨fun m hm => ?_, fun t ht => ?_, fun q hq => ?_⟩
  · rw [kI_sI, if_neg (fun e => hf.1 e.1.symm)]; exact h.1 m hm
  · rw [kI_sI, if_neg (fun e => hf.2.1 e.1.symm)]; exact h.2.1 t ht
  · rw [kI_sI, if_neg (fun e => hf.2.2 e.1.symm)]; exact h.2.2 q hq
theorem kx_wf_o {S : kx_S} {i : Nat} {v : Int32} (h : kx_wf S) (hv : v = -1 ∨ ∃ t, t < 8 ∧ v = nI t) : kx_wf (sI S 3 i v) := by
  refine ⟨fun m hm => ?_, fun t ht => h.2.1 t ht, fun q hq => h.2.2 q hq⟩
  rw [kI_sI]
  by_cases e : m = i
  · rw [if_pos ⟨rfl, e⟩]; exact hv
  · rw [if_neg (fun z => e z.2)]; exact h.1 m hm
theorem kx_wf_m {S : kx_S} {i : Nat} {v : Int32} (h : kx_wf S) (hv : vp_in v 4) : kx_wf (sI S 17 i v) := by
  refine ⟨fun m hm => h.1 m hm, fun t ht => ?_, fun q hq => h.2.2 q hq⟩
  rw [kI_sI]
  by_cases e : t = i
  · rw [if_pos ⟨rfl, e⟩]; exact hv
  · rw [if_neg (fun z => e z.2)]; exact h.2.1 t ht
theorem kx_wf_q {S : kx_S} {q : Nat} {v : Int32} (h : kx_wf S) (hv : ∃ j, j ≤ 4 ∧ v = nI j) : kx_wf (sI S 9 q v) := by
  refine ⟨fun m hm => h.1 m hm, fun t ht => h.2.1 t ht, fun q2 hq => ?_⟩
  rw [kI_sI]
  by_cases e : q2 = q
  · rw [if_pos ⟨rfl, e⟩]; exact hv
  · rw [if_neg (fun z => e z.2)]; exact h.2.2 q2 hq
def kx_pi (out : Int32 × kx_S) (r : Int32) (u : kx_S) : Prop := out = (r, u) ∧ kx_wf u
def kx_ph (out : Int32 × kx_S) (r : Int32) (u : kx_S) : Prop := out = (r, u) ∧ kx_wf u ∧ (r = -1 ∨ vp_in r 8)
def kx_pl (out : Int64 × kx_S) (r : Int64) (u : kx_S) : Prop := out = (r, u) ∧ kx_wf u
def kx_pv (out : kx_S) (u : kx_S) : Prop := out = u ∧ kx_wf u
def kx_po (out : Option Nat × kx_S) (r : Option Nat) (u : kx_S) : Prop := out = (r, u) ∧ kx_wf u ∧ ∀ t, r = some t → t < 8
theorem kx_lt {i : Int32} {n : Nat} (h : vp_in i n) : i.toNatClampNeg < n := Nat.not_le.mp fun q => h (Or.inr q)
theorem kx_own {S : kx_S} (h : kx_wf S) {m : Nat} (hm : m < 4) : kI S 3 m = -1 ∨ vp_in (kI S 3 m) 8 := by
  rcases h.1 m hm with e | ⟨t, ht, e⟩
  · exact Or.inl e
  · exact Or.inr (by rw [e]; exact vp_in_nI ht (by decide))
theorem kk_inl {i : Int32} {n : Nat} (h : ¬ (i < 0 ∨ n ≤ i.toNatClampNeg)) : vp_in i n := h
theorem kk_own {r : Int32} (h : vp_in r 8) : r = -1 ∨ ∃ t, t < 8 ∧ r = nI t := Or.inr (vp_in_of h (by decide))
theorem kk_ge {r : Int32} (h : 0 ≤ r) : ¬ r < 0 := fun h2 => Int32.lt_irrefl (Int32.lt_of_lt_of_le h2 h)
theorem kk_stay {k B : Nat} (h : k < B) (hB : B < 2 ^ 31) : ¬ nI B ≤ nI k := nI_ge h hB
theorem kk_ne8 {k : Nat} (h : k < 8) : ¬ nI k = 8 := fun e => by
  have := (nI_eq (a := k) (b := 8) (by omega) (by omega)).mp e
  omega
theorem kk_tn {n : Int32} (h : ¬ n < 1) : n = nI n.toNatClampNeg := by
  have h0 : ¬ n < 0 := fun q => h (Int32.lt_of_lt_of_le q (by decide))
  obtain ⟨j, hj, e⟩ := nI_of h0
  rw [e, nI_clamp hj]
theorem kk_tx {n : Int32} {k : Nat} (h : ¬ n < 1) (hk : k = n.toNatClampNeg) : n ≤ nI k := by
  rw [hk, ← kk_tn h]; exact Int32.le_refl _
theorem kk_ts {n : Int32} {k : Nat} (hk : k < n.toNatClampNeg) : ¬ n ≤ nI k := by
  intro h
  have h0 : ¬ n < 0 := fun q => by
    have : n.toNatClampNeg = 0 := by
      have h1 := Int32.lt_iff_toInt_lt.mp q
      have h2 : (0 : Int32).toInt = 0 := by decide
      unfold Int32.toNatClampNeg
      omega
    omega
  obtain ⟨j, hj, e⟩ := nI_of h0
  rw [e, nI_clamp hj] at hk
  rw [e] at h
  exact nI_ge hk hj h
theorem kk_nb {x : Int32} (h : x = 0 ∨ x = 1) : narrow .boolean (.int x) = .int x := by rcases h with rfl | rfl <;> rfl
theorem kk_fb {x : Int32} (h : x = 0 ∨ x = 1) : fits .boolean (.int x) = true := by rcases h with rfl | rfl <;> rfl
theorem kk_q1 {q : Int32} (h : vp_in q 2) (h0 : ¬ q = 0) : q = 1 := by
  obtain ⟨j, hj, e⟩ := vp_in_of h (by decide)
  rcases (show j = 0 ∨ j = 1 by omega) with rfl | rfl
  · exact absurd e h0
  · exact e
theorem kx_sz3 {x : Int32} (h : ∃ j, j ≤ 4 ∧ x = nI j) (h0 : ¬ x = 0) (h1 : ¬ x = 1) (h2 : ¬ x = 2) (h4 : ¬ x = 4) : x = 3 := by
  obtain ⟨j, hj, e⟩ := h
  rcases (show j = 0 ∨ j = 1 ∨ j = 2 ∨ j = 3 ∨ j = 4 by omega) with rfl | rfl | rfl | rfl | rfl
  · exact absurd e h0
  · exact absurd e h1
  · exact absurd e h2
  · exact e
  · exact absurd e h4
theorem kx_sz4 {x : Int32} (h : ∃ j, j ≤ 4 ∧ x = nI j) (h1 : ¬ x = 1) (h2 : ¬ x = 2) (h3 : ¬ x = 3) (h0 : ¬ x = 0) : x = 4 := by
  obtain ⟨j, hj, e⟩ := h
  rcases (show j = 0 ∨ j = 1 ∨ j = 2 ∨ j = 3 ∨ j = 4 by omega) with rfl | rfl | rfl | rfl | rfl
  · exact absurd e h0
  · exact absurd e h1
  · exact absurd e h2
  · exact absurd e h3
  · exact e
theorem km_sz3 {x : Int32} (h : ∃ j, j < 4 ∧ x = nI j) (h0 : ¬ x = 0) (h1 : ¬ x = 1) (h2 : ¬ x = 2) : x = 3 := by
  obtain ⟨j, hj, e⟩ := h
  rcases (show j = 0 ∨ j = 1 ∨ j = 2 ∨ j = 3 by omega) with rfl | rfl | rfl | rfl
  · exact absurd e h0
  · exact absurd e h1
  · exact absurd e h2
  · exact e
theorem kk_c0 : (0 : Int32).toNatClampNeg = 0 := by decide
theorem kk_c1 : (1 : Int32).toNatClampNeg = 1 := by decide
theorem kk_c2 : (2 : Int32).toNatClampNeg = 2 := by decide
theorem kk_c3 : (3 : Int32).toNatClampNeg = 3 := by decide
theorem kk_c4 : (4 : Int32).toNatClampNeg = 4 := by decide
theorem kk_c5 : (5 : Int32).toNatClampNeg = 5 := by decide
theorem kk_c6 : (6 : Int32).toNatClampNeg = 6 := by decide
theorem kk_c7 : (7 : Int32).toNatClampNeg = 7 := by decide
theorem kk_tab {x : Int32} {lo : Int} (n : Nat) (h : ∀ j : Nat, j < n → ¬ x.toInt = lo + j) (hi : Int) (hhi : hi = lo + n - 1) : x.toInt < lo ∨ hi < x.toInt := by
  rcases Classical.em (x.toInt < lo ∨ hi < x.toInt) with q | q
  · exact q
  · have h1 := h (x.toInt - lo).toNat (by omega)
    omega
theorem kk_neI {x : Int32} {k : Int} (y : Int32) (hy : y.toInt = k) (h : ¬ x = y) : ¬ x.toInt = k := fun e => h (Int32.toInt_inj.mp (by rw [e, hy]))
section KX
variable {p : Program} {l : Launch} {e : Env} {R : Room} {s : State} {m : MethodId} {args : Array Value} {below : List Frame} {meth : Method} {c : Code} {H : Heap} {locs : List Loc} {cells slots : Nat} {Q : State → Prop}
variable {cc : ByteArray} {pc : Nat} {ls : Array Slot} {rest : List Value} {dC : Nat → ClassId} {dI : Nat → Nat → Nat} {ad : Nat → Nat} {cs : Nat → ClassId} {S : kx_S}
theorem kx_ldT (hx : p.tables.exec = Jvm.exec) (hb : c.code = cc) (hK : va_K (dC, dI) vwCl (kx_t cs) s) (hP : va_P (dC, dI) vwCl (kx_w ad cs S) H) {i : Int32} (hin : vp_in i 8) (hdg : decode cc pc = .ok (.aaload, 1))
    (kk : W p l e R s m args below meth c H locs cells slots Q (F0 m (pc + 1) ls (.ref (kx_ta ad i.toNatClampNeg) :: rest))) : W p l e R s m args below meth c H locs cells slots Q (F0 m pc ls (.int i :: .ref (ad 1) :: rest)) :=
  va_aldq hx hb hK hP 1 0 rfl rfl hin hdg (by rw [if_pos (kx_lt hin)]; exact kk)
theorem kx_ldTk (hx : p.tables.exec = Jvm.exec) (hb : c.code = cc) (hK : va_K (dC, dI) vwCl (kx_t cs) s) (hP : va_P (dC, dI) vwCl (kx_w ad cs S) H) {k : Nat} (hk : k < 8) (hdg : decode cc pc = .ok (.aaload, 1))
    (kk : W p l e R s m args below meth c H locs cells slots Q (F0 m (pc + 1) ls (.ref (kx_ta ad k) :: rest))) : W p l e R s m args below meth c H locs cells slots Q (F0 m pc ls (.int (nI k) :: .ref (ad 1) :: rest)) :=
  kx_ldT hx hb hK hP (vp_in_nI hk (by decide)) hdg (by rw [nI_clamp (by omega)]; exact kk)
theorem kx_ldQ (hx : p.tables.exec = Jvm.exec) (hb : c.code = cc) (hK : va_K (dC, dI) vwCl (kx_t cs) s) (hP : va_P (dC, dI) vwCl (kx_w ad cs S) H) {i : Int32} (hin : vp_in i 2) (hdg : decode cc pc = .ok (.aaload, 1))
    (kk : W p l e R s m args below meth c H locs cells slots Q (F0 m (pc + 1) ls (.ref (kx_qa ad i.toNatClampNeg) :: rest))) : W p l e R s m args below meth c H locs cells slots Q (F0 m pc ls (.int i :: .ref (ad 4) :: rest)) :=
  va_aldq hx hb hK hP 4 3 rfl rfl hin hdg (by rw [if_pos (kx_lt hin)]; exact kk)
theorem kx_gsize (hx : p.tables.exec = Jvm.exec) (hb : c.code = cc) {own : String} {index : Nat} {Ts : List Cond} (hts : ∀ w ∈ Ts, w.before args s = true) (hin : ∀ w ∈ u_ws R_Q T_Q 3, w ∈ Ts) (hown : s.vm.findClass own = some m.cls) (hK : va_K (dC, dI) vwCl (kx_t cs) s) (hP : va_P (dC, dI) vwCl (kx_w ad cs S) H) {q : Nat} (hq : q < 2) (hlink : (Cond.fieldLink own index R_Q (T_Q 2).2.1 (T_Q 2).2.2.1).before args s = true) (hdg : decode cc pc = .ok (.getfield index, 3))
    (kk : W p l e R s m args below meth c H locs cells slots Q (F0 m (pc + 3) ls (.int (kI S 9 q) :: rest))) : W p l e R s m args below meth c H locs cells slots Q (F0 m pc ls (.ref (kx_qa ad q) :: rest)) := by
  rcases (show q = 0 ∨ q = 1 by omega) with rfl | rfl
  · exact va_get (D := (dC, dI)) (ci := 0) (v := .int (kI S 9 0)) (C := R_Q) (T := T_Q) (N := 3) hx hb hts hin hown hK hP 5 rfl rfl 2 (by decide) hlink (fun _ h9 => h9) rfl hdg kk
  · exact va_get (D := (dC, dI)) (ci := 0) (v := .int (kI S 9 1)) (C := R_Q) (T := T_Q) (N := 3) hx hb hts hin hown hK hP 6 rfl rfl 2 (by decide) hlink (fun _ h9 => h9) rfl hdg kk
theorem kx_recvQ (hK : va_K (dC, dI) vwCl (kx_t cs) s) (hP : va_P (dC, dI) vwCl (kx_w ad cs S) H) {q : Nat} (hq : q < 2) : ∃ cell : Cell, H[kx_qa ad q]? = some cell ∧ cell.vm.isStatics = false ∧ s.vm.findClass R_Q = some cell.cls := by
  rcases (show q = 0 ∨ q = 1 by omega) with rfl | rfl
  · exact va_recv hK hP (ci := 0) (q0 := 5) rfl rfl
  · exact va_recv hK hP (ci := 0) (q0 := 6) rfl rfl
end KX
abbrev km_S : Type := Nat → Nat → Int32
def mI (S : km_S) (f i : Nat) : Int32 := S f i
def sM (S : km_S) (f i : Nat) (v : Int32) : km_S := fun a => if a = f then upd (S f) i v else S a
theorem mI_sM {S : km_S} {f i a b : Nat} {v : Int32} : mI (sM S f i v) a b = if a = f ∧ b = i then v else mI S a b := by
  unfold mI sM upd
  by_cases h : a = f
  · subst h
    by_cases h2 : b = i <;> simp [h2]
  · simp [h]
def km_w (ad : Nat → Nat) (cs : Nat → ClassId) (S : km_S) : va_W := [(ad 0, .inr (3, [.int (mI S 0 0), .int (mI S 1 0), .int (mI S 2 0), .int (mI S 3 0), .ref (ad 1), .ref (ad 2), .ref (ad 3), .ref (ad 4), .ref (ad 5), .ref (ad 6), .ref (ad 7), .ref (ad 8), .ref (ad 9), .ref (ad 10), .ref (ad 11), .ref (ad 12), .ref (ad 13), .ref (ad 14), .ref (ad 15), .ref (ad 16), .ref (ad 17), .ref (ad 18), .ref (ad 19)])), (ad 1, .inl (cs 1, 8, .inl (mI S 4))), (ad 2, .inl (cs 2, 8, .inl (mI S 5))), (ad 3, .inl (cs 3, 8, .inl (mI S 6))), (ad 4, .inl (cs 4, 8, .inl (mI S 7))), (ad 5, .inl (cs 5, 8, .inl (mI S 8))), (ad 6, .inl (cs 6, 8, .inl (mI S 9))), (ad 7, .inl (cs 7, 8, .inl (mI S 10))), (ad 8, .inl (cs 8, 8, .inl (mI S 11))), (ad 9, .inl (cs 9, 8, .inl (mI S 12))), (ad 10, .inl (cs 10, 8, .inl (mI S 13))), (ad 11, .inl (cs 11, 8, .inl (mI S 14))), (ad 12, .inl (cs 12, 8, .inl (mI S 15))), (ad 13, .inl (cs 13, 8, .inl (mI S 16))), (ad 14, .inl (cs 14, 4, .inl (mI S 17))), (ad 15, .inl (cs 15, 2, .inl (mI S 18))), (ad 16, .inl (cs 16, 2, .inl (mI S 19))), (ad 17, .inl (cs 17, 8, .inl (mI S 20))), (ad 18, .inl (cs 18, 8, .inl (mI S 21))), (ad 19, .inl (cs 19, 8, .inl (mI S 22)))]
def km_t (cs : Nat → ClassId) : List (ClassId × FieldType) := [(cs 1, .int), (cs 2, .int), (cs 3, .int), (cs 4, .int), (cs 5, .int), (cs 6, .int), (cs 7, .int), (cs 8, .int), (cs 9, .int), (cs 10, .int), (cs 11, .int), (cs 12, .boolean), (cs 13, .boolean), (cs 14, .int), (cs 15, .int), (cs 16, .int), (cs 17, .int), (cs 18, .int), (cs 19, .int)]
def km_inj (ad : Nat → Nat) : Prop := ∀ i j, i < 20 → j < 20 → ad i = ad j → i = j
def km_A (ad : Nat → Nat) (q : Nat) : Prop := ∃ k, k < 20 ∧ q = ad k
theorem km_len (ad : Nat → Nat) (cs : Nat → ClassId) (S : km_S) : (km_w ad cs S).length = 20 := rfl
theorem km_adr {ad : Nat → Nat} {cs : Nat → ClassId} {S : km_S} : ∀ (k : Nat) (q : Nat × va_E), (km_w ad cs S)[k]? = some q → k < 20 ∧ q.1 = ad k
  | 0, q, h => by have e := Option.some.inj h; subst e; exact ⟨by decide, rfl⟩
  | 1, q, h => by have e := Option.some.inj h; subst e; exact ⟨by decide, rfl⟩
  | 2, q, h => by have e := Option.some.inj h; subst e; exact ⟨by decide, rfl⟩
  | 3, q, h => by have e := Option.some.inj h; subst e; exact ⟨by decide, rfl⟩
  | 4, q, h => by have e := Option.some.inj h; subst e; exact ⟨by decide, rfl⟩
  | 5, q, h => by have e := Option.some.inj h; subst e; exact ⟨by decide, rfl⟩
  | 6, q, h => by have e := Option.some.inj h; subst e; exact ⟨by decide, rfl⟩
  | 7, q, h => by have e := Option.some.inj h; subst e; exact ⟨by decide, rfl⟩
  | 8, q, h => by have e := Option.some.inj h; subst e; exact ⟨by decide, rfl⟩
  | 9, q, h => by have e := Option.some.inj h; subst e; exact ⟨by decide, rfl⟩
  | 10, q, h => by have e := Option.some.inj h; subst e; exact ⟨by decide, rfl⟩
  | 11, q, h => by have e := Option.some.inj h; subst e; exact ⟨by decide, rfl⟩
  | 12, q, h => by have e := Option.some.inj h; subst e; exact ⟨by decide, rfl⟩
  | 13, q, h => by have e := Option.some.inj h; subst e; exact ⟨by decide, rfl⟩
  | 14, q, h => by have e := Option.some.inj h; subst e; exact ⟨by decide, rfl⟩
  | 15, q, h => by have e := Option.some.inj h; subst e; exact ⟨by decide, rfl⟩
  | 16, q, h => by have e := Option.some.inj h; subst e; exact ⟨by decide, rfl⟩
  | 17, q, h => by have e := Option.some.inj h; subst e; exact ⟨by decide, rfl⟩
  | 18, q, h => by have e := Option.some.inj h; subst e; exact ⟨by decide, rfl⟩
  | 19, q, h => by have e := Option.some.inj h; subst e; exact ⟨by decide, rfl⟩
  | k + 20, q, h => by have h2 := (List.getElem?_eq_some_iff.mp h).1; rw [km_len] at h2; omega
theorem km_D {ad : Nat → Nat} (hj : km_inj ad) {cs : Nat → ClassId} {S : km_S} : va_D (km_A ad) (km_w ad cs S) := by
  refine ⟨fun i j p q hi hj2 e => ?_, fun k q hk => ⟨k, (km_adr k q hk).1, (km_adr k q hk).2⟩⟩
  obtain ⟨h1, h2⟩ := km_adr i p hi
  obtain ⟨h3, h4⟩ := km_adr j q hj2
  exact hj i j h1 h3 (by rw [← h2, ← h4, e])
theorem km_u_time {D : va_G} {cl : List vw_C} {H : Heap} {ad : Nat → Nat} {cs : Nat → ClassId} {S : km_S} {v : Int32} (h : va_P D cl ((km_w ad cs S).set 0 (ad 0, .inr (3, [.int (mI S 0 0), .int (mI S 1 0), .int (mI S 2 0), .int (mI S 3 0), .ref (ad 1), .ref (ad 2), .ref (ad 3), .ref (ad 4), .ref (ad 5), .ref (ad 6), .ref (ad 7), .ref (ad 8), .ref (ad 9), .ref (ad 10), .ref (ad 11), .ref (ad 12), .ref (ad 13), .ref (ad 14), .ref (ad 15), .ref (ad 16), .ref (ad 17), .ref (ad 18), .ref (ad 19)].set 2 (.int v)))) H) : va_P D cl (km_w ad cs (sM S 2 0 v)) H := h
theorem km_u_stamps {D : va_G} {cl : List vw_C} {H : Heap} {ad : Nat → Nat} {cs : Nat → ClassId} {S : km_S} {v : Int32} (h : va_P D cl ((km_w ad cs S).set 0 (ad 0, .inr (3, [.int (mI S 0 0), .int (mI S 1 0), .int (mI S 2 0), .int (mI S 3 0), .ref (ad 1), .ref (ad 2), .ref (ad 3), .ref (ad 4), .ref (ad 5), .ref (ad 6), .ref (ad 7), .ref (ad 8), .ref (ad 9), .ref (ad 10), .ref (ad 11), .ref (ad 12), .ref (ad 13), .ref (ad 14), .ref (ad 15), .ref (ad 16), .ref (ad 17), .ref (ad 18), .ref (ad 19)].set 3 (.int v)))) H) : va_P D cl (km_w ad cs (sM S 3 0 v)) H := h
theorem km_u_state {D : va_G} {cl : List vw_C} {H : Heap} {ad : Nat → Nat} {cs : Nat → ClassId} {S : km_S} {i : Nat} {v : Int32} (h : va_P D cl ((km_w ad cs S).set 1 (ad 1, .inl (cs 1, 8, .inl (upd (mI S 4) i v)))) H) : va_P D cl (km_w ad cs (sM S 4 i v)) H := h
theorem km_u_base {D : va_G} {cl : List vw_C} {H : Heap} {ad : Nat → Nat} {cs : Nat → ClassId} {S : km_S} {i : Nat} {v : Int32} (h : va_P D cl ((km_w ad cs S).set 2 (ad 2, .inl (cs 2, 8, .inl (upd (mI S 5) i v)))) H) : va_P D cl (km_w ad cs (sM S 5 i v)) H := h
theorem km_u_stamp {D : va_G} {cl : List vw_C} {H : Heap} {ad : Nat → Nat} {cs : Nat → ClassId} {S : km_S} {i : Nat} {v : Int32} (h : va_P D cl ((km_w ad cs S).set 3 (ad 3, .inl (cs 3, 8, .inl (upd (mI S 6) i v)))) H) : va_P D cl (km_w ad cs (sM S 6 i v)) H := h
theorem km_u_used {D : va_G} {cl : List vw_C} {H : Heap} {ad : Nat → Nat} {cs : Nat → ClassId} {S : km_S} {i : Nat} {v : Int32} (h : va_P D cl ((km_w ad cs S).set 4 (ad 4, .inl (cs 4, 8, .inl (upd (mI S 7) i v)))) H) : va_P D cl (km_w ad cs (sM S 7 i v)) H := h
theorem km_u_on {D : va_G} {cl : List vw_C} {H : Heap} {ad : Nat → Nat} {cs : Nat → ClassId} {S : km_S} {i : Nat} {v : Int32} (h : va_P D cl ((km_w ad cs S).set 5 (ad 5, .inl (cs 5, 8, .inl (upd (mI S 8) i v)))) H) : va_P D cl (km_w ad cs (sM S 8 i v)) H := h
theorem km_u_since {D : va_G} {cl : List vw_C} {H : Heap} {ad : Nat → Nat} {cs : Nat → ClassId} {S : km_S} {i : Nat} {v : Int32} (h : va_P D cl ((km_w ad cs S).set 6 (ad 6, .inl (cs 6, 8, .inl (upd (mI S 9) i v)))) H) : va_P D cl (km_w ad cs (sM S 9 i v)) H := h
theorem km_u_deadline {D : va_G} {cl : List vw_C} {H : Heap} {ad : Nat → Nat} {cs : Nat → ClassId} {S : km_S} {i : Nat} {v : Int32} (h : va_P D cl ((km_w ad cs S).set 7 (ad 7, .inl (cs 7, 8, .inl (upd (mI S 10) i v)))) H) : va_P D cl (km_w ad cs (sM S 10 i v)) H := h
theorem km_u_result {D : va_G} {cl : List vw_C} {H : Heap} {ad : Nat → Nat} {cs : Nat → ClassId} {S : km_S} {i : Nat} {v : Int32} (h : va_P D cl ((km_w ad cs S).set 8 (ad 8, .inl (cs 8, 8, .inl (upd (mI S 11) i v)))) H) : va_P D cl (km_w ad cs (sM S 11 i v)) H := h
theorem km_u_mind {D : va_G} {cl : List vw_C} {H : Heap} {ad : Nat → Nat} {cs : Nat → ClassId} {S : km_S} {i : Nat} {v : Int32} (h : va_P D cl ((km_w ad cs S).set 9 (ad 9, .inl (cs 9, 8, .inl (upd (mI S 12) i v)))) H) : va_P D cl (km_w ad cs (sM S 12 i v)) H := h
theorem km_u_rank {D : va_G} {cl : List vw_C} {H : Heap} {ad : Nat → Nat} {cs : Nat → ClassId} {S : km_S} {i : Nat} {v : Int32} (h : va_P D cl ((km_w ad cs S).set 10 (ad 10, .inl (cs 10, 8, .inl (upd (mI S 13) i v)))) H) : va_P D cl (km_w ad cs (sM S 13 i v)) H := h
theorem km_u_value {D : va_G} {cl : List vw_C} {H : Heap} {ad : Nat → Nat} {cs : Nat → ClassId} {S : km_S} {i : Nat} {v : Int32} (h : va_P D cl ((km_w ad cs S).set 11 (ad 11, .inl (cs 11, 8, .inl (upd (mI S 14) i v)))) H) : va_P D cl (km_w ad cs (sM S 14 i v)) H := h
theorem km_u_sliced {D : va_G} {cl : List vw_C} {H : Heap} {ad : Nat → Nat} {cs : Nat → ClassId} {S : km_S} {i : Nat} {v : Int32} (h : va_P D cl ((km_w ad cs S).set 12 (ad 12, .inl (cs 12, 8, .inl (upd (mI S 15) i v)))) H) : va_P D cl (km_w ad cs (sM S 15 i v)) H := h
theorem km_u_retakes {D : va_G} {cl : List vw_C} {H : Heap} {ad : Nat → Nat} {cs : Nat → ClassId} {S : km_S} {i : Nat} {v : Int32} (h : va_P D cl ((km_w ad cs S).set 13 (ad 13, .inl (cs 13, 8, .inl (upd (mI S 16) i v)))) H) : va_P D cl (km_w ad cs (sM S 16 i v)) H := h
theorem km_u_owns {D : va_G} {cl : List vw_C} {H : Heap} {ad : Nat → Nat} {cs : Nat → ClassId} {S : km_S} {i : Nat} {v : Int32} (h : va_P D cl ((km_w ad cs S).set 14 (ad 14, .inl (cs 14, 4, .inl (upd (mI S 17) i v)))) H) : va_P D cl (km_w ad cs (sM S 17 i v)) H := h
theorem km_u_count {D : va_G} {cl : List vw_C} {H : Heap} {ad : Nat → Nat} {cs : Nat → ClassId} {S : km_S} {i : Nat} {v : Int32} (h : va_P D cl ((km_w ad cs S).set 15 (ad 15, .inl (cs 15, 2, .inl (upd (mI S 18) i v)))) H) : va_P D cl (km_w ad cs (sM S 18 i v)) H := h
theorem km_u_messages {D : va_G} {cl : List vw_C} {H : Heap} {ad : Nat → Nat} {cs : Nat → ClassId} {S : km_S} {i : Nat} {v : Int32} (h : va_P D cl ((km_w ad cs S).set 16 (ad 16, .inl (cs 16, 2, .inl (upd (mI S 19) i v)))) H) : va_P D cl (km_w ad cs (sM S 19 i v)) H := h
theorem km_u_messageRank {D : va_G} {cl : List vw_C} {H : Heap} {ad : Nat → Nat} {cs : Nat → ClassId} {S : km_S} {i : Nat} {v : Int32} (h : va_P D cl ((km_w ad cs S).set 17 (ad 17, .inl (cs 17, 8, .inl (upd (mI S 20) i v)))) H) : va_P D cl (km_w ad cs (sM S 20 i v)) H := h
theorem km_u_messageValue {D : va_G} {cl : List vw_C} {H : Heap} {ad : Nat → Nat} {cs : Nat → ClassId} {S : km_S} {i : Nat} {v : Int32} (h : va_P D cl ((km_w ad cs S).set 18 (ad 18, .inl (cs 18, 8, .inl (upd (mI S 21) i v)))) H) : va_P D cl (km_w ad cs (sM S 21 i v)) H := h
theorem km_u_urgent {D : va_G} {cl : List vw_C} {H : Heap} {ad : Nat → Nat} {cs : Nat → ClassId} {S : km_S} {i : Nat} {v : Int32} (h : va_P D cl ((km_w ad cs S).set 19 (ad 19, .inl (cs 19, 8, .inl (upd (mI S 22) i v)))) H) : va_P D cl (km_w ad cs (sM S 22 i v)) H := h
def km_wf (S : km_S) : Prop := (∀ m, m < 4 → mI S 17 m = -1 ∨ ∃ t, t < 8 ∧ mI S 17 m = nI t) ∧ (∀ t, t < 8 → vp_in (mI S 12 t) 4) ∧ ∀ q, q < 2 → ∃ j, j ≤ 4 ∧ mI S 19 q = nI j
theorem km_wf_I {S : km_S} {f i : Nat} {v : Int32} (h : km_wf S) (hf : f ≠ 17 ∧ f ≠ 12 ∧ f ≠ 19) : km_wf (sM S f i v) := by
  refine ⟨fun m hm => ?_, fun t ht => ?_, fun q hq => ?_⟩
  · rw [mI_sM, if_neg (fun e => hf.1 e.1.symm)]; exact h.1 m hm
  · rw [mI_sM, if_neg (fun e => hf.2.1 e.1.symm)]; exact h.2.1 t ht
  · rw [mI_sM, if_neg (fun e => hf.2.2 e.1.symm)]; exact h.2.2 q hq
theorem km_wf_o {S : km_S} {i : Nat} {v : Int32} (h : km_wf S) (hv : v = -1 ∨ ∃ t, t < 8 ∧ v = nI t) : km_wf (sM S 17 i v) := by
  refine ⟨fun m hm => ?_, fun t ht => h.2.1 t ht, fun q hq => h.2.2 q hq⟩
  rw [mI_sM]
  by_cases e : m = i
  · rw [if_pos ⟨rfl, e⟩]; exact hv
  · rw [if_neg (fun z => e z.2)]; exact h.1 m hm
theorem km_wf_m {S : km_S} {i : Nat} {v : Int32} (h : km_wf S) (hv : vp_in v 4) : km_wf (sM S 12 i v) := by
  refine ⟨fun m hm => h.1 m hm, fun t ht => ?_, fun q hq => h.2.2 q hq⟩
  rw [mI_sM]
  by_cases e : t = i
  · rw [if_pos ⟨rfl, e⟩]; exact hv
  · rw [if_neg (fun z => e z.2)]; exact h.2.1 t ht
theorem km_wf_q {S : km_S} {q : Nat} {v : Int32} (h : km_wf S) (hv : ∃ j, j ≤ 4 ∧ v = nI j) : km_wf (sM S 19 q v) := by
  refine ⟨fun m hm => h.1 m hm, fun t ht => h.2.1 t ht, fun q2 hq => ?_⟩
  rw [mI_sM]
  by_cases e : q2 = q
  · rw [if_pos ⟨rfl, e⟩]; exact hv
  · rw [if_neg (fun z => e z.2)]; exact h.2.2 q2 hq
def km_pi (out : Int32 × km_S) (r : Int32) (u : km_S) : Prop := out = (r, u) ∧ km_wf u
def km_pr (out : Int32 × km_S) (r : Int32) (u : km_S) : Prop := out = (r, u) ∧ km_wf u ∧ (r < 0 ∨ vp_in r 8)
def km_pl (out : Int64 × km_S) (r : Int64) (u : km_S) : Prop := out = (r, u) ∧ km_wf u
def km_pv (out : km_S) (u : km_S) : Prop := out = u ∧ km_wf u
theorem km_own8 {S : km_S} (h : km_wf S) {i : Int32} (hi : vp_in i 4) (h0 : ¬ mI S 17 i.toNatClampNeg < 0) : vp_in (mI S 17 i.toNatClampNeg) 8 := by
  rcases h.1 _ (kx_lt hi) with e | ⟨t, ht, e⟩
  · rw [e] at h0; exact absurd (by decide) h0
  · rw [e]; exact vp_in_nI ht (by decide)
theorem km_mdec {S : km_S} (h : km_wf S) {q : Nat} (hq : q < 2) (h0 : ¬ mI S 19 q = 0) : ∃ j, j ≤ 4 ∧ mI S 19 q - 1 = nI j := by
  obtain ⟨j, hj, e⟩ := h.2.2 q hq
  rw [e] at h0 ⊢
  rcases (show j = 0 ∨ j = 1 ∨ j = 2 ∨ j = 3 ∨ j = 4 by omega) with rfl | rfl | rfl | rfl | rfl
  · exact absurd rfl h0
  · exact ⟨0, by decide, by decide⟩
  · exact ⟨1, by decide, by decide⟩
  · exact ⟨2, by decide, by decide⟩
  · exact ⟨3, by decide, by decide⟩
