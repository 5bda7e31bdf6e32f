/-! what each method does, as a function -/
def xf_isBelow (a : Int32) (b : Int32) : Int32 :=
  if a < 0 then
    0
  else
    if b ≤ a then
      0
    else
      1
def xf_isPriority (a : Int32) : Int32 :=
  if a < 1 then
    0
  else
    if 31 < a then
      0
    else
      1
def xf_isTimeout (a : Int32) : Int32 :=
  if a < 0 then
    0
  else
    if 1000 < a then
      0
    else
      1
def xf_isAheadOf (σ : kx_S) (t0 : Nat) (t : Nat) : Int32 × kx_S :=
  if (kI σ 12 t) < (kI σ 12 t0) then
    (1, σ)
  else
    if (kI σ 12 t0) = (kI σ 12 t) then
      if 0 ≤ (lg_cmp (kJ σ 0 t0) (kJ σ 0 t)) then
        (0, σ)
      else
        (1, σ)
    else
      (0, σ)
def xf_isEmpty_0 (σ : kx_S)  : Int32 × kx_S :=
  if (kI σ 9 0) = 0 then
    (1, σ)
  else
    (0, σ)
def xf_isEmpty_1 (σ : kx_S)  : Int32 × kx_S :=
  if (kI σ 9 1) = 0 then
    (1, σ)
  else
    (0, σ)
def xf_isEmpty (σ : kx_S) (q : Nat)  : Int32 × kx_S := if q = 0 then xf_isEmpty_0 σ  else xf_isEmpty_1 σ 
def xf_isFull_0 (σ : kx_S)  : Int32 × kx_S :=
  if (kI σ 9 0) = 4 then
    (1, σ)
  else
    (0, σ)
def xf_isFull_1 (σ : kx_S)  : Int32 × kx_S :=
  if (kI σ 9 1) = 4 then
    (1, σ)
  else
    (0, σ)
def xf_isFull (σ : kx_S) (q : Nat)  : Int32 × kx_S := if q = 0 then xf_isFull_0 σ  else xf_isFull_1 σ 
def xf_insert_0 (σ : kx_S) (rank : Int32) (value : Int32) : kx_S :=
  kk_b (xf_isFull_0 σ) (fun r1 s1 =>
    if r1 = 0 then
      if (kI s1 9 0) = 0 then
        sI (sI (sI s1 5 0 rank) 7 0 value) 9 0 ((kI (sI (sI s1 5 0 rank) 7 0 value) 9 0) + 1)
      else
        if (kI s1 9 0) = 1 then
          if rank ≤ (kI s1 5 0) then
            sI (sI (sI s1 5 1 rank) 7 1 value) 9 0 ((kI (sI (sI s1 5 1 rank) 7 1 value) 9 0) + 1)
          else
            sI (sI (sI (sI (sI s1 5 1 (kI s1 5 0)) 7 1 (kI (sI s1 5 1 (kI s1 5 0)) 7 0)) 5 0 rank) 7 0 value) 9 0 ((kI (sI (sI (sI (sI s1 5 1 (kI s1 5 0)) 7 1 (kI (sI s1 5 1 (kI s1 5 0)) 7 0)) 5 0 rank) 7 0 value) 9 0) + 1)
        else
          if (kI s1 9 0) = 2 then
            if rank ≤ (kI s1 5 1) then
              sI (sI (sI s1 5 2 rank) 7 2 value) 9 0 ((kI (sI (sI s1 5 2 rank) 7 2 value) 9 0) + 1)
            else
              if rank ≤ (kI (sI (sI s1 5 2 (kI s1 5 1)) 7 2 (kI (sI s1 5 2 (kI s1 5 1)) 7 1)) 5 0) then
                sI (sI (sI (sI (sI s1 5 2 (kI s1 5 1)) 7 2 (kI (sI s1 5 2 (kI s1 5 1)) 7 1)) 5 1 rank) 7 1 value) 9 0 ((kI (sI (sI (sI (sI s1 5 2 (kI s1 5 1)) 7 2 (kI (sI s1 5 2 (kI s1 5 1)) 7 1)) 5 1 rank) 7 1 value) 9 0) + 1)
              else
                sI (sI (sI (sI (sI (sI (sI s1 5 2 (kI s1 5 1)) 7 2 (kI (sI s1 5 2 (kI s1 5 1)) 7 1)) 5 1 (kI (sI (sI s1 5 2 (kI s1 5 1)) 7 2 (kI (sI s1 5 2 (kI s1 5 1)) 7 1)) 5 0)) 7 1 (kI (sI (sI (sI s1 5 2 (kI s1 5 1)) 7 2 (kI (sI s1 5 2 (kI s1 5 1)) 7 1)) 5 1 (kI (sI (sI s1 5 2 (kI s1 5 1)) 7 2 (kI (sI s1 5 2 (kI s1 5 1)) 7 1)) 5 0)) 7 0)) 5 0 rank) 7 0 value) 9 0 ((kI (sI (sI (sI (sI (sI (sI s1 5 2 (kI s1 5 1)) 7 2 (kI (sI s1 5 2 (kI s1 5 1)) 7 1)) 5 1 (kI (sI (sI s1 5 2 (kI s1 5 1)) 7 2 (kI (sI s1 5 2 (kI s1 5 1)) 7 1)) 5 0)) 7 1 (kI (sI (sI (sI s1 5 2 (kI s1 5 1)) 7 2 (kI (sI s1 5 2 (kI s1 5 1)) 7 1)) 5 1 (kI (sI (sI s1 5 2 (kI s1 5 1)) 7 2 (kI (sI s1 5 2 (kI s1 5 1)) 7 1)) 5 0)) 7 0)) 5 0 rank) 7 0 value) 9 0) + 1)
          else
            if rank ≤ (kI s1 5 2) then
              sI (sI (sI s1 5 3 rank) 7 3 value) 9 0 ((kI (sI (sI s1 5 3 rank) 7 3 value) 9 0) + 1)
            else
              if rank ≤ (kI (sI (sI s1 5 3 (kI s1 5 2)) 7 3 (kI (sI s1 5 3 (kI s1 5 2)) 7 2)) 5 1) then
                sI (sI (sI (sI (sI s1 5 3 (kI s1 5 2)) 7 3 (kI (sI s1 5 3 (kI s1 5 2)) 7 2)) 5 2 rank) 7 2 value) 9 0 ((kI (sI (sI (sI (sI s1 5 3 (kI s1 5 2)) 7 3 (kI (sI s1 5 3 (kI s1 5 2)) 7 2)) 5 2 rank) 7 2 value) 9 0) + 1)
              else
                if rank ≤ (kI (sI (sI (sI (sI s1 5 3 (kI s1 5 2)) 7 3 (kI (sI s1 5 3 (kI s1 5 2)) 7 2)) 5 2 (kI (sI (sI s1 5 3 (kI s1 5 2)) 7 3 (kI (sI s1 5 3 (kI s1 5 2)) 7 2)) 5 1)) 7 2 (kI (sI (sI (sI s1 5 3 (kI s1 5 2)) 7 3 (kI (sI s1 5 3 (kI s1 5 2)) 7 2)) 5 2 (kI (sI (sI s1 5 3 (kI s1 5 2)) 7 3 (kI (sI s1 5 3 (kI s1 5 2)) 7 2)) 5 1)) 7 1)) 5 0) then
                  sI (sI (sI (sI (sI (sI (sI s1 5 3 (kI s1 5 2)) 7 3 (kI (sI s1 5 3 (kI s1 5 2)) 7 2)) 5 2 (kI (sI (sI s1 5 3 (kI s1 5 2)) 7 3 (kI (sI s1 5 3 (kI s1 5 2)) 7 2)) 5 1)) 7 2 (kI (sI (sI (sI s1 5 3 (kI s1 5 2)) 7 3 (kI (sI s1 5 3 (kI s1 5 2)) 7 2)) 5 2 (kI (sI (sI s1 5 3 (kI s1 5 2)) 7 3 (kI (sI s1 5 3 (kI s1 5 2)) 7 2)) 5 1)) 7 1)) 5 1 rank) 7 1 value) 9 0 ((kI (sI (sI (sI (sI (sI (sI s1 5 3 (kI s1 5 2)) 7 3 (kI (sI s1 5 3 (kI s1 5 2)) 7 2)) 5 2 (kI (sI (sI s1 5 3 (kI s1 5 2)) 7 3 (kI (sI s1 5 3 (kI s1 5 2)) 7 2)) 5 1)) 7 2 (kI (sI (sI (sI s1 5 3 (kI s1 5 2)) 7 3 (kI (sI s1 5 3 (kI s1 5 2)) 7 2)) 5 2 (kI (sI (sI s1 5 3 (kI s1 5 2)) 7 3 (kI (sI s1 5 3 (kI s1 5 2)) 7 2)) 5 1)) 7 1)) 5 1 rank) 7 1 value) 9 0) + 1)
                else
                  sI (sI (sI (sI (sI (sI (sI (sI (sI s1 5 3 (kI s1 5 2)) 7 3 (kI (sI s1 5 3 (kI s1 5 2)) 7 2)) 5 2 (kI (sI (sI s1 5 3 (kI s1 5 2)) 7 3 (kI (sI s1 5 3 (kI s1 5 2)) 7 2)) 5 1)) 7 2 (kI (sI (sI (sI s1 5 3 (kI s1 5 2)) 7 3 (kI (sI s1 5 3 (kI s1 5 2)) 7 2)) 5 2 (kI (sI (sI s1 5 3 (kI s1 5 2)) 7 3 (kI (sI s1 5 3 (kI s1 5 2)) 7 2)) 5 1)) 7 1)) 5 1 (kI (sI (sI (sI (sI s1 5 3 (kI s1 5 2)) 7 3 (kI (sI s1 5 3 (kI s1 5 2)) 7 2)) 5 2 (kI (sI (sI s1 5 3 (kI s1 5 2)) 7 3 (kI (sI s1 5 3 (kI s1 5 2)) 7 2)) 5 1)) 7 2 (kI (sI (sI (sI s1 5 3 (kI s1 5 2)) 7 3 (kI (sI s1 5 3 (kI s1 5 2)) 7 2)) 5 2 (kI (sI (sI s1 5 3 (kI s1 5 2)) 7 3 (kI (sI s1 5 3 (kI s1 5 2)) 7 2)) 5 1)) 7 1)) 5 0)) 7 1 (kI (sI (sI (sI (sI (sI s1 5 3 (kI s1 5 2)) 7 3 (kI (sI s1 5 3 (kI s1 5 2)) 7 2)) 5 2 (kI (sI (sI s1 5 3 (kI s1 5 2)) 7 3 (kI (sI s1 5 3 (kI s1 5 2)) 7 2)) 5 1)) 7 2 (kI (sI (sI (sI s1 5 3 (kI s1 5 2)) 7 3 (kI (sI s1 5 3 (kI s1 5 2)) 7 2)) 5 2 (kI (sI (sI s1 5 3 (kI s1 5 2)) 7 3 (kI (sI s1 5 3 (kI s1 5 2)) 7 2)) 5 1)) 7 1)) 5 1 (kI (sI (sI (sI (sI s1 5 3 (kI s1 5 2)) 7 3 (kI (sI s1 5 3 (kI s1 5 2)) 7 2)) 5 2 (kI (sI (sI s1 5 3 (kI s1 5 2)) 7 3 (kI (sI s1 5 3 (kI s1 5 2)) 7 2)) 5 1)) 7 2 (kI (sI (sI (sI s1 5 3 (kI s1 5 2)) 7 3 (kI (sI s1 5 3 (kI s1 5 2)) 7 2)) 5 2 (kI (sI (sI s1 5 3 (kI s1 5 2)) 7 3 (kI (sI s1 5 3 (kI s1 5 2)) 7 2)) 5 1)) 7 1)) 5 0)) 7 0)) 5 0 rank) 7 0 value) 9 0 ((kI (sI (sI (sI (sI (sI (sI (sI (sI s1 5 3 (kI s1 5 2)) 7 3 (kI (sI s1 5 3 (kI s1 5 2)) 7 2)) 5 2 (kI (sI (sI s1 5 3 (kI s1 5 2)) 7 3 (kI (sI s1 5 3 (kI s1 5 2)) 7 2)) 5 1)) 7 2 (kI (sI (sI (sI s1 5 3 (kI s1 5 2)) 7 3 (kI (sI s1 5 3 (kI s1 5 2)) 7 2)) 5 2 (kI (sI (sI s1 5 3 (kI s1 5 2)) 7 3 (kI (sI s1 5 3 (kI s1 5 2)) 7 2)) 5 1)) 7 1)) 5 1 (kI (sI (sI (sI (sI s1 5 3 (kI s1 5 2)) 7 3 (kI (sI s1 5 3 (kI s1 5 2)) 7 2)) 5 2 (kI (sI (sI s1 5 3 (kI s1 5 2)) 7 3 (kI (sI s1 5 3 (kI s1 5 2)) 7 2)) 5 1)) 7 2 (kI (sI (sI (sI s1 5 3 (kI s1 5 2)) 7 3 (kI (sI s1 5 3 (kI s1 5 2)) 7 2)) 5 2 (kI (sI (sI s1 5 3 (kI s1 5 2)) 7 3 (kI (sI s1 5 3 (kI s1 5 2)) 7 2)) 5 1)) 7 1)) 5 0)) 7 1 (kI (sI (sI (sI (sI (sI s1 5 3 (kI s1 5 2)) 7 3 (kI (sI s1 5 3 (kI s1 5 2)) 7 2)) 5 2 (kI (sI (sI s1 5 3 (kI s1 5 2)) 7 3 (kI (sI s1 5 3 (kI s1 5 2)) 7 2)) 5 1)) 7 2 (kI (sI (sI (sI s1 5 3 (kI s1 5 2)) 7 3 (kI (sI s1 5 3 (kI s1 5 2)) 7 2)) 5 2 (kI (sI (sI s1 5 3 (kI s1 5 2)) 7 3 (kI (sI s1 5 3 (kI s1 5 2)) 7 2)) 5 1)) 7 1)) 5 1 (kI (sI (sI (sI (sI s1 5 3 (kI s1 5 2)) 7 3 (kI (sI s1 5 3 (kI s1 5 2)) 7 2)) 5 2 (kI (sI (sI s1 5 3 (kI s1 5 2)) 7 3 (kI (sI s1 5 3 (kI s1 5 2)) 7 2)) 5 1)) 7 2 (kI (sI (sI (sI s1 5 3 (kI s1 5 2)) 7 3 (kI (sI s1 5 3 (kI s1 5 2)) 7 2)) 5 2 (kI (sI (sI s1 5 3 (kI s1 5 2)) 7 3 (kI (sI s1 5 3 (kI s1 5 2)) 7 2)) 5 1)) 7 1)) 5 0)) 7 0)) 5 0 rank) 7 0 value) 9 0) + 1)
    else
      s1)
def xf_insert_1 (σ : kx_S) (rank : Int32) (value : Int32) : kx_S :=
  kk_b (xf_isFull_1 σ) (fun r1 s1 =>
    if r1 = 0 then
      if (kI s1 9 1) = 0 then
        sI (sI (sI s1 6 0 rank) 8 0 value) 9 1 ((kI (sI (sI s1 6 0 rank) 8 0 value) 9 1) + 1)
      else
        if (kI s1 9 1) = 1 then
          if rank ≤ (kI s1 6 0) then
            sI (sI (sI s1 6 1 rank) 8 1 value) 9 1 ((kI (sI (sI s1 6 1 rank) 8 1 value) 9 1) + 1)
          else
            sI (sI (sI (sI (sI s1 6 1 (kI s1 6 0)) 8 1 (kI (sI s1 6 1 (kI s1 6 0)) 8 0)) 6 0 rank) 8 0 value) 9 1 ((kI (sI (sI (sI (sI s1 6 1 (kI s1 6 0)) 8 1 (kI (sI s1 6 1 (kI s1 6 0)) 8 0)) 6 0 rank) 8 0 value) 9 1) + 1)
        else
          if (kI s1 9 1) = 2 then
            if rank ≤ (kI s1 6 1) then
              sI (sI (sI s1 6 2 rank) 8 2 value) 9 1 ((kI (sI (sI s1 6 2 rank) 8 2 value) 9 1) + 1)
            else
              if rank ≤ (kI (sI (sI s1 6 2 (kI s1 6 1)) 8 2 (kI (sI s1 6 2 (kI s1 6 1)) 8 1)) 6 0) then
                sI (sI (sI (sI (sI s1 6 2 (kI s1 6 1)) 8 2 (kI (sI s1 6 2 (kI s1 6 1)) 8 1)) 6 1 rank) 8 1 value) 9 1 ((kI (sI (sI (sI (sI s1 6 2 (kI s1 6 1)) 8 2 (kI (sI s1 6 2 (kI s1 6 1)) 8 1)) 6 1 rank) 8 1 value) 9 1) + 1)
              else
                sI (sI (sI (sI (sI (sI (sI s1 6 2 (kI s1 6 1)) 8 2 (kI (sI s1 6 2 (kI s1 6 1)) 8 1)) 6 1 (kI (sI (sI s1 6 2 (kI s1 6 1)) 8 2 (kI (sI s1 6 2 (kI s1 6 1)) 8 1)) 6 0)) 8 1 (kI (sI (sI (sI s1 6 2 (kI s1 6 1)) 8 2 (kI (sI s1 6 2 (kI s1 6 1)) 8 1)) 6 1 (kI (sI (sI s1 6 2 (kI s1 6 1)) 8 2 (kI (sI s1 6 2 (kI s1 6 1)) 8 1)) 6 0)) 8 0)) 6 0 rank) 8 0 value) 9 1 ((kI (sI (sI (sI (sI (sI (sI s1 6 2 (kI s1 6 1)) 8 2 (kI (sI s1 6 2 (kI s1 6 1)) 8 1)) 6 1 (kI (sI (sI s1 6 2 (kI s1 6 1)) 8 2 (kI (sI s1 6 2 (kI s1 6 1)) 8 1)) 6 0)) 8 1 (kI (sI (sI (sI s1 6 2 (kI s1 6 1)) 8 2 (kI (sI s1 6 2 (kI s1 6 1)) 8 1)) 6 1 (kI (sI (sI s1 6 2 (kI s1 6 1)) 8 2 (kI (sI s1 6 2 (kI s1 6 1)) 8 1)) 6 0)) 8 0)) 6 0 rank) 8 0 value) 9 1) + 1)
          else
            if rank ≤ (kI s1 6 2) then
              sI (sI (sI s1 6 3 rank) 8 3 value) 9 1 ((kI (sI (sI s1 6 3 rank) 8 3 value) 9 1) + 1)
            else
              if rank ≤ (kI (sI (sI s1 6 3 (kI s1 6 2)) 8 3 (kI (sI s1 6 3 (kI s1 6 2)) 8 2)) 6 1) then
                sI (sI (sI (sI (sI s1 6 3 (kI s1 6 2)) 8 3 (kI (sI s1 6 3 (kI s1 6 2)) 8 2)) 6 2 rank) 8 2 value) 9 1 ((kI (sI (sI (sI (sI s1 6 3 (kI s1 6 2)) 8 3 (kI (sI s1 6 3 (kI s1 6 2)) 8 2)) 6 2 rank) 8 2 value) 9 1) + 1)
              else
                if rank ≤ (kI (sI (sI (sI (sI s1 6 3 (kI s1 6 2)) 8 3 (kI (sI s1 6 3 (kI s1 6 2)) 8 2)) 6 2 (kI (sI (sI s1 6 3 (kI s1 6 2)) 8 3 (kI (sI s1 6 3 (kI s1 6 2)) 8 2)) 6 1)) 8 2 (kI (sI (sI (sI s1 6 3 (kI s1 6 2)) 8 3 (kI (sI s1 6 3 (kI s1 6 2)) 8 2)) 6 2 (kI (sI (sI s1 6 3 (kI s1 6 2)) 8 3 (kI (sI s1 6 3 (kI s1 6 2)) 8 2)) 6 1)) 8 1)) 6 0) then
                  sI (sI (sI (sI (sI (sI (sI s1 6 3 (kI s1 6 2)) 8 3 (kI (sI s1 6 3 (kI s1 6 2)) 8 2)) 6 2 (kI (sI (sI s1 6 3 (kI s1 6 2)) 8 3 (kI (sI s1 6 3 (kI s1 6 2)) 8 2)) 6 1)) 8 2 (kI (sI (sI (sI s1 6 3 (kI s1 6 2)) 8 3 (kI (sI s1 6 3 (kI s1 6 2)) 8 2)) 6 2 (kI (sI (sI s1 6 3 (kI s1 6 2)) 8 3 (kI (sI s1 6 3 (kI s1 6 2)) 8 2)) 6 1)) 8 1)) 6 1 rank) 8 1 value) 9 1 ((kI (sI (sI (sI (sI (sI (sI s1 6 3 (kI s1 6 2)) 8 3 (kI (sI s1 6 3 (kI s1 6 2)) 8 2)) 6 2 (kI (sI (sI s1 6 3 (kI s1 6 2)) 8 3 (kI (sI s1 6 3 (kI s1 6 2)) 8 2)) 6 1)) 8 2 (kI (sI (sI (sI s1 6 3 (kI s1 6 2)) 8 3 (kI (sI s1 6 3 (kI s1 6 2)) 8 2)) 6 2 (kI (sI (sI s1 6 3 (kI s1 6 2)) 8 3 (kI (sI s1 6 3 (kI s1 6 2)) 8 2)) 6 1)) 8 1)) 6 1 rank) 8 1 value) 9 1) + 1)
                else
                  sI (sI (sI (sI (sI (sI (sI (sI (sI s1 6 3 (kI s1 6 2)) 8 3 (kI (sI s1 6 3 (kI s1 6 2)) 8 2)) 6 2 (kI (sI (sI s1 6 3 (kI s1 6 2)) 8 3 (kI (sI s1 6 3 (kI s1 6 2)) 8 2)) 6 1)) 8 2 (kI (sI (sI (sI s1 6 3 (kI s1 6 2)) 8 3 (kI (sI s1 6 3 (kI s1 6 2)) 8 2)) 6 2 (kI (sI (sI s1 6 3 (kI s1 6 2)) 8 3 (kI (sI s1 6 3 (kI s1 6 2)) 8 2)) 6 1)) 8 1)) 6 1 (kI (sI (sI (sI (sI s1 6 3 (kI s1 6 2)) 8 3 (kI (sI s1 6 3 (kI s1 6 2)) 8 2)) 6 2 (kI (sI (sI s1 6 3 (kI s1 6 2)) 8 3 (kI (sI s1 6 3 (kI s1 6 2)) 8 2)) 6 1)) 8 2 (kI (sI (sI (sI s1 6 3 (kI s1 6 2)) 8 3 (kI (sI s1 6 3 (kI s1 6 2)) 8 2)) 6 2 (kI (sI (sI s1 6 3 (kI s1 6 2)) 8 3 (kI (sI s1 6 3 (kI s1 6 2)) 8 2)) 6 1)) 8 1)) 6 0)) 8 1 (kI (sI (sI (sI (sI (sI s1 6 3 (kI s1 6 2)) 8 3 (kI (sI s1 6 3 (kI s1 6 2)) 8 2)) 6 2 (kI (sI (sI s1 6 3 (kI s1 6 2)) 8 3 (kI (sI s1 6 3 (kI s1 6 2)) 8 2)) 6 1)) 8 2 (kI (sI (sI (sI s1 6 3 (kI s1 6 2)) 8 3 (kI (sI s1 6 3 (kI s1 6 2)) 8 2)) 6 2 (kI (sI (sI s1 6 3 (kI s1 6 2)) 8 3 (kI (sI s1 6 3 (kI s1 6 2)) 8 2)) 6 1)) 8 1)) 6 1 (kI (sI (sI (sI (sI s1 6 3 (kI s1 6 2)) 8 3 (kI (sI s1 6 3 (kI s1 6 2)) 8 2)) 6 2 (kI (sI (sI s1 6 3 (kI s1 6 2)) 8 3 (kI (sI s1 6 3 (kI s1 6 2)) 8 2)) 6 1)) 8 2 (kI (sI (sI (sI s1 6 3 (kI s1 6 2)) 8 3 (kI (sI s1 6 3 (kI s1 6 2)) 8 2)) 6 2 (kI (sI (sI s1 6 3 (kI s1 6 2)) 8 3 (kI (sI s1 6 3 (kI s1 6 2)) 8 2)) 6 1)) 8 1)) 6 0)) 8 0)) 6 0 rank) 8 0 value) 9 1 ((kI (sI (sI (sI (sI (sI (sI (sI (sI s1 6 3 (kI s1 6 2)) 8 3 (kI (sI s1 6 3 (kI s1 6 2)) 8 2)) 6 2 (kI (sI (sI s1 6 3 (kI s1 6 2)) 8 3 (kI (sI s1 6 3 (kI s1 6 2)) 8 2)) 6 1)) 8 2 (kI (sI (sI (sI s1 6 3 (kI s1 6 2)) 8 3 (kI (sI s1 6 3 (kI s1 6 2)) 8 2)) 6 2 (kI (sI (sI s1 6 3 (kI s1 6 2)) 8 3 (kI (sI s1 6 3 (kI s1 6 2)) 8 2)) 6 1)) 8 1)) 6 1 (kI (sI (sI (sI (sI s1 6 3 (kI s1 6 2)) 8 3 (kI (sI s1 6 3 (kI s1 6 2)) 8 2)) 6 2 (kI (sI (sI s1 6 3 (kI s1 6 2)) 8 3 (kI (sI s1 6 3 (kI s1 6 2)) 8 2)) 6 1)) 8 2 (kI (sI (sI (sI s1 6 3 (kI s1 6 2)) 8 3 (kI (sI s1 6 3 (kI s1 6 2)) 8 2)) 6 2 (kI (sI (sI s1 6 3 (kI s1 6 2)) 8 3 (kI (sI s1 6 3 (kI s1 6 2)) 8 2)) 6 1)) 8 1)) 6 0)) 8 1 (kI (sI (sI (sI (sI (sI s1 6 3 (kI s1 6 2)) 8 3 (kI (sI s1 6 3 (kI s1 6 2)) 8 2)) 6 2 (kI (sI (sI s1 6 3 (kI s1 6 2)) 8 3 (kI (sI s1 6 3 (kI s1 6 2)) 8 2)) 6 1)) 8 2 (kI (sI (sI (sI s1 6 3 (kI s1 6 2)) 8 3 (kI (sI s1 6 3 (kI s1 6 2)) 8 2)) 6 2 (kI (sI (sI s1 6 3 (kI s1 6 2)) 8 3 (kI (sI s1 6 3 (kI s1 6 2)) 8 2)) 6 1)) 8 1)) 6 1 (kI (sI (sI (sI (sI s1 6 3 (kI s1 6 2)) 8 3 (kI (sI s1 6 3 (kI s1 6 2)) 8 2)) 6 2 (kI (sI (sI s1 6 3 (kI s1 6 2)) 8 3 (kI (sI s1 6 3 (kI s1 6 2)) 8 2)) 6 1)) 8 2 (kI (sI (sI (sI s1 6 3 (kI s1 6 2)) 8 3 (kI (sI s1 6 3 (kI s1 6 2)) 8 2)) 6 2 (kI (sI (sI s1 6 3 (kI s1 6 2)) 8 3 (kI (sI s1 6 3 (kI s1 6 2)) 8 2)) 6 1)) 8 1)) 6 0)) 8 0)) 6 0 rank) 8 0 value) 9 1) + 1)
    else
      s1)
def xf_insert (σ : kx_S) (q : Nat) (rank : Int32) (value : Int32) : kx_S := if q = 0 then xf_insert_0 σ rank value else xf_insert_1 σ rank value
def xf_removeFirst_0 (σ : kx_S)  : Int32 × kx_S :=
  kk_b (xf_isEmpty_0 σ) (fun r1 s1 =>
    if r1 = 0 then
      if (kI s1 9 0) = 1 then
        (kI s1 7 0, sI s1 9 0 ((kI s1 9 0) - 1))
      else
        if (kI s1 9 0) = 2 then
          (kI s1 7 0, sI (sI (sI s1 9 0 ((kI s1 9 0) - 1)) 5 0 (kI (sI s1 9 0 ((kI s1 9 0) - 1)) 5 1)) 7 0 (kI (sI (sI s1 9 0 ((kI s1 9 0) - 1)) 5 0 (kI (sI s1 9 0 ((kI s1 9 0) - 1)) 5 1)) 7 1))
        else
          if (kI s1 9 0) = 3 then
            (kI s1 7 0, sI (sI (sI (sI (sI s1 9 0 ((kI s1 9 0) - 1)) 5 0 (kI (sI s1 9 0 ((kI s1 9 0) - 1)) 5 1)) 7 0 (kI (sI (sI s1 9 0 ((kI s1 9 0) - 1)) 5 0 (kI (sI s1 9 0 ((kI s1 9 0) - 1)) 5 1)) 7 1)) 5 1 (kI (sI (sI (sI s1 9 0 ((kI s1 9 0) - 1)) 5 0 (kI (sI s1 9 0 ((kI s1 9 0) - 1)) 5 1)) 7 0 (kI (sI (sI s1 9 0 ((kI s1 9 0) - 1)) 5 0 (kI (sI s1 9 0 ((kI s1 9 0) - 1)) 5 1)) 7 1)) 5 2)) 7 1 (kI (sI (sI (sI (sI s1 9 0 ((kI s1 9 0) - 1)) 5 0 (kI (sI s1 9 0 ((kI s1 9 0) - 1)) 5 1)) 7 0 (kI (sI (sI s1 9 0 ((kI s1 9 0) - 1)) 5 0 (kI (sI s1 9 0 ((kI s1 9 0) - 1)) 5 1)) 7 1)) 5 1 (kI (sI (sI (sI s1 9 0 ((kI s1 9 0) - 1)) 5 0 (kI (sI s1 9 0 ((kI s1 9 0) - 1)) 5 1)) 7 0 (kI (sI (sI s1 9 0 ((kI s1 9 0) - 1)) 5 0 (kI (sI s1 9 0 ((kI s1 9 0) - 1)) 5 1)) 7 1)) 5 2)) 7 2))
          else
            (kI s1 7 0, sI (sI (sI (sI (sI (sI (sI s1 9 0 ((kI s1 9 0) - 1)) 5 0 (kI (sI s1 9 0 ((kI s1 9 0) - 1)) 5 1)) 7 0 (kI (sI (sI s1 9 0 ((kI s1 9 0) - 1)) 5 0 (kI (sI s1 9 0 ((kI s1 9 0) - 1)) 5 1)) 7 1)) 5 1 (kI (sI (sI (sI s1 9 0 ((kI s1 9 0) - 1)) 5 0 (kI (sI s1 9 0 ((kI s1 9 0) - 1)) 5 1)) 7 0 (kI (sI (sI s1 9 0 ((kI s1 9 0) - 1)) 5 0 (kI (sI s1 9 0 ((kI s1 9 0) - 1)) 5 1)) 7 1)) 5 2)) 7 1 (kI (sI (sI (sI (sI s1 9 0 ((kI s1 9 0) - 1)) 5 0 (kI (sI s1 9 0 ((kI s1 9 0) - 1)) 5 1)) 7 0 (kI (sI (sI s1 9 0 ((kI s1 9 0) - 1)) 5 0 (kI (sI s1 9 0 ((kI s1 9 0) - 1)) 5 1)) 7 1)) 5 1 (kI (sI (sI (sI s1 9 0 ((kI s1 9 0) - 1)) 5 0 (kI (sI s1 9 0 ((kI s1 9 0) - 1)) 5 1)) 7 0 (kI (sI (sI s1 9 0 ((kI s1 9 0) - 1)) 5 0 (kI (sI s1 9 0 ((kI s1 9 0) - 1)) 5 1)) 7 1)) 5 2)) 7 2)) 5 2 (kI (sI (sI (sI (sI (sI s1 9 0 ((kI s1 9 0) - 1)) 5 0 (kI (sI s1 9 0 ((kI s1 9 0) - 1)) 5 1)) 7 0 (kI (sI (sI s1 9 0 ((kI s1 9 0) - 1)) 5 0 (kI (sI s1 9 0 ((kI s1 9 0) - 1)) 5 1)) 7 1)) 5 1 (kI (sI (sI (sI s1 9 0 ((kI s1 9 0) - 1)) 5 0 (kI (sI s1 9 0 ((kI s1 9 0) - 1)) 5 1)) 7 0 (kI (sI (sI s1 9 0 ((kI s1 9 0) - 1)) 5 0 (kI (sI s1 9 0 ((kI s1 9 0) - 1)) 5 1)) 7 1)) 5 2)) 7 1 (kI (sI (sI (sI (sI s1 9 0 ((kI s1 9 0) - 1)) 5 0 (kI (sI s1 9 0 ((kI s1 9 0) - 1)) 5 1)) 7 0 (kI (sI (sI s1 9 0 ((kI s1 9 0) - 1)) 5 0 (kI (sI s1 9 0 ((kI s1 9 0) - 1)) 5 1)) 7 1)) 5 1 (kI (sI (sI (sI s1 9 0 ((kI s1 9 0) - 1)) 5 0 (kI (sI s1 9 0 ((kI s1 9 0) - 1)) 5 1)) 7 0 (kI (sI (sI s1 9 0 ((kI s1 9 0) - 1)) 5 0 (kI (sI s1 9 0 ((kI s1 9 0) - 1)) 5 1)) 7 1)) 5 2)) 7 2)) 5 3)) 7 2 (kI (sI (sI (sI (sI (sI (sI s1 9 0 ((kI s1 9 0) - 1)) 5 0 (kI (sI s1 9 0 ((kI s1 9 0) - 1)) 5 1)) 7 0 (kI (sI (sI s1 9 0 ((kI s1 9 0) - 1)) 5 0 (kI (sI s1 9 0 ((kI s1 9 0) - 1)) 5 1)) 7 1)) 5 1 (kI (sI (sI (sI s1 9 0 ((kI s1 9 0) - 1)) 5 0 (kI (sI s1 9 0 ((kI s1 9 0) - 1)) 5 1)) 7 0 (kI (sI (sI s1 9 0 ((kI s1 9 0) - 1)) 5 0 (kI (sI s1 9 0 ((kI s1 9 0) - 1)) 5 1)) 7 1)) 5 2)) 7 1 (kI (sI (sI (sI (sI s1 9 0 ((kI s1 9 0) - 1)) 5 0 (kI (sI s1 9 0 ((kI s1 9 0) - 1)) 5 1)) 7 0 (kI (sI (sI s1 9 0 ((kI s1 9 0) - 1)) 5 0 (kI (sI s1 9 0 ((kI s1 9 0) - 1)) 5 1)) 7 1)) 5 1 (kI (sI (sI (sI s1 9 0 ((kI s1 9 0) - 1)) 5 0 (kI (sI s1 9 0 ((kI s1 9 0) - 1)) 5 1)) 7 0 (kI (sI (sI s1 9 0 ((kI s1 9 0) - 1)) 5 0 (kI (sI s1 9 0 ((kI s1 9 0) - 1)) 5 1)) 7 1)) 5 2)) 7 2)) 5 2 (kI (sI (sI (sI (sI (sI s1 9 0 ((kI s1 9 0) - 1)) 5 0 (kI (sI s1 9 0 ((kI s1 9 0) - 1)) 5 1)) 7 0 (kI (sI (sI s1 9 0 ((kI s1 9 0) - 1)) 5 0 (kI (sI s1 9 0 ((kI s1 9 0) - 1)) 5 1)) 7 1)) 5 1 (kI (sI (sI (sI s1 9 0 ((kI s1 9 0) - 1)) 5 0 (kI (sI s1 9 0 ((kI s1 9 0) - 1)) 5 1)) 7 0 (kI (sI (sI s1 9 0 ((kI s1 9 0) - 1)) 5 0 (kI (sI s1 9 0 ((kI s1 9 0) - 1)) 5 1)) 7 1)) 5 2)) 7 1 (kI (sI (sI (sI (sI s1 9 0 ((kI s1 9 0) - 1)) 5 0 (kI (sI s1 9 0 ((kI s1 9 0) - 1)) 5 1)) 7 0 (kI (sI (sI s1 9 0 ((kI s1 9 0) - 1)) 5 0 (kI (sI s1 9 0 ((kI s1 9 0) - 1)) 5 1)) 7 1)) 5 1 (kI (sI (sI (sI s1 9 0 ((kI s1 9 0) - 1)) 5 0 (kI (sI s1 9 0 ((kI s1 9 0) - 1)) 5 1)) 7 0 (kI (sI (sI s1 9 0 ((kI s1 9 0) - 1)) 5 0 (kI (sI s1 9 0 ((kI s1 9 0) - 1)) 5 1)) 7 1)) 5 2)) 7 2)) 5 3)) 7 3))
    else
      (0, s1))
def xf_removeFirst_1 (σ : kx_S)  : Int32 × kx_S :=
  kk_b (xf_isEmpty_1 σ) (fun r1 s1 =>
    if r1 = 0 then
      if (kI s1 9 1) = 1 then
        (kI s1 8 0, sI s1 9 1 ((kI s1 9 1) - 1))
      else
        if (kI s1 9 1) = 2 then
          (kI s1 8 0, sI (sI (sI s1 9 1 ((kI s1 9 1) - 1)) 6 0 (kI (sI s1 9 1 ((kI s1 9 1) - 1)) 6 1)) 8 0 (kI (sI (sI s1 9 1 ((kI s1 9 1) - 1)) 6 0 (kI (sI s1 9 1 ((kI s1 9 1) - 1)) 6 1)) 8 1))
        else
          if (kI s1 9 1) = 3 then
            (kI s1 8 0, sI (sI (sI (sI (sI s1 9 1 ((kI s1 9 1) - 1)) 6 0 (kI (sI s1 9 1 ((kI s1 9 1) - 1)) 6 1)) 8 0 (kI (sI (sI s1 9 1 ((kI s1 9 1) - 1)) 6 0 (kI (sI s1 9 1 ((kI s1 9 1) - 1)) 6 1)) 8 1)) 6 1 (kI (sI (sI (sI s1 9 1 ((kI s1 9 1) - 1)) 6 0 (kI (sI s1 9 1 ((kI s1 9 1) - 1)) 6 1)) 8 0 (kI (sI (sI s1 9 1 ((kI s1 9 1) - 1)) 6 0 (kI (sI s1 9 1 ((kI s1 9 1) - 1)) 6 1)) 8 1)) 6 2)) 8 1 (kI (sI (sI (sI (sI s1 9 1 ((kI s1 9 1) - 1)) 6 0 (kI (sI s1 9 1 ((kI s1 9 1) - 1)) 6 1)) 8 0 (kI (sI (sI s1 9 1 ((kI s1 9 1) - 1)) 6 0 (kI (sI s1 9 1 ((kI s1 9 1) - 1)) 6 1)) 8 1)) 6 1 (kI (sI (sI (sI s1 9 1 ((kI s1 9 1) - 1)) 6 0 (kI (sI s1 9 1 ((kI s1 9 1) - 1)) 6 1)) 8 0 (kI (sI (sI s1 9 1 ((kI s1 9 1) - 1)) 6 0 (kI (sI s1 9 1 ((kI s1 9 1) - 1)) 6 1)) 8 1)) 6 2)) 8 2))
          else
            (kI s1 8 0, sI (sI (sI (sI (sI (sI (sI s1 9 1 ((kI s1 9 1) - 1)) 6 0 (kI (sI s1 9 1 ((kI s1 9 1) - 1)) 6 1)) 8 0 (kI (sI (sI s1 9 1 ((kI s1 9 1) - 1)) 6 0 (kI (sI s1 9 1 ((kI s1 9 1) - 1)) 6 1)) 8 1)) 6 1 (kI (sI (sI (sI s1 9 1 ((kI s1 9 1) - 1)) 6 0 (kI (sI s1 9 1 ((kI s1 9 1) - 1)) 6 1)) 8 0 (kI (sI (sI s1 9 1 ((kI s1 9 1) - 1)) 6 0 (kI (sI s1 9 1 ((kI s1 9 1) - 1)) 6 1)) 8 1)) 6 2)) 8 1 (kI (sI (sI (sI (sI s1 9 1 ((kI s1 9 1) - 1)) 6 0 (kI (sI s1 9 1 ((kI s1 9 1) - 1)) 6 1)) 8 0 (kI (sI (sI s1 9 1 ((kI s1 9 1) - 1)) 6 0 (kI (sI s1 9 1 ((kI s1 9 1) - 1)) 6 1)) 8 1)) 6 1 (kI (sI (sI (sI s1 9 1 ((kI s1 9 1) - 1)) 6 0 (kI (sI s1 9 1 ((kI s1 9 1) - 1)) 6 1)) 8 0 (kI (sI (sI s1 9 1 ((kI s1 9 1) - 1)) 6 0 (kI (sI s1 9 1 ((kI s1 9 1) - 1)) 6 1)) 8 1)) 6 2)) 8 2)) 6 2 (kI (sI (sI (sI (sI (sI s1 9 1 ((kI s1 9 1) - 1)) 6 0 (kI (sI s1 9 1 ((kI s1 9 1) - 1)) 6 1)) 8 0 (kI (sI (sI s1 9 1 ((kI s1 9 1) - 1)) 6 0 (kI (sI s1 9 1 ((kI s1 9 1) - 1)) 6 1)) 8 1)) 6 1 (kI (sI (sI (sI s1 9 1 ((kI s1 9 1) - 1)) 6 0 (kI (sI s1 9 1 ((kI s1 9 1) - 1)) 6 1)) 8 0 (kI (sI (sI s1 9 1 ((kI s1 9 1) - 1)) 6 0 (kI (sI s1 9 1 ((kI s1 9 1) - 1)) 6 1)) 8 1)) 6 2)) 8 1 (kI (sI (sI (sI (sI s1 9 1 ((kI s1 9 1) - 1)) 6 0 (kI (sI s1 9 1 ((kI s1 9 1) - 1)) 6 1)) 8 0 (kI (sI (sI s1 9 1 ((kI s1 9 1) - 1)) 6 0 (kI (sI s1 9 1 ((kI s1 9 1) - 1)) 6 1)) 8 1)) 6 1 (kI (sI (sI (sI s1 9 1 ((kI s1 9 1) - 1)) 6 0 (kI (sI s1 9 1 ((kI s1 9 1) - 1)) 6 1)) 8 0 (kI (sI (sI s1 9 1 ((kI s1 9 1) - 1)) 6 0 (kI (sI s1 9 1 ((kI s1 9 1) - 1)) 6 1)) 8 1)) 6 2)) 8 2)) 6 3)) 8 2 (kI (sI (sI (sI (sI (sI (sI s1 9 1 ((kI s1 9 1) - 1)) 6 0 (kI (sI s1 9 1 ((kI s1 9 1) - 1)) 6 1)) 8 0 (kI (sI (sI s1 9 1 ((kI s1 9 1) - 1)) 6 0 (kI (sI s1 9 1 ((kI s1 9 1) - 1)) 6 1)) 8 1)) 6 1 (kI (sI (sI (sI s1 9 1 ((kI s1 9 1) - 1)) 6 0 (kI (sI s1 9 1 ((kI s1 9 1) - 1)) 6 1)) 8 0 (kI (sI (sI s1 9 1 ((kI s1 9 1) - 1)) 6 0 (kI (sI s1 9 1 ((kI s1 9 1) - 1)) 6 1)) 8 1)) 6 2)) 8 1 (kI (sI (sI (sI (sI s1 9 1 ((kI s1 9 1) - 1)) 6 0 (kI (sI s1 9 1 ((kI s1 9 1) - 1)) 6 1)) 8 0 (kI (sI (sI s1 9 1 ((kI s1 9 1) - 1)) 6 0 (kI (sI s1 9 1 ((kI s1 9 1) - 1)) 6 1)) 8 1)) 6 1 (kI (sI (sI (sI s1 9 1 ((kI s1 9 1) - 1)) 6 0 (kI (sI s1 9 1 ((kI s1 9 1) - 1)) 6 1)) 8 0 (kI (sI (sI s1 9 1 ((kI s1 9 1) - 1)) 6 0 (kI (sI s1 9 1 ((kI s1 9 1) - 1)) 6 1)) 8 1)) 6 2)) 8 2)) 6 2 (kI (sI (sI (sI (sI (sI s1 9 1 ((kI s1 9 1) - 1)) 6 0 (kI (sI s1 9 1 ((kI s1 9 1) - 1)) 6 1)) 8 0 (kI (sI (sI s1 9 1 ((kI s1 9 1) - 1)) 6 0 (kI (sI s1 9 1 ((kI s1 9 1) - 1)) 6 1)) 8 1)) 6 1 (kI (sI (sI (sI s1 9 1 ((kI s1 9 1) - 1)) 6 0 (kI (sI s1 9 1 ((kI s1 9 1) - 1)) 6 1)) 8 0 (kI (sI (sI s1 9 1 ((kI s1 9 1) - 1)) 6 0 (kI (sI s1 9 1 ((kI s1 9 1) - 1)) 6 1)) 8 1)) 6 2)) 8 1 (kI (sI (sI (sI (sI s1 9 1 ((kI s1 9 1) - 1)) 6 0 (kI (sI s1 9 1 ((kI s1 9 1) - 1)) 6 1)) 8 0 (kI (sI (sI s1 9 1 ((kI s1 9 1) - 1)) 6 0 (kI (sI s1 9 1 ((kI s1 9 1) - 1)) 6 1)) 8 1)) 6 1 (kI (sI (sI (sI s1 9 1 ((kI s1 9 1) - 1)) 6 0 (kI (sI s1 9 1 ((kI s1 9 1) - 1)) 6 1)) 8 0 (kI (sI (sI s1 9 1 ((kI s1 9 1) - 1)) 6 0 (kI (sI s1 9 1 ((kI s1 9 1) - 1)) 6 1)) 8 1)) 6 2)) 8 2)) 6 3)) 8 3))
    else
      (0, s1))
def xf_removeFirst (σ : kx_S) (q : Nat)  : Int32 × kx_S := if q = 0 then xf_removeFirst_0 σ  else xf_removeFirst_1 σ 
def xf_deadlineAfter (σ : kx_S) (n1 : Int32) : Int64 × kx_S :=
  if n1 = 0 then
    (1000000000000, σ)
  else
    (((kI σ 2 0).toInt64) + n1.toInt64, σ)
def xf_heirOf (σ : kx_S) (t : Nat) : Int32 × kx_S :=
  if (kI σ 16 t) = 11 then
    (kI σ 3 1, σ)
  else
    if (kI σ 16 t) = 12 then
      (kI σ 3 2, σ)
    else
      ((-1), σ)
def xf_inheritOnce_L13  : Nat → Nat → Int32 → kx_S → Int32 × kx_S
  | 0, k, raised, σ =>
    (raised, σ)
  | n + 1, k, raised, σ =>
    kk_b (xf_heirOf σ k) (fun r1 s1 =>
      if r1 = (-1) then
        xf_inheritOnce_L13 n (k + 1) raised s1
      else
        if (kI s1 12 k) ≤ (kI s1 12 r1.toNatClampNeg) then
          xf_inheritOnce_L13 n (k + 1) raised s1
        else
          xf_inheritOnce_L13 n (k + 1) 1 (sI s1 12 r1.toNatClampNeg (kI s1 12 k)))
def xf_inheritOnce (σ : kx_S)  : Int32 × kx_S :=
  xf_inheritOnce_L13 8 0 0 σ
def xf_work_L69  : Nat → Nat → Int32 → kx_S → kx_S
  | 0, k, raised, σ =>
    σ
  | n + 1, k, raised, σ =>
    if raised = 0 then
      σ
    else
      kk_b (xf_inheritOnce σ) (fun r1 s1 =>
        xf_work_L69 n (k + 1) r1 s1)
def xf_work_L10  : Nat → Nat → kx_S → kx_S
  | 0, k, σ =>
    xf_work_L69 8 0 1 σ
  | n + 1, k, σ =>
    if (kI σ 3 3) = (nI k) then
      xf_work_L10 n (k + 1)  (sI σ 12 k (if kI σ 11 k < kI σ 1 0 then kI σ 1 0 else kI σ 11 k))
    else
      xf_work_L10 n (k + 1)  (sI σ 12 k (kI σ 11 k))
def xf_work (σ : kx_S)  : kx_S :=
  xf_work_L10 8 0  σ
def xf_foremost_L20 (state : Int32) (thing : Int32) : Nat → Nat → Option Nat → kx_S → Option Nat × kx_S
  | 0, k, best, σ =>
    kk_o best (
      (none, σ)) (fun best_t =>
      (some best_t, σ))
  | n + 1, k, best, σ =>
    kk_o best (
      if (kI σ 10 k) = state then
        if (kI σ 16 k) = thing then
          xf_foremost_L20 state thing n (k + 1) (some k) σ
        else
          xf_foremost_L20 state thing n (k + 1) none σ
      else
        xf_foremost_L20 state thing n (k + 1) none σ) (fun best_t =>
      if (kI σ 10 k) = state then
        if (kI σ 16 k) = thing then
          kk_b (xf_isAheadOf σ k best_t) (fun r1 s1 =>
            if r1 = 0 then
              xf_foremost_L20 state thing n (k + 1) (some best_t) s1
            else
              xf_foremost_L20 state thing n (k + 1) (some k) s1)
        else
          xf_foremost_L20 state thing n (k + 1) (some best_t) σ
      else
        xf_foremost_L20 state thing n (k + 1) (some best_t) σ)
def xf_foremost (σ : kx_S) (state : Int32) (thing : Int32) : Option Nat × kx_S :=
  kk_v (xf_work σ) (fun s2 =>
    xf_foremost_L20 state thing 8 0 none s2)
def xf_runner (σ : kx_S)  : Option Nat × kx_S :=
  kk_b (xf_foremost σ 1 0) (fun o1 s1 =>
    kk_o o1 (
      (none, s1)) (fun t1 =>
      (some t1, s1)))
def xf_firstWaiter (σ : kx_S) (thing : Int32) : Option Nat × kx_S :=
  kk_b (xf_foremost σ 2 thing) (fun o1 s1 =>
    kk_o o1 (
      (none, s1)) (fun t1 =>
      (some t1, s1)))
def xf_startTurn (σ : kx_S) (t : Nat) : kx_S :=
  sI (sJ (sJ σ 2 0 ((kJ σ 2 0) + 1)) 0 t ((kJ σ 2 0) + 1)) 14 t 0
def xf_makeReady (σ : kx_S) (t : Nat) (result : Int32) : kx_S :=
  sI (sJ (sJ (sI (sJ (sI (sI σ 10 t 1) 16 t 0) 1 t 1000000000000) 15 t result) 2 0 ((kJ (sI (sJ (sI (sI σ 10 t 1) 16 t 0) 1 t 1000000000000) 15 t result) 2 0) + 1)) 0 t ((kJ (sI (sJ (sI (sI σ 10 t 1) 16 t 0) 1 t 1000000000000) 15 t result) 2 0) + 1)) 14 t 0
def xf_block (σ : kx_S) (t : Nat) (thing : Int32) (deadline : Int64) : kx_S :=
  sJ (sJ (sJ (sI (sI σ 10 t 2) 16 t thing) 1 t deadline) 2 0 ((kJ (sJ (sI (sI σ 10 t 2) 16 t thing) 1 t deadline) 2 0) + 1)) 0 t ((kJ (sJ (sI (sI σ 10 t 2) 16 t thing) 1 t deadline) 2 0) + 1)
def xf_makeOwner (σ : kx_S) (t : Nat) (m1 : Int32) : kx_S :=
  if (kI (sI σ 3 m1.toNatClampNeg (nI t)) 10 t) = 1 then
    sI (sI σ 3 m1.toNatClampNeg (nI t)) 15 t (kI (sI σ 3 m1.toNatClampNeg (nI t)) 18 t)
  else
    kk_v (xf_makeReady (sI σ 3 m1.toNatClampNeg (nI t)) t (kI (sI σ 3 m1.toNatClampNeg (nI t)) 18 t)) (fun s1 =>
      s1)
def xf_take (σ : kx_S) (t : Nat) (m1 : Int32) : kx_S :=
  if (kI σ 3 m1.toNatClampNeg) = (-1) then
    kk_v (xf_makeOwner σ t m1) (fun s2 =>
      s2)
  else
    kk_v (xf_block σ t (10 + m1) 1000000000000) (fun s1 =>
      s1)
def xf_give (σ : kx_S) (m1 : Int32) : kx_S :=
  kk_b (xf_firstWaiter (sI σ 3 m1.toNatClampNeg (-1)) (10 + m1)) (fun o1 s1 =>
    kk_o o1 (
      s1) (fun t1 =>
      kk_v (xf_makeOwner s1 t1 m1) (fun s2 =>
        s2)))
def xf_endAwait (σ : kx_S) (t : Nat) (result : Int32) : kx_S :=
  kk_v (xf_take (sI (sI σ 15 t result) 18 t result) t (kI (sI (sI σ 15 t result) 18 t result) 17 t)) (fun s1 =>
    s1)
def xf_arrive (σ : kx_S) (q : Int32) (rank : Int32) (value : Int32) : kx_S :=
  kk_b (xf_firstWaiter σ (50 + q)) (fun o1 s1 =>
    kk_o o1 (
      kk_v (xf_insert s1 q.toNatClampNeg rank value) (fun s2 =>
        s2)) (fun t1 =>
      kk_v (xf_makeReady s1 t1 value) (fun s3 =>
        s3)))
def xf_useTick (σ : kx_S) (t : Nat) : kx_S :=
  if (kI (sI σ 14 t ((kI σ 14 t) + 1)) 13 t) = 0 then
    sI σ 14 t ((kI σ 14 t) + 1)
  else
    if (kI (sI σ 14 t ((kI σ 14 t) + 1)) 14 t) = (kI (sI σ 14 t ((kI σ 14 t) + 1)) 0 0) then
      kk_v (xf_startTurn (sI σ 14 t ((kI σ 14 t) + 1)) t) (fun s1 =>
        s1)
    else
      sI σ 14 t ((kI σ 14 t) + 1)
def xf_endWait (σ : kx_S) (t : Nat) : kx_S :=
  if (kI σ 16 t) = 60 then
    kk_v (xf_makeReady σ t 0) (fun s3 =>
      s3)
  else
    if (xf_isBelow ((kI σ 16 t) - 20) 2) = 0 then
      kk_v (xf_makeReady σ t 2) (fun s1 =>
        s1)
    else
      kk_v (xf_endAwait σ t 2) (fun s2 =>
        s2)
def xf_tickOnce_L35  : Nat → Nat → kx_S → kx_S
  | 0, k, σ =>
    σ
  | n + 1, k, σ =>
    if (lg_cmp (kJ σ 1 k) ((kI σ 2 0).toInt64)) = 0 then
      kk_v (xf_endWait σ k) (fun s1 =>
        xf_tickOnce_L35 n (k + 1)  s1)
    else
      xf_tickOnce_L35 n (k + 1)  σ
def xf_tickOnce (σ : kx_S)  : kx_S :=
  kk_b (xf_runner σ) (fun o2 s2 =>
    kk_o o2 (
      xf_tickOnce_L35 8 0  (sI s2 2 0 ((kI s2 2 0) + 1))) (fun t2 =>
      kk_v (xf_useTick (sI s2 2 0 ((kI s2 2 0) + 1)) t2) (fun s3 =>
        xf_tickOnce_L35 8 0  s3)))
def xf_leastFree_L10  : Nat → Nat → kx_S → Option Nat × kx_S
  | 0, k, σ =>
    (none, σ)
  | n + 1, k, σ =>
    if (kI σ 10 k) = 0 then
      (some k, σ)
    else
      xf_leastFree_L10 n (k + 1)  σ
def xf_leastFree (σ : kx_S)  : Option Nat × kx_S :=
  xf_leastFree_L10 8 0  σ
def xf_readyThreads_L13  : Nat → Nat → Int32 → kx_S → Int32 × kx_S
  | 0, k, ready, σ =>
    (ready, σ)
  | n + 1, k, ready, σ =>
    if (kI σ 10 k) = 1 then
      xf_readyThreads_L13 n (k + 1) (ready + 1) σ
    else
      xf_readyThreads_L13 n (k + 1) ready σ
def xf_readyThreads (σ : kx_S)  : Int32 × kx_S :=
  xf_readyThreads_L13 8 0 0 σ
def xf_ownsAny_L11 (t : Nat) : Nat → Nat → kx_S → Int32 × kx_S
  | 0, k, σ =>
    (0, σ)
  | n + 1, k, σ =>
    if (kI σ 3 k) = (nI t) then
      (1, σ)
    else
      xf_ownsAny_L11 t n (k + 1)  σ
def xf_ownsAny (σ : kx_S) (t : Nat) : Int32 × kx_S :=
  xf_ownsAny_L11 t 4 0  σ
def xf_spawn (σ : kx_S) (base : Int32) (sliced : Int32) : Int32 × kx_S :=
  if (xf_isPriority base) = 0 then
    ((-1), σ)
  else
    kk_b (xf_leastFree σ) (fun o1 s1 =>
      kk_o o1 (
        ((-1), s1)) (fun t1 =>
        kk_v (xf_makeReady (sI (sI s1 11 t1 base) 13 t1 sliced) t1 0) (fun s2 =>
          (nI t1, s2))))
def xf_priority (σ : kx_S) (thread : Int32) (base : Int32) : Int32 × kx_S :=
  if (xf_isBelow thread 8) = 0 then
    ((-1), σ)
  else
    if (xf_isPriority base) = 0 then
      ((-1), σ)
    else
      if (kI σ 10 thread.toNatClampNeg) = 0 then
        ((-1), σ)
      else
        if (kI σ 10 thread.toNatClampNeg) = 3 then
          ((-1), σ)
        else
          if (kI σ 3 3) = thread then
            if base ≤ (kI σ 1 0) then
              if (kI (sI σ 11 thread.toNatClampNeg base) 10 thread.toNatClampNeg) = 1 then
                (0, sJ (sJ (sI σ 11 thread.toNatClampNeg base) 2 0 ((kJ (sI σ 11 thread.toNatClampNeg base) 2 0) + 1)) 0 thread.toNatClampNeg ((kJ (sI σ 11 thread.toNatClampNeg base) 2 0) + 1))
              else
                (0, sI σ 11 thread.toNatClampNeg base)
            else
              ((-1), σ)
          else
            if (kI (sI σ 11 thread.toNatClampNeg base) 10 thread.toNatClampNeg) = 1 then
              (0, sJ (sJ (sI σ 11 thread.toNatClampNeg base) 2 0 ((kJ (sI σ 11 thread.toNatClampNeg base) 2 0) + 1)) 0 thread.toNatClampNeg ((kJ (sI σ 11 thread.toNatClampNeg base) 2 0) + 1))
            else
              (0, sI σ 11 thread.toNatClampNeg base)
def xf_pass (σ : kx_S)  : Int32 × kx_S :=
  kk_b (xf_runner σ) (fun o1 s1 =>
    kk_o o1 (
      ((-1), s1)) (fun t1 =>
      kk_v (xf_startTurn s1 t1) (fun s2 =>
        (0, s2))))
def xf_lock (σ : kx_S) (m1 : Int32) : Int32 × kx_S :=
  kk_b (xf_runner σ) (fun o1 s1 =>
    kk_o o1 (
      if (xf_isBelow m1 4) = 0 then
        ((-1), s1)
      else
        ((-1), s1)) (fun t1 =>
      if (xf_isBelow m1 4) = 0 then
        ((-1), s1)
      else
        if (kI s1 3 m1.toNatClampNeg) = (nI t1) then
          ((-1), s1)
        else
          if m1 = 3 then
            if (kI s1 11 t1) ≤ (kI s1 1 0) then
              kk_v (xf_take (sI s1 18 t1 0) t1 m1) (fun s3 =>
                if (kI s3 10 t1) = 1 then
                  (0, s3)
                else
                  (1, s3))
            else
              ((-1), s1)
          else
            kk_v (xf_take (sI s1 18 t1 0) t1 m1) (fun s2 =>
              if (kI s2 10 t1) = 1 then
                (0, s2)
              else
                (1, s2))))
def xf_unlock (σ : kx_S) (m1 : Int32) : Int32 × kx_S :=
  kk_b (xf_runner σ) (fun o1 s1 =>
    kk_o o1 (
      if (xf_isBelow m1 4) = 0 then
        ((-1), s1)
      else
        ((-1), s1)) (fun t1 =>
      if (xf_isBelow m1 4) = 0 then
        ((-1), s1)
      else
        if (kI s1 3 m1.toNatClampNeg) = (nI t1) then
          kk_v (xf_give s1 m1) (fun s2 =>
            (0, s2))
        else
          ((-1), s1)))
def xf_await (σ : kx_S) (cc1 : Int32) (m1 : Int32) (n1 : Int32) : Int32 × kx_S :=
  if (xf_isBelow cc1 2) = 0 then
    ((-1), σ)
  else
    if (xf_isBelow m1 4) = 0 then
      ((-1), σ)
    else
      if (xf_isTimeout n1) = 0 then
        ((-1), σ)
      else
        kk_b (xf_runner σ) (fun o1 s1 =>
          kk_o o1 (
            ((-1), s1)) (fun t1 =>
            if (kI s1 3 m1.toNatClampNeg) = (nI t1) then
              kk_b (xf_deadlineAfter (sI s1 17 t1 m1) n1) (fun r2 s2 =>
                kk_v (xf_block s2 t1 (20 + cc1) r2) (fun s3 =>
                  kk_v (xf_give s3 m1) (fun s4 =>
                    (1, s4))))
            else
              ((-1), s1)))
def xf_signal_L27 (cc1 : Int32) (all : Int32) : Nat → Nat → Int32 → kx_S → Int32 × kx_S
  | 0, k, woken, σ =>
    (woken, σ)
  | n + 1, k, woken, σ =>
    kk_b (xf_firstWaiter σ (20 + cc1)) (fun o1 s1 =>
      kk_o o1 (
        (woken, s1)) (fun t1 =>
        kk_v (xf_endAwait s1 t1 0) (fun s2 =>
          xf_signal_L27 cc1 all n (k + 1) (woken + 1) s2)))
def xf_signal (σ : kx_S) (cc1 : Int32) (all : Int32) : Int32 × kx_S :=
  if (xf_isBelow cc1 2) = 0 then
    ((-1), σ)
  else
    if all = 0 then
      kk_b (xf_firstWaiter σ (20 + cc1)) (fun o3 s3 =>
        kk_o o3 (
          (0, s3)) (fun t3 =>
          kk_v (xf_endAwait s3 t3 0) (fun s4 =>
            (1, s4))))
    else
      xf_signal_L27 cc1 all 8 0 0 σ
def xf_down (σ : kx_S) (sem : Int32) (n1 : Int32) : Int32 × kx_S :=
  kk_b (xf_runner σ) (fun o1 s1 =>
    kk_o o1 (
      if (xf_isBelow sem 2) = 0 then
        ((-1), s1)
      else
        if (xf_isTimeout n1) = 0 then
          ((-1), s1)
        else
          ((-1), s1)) (fun t1 =>
      if (xf_isBelow sem 2) = 0 then
        ((-1), s1)
      else
        if (xf_isTimeout n1) = 0 then
          ((-1), s1)
        else
          if (kI s1 4 sem.toNatClampNeg) = 0 then
            kk_b (xf_deadlineAfter s1 n1) (fun r2 s2 =>
              kk_v (xf_block s2 t1 (30 + sem) r2) (fun s3 =>
                (1, s3)))
          else
            (0, sI (sI s1 4 sem.toNatClampNeg ((kI s1 4 sem.toNatClampNeg) - 1)) 15 t1 0)))
def xf_post (σ : kx_S) (sem : Int32) : Int32 × kx_S :=
  if (xf_isBelow sem 2) = 0 then
    ((-1), σ)
  else
    kk_b (xf_firstWaiter σ (30 + sem)) (fun o1 s1 =>
      kk_o o1 (
        if (kI s1 4 sem.toNatClampNeg) < 99 then
          (0, sI s1 4 sem.toNatClampNeg ((kI s1 4 sem.toNatClampNeg) + 1))
        else
          ((-1), s1)) (fun t1 =>
        kk_v (xf_makeReady s1 t1 0) (fun s2 =>
          (0, s2))))
def xf_send (σ : kx_S) (q : Int32) (rank : Int32) (value : Int32) : Int32 × kx_S :=
  kk_b (xf_runner σ) (fun o1 s1 =>
    kk_o o1 (
      if (xf_isBelow q 2) = 0 then
        ((-1), s1)
      else
        if (xf_isBelow rank 10) = 0 then
          ((-1), s1)
        else
          ((-1), s1)) (fun t1 =>
      if (xf_isBelow q 2) = 0 then
        ((-1), s1)
      else
        if (xf_isBelow rank 10) = 0 then
          ((-1), s1)
        else
          kk_b (xf_isFull s1 q.toNatClampNeg) (fun r2 s2 =>
            if r2 = 0 then
              kk_v (xf_arrive (sI s2 15 t1 0) q rank value) (fun s3 =>
                (0, s3))
            else
              kk_v (xf_block (sI (sI s2 19 t1 rank) 20 t1 value) t1 (40 + q) 1000000000000) (fun s4 =>
                (1, s4)))))
def xf_receive (σ : kx_S) (q : Int32) : Int32 × kx_S :=
  kk_b (xf_runner σ) (fun o1 s1 =>
    kk_o o1 (
      if (xf_isBelow q 2) = 0 then
        ((-1), s1)
      else
        ((-1), s1)) (fun t1 =>
      if (xf_isBelow q 2) = 0 then
        ((-1), s1)
      else
        kk_b (xf_isEmpty s1 q.toNatClampNeg) (fun r2 s2 =>
          if r2 = 0 then
            kk_b (xf_removeFirst s2 q.toNatClampNeg) (fun r3 s3 =>
              kk_b (xf_firstWaiter (sI s3 15 t1 r3) (40 + q)) (fun o4 s4 =>
                kk_o o4 (
                  (0, s4)) (fun t4 =>
                  kk_v (xf_arrive s4 q (kI s4 19 t4) (kI s4 20 t4)) (fun s5 =>
                    kk_v (xf_makeReady s5 t4 0) (fun s6 =>
                      (0, s6))))))
          else
            kk_v (xf_block s2 t1 (50 + q) 1000000000000) (fun s7 =>
              (1, s7)))))
def xf_sleep (σ : kx_S) (n1 : Int32) : Int32 × kx_S :=
  kk_b (xf_runner σ) (fun o1 s1 =>
    kk_o o1 (
      if n1 < 1 then
        ((-1), s1)
      else
        if 1000 < n1 then
          ((-1), s1)
        else
          ((-1), s1)) (fun t1 =>
      if n1 < 1 then
        ((-1), s1)
      else
        if 1000 < n1 then
          ((-1), s1)
        else
          kk_b (xf_deadlineAfter s1 n1) (fun r2 s2 =>
            kk_v (xf_block s2 t1 60 r2) (fun s3 =>
              (1, s3)))))
def xf_join (σ : kx_S) (th : Int32) : Int32 × kx_S :=
  kk_b (xf_runner σ) (fun o1 s1 =>
    kk_o o1 (
      if (xf_isBelow th 8) = 0 then
        ((-1), s1)
      else
        ((-1), s1)) (fun t1 =>
      if (xf_isBelow th 8) = 0 then
        ((-1), s1)
      else
        if (nI t1) = th then
          ((-1), s1)
        else
          if (kI s1 10 th.toNatClampNeg) = 3 then
            (0, sI (sI s1 15 t1 (kI s1 15 th.toNatClampNeg)) 10 th.toNatClampNeg 0)
          else
            if (kI s1 10 th.toNatClampNeg) = 0 then
              ((-1), s1)
            else
              kk_b (xf_firstWaiter s1 (70 + th)) (fun o2 s2 =>
                kk_o o2 (
                  kk_v (xf_block s2 t1 (70 + th) 1000000000000) (fun s3 =>
                    (1, s3))) (fun t2 =>
                  ((-1), s2)))))
def xf_exit (σ : kx_S) (value : Int32) : Int32 × kx_S :=
  kk_b (xf_runner σ) (fun o1 s1 =>
    kk_o o1 (
      ((-1), s1)) (fun t1 =>
      kk_b (xf_ownsAny s1 t1) (fun r2 s2 =>
        if r2 = 0 then
          kk_b (xf_firstWaiter s2 (70 + (nI t1))) (fun o3 s3 =>
            kk_o o3 (
              (0, sI (sI s3 15 t1 value) 10 t1 3)) (fun t3 =>
              kk_v (xf_makeReady s3 t3 value) (fun s4 =>
                (0, sI s4 10 t1 0))))
        else
          ((-1), s2))))
def xf_running (σ : kx_S)  : Int32 × kx_S :=
  kk_b (xf_runner σ) (fun o1 s1 =>
    kk_o o1 (
      ((-1), s1)) (fun t1 =>
      (nI t1, s1)))
def xf_tick_L15 (n1 : Int32) : Nat → Nat → kx_S → Int32 × kx_S
  | 0, k, σ =>
    kk_b (xf_running σ) (fun r1 s1 =>
      (r1, s1))
  | n + 1, k, σ =>
    kk_v (xf_tickOnce σ) (fun s2 =>
      xf_tick_L15 n1 n (k + 1)  s2)
def xf_tick (σ : kx_S) (n1 : Int32) : Int32 × kx_S :=
  if n1 < 1 then
    ((-1), σ)
  else
    if n1 ≤ 100 then
      xf_tick_L15 n1 n1.toNatClampNeg 0  σ
    else
      ((-1), σ)
def xf_tell (σ : kx_S) (th : Int32) (what : Int32) : Int64 × kx_S :=
  if (xf_isBelow th 8) = 0 then
    (1000000000000, σ)
  else
    if what = 0 then
      ((kI σ 10 th.toNatClampNeg).toInt64, σ)
    else
      if (kI σ 10 th.toNatClampNeg) = 0 then
        (1000000000000, σ)
      else
        if what = 1 then
          ((kI σ 11 th.toNatClampNeg).toInt64, σ)
        else
          if what = 2 then
            kk_v (xf_work σ) (fun s1 =>
              ((kI s1 12 th.toNatClampNeg).toInt64, s1))
          else
            if what = 3 then
              ((kI σ 15 th.toNatClampNeg).toInt64, σ)
            else
              if what = 4 then
                ((kI σ 16 th.toNatClampNeg).toInt64, σ)
              else
                if what = 5 then
                  (kJ σ 1 th.toNatClampNeg, σ)
                else
                  (1000000000000, σ)
def xf_owner (σ : kx_S) (m1 : Int32) : Int32 × kx_S :=
  if (xf_isBelow m1 4) = 0 then
    ((-1), σ)
  else
    (kI σ 3 m1.toNatClampNeg, σ)
def xf_count (σ : kx_S) (what : Int32) : Int32 × kx_S :=
  if what = 0 then
    (kI σ 4 what.toNatClampNeg, σ)
  else
    if what = 1 then
      (kI σ 4 what.toNatClampNeg, σ)
    else
      if what = 2 then
        (kI σ 9 ((what - 2).toNatClampNeg), σ)
      else
        if what = 3 then
          (kI σ 9 ((what - 2).toNatClampNeg), σ)
        else
          if what = 4 then
            (kI σ 2 0, σ)
          else
            if what = 5 then
              kk_b (xf_readyThreads σ) (fun r1 s1 =>
                (r1, s1))
            else
              ((-1), σ)
def mf_out (a : Int32) (b : Int32) : Int32 :=
  if a < 0 then
    1
  else
    if a < b then
      0
    else
      1
def mf_newStamp (μ : km_S)  : Int32 × km_S :=
  (mI (sM μ 3 0 ((mI μ 3 0) + 1)) 3 0, sM μ 3 0 ((mI μ 3 0) + 1))
def mf_ready (μ : km_S) (t : Int32) : km_S :=
  kk_b (mf_newStamp (sM (sM (sM μ 4 t.toNatClampNeg 1) 8 t.toNatClampNeg 0) 10 t.toNatClampNeg 0)) (fun r1 s1 =>
    sM (sM s1 6 t.toNatClampNeg r1) 7 t.toNatClampNeg 0)
def mf_block (μ : km_S) (t : Int32) (what : Int32) (due : Int32) : km_S :=
  kk_b (mf_newStamp (sM (sM (sM μ 4 t.toNatClampNeg 2) 8 t.toNatClampNeg what) 10 t.toNatClampNeg due)) (fun r1 s1 =>
    sM (sM s1 9 t.toNatClampNeg r1) 16 t.toNatClampNeg (vp_nar .boolean 0))
def mf_weigh_L66  : Nat → Nat → km_S → km_S
  | 0, k, μ =>
    μ
  | n + 1, k, μ =>
    if (mI μ 4 k) = 2 then
      if ((mI μ 8 k) - 10) = 1 then
        if (mI μ 17 ((mI μ 8 k) - 10).toNatClampNeg) < 0 then
          mf_weigh_L66 n (k + 1)  μ
        else
          if (mI μ 22 k) ≤ (mI μ 22 (mI μ 17 ((mI μ 8 k) - 10).toNatClampNeg).toNatClampNeg) then
            mf_weigh_L66 n (k + 1)  μ
          else
            mf_weigh_L66 n (k + 1)  (sM μ 22 (mI μ 17 ((mI μ 8 k) - 10).toNatClampNeg).toNatClampNeg (mI μ 22 k))
      else
        if ((mI μ 8 k) - 10) = 2 then
          if (mI μ 17 ((mI μ 8 k) - 10).toNatClampNeg) < 0 then
            mf_weigh_L66 n (k + 1)  μ
          else
            if (mI μ 22 k) ≤ (mI μ 22 (mI μ 17 ((mI μ 8 k) - 10).toNatClampNeg).toNatClampNeg) then
              mf_weigh_L66 n (k + 1)  μ
            else
              mf_weigh_L66 n (k + 1)  (sM μ 22 (mI μ 17 ((mI μ 8 k) - 10).toNatClampNeg).toNatClampNeg (mI μ 22 k))
        else
          mf_weigh_L66 n (k + 1)  μ
    else
      mf_weigh_L66 n (k + 1)  μ
def mf_weigh_L58  : Nat → Nat → km_S → km_S
  | 0, k, μ =>
    μ
  | n + 1, k, μ =>
    kk_v (mf_weigh_L66 8 0  μ) (fun s1 =>
      mf_weigh_L58 n (k + 1)  s1)
def mf_weigh_L2  : Nat → Nat → km_S → km_S
  | 0, k, μ =>
    mf_weigh_L58 8 0  μ
  | n + 1, k, μ =>
    if (mI μ 17 3) = (nI k) then
      if (mI μ 1 0) ≤ (mI μ 5 k) then
        mf_weigh_L2 n (k + 1)  (sM μ 22 k (mI μ 5 k))
      else
        mf_weigh_L2 n (k + 1)  (sM μ 22 k (mI μ 1 0))
    else
      mf_weigh_L2 n (k + 1)  (sM μ 22 k (mI μ 5 k))
def mf_weigh (μ : km_S)  : km_S :=
  mf_weigh_L2 8 0  μ
def mf_running_L8  : Nat → Nat → Int32 → km_S → Int32 × km_S
  | 0, k, best, μ =>
    (best, μ)
  | n + 1, k, best, μ =>
    if (mI μ 4 k) = 1 then
      if best < 0 then
        mf_running_L8 n (k + 1) (nI k) μ
      else
        if (mI μ 22 best.toNatClampNeg) < (mI μ 22 k) then
          mf_running_L8 n (k + 1) (nI k) μ
        else
          if (mI μ 22 k) = (mI μ 22 best.toNatClampNeg) then
            if (mI μ 6 best.toNatClampNeg) ≤ (mI μ 6 k) then
              mf_running_L8 n (k + 1) best μ
            else
              mf_running_L8 n (k + 1) (nI k) μ
          else
            mf_running_L8 n (k + 1) best μ
    else
      mf_running_L8 n (k + 1) best μ
def mf_running (μ : km_S)  : Int32 × km_S :=
  kk_v (mf_weigh μ) (fun s1 =>
    mf_running_L8 8 0 (-1) s1)
def mf_firstWaiter_L8 (what : Int32) : Nat → Nat → Int32 → km_S → Int32 × km_S
  | 0, k, best, μ =>
    (best, μ)
  | n + 1, k, best, μ =>
    if (mI μ 4 k) = 2 then
      if (mI μ 8 k) = what then
        if best < 0 then
          mf_firstWaiter_L8 what n (k + 1) (nI k) μ
        else
          if (mI μ 22 best.toNatClampNeg) < (mI μ 22 k) then
            mf_firstWaiter_L8 what n (k + 1) (nI k) μ
          else
            if (mI μ 22 k) = (mI μ 22 best.toNatClampNeg) then
              if (mI μ 9 best.toNatClampNeg) ≤ (mI μ 9 k) then
                mf_firstWaiter_L8 what n (k + 1) best μ
              else
                mf_firstWaiter_L8 what n (k + 1) (nI k) μ
            else
              mf_firstWaiter_L8 what n (k + 1) best μ
      else
        mf_firstWaiter_L8 what n (k + 1) best μ
    else
      mf_firstWaiter_L8 what n (k + 1) best μ
def mf_firstWaiter (μ : km_S) (what : Int32) : Int32 × km_S :=
  kk_v (mf_weigh μ) (fun s1 =>
    mf_firstWaiter_L8 what 8 0 (-1) s1)
def mf_give (μ : km_S) (m1 : Int32) : km_S :=
  kk_b (mf_firstWaiter (sM μ 17 m1.toNatClampNeg (-1)) (10 + m1)) (fun r1 s1 =>
    if 0 ≤ r1 then
      if (mI (sM s1 17 m1.toNatClampNeg r1) 16 r1.toNatClampNeg) = 0 then
        kk_v (mf_ready (sM (sM s1 17 m1.toNatClampNeg r1) 11 r1.toNatClampNeg 0) r1) (fun s3 =>
          s3)
      else
        kk_v (mf_ready (sM s1 17 m1.toNatClampNeg r1) r1) (fun s2 =>
          s2)
    else
      s1)
def mf_retake (μ : km_S) (t : Int32) (r : Int32) : km_S :=
  if 0 ≤ (mI (sM μ 11 t.toNatClampNeg r) 17 (mI μ 12 t.toNatClampNeg).toNatClampNeg) then
    kk_v (mf_block (sM μ 11 t.toNatClampNeg r) t (10 + (mI μ 12 t.toNatClampNeg)) 0) (fun s1 =>
      sM s1 16 t.toNatClampNeg (vp_nar .boolean 1))
  else
    kk_v (mf_ready (sM (sM μ 11 t.toNatClampNeg r) 17 (mI μ 12 t.toNatClampNeg).toNatClampNeg t) t) (fun s2 =>
      s2)
def mf_spawn_L15 (base : Int32) (sliced : Int32) : Nat → Nat → km_S → Int32 × km_S
  | 0, k, μ =>
    ((-1), μ)
  | n + 1, k, μ =>
    if (mI μ 4 k) = 0 then
      kk_v (mf_ready (sM (sM (sM μ 5 k base) 15 k (vp_nar .boolean sliced)) 11 k 0) (nI k)) (fun s1 =>
        (nI k, s1))
    else
      mf_spawn_L15 base sliced n (k + 1)  μ
def mf_spawn (μ : km_S) (base : Int32) (sliced : Int32) : Int32 × km_S :=
  if base < 1 then
    ((-1), μ)
  else
    if base ≤ 31 then
      mf_spawn_L15 base sliced 8 0  μ
    else
      ((-1), μ)
def mf_priority (μ : km_S) (thread : Int32) (base : Int32) : Int32 × km_S :=
  if (mf_out thread 8) = 0 then
    if base < 1 then
      ((-1), μ)
    else
      if 31 < base then
        ((-1), μ)
      else
        if (mI μ 4 thread.toNatClampNeg) = 0 then
          ((-1), μ)
        else
          if (mI μ 4 thread.toNatClampNeg) = 3 then
            ((-1), μ)
          else
            if (mI μ 17 3) = thread then
              if base ≤ (mI μ 1 0) then
                if (mI (sM μ 5 thread.toNatClampNeg base) 4 thread.toNatClampNeg) = 1 then
                  kk_b (mf_newStamp (sM μ 5 thread.toNatClampNeg base)) (fun r2 s2 =>
                    (0, sM s2 6 thread.toNatClampNeg r2))
                else
                  (0, sM μ 5 thread.toNatClampNeg base)
              else
                ((-1), μ)
            else
              if (mI (sM μ 5 thread.toNatClampNeg base) 4 thread.toNatClampNeg) = 1 then
                kk_b (mf_newStamp (sM μ 5 thread.toNatClampNeg base)) (fun r1 s1 =>
                  (0, sM s1 6 thread.toNatClampNeg r1))
              else
                (0, sM μ 5 thread.toNatClampNeg base)
  else
    ((-1), μ)
def mf_pass (μ : km_S)  : Int32 × km_S :=
  kk_b (mf_running μ) (fun r1 s1 =>
    if 0 ≤ r1 then
      kk_v (mf_ready s1 r1) (fun s2 =>
        (0, s2))
    else
      ((-1), s1))
def mf_lock (μ : km_S) (m1 : Int32) : Int32 × km_S :=
  kk_b (mf_running μ) (fun r1 s1 =>
    if (mf_out m1 4) = 0 then
      if r1 < 0 then
        ((-1), s1)
      else
        if (mI s1 17 m1.toNatClampNeg) = r1 then
          ((-1), s1)
        else
          if m1 = 3 then
            if (mI s1 5 r1.toNatClampNeg) ≤ (mI s1 1 0) then
              if 0 ≤ (mI s1 17 m1.toNatClampNeg) then
                kk_v (mf_block s1 r1 (10 + m1) 0) (fun s3 =>
                  (1, s3))
              else
                (0, sM (sM s1 17 m1.toNatClampNeg r1) 11 r1.toNatClampNeg 0)
            else
              ((-1), s1)
          else
            if 0 ≤ (mI s1 17 m1.toNatClampNeg) then
              kk_v (mf_block s1 r1 (10 + m1) 0) (fun s2 =>
                (1, s2))
            else
              (0, sM (sM s1 17 m1.toNatClampNeg r1) 11 r1.toNatClampNeg 0)
    else
      ((-1), s1))
def mf_unlock (μ : km_S) (m1 : Int32) : Int32 × km_S :=
  kk_b (mf_running μ) (fun r1 s1 =>
    if (mf_out m1 4) = 0 then
      if r1 < 0 then
        ((-1), s1)
      else
        if (mI s1 17 m1.toNatClampNeg) = r1 then
          kk_v (mf_give s1 m1) (fun s2 =>
            (0, s2))
        else
          ((-1), s1)
    else
      ((-1), s1))
def mf_await (μ : km_S) (cc1 : Int32) (m1 : Int32) (n1 : Int32) : Int32 × km_S :=
  kk_b (mf_running μ) (fun r1 s1 =>
    if (mf_out cc1 2) = 0 then
      if (mf_out m1 4) = 0 then
        if (mf_out n1 1001) = 0 then
          if r1 < 0 then
            ((-1), s1)
          else
            if (mI s1 17 m1.toNatClampNeg) = r1 then
              if n1 = 0 then
                kk_v (mf_block s1 r1 (20 + cc1) 0) (fun s4 =>
                  kk_v (mf_give (sM s4 12 r1.toNatClampNeg m1) m1) (fun s5 =>
                    (1, s5)))
              else
                kk_v (mf_block s1 r1 (20 + cc1) ((mI s1 2 0) + n1)) (fun s2 =>
                  kk_v (mf_give (sM s2 12 r1.toNatClampNeg m1) m1) (fun s3 =>
                    (1, s3)))
            else
              ((-1), s1)
        else
          ((-1), s1)
      else
        ((-1), s1)
    else
      ((-1), s1))
def mf_signal_L16 (cc1 : Int32) (all : Int32) : Nat → Nat → Int32 → km_S → Int32 × km_S
  | 0, k, woken, μ =>
    (woken, μ)
  | n + 1, k, woken, μ =>
    kk_b (mf_firstWaiter μ (20 + cc1)) (fun r1 s1 =>
      if 0 ≤ r1 then
        kk_v (mf_retake s1 r1 0) (fun s2 =>
          mf_signal_L16 cc1 all n (k + 1) (woken + 1) s2)
      else
        (woken, s1))
def mf_signal (μ : km_S) (cc1 : Int32) (all : Int32) : Int32 × km_S :=
  if (mf_out cc1 2) = 0 then
    if all = 0 then
      kk_b (mf_firstWaiter μ (20 + cc1)) (fun r3 s3 =>
        if 0 ≤ r3 then
          kk_v (mf_retake s3 r3 0) (fun s4 =>
            (1, s4))
        else
          (0, s3))
    else
      mf_signal_L16 cc1 all 8 0 0 μ
  else
    ((-1), μ)
def mf_down (μ : km_S) (sem : Int32) (n1 : Int32) : Int32 × km_S :=
  kk_b (mf_running μ) (fun r1 s1 =>
    if (mf_out sem 2) = 0 then
      if (mf_out n1 1001) = 0 then
        if 0 ≤ r1 then
          if (mI s1 18 sem.toNatClampNeg) ≤ 0 then
            if n1 = 0 then
              kk_v (mf_block s1 r1 (30 + sem) 0) (fun s3 =>
                (1, s3))
            else
              kk_v (mf_block s1 r1 (30 + sem) ((mI s1 2 0) + n1)) (fun s2 =>
                (1, s2))
          else
            (0, sM (sM s1 18 sem.toNatClampNeg ((mI s1 18 sem.toNatClampNeg) - 1)) 11 r1.toNatClampNeg 0)
        else
          ((-1), s1)
      else
        ((-1), s1)
    else
      ((-1), s1))
def mf_post (μ : km_S) (sem : Int32) : Int32 × km_S :=
  if (mf_out sem 2) = 0 then
    kk_b (mf_firstWaiter μ (30 + sem)) (fun r1 s1 =>
      if r1 < 0 then
        if (mI s1 18 sem.toNatClampNeg) = 99 then
          ((-1), s1)
        else
          (0, sM s1 18 sem.toNatClampNeg ((mI s1 18 sem.toNatClampNeg) + 1))
      else
        kk_v (mf_ready (sM s1 11 r1.toNatClampNeg 0) r1) (fun s2 =>
          (0, s2)))
  else
    ((-1), μ)
def mf_comeIn (μ : km_S) (q : Int32) (rank : Int32) (value : Int32) : km_S :=
  if q = 0 then
    if (mI μ 19 0) = 0 then
      sM (sM (sM μ 20 0 rank) 21 0 value) 19 0 ((mI (sM (sM μ 20 0 rank) 21 0 value) 19 0) + 1)
    else
      if (mI μ 19 0) = 1 then
        if rank ≤ (mI μ 20 0) then
          sM (sM (sM μ 20 1 rank) 21 1 value) 19 0 ((mI (sM (sM μ 20 1 rank) 21 1 value) 19 0) + 1)
        else
          sM (sM (sM (sM (sM μ 20 1 (mI μ 20 0)) 21 1 (mI (sM μ 20 1 (mI μ 20 0)) 21 0)) 20 0 rank) 21 0 value) 19 0 ((mI (sM (sM (sM (sM μ 20 1 (mI μ 20 0)) 21 1 (mI (sM μ 20 1 (mI μ 20 0)) 21 0)) 20 0 rank) 21 0 value) 19 0) + 1)
      else
        if (mI μ 19 0) = 2 then
          if rank ≤ (mI μ 20 1) then
            sM (sM (sM μ 20 2 rank) 21 2 value) 19 0 ((mI (sM (sM μ 20 2 rank) 21 2 value) 19 0) + 1)
          else
            if rank ≤ (mI (sM (sM μ 20 2 (mI μ 20 1)) 21 2 (mI (sM μ 20 2 (mI μ 20 1)) 21 1)) 20 0) then
              sM (sM (sM (sM (sM μ 20 2 (mI μ 20 1)) 21 2 (mI (sM μ 20 2 (mI μ 20 1)) 21 1)) 20 1 rank) 21 1 value) 19 0 ((mI (sM (sM (sM (sM μ 20 2 (mI μ 20 1)) 21 2 (mI (sM μ 20 2 (mI μ 20 1)) 21 1)) 20 1 rank) 21 1 value) 19 0) + 1)
            else
              sM (sM (sM (sM (sM (sM (sM μ 20 2 (mI μ 20 1)) 21 2 (mI (sM μ 20 2 (mI μ 20 1)) 21 1)) 20 1 (mI (sM (sM μ 20 2 (mI μ 20 1)) 21 2 (mI (sM μ 20 2 (mI μ 20 1)) 21 1)) 20 0)) 21 1 (mI (sM (sM (sM μ 20 2 (mI μ 20 1)) 21 2 (mI (sM μ 20 2 (mI μ 20 1)) 21 1)) 20 1 (mI (sM (sM μ 20 2 (mI μ 20 1)) 21 2 (mI (sM μ 20 2 (mI μ 20 1)) 21 1)) 20 0)) 21 0)) 20 0 rank) 21 0 value) 19 0 ((mI (sM (sM (sM (sM (sM (sM μ 20 2 (mI μ 20 1)) 21 2 (mI (sM μ 20 2 (mI μ 20 1)) 21 1)) 20 1 (mI (sM (sM μ 20 2 (mI μ 20 1)) 21 2 (mI (sM μ 20 2 (mI μ 20 1)) 21 1)) 20 0)) 21 1 (mI (sM (sM (sM μ 20 2 (mI μ 20 1)) 21 2 (mI (sM μ 20 2 (mI μ 20 1)) 21 1)) 20 1 (mI (sM (sM μ 20 2 (mI μ 20 1)) 21 2 (mI (sM μ 20 2 (mI μ 20 1)) 21 1)) 20 0)) 21 0)) 20 0 rank) 21 0 value) 19 0) + 1)
        else
          if rank ≤ (mI μ 20 2) then
            sM (sM (sM μ 20 3 rank) 21 3 value) 19 0 ((mI (sM (sM μ 20 3 rank) 21 3 value) 19 0) + 1)
          else
            if rank ≤ (mI (sM (sM μ 20 3 (mI μ 20 2)) 21 3 (mI (sM μ 20 3 (mI μ 20 2)) 21 2)) 20 1) then
              sM (sM (sM (sM (sM μ 20 3 (mI μ 20 2)) 21 3 (mI (sM μ 20 3 (mI μ 20 2)) 21 2)) 20 2 rank) 21 2 value) 19 0 ((mI (sM (sM (sM (sM μ 20 3 (mI μ 20 2)) 21 3 (mI (sM μ 20 3 (mI μ 20 2)) 21 2)) 20 2 rank) 21 2 value) 19 0) + 1)
            else
              if rank ≤ (mI (sM (sM (sM (sM μ 20 3 (mI μ 20 2)) 21 3 (mI (sM μ 20 3 (mI μ 20 2)) 21 2)) 20 2 (mI (sM (sM μ 20 3 (mI μ 20 2)) 21 3 (mI (sM μ 20 3 (mI μ 20 2)) 21 2)) 20 1)) 21 2 (mI (sM (sM (sM μ 20 3 (mI μ 20 2)) 21 3 (mI (sM μ 20 3 (mI μ 20 2)) 21 2)) 20 2 (mI (sM (sM μ 20 3 (mI μ 20 2)) 21 3 (mI (sM μ 20 3 (mI μ 20 2)) 21 2)) 20 1)) 21 1)) 20 0) then
                sM (sM (sM (sM (sM (sM (sM μ 20 3 (mI μ 20 2)) 21 3 (mI (sM μ 20 3 (mI μ 20 2)) 21 2)) 20 2 (mI (sM (sM μ 20 3 (mI μ 20 2)) 21 3 (mI (sM μ 20 3 (mI μ 20 2)) 21 2)) 20 1)) 21 2 (mI (sM (sM (sM μ 20 3 (mI μ 20 2)) 21 3 (mI (sM μ 20 3 (mI μ 20 2)) 21 2)) 20 2 (mI (sM (sM μ 20 3 (mI μ 20 2)) 21 3 (mI (sM μ 20 3 (mI μ 20 2)) 21 2)) 20 1)) 21 1)) 20 1 rank) 21 1 value) 19 0 ((mI (sM (sM (sM (sM (sM (sM μ 20 3 (mI μ 20 2)) 21 3 (mI (sM μ 20 3 (mI μ 20 2)) 21 2)) 20 2 (mI (sM (sM μ 20 3 (mI μ 20 2)) 21 3 (mI (sM μ 20 3 (mI μ 20 2)) 21 2)) 20 1)) 21 2 (mI (sM (sM (sM μ 20 3 (mI μ 20 2)) 21 3 (mI (sM μ 20 3 (mI μ 20 2)) 21 2)) 20 2 (mI (sM (sM μ 20 3 (mI μ 20 2)) 21 3 (mI (sM μ 20 3 (mI μ 20 2)) 21 2)) 20 1)) 21 1)) 20 1 rank) 21 1 value) 19 0) + 1)
              else
                sM (sM (sM (sM (sM (sM (sM (sM (sM μ 20 3 (mI μ 20 2)) 21 3 (mI (sM μ 20 3 (mI μ 20 2)) 21 2)) 20 2 (mI (sM (sM μ 20 3 (mI μ 20 2)) 21 3 (mI (sM μ 20 3 (mI μ 20 2)) 21 2)) 20 1)) 21 2 (mI (sM (sM (sM μ 20 3 (mI μ 20 2)) 21 3 (mI (sM μ 20 3 (mI μ 20 2)) 21 2)) 20 2 (mI (sM (sM μ 20 3 (mI μ 20 2)) 21 3 (mI (sM μ 20 3 (mI μ 20 2)) 21 2)) 20 1)) 21 1)) 20 1 (mI (sM (sM (sM (sM μ 20 3 (mI μ 20 2)) 21 3 (mI (sM μ 20 3 (mI μ 20 2)) 21 2)) 20 2 (mI (sM (sM μ 20 3 (mI μ 20 2)) 21 3 (mI (sM μ 20 3 (mI μ 20 2)) 21 2)) 20 1)) 21 2 (mI (sM (sM (sM μ 20 3 (mI μ 20 2)) 21 3 (mI (sM μ 20 3 (mI μ 20 2)) 21 2)) 20 2 (mI (sM (sM μ 20 3 (mI μ 20 2)) 21 3 (mI (sM μ 20 3 (mI μ 20 2)) 21 2)) 20 1)) 21 1)) 20 0)) 21 1 (mI (sM (sM (sM (sM (sM μ 20 3 (mI μ 20 2)) 21 3 (mI (sM μ 20 3 (mI μ 20 2)) 21 2)) 20 2 (mI (sM (sM μ 20 3 (mI μ 20 2)) 21 3 (mI (sM μ 20 3 (mI μ 20 2)) 21 2)) 20 1)) 21 2 (mI (sM (sM (sM μ 20 3 (mI μ 20 2)) 21 3 (mI (sM μ 20 3 (mI μ 20 2)) 21 2)) 20 2 (mI (sM (sM μ 20 3 (mI μ 20 2)) 21 3 (mI (sM μ 20 3 (mI μ 20 2)) 21 2)) 20 1)) 21 1)) 20 1 (mI (sM (sM (sM (sM μ 20 3 (mI μ 20 2)) 21 3 (mI (sM μ 20 3 (mI μ 20 2)) 21 2)) 20 2 (mI (sM (sM μ 20 3 (mI μ 20 2)) 21 3 (mI (sM μ 20 3 (mI μ 20 2)) 21 2)) 20 1)) 21 2 (mI (sM (sM (sM μ 20 3 (mI μ 20 2)) 21 3 (mI (sM μ 20 3 (mI μ 20 2)) 21 2)) 20 2 (mI (sM (sM μ 20 3 (mI μ 20 2)) 21 3 (mI (sM μ 20 3 (mI μ 20 2)) 21 2)) 20 1)) 21 1)) 20 0)) 21 0)) 20 0 rank) 21 0 value) 19 0 ((mI (sM (sM (sM (sM (sM (sM (sM (sM μ 20 3 (mI μ 20 2)) 21 3 (mI (sM μ 20 3 (mI μ 20 2)) 21 2)) 20 2 (mI (sM (sM μ 20 3 (mI μ 20 2)) 21 3 (mI (sM μ 20 3 (mI μ 20 2)) 21 2)) 20 1)) 21 2 (mI (sM (sM (sM μ 20 3 (mI μ 20 2)) 21 3 (mI (sM μ 20 3 (mI μ 20 2)) 21 2)) 20 2 (mI (sM (sM μ 20 3 (mI μ 20 2)) 21 3 (mI (sM μ 20 3 (mI μ 20 2)) 21 2)) 20 1)) 21 1)) 20 1 (mI (sM (sM (sM (sM μ 20 3 (mI μ 20 2)) 21 3 (mI (sM μ 20 3 (mI μ 20 2)) 21 2)) 20 2 (mI (sM (sM μ 20 3 (mI μ 20 2)) 21 3 (mI (sM μ 20 3 (mI μ 20 2)) 21 2)) 20 1)) 21 2 (mI (sM (sM (sM μ 20 3 (mI μ 20 2)) 21 3 (mI (sM μ 20 3 (mI μ 20 2)) 21 2)) 20 2 (mI (sM (sM μ 20 3 (mI μ 20 2)) 21 3 (mI (sM μ 20 3 (mI μ 20 2)) 21 2)) 20 1)) 21 1)) 20 0)) 21 1 (mI (sM (sM (sM (sM (sM μ 20 3 (mI μ 20 2)) 21 3 (mI (sM μ 20 3 (mI μ 20 2)) 21 2)) 20 2 (mI (sM (sM μ 20 3 (mI μ 20 2)) 21 3 (mI (sM μ 20 3 (mI μ 20 2)) 21 2)) 20 1)) 21 2 (mI (sM (sM (sM μ 20 3 (mI μ 20 2)) 21 3 (mI (sM μ 20 3 (mI μ 20 2)) 21 2)) 20 2 (mI (sM (sM μ 20 3 (mI μ 20 2)) 21 3 (mI (sM μ 20 3 (mI μ 20 2)) 21 2)) 20 1)) 21 1)) 20 1 (mI (sM (sM (sM (sM μ 20 3 (mI μ 20 2)) 21 3 (mI (sM μ 20 3 (mI μ 20 2)) 21 2)) 20 2 (mI (sM (sM μ 20 3 (mI μ 20 2)) 21 3 (mI (sM μ 20 3 (mI μ 20 2)) 21 2)) 20 1)) 21 2 (mI (sM (sM (sM μ 20 3 (mI μ 20 2)) 21 3 (mI (sM μ 20 3 (mI μ 20 2)) 21 2)) 20 2 (mI (sM (sM μ 20 3 (mI μ 20 2)) 21 3 (mI (sM μ 20 3 (mI μ 20 2)) 21 2)) 20 1)) 21 1)) 20 0)) 21 0)) 20 0 rank) 21 0 value) 19 0) + 1)
  else
    if (mI μ 19 1) = 0 then
      sM (sM (sM μ 20 4 rank) 21 4 value) 19 1 ((mI (sM (sM μ 20 4 rank) 21 4 value) 19 1) + 1)
    else
      if (mI μ 19 1) = 1 then
        if rank ≤ (mI μ 20 4) then
          sM (sM (sM μ 20 5 rank) 21 5 value) 19 1 ((mI (sM (sM μ 20 5 rank) 21 5 value) 19 1) + 1)
        else
          sM (sM (sM (sM (sM μ 20 5 (mI μ 20 4)) 21 5 (mI (sM μ 20 5 (mI μ 20 4)) 21 4)) 20 4 rank) 21 4 value) 19 1 ((mI (sM (sM (sM (sM μ 20 5 (mI μ 20 4)) 21 5 (mI (sM μ 20 5 (mI μ 20 4)) 21 4)) 20 4 rank) 21 4 value) 19 1) + 1)
      else
        if (mI μ 19 1) = 2 then
          if rank ≤ (mI μ 20 5) then
            sM (sM (sM μ 20 6 rank) 21 6 value) 19 1 ((mI (sM (sM μ 20 6 rank) 21 6 value) 19 1) + 1)
          else
            if rank ≤ (mI (sM (sM μ 20 6 (mI μ 20 5)) 21 6 (mI (sM μ 20 6 (mI μ 20 5)) 21 5)) 20 4) then
              sM (sM (sM (sM (sM μ 20 6 (mI μ 20 5)) 21 6 (mI (sM μ 20 6 (mI μ 20 5)) 21 5)) 20 5 rank) 21 5 value) 19 1 ((mI (sM (sM (sM (sM μ 20 6 (mI μ 20 5)) 21 6 (mI (sM μ 20 6 (mI μ 20 5)) 21 5)) 20 5 rank) 21 5 value) 19 1) + 1)
            else
              sM (sM (sM (sM (sM (sM (sM μ 20 6 (mI μ 20 5)) 21 6 (mI (sM μ 20 6 (mI μ 20 5)) 21 5)) 20 5 (mI (sM (sM μ 20 6 (mI μ 20 5)) 21 6 (mI (sM μ 20 6 (mI μ 20 5)) 21 5)) 20 4)) 21 5 (mI (sM (sM (sM μ 20 6 (mI μ 20 5)) 21 6 (mI (sM μ 20 6 (mI μ 20 5)) 21 5)) 20 5 (mI (sM (sM μ 20 6 (mI μ 20 5)) 21 6 (mI (sM μ 20 6 (mI μ 20 5)) 21 5)) 20 4)) 21 4)) 20 4 rank) 21 4 value) 19 1 ((mI (sM (sM (sM (sM (sM (sM μ 20 6 (mI μ 20 5)) 21 6 (mI (sM μ 20 6 (mI μ 20 5)) 21 5)) 20 5 (mI (sM (sM μ 20 6 (mI μ 20 5)) 21 6 (mI (sM μ 20 6 (mI μ 20 5)) 21 5)) 20 4)) 21 5 (mI (sM (sM (sM μ 20 6 (mI μ 20 5)) 21 6 (mI (sM μ 20 6 (mI μ 20 5)) 21 5)) 20 5 (mI (sM (sM μ 20 6 (mI μ 20 5)) 21 6 (mI (sM μ 20 6 (mI μ 20 5)) 21 5)) 20 4)) 21 4)) 20 4 rank) 21 4 value) 19 1) + 1)
        else
          if rank ≤ (mI μ 20 6) then
            sM (sM (sM μ 20 7 rank) 21 7 value) 19 1 ((mI (sM (sM μ 20 7 rank) 21 7 value) 19 1) + 1)
          else
            if rank ≤ (mI (sM (sM μ 20 7 (mI μ 20 6)) 21 7 (mI (sM μ 20 7 (mI μ 20 6)) 21 6)) 20 5) then
              sM (sM (sM (sM (sM μ 20 7 (mI μ 20 6)) 21 7 (mI (sM μ 20 7 (mI μ 20 6)) 21 6)) 20 6 rank) 21 6 value) 19 1 ((mI (sM (sM (sM (sM μ 20 7 (mI μ 20 6)) 21 7 (mI (sM μ 20 7 (mI μ 20 6)) 21 6)) 20 6 rank) 21 6 value) 19 1) + 1)
            else
              if rank ≤ (mI (sM (sM (sM (sM μ 20 7 (mI μ 20 6)) 21 7 (mI (sM μ 20 7 (mI μ 20 6)) 21 6)) 20 6 (mI (sM (sM μ 20 7 (mI μ 20 6)) 21 7 (mI (sM μ 20 7 (mI μ 20 6)) 21 6)) 20 5)) 21 6 (mI (sM (sM (sM μ 20 7 (mI μ 20 6)) 21 7 (mI (sM μ 20 7 (mI μ 20 6)) 21 6)) 20 6 (mI (sM (sM μ 20 7 (mI μ 20 6)) 21 7 (mI (sM μ 20 7 (mI μ 20 6)) 21 6)) 20 5)) 21 5)) 20 4) then
                sM (sM (sM (sM (sM (sM (sM μ 20 7 (mI μ 20 6)) 21 7 (mI (sM μ 20 7 (mI μ 20 6)) 21 6)) 20 6 (mI (sM (sM μ 20 7 (mI μ 20 6)) 21 7 (mI (sM μ 20 7 (mI μ 20 6)) 21 6)) 20 5)) 21 6 (mI (sM (sM (sM μ 20 7 (mI μ 20 6)) 21 7 (mI (sM μ 20 7 (mI μ 20 6)) 21 6)) 20 6 (mI (sM (sM μ 20 7 (mI μ 20 6)) 21 7 (mI (sM μ 20 7 (mI μ 20 6)) 21 6)) 20 5)) 21 5)) 20 5 rank) 21 5 value) 19 1 ((mI (sM (sM (sM (sM (sM (sM μ 20 7 (mI μ 20 6)) 21 7 (mI (sM μ 20 7 (mI μ 20 6)) 21 6)) 20 6 (mI (sM (sM μ 20 7 (mI μ 20 6)) 21 7 (mI (sM μ 20 7 (mI μ 20 6)) 21 6)) 20 5)) 21 6 (mI (sM (sM (sM μ 20 7 (mI μ 20 6)) 21 7 (mI (sM μ 20 7 (mI μ 20 6)) 21 6)) 20 6 (mI (sM (sM μ 20 7 (mI μ 20 6)) 21 7 (mI (sM μ 20 7 (mI μ 20 6)) 21 6)) 20 5)) 21 5)) 20 5 rank) 21 5 value) 19 1) + 1)
              else
                sM (sM (sM (sM (sM (sM (sM (sM (sM μ 20 7 (mI μ 20 6)) 21 7 (mI (sM μ 20 7 (mI μ 20 6)) 21 6)) 20 6 (mI (sM (sM μ 20 7 (mI μ 20 6)) 21 7 (mI (sM μ 20 7 (mI μ 20 6)) 21 6)) 20 5)) 21 6 (mI (sM (sM (sM μ 20 7 (mI μ 20 6)) 21 7 (mI (sM μ 20 7 (mI μ 20 6)) 21 6)) 20 6 (mI (sM (sM μ 20 7 (mI μ 20 6)) 21 7 (mI (sM μ 20 7 (mI μ 20 6)) 21 6)) 20 5)) 21 5)) 20 5 (mI (sM (sM (sM (sM μ 20 7 (mI μ 20 6)) 21 7 (mI (sM μ 20 7 (mI μ 20 6)) 21 6)) 20 6 (mI (sM (sM μ 20 7 (mI μ 20 6)) 21 7 (mI (sM μ 20 7 (mI μ 20 6)) 21 6)) 20 5)) 21 6 (mI (sM (sM (sM μ 20 7 (mI μ 20 6)) 21 7 (mI (sM μ 20 7 (mI μ 20 6)) 21 6)) 20 6 (mI (sM (sM μ 20 7 (mI μ 20 6)) 21 7 (mI (sM μ 20 7 (mI μ 20 6)) 21 6)) 20 5)) 21 5)) 20 4)) 21 5 (mI (sM (sM (sM (sM (sM μ 20 7 (mI μ 20 6)) 21 7 (mI (sM μ 20 7 (mI μ 20 6)) 21 6)) 20 6 (mI (sM (sM μ 20 7 (mI μ 20 6)) 21 7 (mI (sM μ 20 7 (mI μ 20 6)) 21 6)) 20 5)) 21 6 (mI (sM (sM (sM μ 20 7 (mI μ 20 6)) 21 7 (mI (sM μ 20 7 (mI μ 20 6)) 21 6)) 20 6 (mI (sM (sM μ 20 7 (mI μ 20 6)) 21 7 (mI (sM μ 20 7 (mI μ 20 6)) 21 6)) 20 5)) 21 5)) 20 5 (mI (sM (sM (sM (sM μ 20 7 (mI μ 20 6)) 21 7 (mI (sM μ 20 7 (mI μ 20 6)) 21 6)) 20 6 (mI (sM (sM μ 20 7 (mI μ 20 6)) 21 7 (mI (sM μ 20 7 (mI μ 20 6)) 21 6)) 20 5)) 21 6 (mI (sM (sM (sM μ 20 7 (mI μ 20 6)) 21 7 (mI (sM μ 20 7 (mI μ 20 6)) 21 6)) 20 6 (mI (sM (sM μ 20 7 (mI μ 20 6)) 21 7 (mI (sM μ 20 7 (mI μ 20 6)) 21 6)) 20 5)) 21 5)) 20 4)) 21 4)) 20 4 rank) 21 4 value) 19 1 ((mI (sM (sM (sM (sM (sM (sM (sM (sM μ 20 7 (mI μ 20 6)) 21 7 (mI (sM μ 20 7 (mI μ 20 6)) 21 6)) 20 6 (mI (sM (sM μ 20 7 (mI μ 20 6)) 21 7 (mI (sM μ 20 7 (mI μ 20 6)) 21 6)) 20 5)) 21 6 (mI (sM (sM (sM μ 20 7 (mI μ 20 6)) 21 7 (mI (sM μ 20 7 (mI μ 20 6)) 21 6)) 20 6 (mI (sM (sM μ 20 7 (mI μ 20 6)) 21 7 (mI (sM μ 20 7 (mI μ 20 6)) 21 6)) 20 5)) 21 5)) 20 5 (mI (sM (sM (sM (sM μ 20 7 (mI μ 20 6)) 21 7 (mI (sM μ 20 7 (mI μ 20 6)) 21 6)) 20 6 (mI (sM (sM μ 20 7 (mI μ 20 6)) 21 7 (mI (sM μ 20 7 (mI μ 20 6)) 21 6)) 20 5)) 21 6 (mI (sM (sM (sM μ 20 7 (mI μ 20 6)) 21 7 (mI (sM μ 20 7 (mI μ 20 6)) 21 6)) 20 6 (mI (sM (sM μ 20 7 (mI μ 20 6)) 21 7 (mI (sM μ 20 7 (mI μ 20 6)) 21 6)) 20 5)) 21 5)) 20 4)) 21 5 (mI (sM (sM (sM (sM (sM μ 20 7 (mI μ 20 6)) 21 7 (mI (sM μ 20 7 (mI μ 20 6)) 21 6)) 20 6 (mI (sM (sM μ 20 7 (mI μ 20 6)) 21 7 (mI (sM μ 20 7 (mI μ 20 6)) 21 6)) 20 5)) 21 6 (mI (sM (sM (sM μ 20 7 (mI μ 20 6)) 21 7 (mI (sM μ 20 7 (mI μ 20 6)) 21 6)) 20 6 (mI (sM (sM μ 20 7 (mI μ 20 6)) 21 7 (mI (sM μ 20 7 (mI μ 20 6)) 21 6)) 20 5)) 21 5)) 20 5 (mI (sM (sM (sM (sM μ 20 7 (mI μ 20 6)) 21 7 (mI (sM μ 20 7 (mI μ 20 6)) 21 6)) 20 6 (mI (sM (sM μ 20 7 (mI μ 20 6)) 21 7 (mI (sM μ 20 7 (mI μ 20 6)) 21 6)) 20 5)) 21 6 (mI (sM (sM (sM μ 20 7 (mI μ 20 6)) 21 7 (mI (sM μ 20 7 (mI μ 20 6)) 21 6)) 20 6 (mI (sM (sM μ 20 7 (mI μ 20 6)) 21 7 (mI (sM μ 20 7 (mI μ 20 6)) 21 6)) 20 5)) 21 5)) 20 4)) 21 4)) 20 4 rank) 21 4 value) 19 1) + 1)
def mf_send (μ : km_S) (q : Int32) (rank : Int32) (value : Int32) : Int32 × km_S :=
  kk_b (mf_running μ) (fun r1 s1 =>
    if (mf_out q 2) = 0 then
      if (mf_out rank 10) = 0 then
        if 0 ≤ r1 then
          if (mI s1 19 q.toNatClampNeg) = 4 then
            kk_v (mf_block s1 r1 (40 + q) 0) (fun s5 =>
              (1, sM (sM s5 13 r1.toNatClampNeg rank) 14 r1.toNatClampNeg value))
          else
            kk_b (mf_firstWaiter (sM s1 11 r1.toNatClampNeg 0) (50 + q)) (fun r2 s2 =>
              if 0 ≤ r2 then
                kk_v (mf_ready (sM s2 11 r2.toNatClampNeg value) r2) (fun s3 =>
                  (0, s3))
              else
                kk_v (mf_comeIn s2 q rank value) (fun s4 =>
                  (0, s4)))
        else
          ((-1), s1)
      else
        ((-1), s1)
    else
      ((-1), s1))
def mf_receive (μ : km_S) (q : Int32) : Int32 × km_S :=
  kk_b (mf_running μ) (fun r1 s1 =>
    if (mf_out q 2) = 0 then
      if 0 ≤ r1 then
        if q = 0 then
          if (mI s1 19 0) = 0 then
            kk_v (mf_block s1 r1 50 0) (fun s5 =>
              (1, s5))
          else
            kk_b (mf_firstWaiter (sM (sM (sM (sM (sM (sM (sM (sM s1 11 r1.toNatClampNeg (mI s1 21 0)) 20 0 (mI (sM s1 11 r1.toNatClampNeg (mI s1 21 0)) 20 1)) 21 0 (mI (sM (sM s1 11 r1.toNatClampNeg (mI s1 21 0)) 20 0 (mI (sM s1 11 r1.toNatClampNeg (mI s1 21 0)) 20 1)) 21 1)) 20 1 (mI (sM (sM (sM s1 11 r1.toNatClampNeg (mI s1 21 0)) 20 0 (mI (sM s1 11 r1.toNatClampNeg (mI s1 21 0)) 20 1)) 21 0 (mI (sM (sM s1 11 r1.toNatClampNeg (mI s1 21 0)) 20 0 (mI (sM s1 11 r1.toNatClampNeg (mI s1 21 0)) 20 1)) 21 1)) 20 2)) 21 1 (mI (sM (sM (sM (sM s1 11 r1.toNatClampNeg (mI s1 21 0)) 20 0 (mI (sM s1 11 r1.toNatClampNeg (mI s1 21 0)) 20 1)) 21 0 (mI (sM (sM s1 11 r1.toNatClampNeg (mI s1 21 0)) 20 0 (mI (sM s1 11 r1.toNatClampNeg (mI s1 21 0)) 20 1)) 21 1)) 20 1 (mI (sM (sM (sM s1 11 r1.toNatClampNeg (mI s1 21 0)) 20 0 (mI (sM s1 11 r1.toNatClampNeg (mI s1 21 0)) 20 1)) 21 0 (mI (sM (sM s1 11 r1.toNatClampNeg (mI s1 21 0)) 20 0 (mI (sM s1 11 r1.toNatClampNeg (mI s1 21 0)) 20 1)) 21 1)) 20 2)) 21 2)) 20 2 (mI (sM (sM (sM (sM (sM s1 11 r1.toNatClampNeg (mI s1 21 0)) 20 0 (mI (sM s1 11 r1.toNatClampNeg (mI s1 21 0)) 20 1)) 21 0 (mI (sM (sM s1 11 r1.toNatClampNeg (mI s1 21 0)) 20 0 (mI (sM s1 11 r1.toNatClampNeg (mI s1 21 0)) 20 1)) 21 1)) 20 1 (mI (sM (sM (sM s1 11 r1.toNatClampNeg (mI s1 21 0)) 20 0 (mI (sM s1 11 r1.toNatClampNeg (mI s1 21 0)) 20 1)) 21 0 (mI (sM (sM s1 11 r1.toNatClampNeg (mI s1 21 0)) 20 0 (mI (sM s1 11 r1.toNatClampNeg (mI s1 21 0)) 20 1)) 21 1)) 20 2)) 21 1 (mI (sM (sM (sM (sM s1 11 r1.toNatClampNeg (mI s1 21 0)) 20 0 (mI (sM s1 11 r1.toNatClampNeg (mI s1 21 0)) 20 1)) 21 0 (mI (sM (sM s1 11 r1.toNatClampNeg (mI s1 21 0)) 20 0 (mI (sM s1 11 r1.toNatClampNeg (mI s1 21 0)) 20 1)) 21 1)) 20 1 (mI (sM (sM (sM s1 11 r1.toNatClampNeg (mI s1 21 0)) 20 0 (mI (sM s1 11 r1.toNatClampNeg (mI s1 21 0)) 20 1)) 21 0 (mI (sM (sM s1 11 r1.toNatClampNeg (mI s1 21 0)) 20 0 (mI (sM s1 11 r1.toNatClampNeg (mI s1 21 0)) 20 1)) 21 1)) 20 2)) 21 2)) 20 3)) 21 2 (mI (sM (sM (sM (sM (sM (sM s1 11 r1.toNatClampNeg (mI s1 21 0)) 20 0 (mI (sM s1 11 r1.toNatClampNeg (mI s1 21 0)) 20 1)) 21 0 (mI (sM (sM s1 11 r1.toNatClampNeg (mI s1 21 0)) 20 0 (mI (sM s1 11 r1.toNatClampNeg (mI s1 21 0)) 20 1)) 21 1)) 20 1 (mI (sM (sM (sM s1 11 r1.toNatClampNeg (mI s1 21 0)) 20 0 (mI (sM s1 11 r1.toNatClampNeg (mI s1 21 0)) 20 1)) 21 0 (mI (sM (sM s1 11 r1.toNatClampNeg (mI s1 21 0)) 20 0 (mI (sM s1 11 r1.toNatClampNeg (mI s1 21 0)) 20 1)) 21 1)) 20 2)) 21 1 (mI (sM (sM (sM (sM s1 11 r1.toNatClampNeg (mI s1 21 0)) 20 0 (mI (sM s1 11 r1.toNatClampNeg (mI s1 21 0)) 20 1)) 21 0 (mI (sM (sM s1 11 r1.toNatClampNeg (mI s1 21 0)) 20 0 (mI (sM s1 11 r1.toNatClampNeg (mI s1 21 0)) 20 1)) 21 1)) 20 1 (mI (sM (sM (sM s1 11 r1.toNatClampNeg (mI s1 21 0)) 20 0 (mI (sM s1 11 r1.toNatClampNeg (mI s1 21 0)) 20 1)) 21 0 (mI (sM (sM s1 11 r1.toNatClampNeg (mI s1 21 0)) 20 0 (mI (sM s1 11 r1.toNatClampNeg (mI s1 21 0)) 20 1)) 21 1)) 20 2)) 21 2)) 20 2 (mI (sM (sM (sM (sM (sM s1 11 r1.toNatClampNeg (mI s1 21 0)) 20 0 (mI (sM s1 11 r1.toNatClampNeg (mI s1 21 0)) 20 1)) 21 0 (mI (sM (sM s1 11 r1.toNatClampNeg (mI s1 21 0)) 20 0 (mI (sM s1 11 r1.toNatClampNeg (mI s1 21 0)) 20 1)) 21 1)) 20 1 (mI (sM (sM (sM s1 11 r1.toNatClampNeg (mI s1 21 0)) 20 0 (mI (sM s1 11 r1.toNatClampNeg (mI s1 21 0)) 20 1)) 21 0 (mI (sM (sM s1 11 r1.toNatClampNeg (mI s1 21 0)) 20 0 (mI (sM s1 11 r1.toNatClampNeg (mI s1 21 0)) 20 1)) 21 1)) 20 2)) 21 1 (mI (sM (sM (sM (sM s1 11 r1.toNatClampNeg (mI s1 21 0)) 20 0 (mI (sM s1 11 r1.toNatClampNeg (mI s1 21 0)) 20 1)) 21 0 (mI (sM (sM s1 11 r1.toNatClampNeg (mI s1 21 0)) 20 0 (mI (sM s1 11 r1.toNatClampNeg (mI s1 21 0)) 20 1)) 21 1)) 20 1 (mI (sM (sM (sM s1 11 r1.toNatClampNeg (mI s1 21 0)) 20 0 (mI (sM s1 11 r1.toNatClampNeg (mI s1 21 0)) 20 1)) 21 0 (mI (sM (sM s1 11 r1.toNatClampNeg (mI s1 21 0)) 20 0 (mI (sM s1 11 r1.toNatClampNeg (mI s1 21 0)) 20 1)) 21 1)) 20 2)) 21 2)) 20 3)) 21 3)) 19 0 ((mI (sM (sM (sM (sM (sM (sM (sM s1 11 r1.toNatClampNeg (mI s1 21 0)) 20 0 (mI (sM s1 11 r1.toNatClampNeg (mI s1 21 0)) 20 1)) 21 0 (mI (sM (sM s1 11 r1.toNatClampNeg (mI s1 21 0)) 20 0 (mI (sM s1 11 r1.toNatClampNeg (mI s1 21 0)) 20 1)) 21 1)) 20 1 (mI (sM (sM (sM s1 11 r1.toNatClampNeg (mI s1 21 0)) 20 0 (mI (sM s1 11 r1.toNatClampNeg (mI s1 21 0)) 20 1)) 21 0 (mI (sM (sM s1 11 r1.toNatClampNeg (mI s1 21 0)) 20 0 (mI (sM s1 11 r1.toNatClampNeg (mI s1 21 0)) 20 1)) 21 1)) 20 2)) 21 1 (mI (sM (sM (sM (sM s1 11 r1.toNatClampNeg (mI s1 21 0)) 20 0 (mI (sM s1 11 r1.toNatClampNeg (mI s1 21 0)) 20 1)) 21 0 (mI (sM (sM s1 11 r1.toNatClampNeg (mI s1 21 0)) 20 0 (mI (sM s1 11 r1.toNatClampNeg (mI s1 21 0)) 20 1)) 21 1)) 20 1 (mI (sM (sM (sM s1 11 r1.toNatClampNeg (mI s1 21 0)) 20 0 (mI (sM s1 11 r1.toNatClampNeg (mI s1 21 0)) 20 1)) 21 0 (mI (sM (sM s1 11 r1.toNatClampNeg (mI s1 21 0)) 20 0 (mI (sM s1 11 r1.toNatClampNeg (mI s1 21 0)) 20 1)) 21 1)) 20 2)) 21 2)) 20 2 (mI (sM (sM (sM (sM (sM s1 11 r1.toNatClampNeg (mI s1 21 0)) 20 0 (mI (sM s1 11 r1.toNatClampNeg (mI s1 21 0)) 20 1)) 21 0 (mI (sM (sM s1 11 r1.toNatClampNeg (mI s1 21 0)) 20 0 (mI (sM s1 11 r1.toNatClampNeg (mI s1 21 0)) 20 1)) 21 1)) 20 1 (mI (sM (sM (sM s1 11 r1.toNatClampNeg (mI s1 21 0)) 20 0 (mI (sM s1 11 r1.toNatClampNeg (mI s1 21 0)) 20 1)) 21 0 (mI (sM (sM s1 11 r1.toNatClampNeg (mI s1 21 0)) 20 0 (mI (sM s1 11 r1.toNatClampNeg (mI s1 21 0)) 20 1)) 21 1)) 20 2)) 21 1 (mI (sM (sM (sM (sM s1 11 r1.toNatClampNeg (mI s1 21 0)) 20 0 (mI (sM s1 11 r1.toNatClampNeg (mI s1 21 0)) 20 1)) 21 0 (mI (sM (sM s1 11 r1.toNatClampNeg (mI s1 21 0)) 20 0 (mI (sM s1 11 r1.toNatClampNeg (mI s1 21 0)) 20 1)) 21 1)) 20 1 (mI (sM (sM (sM s1 11 r1.toNatClampNeg (mI s1 21 0)) 20 0 (mI (sM s1 11 r1.toNatClampNeg (mI s1 21 0)) 20 1)) 21 0 (mI (sM (sM s1 11 r1.toNatClampNeg (mI s1 21 0)) 20 0 (mI (sM s1 11 r1.toNatClampNeg (mI s1 21 0)) 20 1)) 21 1)) 20 2)) 21 2)) 20 3)) 21 2 (mI (sM (sM (sM (sM (sM (sM s1 11 r1.toNatClampNeg (mI s1 21 0)) 20 0 (mI (sM s1 11 r1.toNatClampNeg (mI s1 21 0)) 20 1)) 21 0 (mI (sM (sM s1 11 r1.toNatClampNeg (mI s1 21 0)) 20 0 (mI (sM s1 11 r1.toNatClampNeg (mI s1 21 0)) 20 1)) 21 1)) 20 1 (mI (sM (sM (sM s1 11 r1.toNatClampNeg (mI s1 21 0)) 20 0 (mI (sM s1 11 r1.toNatClampNeg (mI s1 21 0)) 20 1)) 21 0 (mI (sM (sM s1 11 r1.toNatClampNeg (mI s1 21 0)) 20 0 (mI (sM s1 11 r1.toNatClampNeg (mI s1 21 0)) 20 1)) 21 1)) 20 2)) 21 1 (mI (sM (sM (sM (sM s1 11 r1.toNatClampNeg (mI s1 21 0)) 20 0 (mI (sM s1 11 r1.toNatClampNeg (mI s1 21 0)) 20 1)) 21 0 (mI (sM (sM s1 11 r1.toNatClampNeg (mI s1 21 0)) 20 0 (mI (sM s1 11 r1.toNatClampNeg (mI s1 21 0)) 20 1)) 21 1)) 20 1 (mI (sM (sM (sM s1 11 r1.toNatClampNeg (mI s1 21 0)) 20 0 (mI (sM s1 11 r1.toNatClampNeg (mI s1 21 0)) 20 1)) 21 0 (mI (sM (sM s1 11 r1.toNatClampNeg (mI s1 21 0)) 20 0 (mI (sM s1 11 r1.toNatClampNeg (mI s1 21 0)) 20 1)) 21 1)) 20 2)) 21 2)) 20 2 (mI (sM (sM (sM (sM (sM s1 11 r1.toNatClampNeg (mI s1 21 0)) 20 0 (mI (sM s1 11 r1.toNatClampNeg (mI s1 21 0)) 20 1)) 21 0 (mI (sM (sM s1 11 r1.toNatClampNeg (mI s1 21 0)) 20 0 (mI (sM s1 11 r1.toNatClampNeg (mI s1 21 0)) 20 1)) 21 1)) 20 1 (mI (sM (sM (sM s1 11 r1.toNatClampNeg (mI s1 21 0)) 20 0 (mI (sM s1 11 r1.toNatClampNeg (mI s1 21 0)) 20 1)) 21 0 (mI (sM (sM s1 11 r1.toNatClampNeg (mI s1 21 0)) 20 0 (mI (sM s1 11 r1.toNatClampNeg (mI s1 21 0)) 20 1)) 21 1)) 20 2)) 21 1 (mI (sM (sM (sM (sM s1 11 r1.toNatClampNeg (mI s1 21 0)) 20 0 (mI (sM s1 11 r1.toNatClampNeg (mI s1 21 0)) 20 1)) 21 0 (mI (sM (sM s1 11 r1.toNatClampNeg (mI s1 21 0)) 20 0 (mI (sM s1 11 r1.toNatClampNeg (mI s1 21 0)) 20 1)) 21 1)) 20 1 (mI (sM (sM (sM s1 11 r1.toNatClampNeg (mI s1 21 0)) 20 0 (mI (sM s1 11 r1.toNatClampNeg (mI s1 21 0)) 20 1)) 21 0 (mI (sM (sM s1 11 r1.toNatClampNeg (mI s1 21 0)) 20 0 (mI (sM s1 11 r1.toNatClampNeg (mI s1 21 0)) 20 1)) 21 1)) 20 2)) 21 2)) 20 3)) 21 3)) 19 0) - 1)) 40) (fun r2 s2 =>
              if 0 ≤ r2 then
                kk_v (mf_comeIn s2 0 (mI s2 13 r2.toNatClampNeg) (mI s2 14 r2.toNatClampNeg)) (fun s3 =>
                  kk_v (mf_ready (sM s3 11 r2.toNatClampNeg 0) r2) (fun s4 =>
                    (0, s4)))
              else
                (0, s2))
        else
          if (mI s1 19 1) = 0 then
            kk_v (mf_block s1 r1 51 0) (fun s9 =>
              (1, s9))
          else
            kk_b (mf_firstWaiter (sM (sM (sM (sM (sM (sM (sM (sM s1 11 r1.toNatClampNeg (mI s1 21 4)) 20 4 (mI (sM s1 11 r1.toNatClampNeg (mI s1 21 4)) 20 5)) 21 4 (mI (sM (sM s1 11 r1.toNatClampNeg (mI s1 21 4)) 20 4 (mI (sM s1 11 r1.toNatClampNeg (mI s1 21 4)) 20 5)) 21 5)) 20 5 (mI (sM (sM (sM s1 11 r1.toNatClampNeg (mI s1 21 4)) 20 4 (mI (sM s1 11 r1.toNatClampNeg (mI s1 21 4)) 20 5)) 21 4 (mI (sM (sM s1 11 r1.toNatClampNeg (mI s1 21 4)) 20 4 (mI (sM s1 11 r1.toNatClampNeg (mI s1 21 4)) 20 5)) 21 5)) 20 6)) 21 5 (mI (sM (sM (sM (sM s1 11 r1.toNatClampNeg (mI s1 21 4)) 20 4 (mI (sM s1 11 r1.toNatClampNeg (mI s1 21 4)) 20 5)) 21 4 (mI (sM (sM s1 11 r1.toNatClampNeg (mI s1 21 4)) 20 4 (mI (sM s1 11 r1.toNatClampNeg (mI s1 21 4)) 20 5)) 21 5)) 20 5 (mI (sM (sM (sM s1 11 r1.toNatClampNeg (mI s1 21 4)) 20 4 (mI (sM s1 11 r1.toNatClampNeg (mI s1 21 4)) 20 5)) 21 4 (mI (sM (sM s1 11 r1.toNatClampNeg (mI s1 21 4)) 20 4 (mI (sM s1 11 r1.toNatClampNeg (mI s1 21 4)) 20 5)) 21 5)) 20 6)) 21 6)) 20 6 (mI (sM (sM (sM (sM (sM s1 11 r1.toNatClampNeg (mI s1 21 4)) 20 4 (mI (sM s1 11 r1.toNatClampNeg (mI s1 21 4)) 20 5)) 21 4 (mI (sM (sM s1 11 r1.toNatClampNeg (mI s1 21 4)) 20 4 (mI (sM s1 11 r1.toNatClampNeg (mI s1 21 4)) 20 5)) 21 5)) 20 5 (mI (sM (sM (sM s1 11 r1.toNatClampNeg (mI s1 21 4)) 20 4 (mI (sM s1 11 r1.toNatClampNeg (mI s1 21 4)) 20 5)) 21 4 (mI (sM (sM s1 11 r1.toNatClampNeg (mI s1 21 4)) 20 4 (mI (sM s1 11 r1.toNatClampNeg (mI s1 21 4)) 20 5)) 21 5)) 20 6)) 21 5 (mI (sM (sM (sM (sM s1 11 r1.toNatClampNeg (mI s1 21 4)) 20 4 (mI (sM s1 11 r1.toNatClampNeg (mI s1 21 4)) 20 5)) 21 4 (mI (sM (sM s1 11 r1.toNatClampNeg (mI s1 21 4)) 20 4 (mI (sM s1 11 r1.toNatClampNeg (mI s1 21 4)) 20 5)) 21 5)) 20 5 (mI (sM (sM (sM s1 11 r1.toNatClampNeg (mI s1 21 4)) 20 4 (mI (sM s1 11 r1.toNatClampNeg (mI s1 21 4)) 20 5)) 21 4 (mI (sM (sM s1 11 r1.toNatClampNeg (mI s1 21 4)) 20 4 (mI (sM s1 11 r1.toNatClampNeg (mI s1 21 4)) 20 5)) 21 5)) 20 6)) 21 6)) 20 7)) 21 6 (mI (sM (sM (sM (sM (sM (sM s1 11 r1.toNatClampNeg (mI s1 21 4)) 20 4 (mI (sM s1 11 r1.toNatClampNeg (mI s1 21 4)) 20 5)) 21 4 (mI (sM (sM s1 11 r1.toNatClampNeg (mI s1 21 4)) 20 4 (mI (sM s1 11 r1.toNatClampNeg (mI s1 21 4)) 20 5)) 21 5)) 20 5 (mI (sM (sM (sM s1 11 r1.toNatClampNeg (mI s1 21 4)) 20 4 (mI (sM s1 11 r1.toNatClampNeg (mI s1 21 4)) 20 5)) 21 4 (mI (sM (sM s1 11 r1.toNatClampNeg (mI s1 21 4)) 20 4 (mI (sM s1 11 r1.toNatClampNeg (mI s1 21 4)) 20 5)) 21 5)) 20 6)) 21 5 (mI (sM (sM (sM (sM s1 11 r1.toNatClampNeg (mI s1 21 4)) 20 4 (mI (sM s1 11 r1.toNatClampNeg (mI s1 21 4)) 20 5)) 21 4 (mI (sM (sM s1 11 r1.toNatClampNeg (mI s1 21 4)) 20 4 (mI (sM s1 11 r1.toNatClampNeg (mI s1 21 4)) 20 5)) 21 5)) 20 5 (mI (sM (sM (sM s1 11 r1.toNatClampNeg (mI s1 21 4)) 20 4 (mI (sM s1 11 r1.toNatClampNeg (mI s1 21 4)) 20 5)) 21 4 (mI (sM (sM s1 11 r1.toNatClampNeg (mI s1 21 4)) 20 4 (mI (sM s1 11 r1.toNatClampNeg (mI s1 21 4)) 20 5)) 21 5)) 20 6)) 21 6)) 20 6 (mI (sM (sM (sM (sM (sM s1 11 r1.toNatClampNeg (mI s1 21 4)) 20 4 (mI (sM s1 11 r1.toNatClampNeg (mI s1 21 4)) 20 5)) 21 4 (mI (sM (sM s1 11 r1.toNatClampNeg (mI s1 21 4)) 20 4 (mI (sM s1 11 r1.toNatClampNeg (mI s1 21 4)) 20 5)) 21 5)) 20 5 (mI (sM (sM (sM s1 11 r1.toNatClampNeg (mI s1 21 4)) 20 4 (mI (sM s1 11 r1.toNatClampNeg (mI s1 21 4)) 20 5)) 21 4 (mI (sM (sM s1 11 r1.toNatClampNeg (mI s1 21 4)) 20 4 (mI (sM s1 11 r1.toNatClampNeg (mI s1 21 4)) 20 5)) 21 5)) 20 6)) 21 5 (mI (sM (sM (sM (sM s1 11 r1.toNatClampNeg (mI s1 21 4)) 20 4 (mI (sM s1 11 r1.toNatClampNeg (mI s1 21 4)) 20 5)) 21 4 (mI (sM (sM s1 11 r1.toNatClampNeg (mI s1 21 4)) 20 4 (mI (sM s1 11 r1.toNatClampNeg (mI s1 21 4)) 20 5)) 21 5)) 20 5 (mI (sM (sM (sM s1 11 r1.toNatClampNeg (mI s1 21 4)) 20 4 (mI (sM s1 11 r1.toNatClampNeg (mI s1 21 4)) 20 5)) 21 4 (mI (sM (sM s1 11 r1.toNatClampNeg (mI s1 21 4)) 20 4 (mI (sM s1 11 r1.toNatClampNeg (mI s1 21 4)) 20 5)) 21 5)) 20 6)) 21 6)) 20 7)) 21 7)) 19 1 ((mI (sM (sM (sM (sM (sM (sM (sM s1 11 r1.toNatClampNeg (mI s1 21 4)) 20 4 (mI (sM s1 11 r1.toNatClampNeg (mI s1 21 4)) 20 5)) 21 4 (mI (sM (sM s1 11 r1.toNatClampNeg (mI s1 21 4)) 20 4 (mI (sM s1 11 r1.toNatClampNeg (mI s1 21 4)) 20 5)) 21 5)) 20 5 (mI (sM (sM (sM s1 11 r1.toNatClampNeg (mI s1 21 4)) 20 4 (mI (sM s1 11 r1.toNatClampNeg (mI s1 21 4)) 20 5)) 21 4 (mI (sM (sM s1 11 r1.toNatClampNeg (mI s1 21 4)) 20 4 (mI (sM s1 11 r1.toNatClampNeg (mI s1 21 4)) 20 5)) 21 5)) 20 6)) 21 5 (mI (sM (sM (sM (sM s1 11 r1.toNatClampNeg (mI s1 21 4)) 20 4 (mI (sM s1 11 r1.toNatClampNeg (mI s1 21 4)) 20 5)) 21 4 (mI (sM (sM s1 11 r1.toNatClampNeg (mI s1 21 4)) 20 4 (mI (sM s1 11 r1.toNatClampNeg (mI s1 21 4)) 20 5)) 21 5)) 20 5 (mI (sM (sM (sM s1 11 r1.toNatClampNeg (mI s1 21 4)) 20 4 (mI (sM s1 11 r1.toNatClampNeg (mI s1 21 4)) 20 5)) 21 4 (mI (sM (sM s1 11 r1.toNatClampNeg (mI s1 21 4)) 20 4 (mI (sM s1 11 r1.toNatClampNeg (mI s1 21 4)) 20 5)) 21 5)) 20 6)) 21 6)) 20 6 (mI (sM (sM (sM (sM (sM s1 11 r1.toNatClampNeg (mI s1 21 4)) 20 4 (mI (sM s1 11 r1.toNatClampNeg (mI s1 21 4)) 20 5)) 21 4 (mI (sM (sM s1 11 r1.toNatClampNeg (mI s1 21 4)) 20 4 (mI (sM s1 11 r1.toNatClampNeg (mI s1 21 4)) 20 5)) 21 5)) 20 5 (mI (sM (sM (sM s1 11 r1.toNatClampNeg (mI s1 21 4)) 20 4 (mI (sM s1 11 r1.toNatClampNeg (mI s1 21 4)) 20 5)) 21 4 (mI (sM (sM s1 11 r1.toNatClampNeg (mI s1 21 4)) 20 4 (mI (sM s1 11 r1.toNatClampNeg (mI s1 21 4)) 20 5)) 21 5)) 20 6)) 21 5 (mI (sM (sM (sM (sM s1 11 r1.toNatClampNeg (mI s1 21 4)) 20 4 (mI (sM s1 11 r1.toNatClampNeg (mI s1 21 4)) 20 5)) 21 4 (mI (sM (sM s1 11 r1.toNatClampNeg (mI s1 21 4)) 20 4 (mI (sM s1 11 r1.toNatClampNeg (mI s1 21 4)) 20 5)) 21 5)) 20 5 (mI (sM (sM (sM s1 11 r1.toNatClampNeg (mI s1 21 4)) 20 4 (mI (sM s1 11 r1.toNatClampNeg (mI s1 21 4)) 20 5)) 21 4 (mI (sM (sM s1 11 r1.toNatClampNeg (mI s1 21 4)) 20 4 (mI (sM s1 11 r1.toNatClampNeg (mI s1 21 4)) 20 5)) 21 5)) 20 6)) 21 6)) 20 7)) 21 6 (mI (sM (sM (sM (sM (sM (sM s1 11 r1.toNatClampNeg (mI s1 21 4)) 20 4 (mI (sM s1 11 r1.toNatClampNeg (mI s1 21 4)) 20 5)) 21 4 (mI (sM (sM s1 11 r1.toNatClampNeg (mI s1 21 4)) 20 4 (mI (sM s1 11 r1.toNatClampNeg (mI s1 21 4)) 20 5)) 21 5)) 20 5 (mI (sM (sM (sM s1 11 r1.toNatClampNeg (mI s1 21 4)) 20 4 (mI (sM s1 11 r1.toNatClampNeg (mI s1 21 4)) 20 5)) 21 4 (mI (sM (sM s1 11 r1.toNatClampNeg (mI s1 21 4)) 20 4 (mI (sM s1 11 r1.toNatClampNeg (mI s1 21 4)) 20 5)) 21 5)) 20 6)) 21 5 (mI (sM (sM (sM (sM s1 11 r1.toNatClampNeg (mI s1 21 4)) 20 4 (mI (sM s1 11 r1.toNatClampNeg (mI s1 21 4)) 20 5)) 21 4 (mI (sM (sM s1 11 r1.toNatClampNeg (mI s1 21 4)) 20 4 (mI (sM s1 11 r1.toNatClampNeg (mI s1 21 4)) 20 5)) 21 5)) 20 5 (mI (sM (sM (sM s1 11 r1.toNatClampNeg (mI s1 21 4)) 20 4 (mI (sM s1 11 r1.toNatClampNeg (mI s1 21 4)) 20 5)) 21 4 (mI (sM (sM s1 11 r1.toNatClampNeg (mI s1 21 4)) 20 4 (mI (sM s1 11 r1.toNatClampNeg (mI s1 21 4)) 20 5)) 21 5)) 20 6)) 21 6)) 20 6 (mI (sM (sM (sM (sM (sM s1 11 r1.toNatClampNeg (mI s1 21 4)) 20 4 (mI (sM s1 11 r1.toNatClampNeg (mI s1 21 4)) 20 5)) 21 4 (mI (sM (sM s1 11 r1.toNatClampNeg (mI s1 21 4)) 20 4 (mI (sM s1 11 r1.toNatClampNeg (mI s1 21 4)) 20 5)) 21 5)) 20 5 (mI (sM (sM (sM s1 11 r1.toNatClampNeg (mI s1 21 4)) 20 4 (mI (sM s1 11 r1.toNatClampNeg (mI s1 21 4)) 20 5)) 21 4 (mI (sM (sM s1 11 r1.toNatClampNeg (mI s1 21 4)) 20 4 (mI (sM s1 11 r1.toNatClampNeg (mI s1 21 4)) 20 5)) 21 5)) 20 6)) 21 5 (mI (sM (sM (sM (sM s1 11 r1.toNatClampNeg (mI s1 21 4)) 20 4 (mI (sM s1 11 r1.toNatClampNeg (mI s1 21 4)) 20 5)) 21 4 (mI (sM (sM s1 11 r1.toNatClampNeg (mI s1 21 4)) 20 4 (mI (sM s1 11 r1.toNatClampNeg (mI s1 21 4)) 20 5)) 21 5)) 20 5 (mI (sM (sM (sM s1 11 r1.toNatClampNeg (mI s1 21 4)) 20 4 (mI (sM s1 11 r1.toNatClampNeg (mI s1 21 4)) 20 5)) 21 4 (mI (sM (sM s1 11 r1.toNatClampNeg (mI s1 21 4)) 20 4 (mI (sM s1 11 r1.toNatClampNeg (mI s1 21 4)) 20 5)) 21 5)) 20 6)) 21 6)) 20 7)) 21 7)) 19 1) - 1)) 41) (fun r6 s6 =>
              if 0 ≤ r6 then
                kk_v (mf_comeIn s6 1 (mI s6 13 r6.toNatClampNeg) (mI s6 14 r6.toNatClampNeg)) (fun s7 =>
                  kk_v (mf_ready (sM s7 11 r6.toNatClampNeg 0) r6) (fun s8 =>
                    (0, s8)))
              else
                (0, s6))
      else
        ((-1), s1)
    else
      ((-1), s1))
def mf_sleep (μ : km_S) (n1 : Int32) : Int32 × km_S :=
  kk_b (mf_running μ) (fun r1 s1 =>
    if n1 < 1 then
      ((-1), s1)
    else
      if 1000 < n1 then
        ((-1), s1)
      else
        if 0 ≤ r1 then
          kk_v (mf_block s1 r1 60 ((mI s1 2 0) + n1)) (fun s2 =>
            (1, s2))
        else
          ((-1), s1))
def mf_join (μ : km_S) (th : Int32) : Int32 × km_S :=
  kk_b (mf_running μ) (fun r1 s1 =>
    if (mf_out th 8) = 0 then
      if 0 ≤ r1 then
        if (mI s1 4 th.toNatClampNeg) = 3 then
          (0, sM (sM s1 4 th.toNatClampNeg 0) 11 r1.toNatClampNeg (mI (sM s1 4 th.toNatClampNeg 0) 11 th.toNatClampNeg))
        else
          if (mI s1 4 th.toNatClampNeg) = 0 then
            ((-1), s1)
          else
            if th = r1 then
              ((-1), s1)
            else
              kk_b (mf_firstWaiter s1 (70 + th)) (fun r2 s2 =>
                if r2 < 0 then
                  kk_v (mf_block s2 r1 (70 + th) 0) (fun s3 =>
                    (1, s3))
                else
                  ((-1), s2))
      else
        ((-1), s1)
    else
      ((-1), s1))
def mf_exit_L13 (value : Int32) (r : Int32) : Nat → Nat → km_S → Int32 × km_S
  | 0, k, μ =>
    kk_b (mf_firstWaiter (sM (sM μ 11 r.toNatClampNeg value) 4 r.toNatClampNeg 3) (70 + r)) (fun r1 s1 =>
      if r1 < 0 then
        (0, s1)
      else
        kk_v (mf_ready (sM (sM s1 4 r.toNatClampNeg 0) 11 r1.toNatClampNeg value) r1) (fun s2 =>
          (0, s2)))
  | n + 1, k, μ =>
    if (mI μ 17 k) = r then
      ((-1), μ)
    else
      mf_exit_L13 value r n (k + 1)  μ
def mf_exit (μ : km_S) (value : Int32) : Int32 × km_S :=
  kk_b (mf_running μ) (fun r3 s3 =>
    if 0 ≤ r3 then
      mf_exit_L13 value r3 4 0  s3
    else
      ((-1), s3))
def mf_deadlineComes (μ : km_S) (t : Int32) : km_S :=
  if (mI μ 8 t.toNatClampNeg) = 20 then
    kk_v (mf_retake μ t 2) (fun s1 =>
      s1)
  else
    if (mI μ 8 t.toNatClampNeg) = 21 then
      kk_v (mf_retake μ t 2) (fun s4 =>
        s4)
    else
      if (mI μ 8 t.toNatClampNeg) = 60 then
        kk_v (mf_ready (sM μ 11 t.toNatClampNeg 0) t) (fun s3 =>
          s3)
      else
        kk_v (mf_ready (sM μ 11 t.toNatClampNeg 2) t) (fun s2 =>
          s2)
def mf_tick_L83 (n1 : Int32) : Nat → Nat → km_S → km_S
  | 0, k, μ =>
    μ
  | n + 1, k, μ =>
    if (mI μ 4 k) = 2 then
      if (mI μ 10 k) = (mI μ 2 0) then
        kk_v (mf_deadlineComes μ (nI k)) (fun s1 =>
          mf_tick_L83 n1 n (k + 1)  s1)
      else
        mf_tick_L83 n1 n (k + 1)  μ
    else
      mf_tick_L83 n1 n (k + 1)  μ
def mf_tick_L15 (n1 : Int32) : Nat → Nat → km_S → Int32 × km_S
  | 0, k, μ =>
    kk_b (mf_running μ) (fun r2 s2 =>
      (r2, s2))
  | n + 1, k, μ =>
    kk_b (mf_running μ) (fun r3 s3 =>
      if r3 < 0 then
        kk_v (mf_tick_L83 n1 8 0  (sM s3 2 0 ((mI s3 2 0) + 1))) (fun s4 =>
          mf_tick_L15 n1 n (k + 1)  s4)
      else
        if (mI (sM (sM s3 2 0 ((mI s3 2 0) + 1)) 7 r3.toNatClampNeg ((mI (sM s3 2 0 ((mI s3 2 0) + 1)) 7 r3.toNatClampNeg) + 1)) 15 r3.toNatClampNeg) = 0 then
          kk_v (mf_tick_L83 n1 8 0  (sM (sM s3 2 0 ((mI s3 2 0) + 1)) 7 r3.toNatClampNeg ((mI (sM s3 2 0 ((mI s3 2 0) + 1)) 7 r3.toNatClampNeg) + 1))) (fun s5 =>
            mf_tick_L15 n1 n (k + 1)  s5)
        else
          if (mI (sM (sM s3 2 0 ((mI s3 2 0) + 1)) 7 r3.toNatClampNeg ((mI (sM s3 2 0 ((mI s3 2 0) + 1)) 7 r3.toNatClampNeg) + 1)) 7 r3.toNatClampNeg) = (mI (sM (sM s3 2 0 ((mI s3 2 0) + 1)) 7 r3.toNatClampNeg ((mI (sM s3 2 0 ((mI s3 2 0) + 1)) 7 r3.toNatClampNeg) + 1)) 0 0) then
            kk_v (mf_ready (sM (sM s3 2 0 ((mI s3 2 0) + 1)) 7 r3.toNatClampNeg ((mI (sM s3 2 0 ((mI s3 2 0) + 1)) 7 r3.toNatClampNeg) + 1)) r3) (fun s7 =>
              kk_v (mf_tick_L83 n1 8 0  s7) (fun s8 =>
                mf_tick_L15 n1 n (k + 1)  s8))
          else
            kk_v (mf_tick_L83 n1 8 0  (sM (sM s3 2 0 ((mI s3 2 0) + 1)) 7 r3.toNatClampNeg ((mI (sM s3 2 0 ((mI s3 2 0) + 1)) 7 r3.toNatClampNeg) + 1))) (fun s6 =>
              mf_tick_L15 n1 n (k + 1)  s6))
def mf_tick (μ : km_S) (n1 : Int32) : Int32 × km_S :=
  if n1 < 1 then
    ((-1), μ)
  else
    if n1 ≤ 100 then
      mf_tick_L15 n1 n1.toNatClampNeg 0  μ
    else
      ((-1), μ)
def mf_tell (μ : km_S) (th : Int32) (what : Int32) : Int64 × km_S :=
  if (mf_out th 8) = 0 then
    if what < 0 then
      (1000000000000, μ)
    else
      if 5 < what then
        (1000000000000, μ)
      else
        if (mI μ 4 th.toNatClampNeg) = 0 then
          if what ≤ 0 then
            kk_v (mf_weigh μ) (fun s2 =>
              if what = 0 then
                ((mI s2 4 th.toNatClampNeg).toInt64, s2)
              else
                if what = 1 then
                  ((mI s2 5 th.toNatClampNeg).toInt64, s2)
                else
                  if what = 2 then
                    ((mI s2 22 th.toNatClampNeg).toInt64, s2)
                  else
                    if what = 3 then
                      ((mI s2 11 th.toNatClampNeg).toInt64, s2)
                    else
                      if what = 4 then
                        if (mI s2 4 th.toNatClampNeg) = 2 then
                          ((mI s2 8 th.toNatClampNeg).toInt64, s2)
                        else
                          (0, s2)
                      else
                        if (mI s2 4 th.toNatClampNeg) = 2 then
                          if (mI s2 10 th.toNatClampNeg) ≤ 0 then
                            (1000000000000, s2)
                          else
                            ((mI s2 10 th.toNatClampNeg).toInt64, s2)
                        else
                          (1000000000000, s2))
          else
            (1000000000000, μ)
        else
          kk_v (mf_weigh μ) (fun s1 =>
            if what = 0 then
              ((mI s1 4 th.toNatClampNeg).toInt64, s1)
            else
              if what = 1 then
                ((mI s1 5 th.toNatClampNeg).toInt64, s1)
              else
                if what = 2 then
                  ((mI s1 22 th.toNatClampNeg).toInt64, s1)
                else
                  if what = 3 then
                    ((mI s1 11 th.toNatClampNeg).toInt64, s1)
                  else
                    if what = 4 then
                      if (mI s1 4 th.toNatClampNeg) = 2 then
                        ((mI s1 8 th.toNatClampNeg).toInt64, s1)
                      else
                        (0, s1)
                    else
                      if (mI s1 4 th.toNatClampNeg) = 2 then
                        if (mI s1 10 th.toNatClampNeg) ≤ 0 then
                          (1000000000000, s1)
                        else
                          ((mI s1 10 th.toNatClampNeg).toInt64, s1)
                      else
                        (1000000000000, s1))
  else
    (1000000000000, μ)
def mf_owner (μ : km_S) (m1 : Int32) : Int32 × km_S :=
  if (mf_out m1 4) = 0 then
    (mI μ 17 m1.toNatClampNeg, μ)
  else
    ((-1), μ)
def mf_count_L4 (what : Int32) : Nat → Nat → Int32 → km_S → Int32 × km_S
  | 0, k, n2, μ =>
    if what = 0 then
      (mI μ 18 what.toNatClampNeg, μ)
    else
      if what = 1 then
        (mI μ 18 what.toNatClampNeg, μ)
      else
        if what = 2 then
          (mI μ 19 (what - 2).toNatClampNeg, μ)
        else
          if what = 3 then
            (mI μ 19 (what - 2).toNatClampNeg, μ)
          else
            if what = 4 then
              (mI μ 2 0, μ)
            else
              if what = 5 then
                (n2, μ)
              else
                ((-1), μ)
  | n + 1, k, n2, μ =>
    if (mI μ 4 k) = 1 then
      mf_count_L4 what n (k + 1) (n2 + 1) μ
    else
      mf_count_L4 what n (k + 1) n2 μ
def mf_count (μ : km_S) (what : Int32) : Int32 × km_S :=
  mf_count_L4 what 8 0 0 μ
