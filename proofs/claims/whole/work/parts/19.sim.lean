/-! leaving a queue; send and receive -/
def mrem_0 (μ : km_S) (k : Nat) : km_S := sM (sM (sM (sM (sM (sM (sM (sM μ 11 k (mI μ 21 0)) 20 0 (mI (sM μ 11 k (mI μ 21 0)) 20 1)) 21 0 (mI (sM (sM μ 11 k (mI μ 21 0)) 20 0 (mI (sM μ 11 k (mI μ 21 0)) 20 1)) 21 1)) 20 1 (mI (sM (sM (sM μ 11 k (mI μ 21 0)) 20 0 (mI (sM μ 11 k (mI μ 21 0)) 20 1)) 21 0 (mI (sM (sM μ 11 k (mI μ 21 0)) 20 0 (mI (sM μ 11 k (mI μ 21 0)) 20 1)) 21 1)) 20 2)) 21 1 (mI (sM (sM (sM (sM μ 11 k (mI μ 21 0)) 20 0 (mI (sM μ 11 k (mI μ 21 0)) 20 1)) 21 0 (mI (sM (sM μ 11 k (mI μ 21 0)) 20 0 (mI (sM μ 11 k (mI μ 21 0)) 20 1)) 21 1)) 20 1 (mI (sM (sM (sM μ 11 k (mI μ 21 0)) 20 0 (mI (sM μ 11 k (mI μ 21 0)) 20 1)) 21 0 (mI (sM (sM μ 11 k (mI μ 21 0)) 20 0 (mI (sM μ 11 k (mI μ 21 0)) 20 1)) 21 1)) 20 2)) 21 2)) 20 2 (mI (sM (sM (sM (sM (sM μ 11 k (mI μ 21 0)) 20 0 (mI (sM μ 11 k (mI μ 21 0)) 20 1)) 21 0 (mI (sM (sM μ 11 k (mI μ 21 0)) 20 0 (mI (sM μ 11 k (mI μ 21 0)) 20 1)) 21 1)) 20 1 (mI (sM (sM (sM μ 11 k (mI μ 21 0)) 20 0 (mI (sM μ 11 k (mI μ 21 0)) 20 1)) 21 0 (mI (sM (sM μ 11 k (mI μ 21 0)) 20 0 (mI (sM μ 11 k (mI μ 21 0)) 20 1)) 21 1)) 20 2)) 21 1 (mI (sM (sM (sM (sM μ 11 k (mI μ 21 0)) 20 0 (mI (sM μ 11 k (mI μ 21 0)) 20 1)) 21 0 (mI (sM (sM μ 11 k (mI μ 21 0)) 20 0 (mI (sM μ 11 k (mI μ 21 0)) 20 1)) 21 1)) 20 1 (mI (sM (sM (sM μ 11 k (mI μ 21 0)) 20 0 (mI (sM μ 11 k (mI μ 21 0)) 20 1)) 21 0 (mI (sM (sM μ 11 k (mI μ 21 0)) 20 0 (mI (sM μ 11 k (mI μ 21 0)) 20 1)) 21 1)) 20 2)) 21 2)) 20 3)) 21 2 (mI (sM (sM (sM (sM (sM (sM μ 11 k (mI μ 21 0)) 20 0 (mI (sM μ 11 k (mI μ 21 0)) 20 1)) 21 0 (mI (sM (sM μ 11 k (mI μ 21 0)) 20 0 (mI (sM μ 11 k (mI μ 21 0)) 20 1)) 21 1)) 20 1 (mI (sM (sM (sM μ 11 k (mI μ 21 0)) 20 0 (mI (sM μ 11 k (mI μ 21 0)) 20 1)) 21 0 (mI (sM (sM μ 11 k (mI μ 21 0)) 20 0 (mI (sM μ 11 k (mI μ 21 0)) 20 1)) 21 1)) 20 2)) 21 1 (mI (sM (sM (sM (sM μ 11 k (mI μ 21 0)) 20 0 (mI (sM μ 11 k (mI μ 21 0)) 20 1)) 21 0 (mI (sM (sM μ 11 k (mI μ 21 0)) 20 0 (mI (sM μ 11 k (mI μ 21 0)) 20 1)) 21 1)) 20 1 (mI (sM (sM (sM μ 11 k (mI μ 21 0)) 20 0 (mI (sM μ 11 k (mI μ 21 0)) 20 1)) 21 0 (mI (sM (sM μ 11 k (mI μ 21 0)) 20 0 (mI (sM μ 11 k (mI μ 21 0)) 20 1)) 21 1)) 20 2)) 21 2)) 20 2 (mI (sM (sM (sM (sM (sM μ 11 k (mI μ 21 0)) 20 0 (mI (sM μ 11 k (mI μ 21 0)) 20 1)) 21 0 (mI (sM (sM μ 11 k (mI μ 21 0)) 20 0 (mI (sM μ 11 k (mI μ 21 0)) 20 1)) 21 1)) 20 1 (mI (sM (sM (sM μ 11 k (mI μ 21 0)) 20 0 (mI (sM μ 11 k (mI μ 21 0)) 20 1)) 21 0 (mI (sM (sM μ 11 k (mI μ 21 0)) 20 0 (mI (sM μ 11 k (mI μ 21 0)) 20 1)) 21 1)) 20 2)) 21 1 (mI (sM (sM (sM (sM μ 11 k (mI μ 21 0)) 20 0 (mI (sM μ 11 k (mI μ 21 0)) 20 1)) 21 0 (mI (sM (sM μ 11 k (mI μ 21 0)) 20 0 (mI (sM μ 11 k (mI μ 21 0)) 20 1)) 21 1)) 20 1 (mI (sM (sM (sM μ 11 k (mI μ 21 0)) 20 0 (mI (sM μ 11 k (mI μ 21 0)) 20 1)) 21 0 (mI (sM (sM μ 11 k (mI μ 21 0)) 20 0 (mI (sM μ 11 k (mI μ 21 0)) 20 1)) 21 1)) 20 2)) 21 2)) 20 3)) 21 3)) 19 0 ((mI (sM (sM (sM (sM (sM (sM (sM μ 11 k (mI μ 21 0)) 20 0 (mI (sM μ 11 k (mI μ 21 0)) 20 1)) 21 0 (mI (sM (sM μ 11 k (mI μ 21 0)) 20 0 (mI (sM μ 11 k (mI μ 21 0)) 20 1)) 21 1)) 20 1 (mI (sM (sM (sM μ 11 k (mI μ 21 0)) 20 0 (mI (sM μ 11 k (mI μ 21 0)) 20 1)) 21 0 (mI (sM (sM μ 11 k (mI μ 21 0)) 20 0 (mI (sM μ 11 k (mI μ 21 0)) 20 1)) 21 1)) 20 2)) 21 1 (mI (sM (sM (sM (sM μ 11 k (mI μ 21 0)) 20 0 (mI (sM μ 11 k (mI μ 21 0)) 20 1)) 21 0 (mI (sM (sM μ 11 k (mI μ 21 0)) 20 0 (mI (sM μ 11 k (mI μ 21 0)) 20 1)) 21 1)) 20 1 (mI (sM (sM (sM μ 11 k (mI μ 21 0)) 20 0 (mI (sM μ 11 k (mI μ 21 0)) 20 1)) 21 0 (mI (sM (sM μ 11 k (mI μ 21 0)) 20 0 (mI (sM μ 11 k (mI μ 21 0)) 20 1)) 21 1)) 20 2)) 21 2)) 20 2 (mI (sM (sM (sM (sM (sM μ 11 k (mI μ 21 0)) 20 0 (mI (sM μ 11 k (mI μ 21 0)) 20 1)) 21 0 (mI (sM (sM μ 11 k (mI μ 21 0)) 20 0 (mI (sM μ 11 k (mI μ 21 0)) 20 1)) 21 1)) 20 1 (mI (sM (sM (sM μ 11 k (mI μ 21 0)) 20 0 (mI (sM μ 11 k (mI μ 21 0)) 20 1)) 21 0 (mI (sM (sM μ 11 k (mI μ 21 0)) 20 0 (mI (sM μ 11 k (mI μ 21 0)) 20 1)) 21 1)) 20 2)) 21 1 (mI (sM (sM (sM (sM μ 11 k (mI μ 21 0)) 20 0 (mI (sM μ 11 k (mI μ 21 0)) 20 1)) 21 0 (mI (sM (sM μ 11 k (mI μ 21 0)) 20 0 (mI (sM μ 11 k (mI μ 21 0)) 20 1)) 21 1)) 20 1 (mI (sM (sM (sM μ 11 k (mI μ 21 0)) 20 0 (mI (sM μ 11 k (mI μ 21 0)) 20 1)) 21 0 (mI (sM (sM μ 11 k (mI μ 21 0)) 20 0 (mI (sM μ 11 k (mI μ 21 0)) 20 1)) 21 1)) 20 2)) 21 2)) 20 3)) 21 2 (mI (sM (sM (sM (sM (sM (sM μ 11 k (mI μ 21 0)) 20 0 (mI (sM μ 11 k (mI μ 21 0)) 20 1)) 21 0 (mI (sM (sM μ 11 k (mI μ 21 0)) 20 0 (mI (sM μ 11 k (mI μ 21 0)) 20 1)) 21 1)) 20 1 (mI (sM (sM (sM μ 11 k (mI μ 21 0)) 20 0 (mI (sM μ 11 k (mI μ 21 0)) 20 1)) 21 0 (mI (sM (sM μ 11 k (mI μ 21 0)) 20 0 (mI (sM μ 11 k (mI μ 21 0)) 20 1)) 21 1)) 20 2)) 21 1 (mI (sM (sM (sM (sM μ 11 k (mI μ 21 0)) 20 0 (mI (sM μ 11 k (mI μ 21 0)) 20 1)) 21 0 (mI (sM (sM μ 11 k (mI μ 21 0)) 20 0 (mI (sM μ 11 k (mI μ 21 0)) 20 1)) 21 1)) 20 1 (mI (sM (sM (sM μ 11 k (mI μ 21 0)) 20 0 (mI (sM μ 11 k (mI μ 21 0)) 20 1)) 21 0 (mI (sM (sM μ 11 k (mI μ 21 0)) 20 0 (mI (sM μ 11 k (mI μ 21 0)) 20 1)) 21 1)) 20 2)) 21 2)) 20 2 (mI (sM (sM (sM (sM (sM μ 11 k (mI μ 21 0)) 20 0 (mI (sM μ 11 k (mI μ 21 0)) 20 1)) 21 0 (mI (sM (sM μ 11 k (mI μ 21 0)) 20 0 (mI (sM μ 11 k (mI μ 21 0)) 20 1)) 21 1)) 20 1 (mI (sM (sM (sM μ 11 k (mI μ 21 0)) 20 0 (mI (sM μ 11 k (mI μ 21 0)) 20 1)) 21 0 (mI (sM (sM μ 11 k (mI μ 21 0)) 20 0 (mI (sM μ 11 k (mI μ 21 0)) 20 1)) 21 1)) 20 2)) 21 1 (mI (sM (sM (sM (sM μ 11 k (mI μ 21 0)) 20 0 (mI (sM μ 11 k (mI μ 21 0)) 20 1)) 21 0 (mI (sM (sM μ 11 k (mI μ 21 0)) 20 0 (mI (sM μ 11 k (mI μ 21 0)) 20 1)) 21 1)) 20 1 (mI (sM (sM (sM μ 11 k (mI μ 21 0)) 20 0 (mI (sM μ 11 k (mI μ 21 0)) 20 1)) 21 0 (mI (sM (sM μ 11 k (mI μ 21 0)) 20 0 (mI (sM μ 11 k (mI μ 21 0)) 20 1)) 21 1)) 20 2)) 21 2)) 20 3)) 21 3)) 19 0) - 1)
def mrem_1 (μ : km_S) (k : Nat) : km_S := sM (sM (sM (sM (sM (sM (sM (sM μ 11 k (mI μ 21 4)) 20 4 (mI (sM μ 11 k (mI μ 21 4)) 20 5)) 21 4 (mI (sM (sM μ 11 k (mI μ 21 4)) 20 4 (mI (sM μ 11 k (mI μ 21 4)) 20 5)) 21 5)) 20 5 (mI (sM (sM (sM μ 11 k (mI μ 21 4)) 20 4 (mI (sM μ 11 k (mI μ 21 4)) 20 5)) 21 4 (mI (sM (sM μ 11 k (mI μ 21 4)) 20 4 (mI (sM μ 11 k (mI μ 21 4)) 20 5)) 21 5)) 20 6)) 21 5 (mI (sM (sM (sM (sM μ 11 k (mI μ 21 4)) 20 4 (mI (sM μ 11 k (mI μ 21 4)) 20 5)) 21 4 (mI (sM (sM μ 11 k (mI μ 21 4)) 20 4 (mI (sM μ 11 k (mI μ 21 4)) 20 5)) 21 5)) 20 5 (mI (sM (sM (sM μ 11 k (mI μ 21 4)) 20 4 (mI (sM μ 11 k (mI μ 21 4)) 20 5)) 21 4 (mI (sM (sM μ 11 k (mI μ 21 4)) 20 4 (mI (sM μ 11 k (mI μ 21 4)) 20 5)) 21 5)) 20 6)) 21 6)) 20 6 (mI (sM (sM (sM (sM (sM μ 11 k (mI μ 21 4)) 20 4 (mI (sM μ 11 k (mI μ 21 4)) 20 5)) 21 4 (mI (sM (sM μ 11 k (mI μ 21 4)) 20 4 (mI (sM μ 11 k (mI μ 21 4)) 20 5)) 21 5)) 20 5 (mI (sM (sM (sM μ 11 k (mI μ 21 4)) 20 4 (mI (sM μ 11 k (mI μ 21 4)) 20 5)) 21 4 (mI (sM (sM μ 11 k (mI μ 21 4)) 20 4 (mI (sM μ 11 k (mI μ 21 4)) 20 5)) 21 5)) 20 6)) 21 5 (mI (sM (sM (sM (sM μ 11 k (mI μ 21 4)) 20 4 (mI (sM μ 11 k (mI μ 21 4)) 20 5)) 21 4 (mI (sM (sM μ 11 k (mI μ 21 4)) 20 4 (mI (sM μ 11 k (mI μ 21 4)) 20 5)) 21 5)) 20 5 (mI (sM (sM (sM μ 11 k (mI μ 21 4)) 20 4 (mI (sM μ 11 k (mI μ 21 4)) 20 5)) 21 4 (mI (sM (sM μ 11 k (mI μ 21 4)) 20 4 (mI (sM μ 11 k (mI μ 21 4)) 20 5)) 21 5)) 20 6)) 21 6)) 20 7)) 21 6 (mI (sM (sM (sM (sM (sM (sM μ 11 k (mI μ 21 4)) 20 4 (mI (sM μ 11 k (mI μ 21 4)) 20 5)) 21 4 (mI (sM (sM μ 11 k (mI μ 21 4)) 20 4 (mI (sM μ 11 k (mI μ 21 4)) 20 5)) 21 5)) 20 5 (mI (sM (sM (sM μ 11 k (mI μ 21 4)) 20 4 (mI (sM μ 11 k (mI μ 21 4)) 20 5)) 21 4 (mI (sM (sM μ 11 k (mI μ 21 4)) 20 4 (mI (sM μ 11 k (mI μ 21 4)) 20 5)) 21 5)) 20 6)) 21 5 (mI (sM (sM (sM (sM μ 11 k (mI μ 21 4)) 20 4 (mI (sM μ 11 k (mI μ 21 4)) 20 5)) 21 4 (mI (sM (sM μ 11 k (mI μ 21 4)) 20 4 (mI (sM μ 11 k (mI μ 21 4)) 20 5)) 21 5)) 20 5 (mI (sM (sM (sM μ 11 k (mI μ 21 4)) 20 4 (mI (sM μ 11 k (mI μ 21 4)) 20 5)) 21 4 (mI (sM (sM μ 11 k (mI μ 21 4)) 20 4 (mI (sM μ 11 k (mI μ 21 4)) 20 5)) 21 5)) 20 6)) 21 6)) 20 6 (mI (sM (sM (sM (sM (sM μ 11 k (mI μ 21 4)) 20 4 (mI (sM μ 11 k (mI μ 21 4)) 20 5)) 21 4 (mI (sM (sM μ 11 k (mI μ 21 4)) 20 4 (mI (sM μ 11 k (mI μ 21 4)) 20 5)) 21 5)) 20 5 (mI (sM (sM (sM μ 11 k (mI μ 21 4)) 20 4 (mI (sM μ 11 k (mI μ 21 4)) 20 5)) 21 4 (mI (sM (sM μ 11 k (mI μ 21 4)) 20 4 (mI (sM μ 11 k (mI μ 21 4)) 20 5)) 21 5)) 20 6)) 21 5 (mI (sM (sM (sM (sM μ 11 k (mI μ 21 4)) 20 4 (mI (sM μ 11 k (mI μ 21 4)) 20 5)) 21 4 (mI (sM (sM μ 11 k (mI μ 21 4)) 20 4 (mI (sM μ 11 k (mI μ 21 4)) 20 5)) 21 5)) 20 5 (mI (sM (sM (sM μ 11 k (mI μ 21 4)) 20 4 (mI (sM μ 11 k (mI μ 21 4)) 20 5)) 21 4 (mI (sM (sM μ 11 k (mI μ 21 4)) 20 4 (mI (sM μ 11 k (mI μ 21 4)) 20 5)) 21 5)) 20 6)) 21 6)) 20 7)) 21 7)) 19 1 ((mI (sM (sM (sM (sM (sM (sM (sM μ 11 k (mI μ 21 4)) 20 4 (mI (sM μ 11 k (mI μ 21 4)) 20 5)) 21 4 (mI (sM (sM μ 11 k (mI μ 21 4)) 20 4 (mI (sM μ 11 k (mI μ 21 4)) 20 5)) 21 5)) 20 5 (mI (sM (sM (sM μ 11 k (mI μ 21 4)) 20 4 (mI (sM μ 11 k (mI μ 21 4)) 20 5)) 21 4 (mI (sM (sM μ 11 k (mI μ 21 4)) 20 4 (mI (sM μ 11 k (mI μ 21 4)) 20 5)) 21 5)) 20 6)) 21 5 (mI (sM (sM (sM (sM μ 11 k (mI μ 21 4)) 20 4 (mI (sM μ 11 k (mI μ 21 4)) 20 5)) 21 4 (mI (sM (sM μ 11 k (mI μ 21 4)) 20 4 (mI (sM μ 11 k (mI μ 21 4)) 20 5)) 21 5)) 20 5 (mI (sM (sM (sM μ 11 k (mI μ 21 4)) 20 4 (mI (sM μ 11 k (mI μ 21 4)) 20 5)) 21 4 (mI (sM (sM μ 11 k (mI μ 21 4)) 20 4 (mI (sM μ 11 k (mI μ 21 4)) 20 5)) 21 5)) 20 6)) 21 6)) 20 6 (mI (sM (sM (sM (sM (sM μ 11 k (mI μ 21 4)) 20 4 (mI (sM μ 11 k (mI μ 21 4)) 20 5)) 21 4 (mI (sM (sM μ 11 k (mI μ 21 4)) 20 4 (mI (sM μ 11 k (mI μ 21 4)) 20 5)) 21 5)) 20 5 (mI (sM (sM (sM μ 11 k (mI μ 21 4)) 20 4 (mI (sM μ 11 k (mI μ 21 4)) 20 5)) 21 4 (mI (sM (sM μ 11 k (mI μ 21 4)) 20 4 (mI (sM μ 11 k (mI μ 21 4)) 20 5)) 21 5)) 20 6)) 21 5 (mI (sM (sM (sM (sM μ 11 k (mI μ 21 4)) 20 4 (mI (sM μ 11 k (mI μ 21 4)) 20 5)) 21 4 (mI (sM (sM μ 11 k (mI μ 21 4)) 20 4 (mI (sM μ 11 k (mI μ 21 4)) 20 5)) 21 5)) 20 5 (mI (sM (sM (sM μ 11 k (mI μ 21 4)) 20 4 (mI (sM μ 11 k (mI μ 21 4)) 20 5)) 21 4 (mI (sM (sM μ 11 k (mI μ 21 4)) 20 4 (mI (sM μ 11 k (mI μ 21 4)) 20 5)) 21 5)) 20 6)) 21 6)) 20 7)) 21 6 (mI (sM (sM (sM (sM (sM (sM μ 11 k (mI μ 21 4)) 20 4 (mI (sM μ 11 k (mI μ 21 4)) 20 5)) 21 4 (mI (sM (sM μ 11 k (mI μ 21 4)) 20 4 (mI (sM μ 11 k (mI μ 21 4)) 20 5)) 21 5)) 20 5 (mI (sM (sM (sM μ 11 k (mI μ 21 4)) 20 4 (mI (sM μ 11 k (mI μ 21 4)) 20 5)) 21 4 (mI (sM (sM μ 11 k (mI μ 21 4)) 20 4 (mI (sM μ 11 k (mI μ 21 4)) 20 5)) 21 5)) 20 6)) 21 5 (mI (sM (sM (sM (sM μ 11 k (mI μ 21 4)) 20 4 (mI (sM μ 11 k (mI μ 21 4)) 20 5)) 21 4 (mI (sM (sM μ 11 k (mI μ 21 4)) 20 4 (mI (sM μ 11 k (mI μ 21 4)) 20 5)) 21 5)) 20 5 (mI (sM (sM (sM μ 11 k (mI μ 21 4)) 20 4 (mI (sM μ 11 k (mI μ 21 4)) 20 5)) 21 4 (mI (sM (sM μ 11 k (mI μ 21 4)) 20 4 (mI (sM μ 11 k (mI μ 21 4)) 20 5)) 21 5)) 20 6)) 21 6)) 20 6 (mI (sM (sM (sM (sM (sM μ 11 k (mI μ 21 4)) 20 4 (mI (sM μ 11 k (mI μ 21 4)) 20 5)) 21 4 (mI (sM (sM μ 11 k (mI μ 21 4)) 20 4 (mI (sM μ 11 k (mI μ 21 4)) 20 5)) 21 5)) 20 5 (mI (sM (sM (sM μ 11 k (mI μ 21 4)) 20 4 (mI (sM μ 11 k (mI μ 21 4)) 20 5)) 21 4 (mI (sM (sM μ 11 k (mI μ 21 4)) 20 4 (mI (sM μ 11 k (mI μ 21 4)) 20 5)) 21 5)) 20 6)) 21 5 (mI (sM (sM (sM (sM μ 11 k (mI μ 21 4)) 20 4 (mI (sM μ 11 k (mI μ 21 4)) 20 5)) 21 4 (mI (sM (sM μ 11 k (mI μ 21 4)) 20 4 (mI (sM μ 11 k (mI μ 21 4)) 20 5)) 21 5)) 20 5 (mI (sM (sM (sM μ 11 k (mI μ 21 4)) 20 4 (mI (sM μ 11 k (mI μ 21 4)) 20 5)) 21 4 (mI (sM (sM μ 11 k (mI μ 21 4)) 20 4 (mI (sM μ 11 k (mI μ 21 4)) 20 5)) 21 5)) 20 6)) 21 6)) 20 7)) 21 7)) 19 1) - 1)
def mrem (μ : km_S) (q k : Nat) : km_S := if q = 0 then mrem_0 μ k else mrem_1 μ k
set_option maxHeartbeats 4000000 in
theorem kr_rem_0_1 {N B t : Nat} {σ : kx_S} {μ : km_S} (h : kr N B 2 σ μ) (ht : t < 8) (hst : kI σ 10 t = 1) (hs : kI σ 9 0 = nI 1) : ∃ R, xf_removeFirst_0 σ = (kI σ 7 0, R) ∧ kr N B 0 (sI R 15 t (kI σ 7 0)) (mrem_0 μ t) ∧ kI R 9 0 = nI 0 ∧ ∀ f k, 10 ≤ f → kI R f k = kI σ f k := by
  obtain ⟨j, j1, j2, j3, j4⟩ := h.2.2.2.1 0 (by decide)
  obtain rfl : j = 1 := (nI_eq (by omega) (by omega)).mp (j2.symm.trans hs)
  have a0 := j4 0 (by decide)
  have emp : xf_isEmpty_0 σ = (0, σ) := by unfold xf_isEmpty_0; rw [if_neg (by rw [hs]; decide)]
  refine ⟨sI σ 9 0 ((kI σ 9 0) - 1), ?_, ?_, ?_, fun f k hf => ?_⟩
  · rw [xf_removeFirst_0, kk_b_eq emp, if_pos rfl, if_pos (show kI σ 9 0 = 1 by rw [hs]; decide)]
  · have hr := kr_res (kI σ 7 0) h ht (kr_on10 h ht hst)
    refine kr_qupd hr (Or.inl rfl) (by decide) (fun f i h1 h2 h3 => ?_) (fun _ _ => rfl) (fun f i h1 h2 => ?_) ⟨0, by decide, ?_, ?_, fun i hi => ?_⟩
    · by_cases z : f = 15 ∧ i = t
      · obtain ⟨rfl, rfl⟩ := z
        rw [kI_sI, if_pos ⟨rfl, rfl⟩, kI_sI, if_pos ⟨rfl, rfl⟩]
      · rw [kI_n z, kI_n (by omega), kI_n z]
    · rw [mrem_0, mI_n (by omega), mI_n (by omega), mI_n (by omega), mI_n (by omega), mI_n (by omega), mI_n (by omega), mI_n (by omega)]
      rw [show mI μ 21 0 = kI σ 7 0 from a0.2.symm]
    · exact (show _ = kI σ 9 0 - 1 from rfl).trans (by rw [hs]; decide)
    · exact (show _ = mI μ 19 0 - 1 from rfl).trans (by rw [j3]; decide)
    · omega
  · exact (show _ = kI σ 9 0 - 1 from rfl).trans (by rw [hs]; decide)
  · rw [kI_n (by omega)]
set_option maxHeartbeats 4000000 in
theorem kr_rem_0_2 {N B t : Nat} {σ : kx_S} {μ : km_S} (h : kr N B 2 σ μ) (ht : t < 8) (hst : kI σ 10 t = 1) (hs : kI σ 9 0 = nI 2) : ∃ R, xf_removeFirst_0 σ = (kI σ 7 0, R) ∧ kr N B 0 (sI R 15 t (kI σ 7 0)) (mrem_0 μ t) ∧ kI R 9 0 = nI 1 ∧ ∀ f k, 10 ≤ f → kI R f k = kI σ f k := by
  obtain ⟨j, j1, j2, j3, j4⟩ := h.2.2.2.1 0 (by decide)
  obtain rfl : j = 2 := (nI_eq (by omega) (by omega)).mp (j2.symm.trans hs)
  have a0 := j4 0 (by decide)
  have a1 := j4 1 (by decide)
  have emp : xf_isEmpty_0 σ = (0, σ) := by unfold xf_isEmpty_0; rw [if_neg (by rw [hs]; decide)]
  refine ⟨sI (sI (sI σ 9 0 ((kI σ 9 0) - 1)) 5 0 (kI (sI σ 9 0 ((kI σ 9 0) - 1)) 5 1)) 7 0 (kI (sI (sI σ 9 0 ((kI σ 9 0) - 1)) 5 0 (kI (sI σ 9 0 ((kI σ 9 0) - 1)) 5 1)) 7 1), ?_, ?_, ?_, fun f k hf => ?_⟩
  · rw [xf_removeFirst_0, kk_b_eq emp, if_pos rfl, if_neg (show ¬ kI σ 9 0 = 1 by rw [hs]; decide), if_pos (show kI σ 9 0 = 2 by rw [hs]; decide)]
  · have hr := kr_res (kI σ 7 0) h ht (kr_on10 h ht hst)
    refine kr_qupd hr (Or.inl rfl) (by decide) (fun f i h1 h2 h3 => ?_) (fun _ _ => rfl) (fun f i h1 h2 => ?_) ⟨1, by decide, ?_, ?_, fun i hi => ?_⟩
    · by_cases z : f = 15 ∧ i = t
      · obtain ⟨rfl, rfl⟩ := z
        rw [kI_sI, if_pos ⟨rfl, rfl⟩, kI_sI, if_pos ⟨rfl, rfl⟩]
      · rw [kI_n z, kI_n (by omega), kI_n (by omega), kI_n (by omega), kI_n z]
    · rw [mrem_0, mI_n (by omega), mI_n (by omega), mI_n (by omega), mI_n (by omega), mI_n (by omega), mI_n (by omega), mI_n (by omega)]
      rw [show mI μ 21 0 = kI σ 7 0 from a0.2.symm]
    · exact (show _ = kI σ 9 0 - 1 from rfl).trans (by rw [hs]; decide)
    · exact (show _ = mI μ 19 0 - 1 from rfl).trans (by rw [j3]; decide)
    · rcases (show i = 0 by omega) with rfl
      exact ⟨by first | rfl | exact a0.1 | exact a1.1, by first | rfl | exact a0.2 | exact a1.2⟩
  · exact (show _ = kI σ 9 0 - 1 from rfl).trans (by rw [hs]; decide)
  · rw [kI_n (by omega), kI_n (by omega), kI_n (by omega)]
set_option maxHeartbeats 4000000 in
theorem kr_rem_0_3 {N B t : Nat} {σ : kx_S} {μ : km_S} (h : kr N B 2 σ μ) (ht : t < 8) (hst : kI σ 10 t = 1) (hs : kI σ 9 0 = nI 3) : ∃ R, xf_removeFirst_0 σ = (kI σ 7 0, R) ∧ kr N B 0 (sI R 15 t (kI σ 7 0)) (mrem_0 μ t) ∧ kI R 9 0 = nI 2 ∧ ∀ f k, 10 ≤ f → kI R f k = kI σ f k := by
  obtain ⟨j, j1, j2, j3, j4⟩ := h.2.2.2.1 0 (by decide)
  obtain rfl : j = 3 := (nI_eq (by omega) (by omega)).mp (j2.symm.trans hs)
  have a0 := j4 0 (by decide)
  have a1 := j4 1 (by decide)
  have a2 := j4 2 (by decide)
  have emp : xf_isEmpty_0 σ = (0, σ) := by unfold xf_isEmpty_0; rw [if_neg (by rw [hs]; decide)]
  refine ⟨sI (sI (sI (sI (sI σ 9 0 ((kI σ 9 0) - 1)) 5 0 (kI (sI σ 9 0 ((kI σ 9 0) - 1)) 5 1)) 7 0 (kI (sI (sI σ 9 0 ((kI σ 9 0) - 1)) 5 0 (kI (sI σ 9 0 ((kI σ 9 0) - 1)) 5 1)) 7 1)) 5 1 (kI (sI (sI (sI σ 9 0 ((kI σ 9 0) - 1)) 5 0 (kI (sI σ 9 0 ((kI σ 9 0) - 1)) 5 1)) 7 0 (kI (sI (sI σ 9 0 ((kI σ 9 0) - 1)) 5 0 (kI (sI σ 9 0 ((kI σ 9 0) - 1)) 5 1)) 7 1)) 5 2)) 7 1 (kI (sI (sI (sI (sI σ 9 0 ((kI σ 9 0) - 1)) 5 0 (kI (sI σ 9 0 ((kI σ 9 0) - 1)) 5 1)) 7 0 (kI (sI (sI σ 9 0 ((kI σ 9 0) - 1)) 5 0 (kI (sI σ 9 0 ((kI σ 9 0) - 1)) 5 1)) 7 1)) 5 1 (kI (sI (sI (sI σ 9 0 ((kI σ 9 0) - 1)) 5 0 (kI (sI σ 9 0 ((kI σ 9 0) - 1)) 5 1)) 7 0 (kI (sI (sI σ 9 0 ((kI σ 9 0) - 1)) 5 0 (kI (sI σ 9 0 ((kI σ 9 0) - 1)) 5 1)) 7 1)) 5 2)) 7 2), ?_, ?_, ?_, fun f k hf => ?_⟩
  · rw [xf_removeFirst_0, kk_b_eq emp, if_pos rfl, if_neg (show ¬ kI σ 9 0 = 1 by rw [hs]; decide), if_neg (show ¬ kI σ 9 0 = 2 by rw [hs]; decide), if_pos (show kI σ 9 0 = 3 by rw [hs]; decide)]
  · have hr := kr_res (kI σ 7 0) h ht (kr_on10 h ht hst)
    refine kr_qupd hr (Or.inl rfl) (by decide) (fun f i h1 h2 h3 => ?_) (fun _ _ => rfl) (fun f i h1 h2 => ?_) ⟨2, by decide, ?_, ?_, fun i hi => ?_⟩
    · by_cases z : f = 15 ∧ i = t
      · obtain ⟨rfl, rfl⟩ := z
        rw [kI_sI, if_pos ⟨rfl, rfl⟩, kI_sI, if_pos ⟨rfl, rfl⟩]
      · rw [kI_n z, kI_n (by omega), kI_n (by omega), kI_n (by omega), kI_n (by omega), kI_n (by omega), kI_n z]
    · rw [mrem_0, mI_n (by omega), mI_n (by omega), mI_n (by omega), mI_n (by omega), mI_n (by omega), mI_n (by omega), mI_n (by omega)]
      rw [show mI μ 21 0 = kI σ 7 0 from a0.2.symm]
    · exact (show _ = kI σ 9 0 - 1 from rfl).trans (by rw [hs]; decide)
    · exact (show _ = mI μ 19 0 - 1 from rfl).trans (by rw [j3]; decide)
    · rcases (show i = 0 ∨ i = 1 by omega) with rfl | rfl
      · exact ⟨by first | rfl | exact a0.1 | exact a1.1 | exact a2.1, by first | rfl | exact a0.2 | exact a1.2 | exact a2.2⟩
      · exact ⟨by first | rfl | exact a0.1 | exact a1.1 | exact a2.1, by first | rfl | exact a0.2 | exact a1.2 | exact a2.2⟩
  · exact (show _ = kI σ 9 0 - 1 from rfl).trans (by rw [hs]; decide)
  · rw [kI_n (by omega), kI_n (by omega), kI_n (by omega), kI_n (by omega), kI_n (by omega)]
set_option maxHeartbeats 4000000 in
theorem kr_rem_0_4 {N B t : Nat} {σ : kx_S} {μ : km_S} (h : kr N B 2 σ μ) (ht : t < 8) (hst : kI σ 10 t = 1) (hs : kI σ 9 0 = nI 4) : ∃ R, xf_removeFirst_0 σ = (kI σ 7 0, R) ∧ kr N B 0 (sI R 15 t (kI σ 7 0)) (mrem_0 μ t) ∧ kI R 9 0 = nI 3 ∧ ∀ f k, 10 ≤ f → kI R f k = kI σ f k := by
  obtain ⟨j, j1, j2, j3, j4⟩ := h.2.2.2.1 0 (by decide)
  obtain rfl : j = 4 := (nI_eq (by omega) (by omega)).mp (j2.symm.trans hs)
  have a0 := j4 0 (by decide)
  have a1 := j4 1 (by decide)
  have a2 := j4 2 (by decide)
  have a3 := j4 3 (by decide)
  have emp : xf_isEmpty_0 σ = (0, σ) := by unfold xf_isEmpty_0; rw [if_neg (by rw [hs]; decide)]
  refine ⟨sI (sI (sI (sI (sI (sI (sI σ 9 0 ((kI σ 9 0) - 1)) 5 0 (kI (sI σ 9 0 ((kI σ 9 0) - 1)) 5 1)) 7 0 (kI (sI (sI σ 9 0 ((kI σ 9 0) - 1)) 5 0 (kI (sI σ 9 0 ((kI σ 9 0) - 1)) 5 1)) 7 1)) 5 1 (kI (sI (sI (sI σ 9 0 ((kI σ 9 0) - 1)) 5 0 (kI (sI σ 9 0 ((kI σ 9 0) - 1)) 5 1)) 7 0 (kI (sI (sI σ 9 0 ((kI σ 9 0) - 1)) 5 0 (kI (sI σ 9 0 ((kI σ 9 0) - 1)) 5 1)) 7 1)) 5 2)) 7 1 (kI (sI (sI (sI (sI σ 9 0 ((kI σ 9 0) - 1)) 5 0 (kI (sI σ 9 0 ((kI σ 9 0) - 1)) 5 1)) 7 0 (kI (sI (sI σ 9 0 ((kI σ 9 0) - 1)) 5 0 (kI (sI σ 9 0 ((kI σ 9 0) - 1)) 5 1)) 7 1)) 5 1 (kI (sI (sI (sI σ 9 0 ((kI σ 9 0) - 1)) 5 0 (kI (sI σ 9 0 ((kI σ 9 0) - 1)) 5 1)) 7 0 (kI (sI (sI σ 9 0 ((kI σ 9 0) - 1)) 5 0 (kI (sI σ 9 0 ((kI σ 9 0) - 1)) 5 1)) 7 1)) 5 2)) 7 2)) 5 2 (kI (sI (sI (sI (sI (sI σ 9 0 ((kI σ 9 0) - 1)) 5 0 (kI (sI σ 9 0 ((kI σ 9 0) - 1)) 5 1)) 7 0 (kI (sI (sI σ 9 0 ((kI σ 9 0) - 1)) 5 0 (kI (sI σ 9 0 ((kI σ 9 0) - 1)) 5 1)) 7 1)) 5 1 (kI (sI (sI (sI σ 9 0 ((kI σ 9 0) - 1)) 5 0 (kI (sI σ 9 0 ((kI σ 9 0) - 1)) 5 1)) 7 0 (kI (sI (sI σ 9 0 ((kI σ 9 0) - 1)) 5 0 (kI (sI σ 9 0 ((kI σ 9 0) - 1)) 5 1)) 7 1)) 5 2)) 7 1 (kI (sI (sI (sI (sI σ 9 0 ((kI σ 9 0) - 1)) 5 0 (kI (sI σ 9 0 ((kI σ 9 0) - 1)) 5 1)) 7 0 (kI (sI (sI σ 9 0 ((kI σ 9 0) - 1)) 5 0 (kI (sI σ 9 0 ((kI σ 9 0) - 1)) 5 1)) 7 1)) 5 1 (kI (sI (sI (sI σ 9 0 ((kI σ 9 0) - 1)) 5 0 (kI (sI σ 9 0 ((kI σ 9 0) - 1)) 5 1)) 7 0 (kI (sI (sI σ 9 0 ((kI σ 9 0) - 1)) 5 0 (kI (sI σ 9 0 ((kI σ 9 0) - 1)) 5 1)) 7 1)) 5 2)) 7 2)) 5 3)) 7 2 (kI (sI (sI (sI (sI (sI (sI σ 9 0 ((kI σ 9 0) - 1)) 5 0 (kI (sI σ 9 0 ((kI σ 9 0) - 1)) 5 1)) 7 0 (kI (sI (sI σ 9 0 ((kI σ 9 0) - 1)) 5 0 (kI (sI σ 9 0 ((kI σ 9 0) - 1)) 5 1)) 7 1)) 5 1 (kI (sI (sI (sI σ 9 0 ((kI σ 9 0) - 1)) 5 0 (kI (sI σ 9 0 ((kI σ 9 0) - 1)) 5 1)) 7 0 (kI (sI (sI σ 9 0 ((kI σ 9 0) - 1)) 5 0 (kI (sI σ 9 0 ((kI σ 9 0) - 1)) 5 1)) 7 1)) 5 2)) 7 1 (kI (sI (sI (sI (sI σ 9 0 ((kI σ 9 0) - 1)) 5 0 (kI (sI σ 9 0 ((kI σ 9 0) - 1)) 5 1)) 7 0 (kI (sI (sI σ 9 0 ((kI σ 9 0) - 1)) 5 0 (kI (sI σ 9 0 ((kI σ 9 0) - 1)) 5 1)) 7 1)) 5 1 (kI (sI (sI (sI σ 9 0 ((kI σ 9 0) - 1)) 5 0 (kI (sI σ 9 0 ((kI σ 9 0) - 1)) 5 1)) 7 0 (kI (sI (sI σ 9 0 ((kI σ 9 0) - 1)) 5 0 (kI (sI σ 9 0 ((kI σ 9 0) - 1)) 5 1)) 7 1)) 5 2)) 7 2)) 5 2 (kI (sI (sI (sI (sI (sI σ 9 0 ((kI σ 9 0) - 1)) 5 0 (kI (sI σ 9 0 ((kI σ 9 0) - 1)) 5 1)) 7 0 (kI (sI (sI σ 9 0 ((kI σ 9 0) - 1)) 5 0 (kI (sI σ 9 0 ((kI σ 9 0) - 1)) 5 1)) 7 1)) 5 1 (kI (sI (sI (sI σ 9 0 ((kI σ 9 0) - 1)) 5 0 (kI (sI σ 9 0 ((kI σ 9 0) - 1)) 5 1)) 7 0 (kI (sI (sI σ 9 0 ((kI σ 9 0) - 1)) 5 0 (kI (sI σ 9 0 ((kI σ 9 0) - 1)) 5 1)) 7 1)) 5 2)) 7 1 (kI (sI (sI (sI (sI σ 9 0 ((kI σ 9 0) - 1)) 5 0 (kI (sI σ 9 0 ((kI σ 9 0) - 1)) 5 1)) 7 0 (kI (sI (sI σ 9 0 ((kI σ 9 0) - 1)) 5 0 (kI (sI σ 9 0 ((kI σ 9 0) - 1)) 5 1)) 7 1)) 5 1 (kI (sI (sI (sI σ 9 0 ((kI σ 9 0) - 1)) 5 0 (kI (sI σ 9 0 ((kI σ 9 0) - 1)) 5 1)) 7 0 (kI (sI (sI σ 9 0 ((kI σ 9 0) - 1)) 5 0 (kI (sI σ 9 0 ((kI σ 9 0) - 1)) 5 1)) 7 1)) 5 2)) 7 2)) 5 3)) 7 3), ?_, ?_, ?_, fun f k hf => ?_⟩
  · rw [xf_removeFirst_0, kk_b_eq emp, if_pos rfl, if_neg (show ¬ kI σ 9 0 = 1 by rw [hs]; decide), if_neg (show ¬ kI σ 9 0 = 2 by rw [hs]; decide), if_neg (show ¬ kI σ 9 0 = 3 by rw [hs]; decide)]
  · have hr := kr_res (kI σ 7 0) h ht (kr_on10 h ht hst)
    refine kr_qupd hr (Or.inl rfl) (by decide) (fun f i h1 h2 h3 => ?_) (fun _ _ => rfl) (fun f i h1 h2 => ?_) ⟨3, by decide, ?_, ?_, fun i hi => ?_⟩
    · by_cases z : f = 15 ∧ i = t
      · obtain ⟨rfl, rfl⟩ := z
        rw [kI_sI, if_pos ⟨rfl, rfl⟩, kI_sI, if_pos ⟨rfl, rfl⟩]
      · rw [kI_n z, kI_n (by omega), kI_n (by omega), kI_n (by omega), kI_n (by omega), kI_n (by omega), kI_n (by omega), kI_n (by omega), kI_n z]
    · rw [mrem_0, mI_n (by omega), mI_n (by omega), mI_n (by omega), mI_n (by omega), mI_n (by omega), mI_n (by omega), mI_n (by omega)]
      rw [show mI μ 21 0 = kI σ 7 0 from a0.2.symm]
    · exact (show _ = kI σ 9 0 - 1 from rfl).trans (by rw [hs]; decide)
    · exact (show _ = mI μ 19 0 - 1 from rfl).trans (by rw [j3]; decide)
    · rcases (show i = 0 ∨ i = 1 ∨ i = 2 by omega) with rfl | rfl | rfl
      · exact ⟨by first | rfl | exact a0.1 | exact a1.1 | exact a2.1 | exact a3.1, by first | rfl | exact a0.2 | exact a1.2 | exact a2.2 | exact a3.2⟩
      · exact ⟨by first | rfl | exact a0.1 | exact a1.1 | exact a2.1 | exact a3.1, by first | rfl | exact a0.2 | exact a1.2 | exact a2.2 | exact a3.2⟩
      · exact ⟨by first | rfl | exact a0.1 | exact a1.1 | exact a2.1 | exact a3.1, by first | rfl | exact a0.2 | exact a1.2 | exact a2.2 | exact a3.2⟩
  · exact (show _ = kI σ 9 0 - 1 from rfl).trans (by rw [hs]; decide)
  · rw [kI_n (by omega), kI_n (by omega), kI_n (by omega), kI_n (by omega), kI_n (by omega), kI_n (by omega), kI_n (by omega)]
set_option maxHeartbeats 4000000 in
theorem kr_rem_1_1 {N B t : Nat} {σ : kx_S} {μ : km_S} (h : kr N B 2 σ μ) (ht : t < 8) (hst : kI σ 10 t = 1) (hs : kI σ 9 1 = nI 1) : ∃ R, xf_removeFirst_1 σ = (kI σ 8 0, R) ∧ kr N B 1 (sI R 15 t (kI σ 8 0)) (mrem_1 μ t) ∧ kI R 9 1 = nI 0 ∧ ∀ f k, 10 ≤ f → kI R f k = kI σ f k := by
  obtain ⟨j, j1, j2, j3, j4⟩ := h.2.2.2.1 1 (by decide)
  obtain rfl : j = 1 := (nI_eq (by omega) (by omega)).mp (j2.symm.trans hs)
  have a0 := j4 0 (by decide)
  have emp : xf_isEmpty_1 σ = (0, σ) := by unfold xf_isEmpty_1; rw [if_neg (by rw [hs]; decide)]
  refine ⟨sI σ 9 1 ((kI σ 9 1) - 1), ?_, ?_, ?_, fun f k hf => ?_⟩
  · rw [xf_removeFirst_1, kk_b_eq emp, if_pos rfl, if_pos (show kI σ 9 1 = 1 by rw [hs]; decide)]
  · have hr := kr_res (kI σ 8 0) h ht (kr_on10 h ht hst)
    refine kr_qupd hr (Or.inl rfl) (by decide) (fun f i h1 h2 h3 => ?_) (fun _ _ => rfl) (fun f i h1 h2 => ?_) ⟨0, by decide, ?_, ?_, fun i hi => ?_⟩
    · by_cases z : f = 15 ∧ i = t
      · obtain ⟨rfl, rfl⟩ := z
        rw [kI_sI, if_pos ⟨rfl, rfl⟩, kI_sI, if_pos ⟨rfl, rfl⟩]
      · rw [kI_n z, kI_n (by omega), kI_n z]
    · rw [mrem_1, mI_n (by omega), mI_n (by omega), mI_n (by omega), mI_n (by omega), mI_n (by omega), mI_n (by omega), mI_n (by omega)]
      rw [show mI μ 21 4 = kI σ 8 0 from a0.2.symm]
    · exact (show _ = kI σ 9 1 - 1 from rfl).trans (by rw [hs]; decide)
    · exact (show _ = mI μ 19 1 - 1 from rfl).trans (by rw [j3]; decide)
    · omega
  · exact (show _ = kI σ 9 1 - 1 from rfl).trans (by rw [hs]; decide)
  · rw [kI_n (by omega)]
set_option maxHeartbeats 4000000 in
theorem kr_rem_1_2 {N B t : Nat} {σ : kx_S} {μ : km_S} (h : kr N B 2 σ μ) (ht : t < 8) (hst : kI σ 10 t = 1) (hs : kI σ 9 1 = nI 2) : ∃ R, xf_removeFirst_1 σ = (kI σ 8 0, R) ∧ kr N B 1 (sI R 15 t (kI σ 8 0)) (mrem_1 μ t) ∧ kI R 9 1 = nI 1 ∧ ∀ f k, 10 ≤ f → kI R f k = kI σ f k := by
  obtain ⟨j, j1, j2, j3, j4⟩ := h.2.2.2.1 1 (by decide)
  obtain rfl : j = 2 := (nI_eq (by omega) (by omega)).mp (j2.symm.trans hs)
  have a0 := j4 0 (by decide)
  have a1 := j4 1 (by decide)
  have emp : xf_isEmpty_1 σ = (0, σ) := by unfold xf_isEmpty_1; rw [if_neg (by rw [hs]; decide)]
  refine ⟨sI (sI (sI σ 9 1 ((kI σ 9 1) - 1)) 6 0 (kI (sI σ 9 1 ((kI σ 9 1) - 1)) 6 1)) 8 0 (kI (sI (sI σ 9 1 ((kI σ 9 1) - 1)) 6 0 (kI (sI σ 9 1 ((kI σ 9 1) - 1)) 6 1)) 8 1), ?_, ?_, ?_, fun f k hf => ?_⟩
  · rw [xf_removeFirst_1, kk_b_eq emp, if_pos rfl, if_neg (show ¬ kI σ 9 1 = 1 by rw [hs]; decide), if_pos (show kI σ 9 1 = 2 by rw [hs]; decide)]
  · have hr := kr_res (kI σ 8 0) h ht (kr_on10 h ht hst)
    refine kr_qupd hr (Or.inl rfl) (by decide) (fun f i h1 h2 h3 => ?_) (fun _ _ => rfl) (fun f i h1 h2 => ?_) ⟨1, by decide, ?_, ?_, fun i hi => ?_⟩
    · by_cases z : f = 15 ∧ i = t
      · obtain ⟨rfl, rfl⟩ := z
        rw [kI_sI, if_pos ⟨rfl, rfl⟩, kI_sI, if_pos ⟨rfl, rfl⟩]
      · rw [kI_n z, kI_n (by omega), kI_n (by omega), kI_n (by omega), kI_n z]
    · rw [mrem_1, mI_n (by omega), mI_n (by omega), mI_n (by omega), mI_n (by omega), mI_n (by omega), mI_n (by omega), mI_n (by omega)]
      rw [show mI μ 21 4 = kI σ 8 0 from a0.2.symm]
    · exact (show _ = kI σ 9 1 - 1 from rfl).trans (by rw [hs]; decide)
    · exact (show _ = mI μ 19 1 - 1 from rfl).trans (by rw [j3]; decide)
    · rcases (show i = 0 by omega) with rfl
      exact ⟨by first | rfl | exact a0.1 | exact a1.1, by first | rfl | exact a0.2 | exact a1.2⟩
  · exact (show _ = kI σ 9 1 - 1 from rfl).trans (by rw [hs]; decide)
  · rw [kI_n (by omega), kI_n (by omega), kI_n (by omega)]
set_option maxHeartbeats 4000000 in
theorem kr_rem_1_3 {N B t : Nat} {σ : kx_S} {μ : km_S} (h : kr N B 2 σ μ) (ht : t < 8) (hst : kI σ 10 t = 1) (hs : kI σ 9 1 = nI 3) : ∃ R, xf_removeFirst_1 σ = (kI σ 8 0, R) ∧ kr N B 1 (sI R 15 t (kI σ 8 0)) (mrem_1 μ t) ∧ kI R 9 1 = nI 2 ∧ ∀ f k, 10 ≤ f → kI R f k = kI σ f k := by
  obtain ⟨j, j1, j2, j3, j4⟩ := h.2.2.2.1 1 (by decide)
  obtain rfl : j = 3 := (nI_eq (by omega) (by omega)).mp (j2.symm.trans hs)
  have a0 := j4 0 (by decide)
  have a1 := j4 1 (by decide)
  have a2 := j4 2 (by decide)
  have emp : xf_isEmpty_1 σ = (0, σ) := by unfold xf_isEmpty_1; rw [if_neg (by rw [hs]; decide)]
  refine ⟨sI (sI (sI (sI (sI σ 9 1 ((kI σ 9 1) - 1)) 6 0 (kI (sI σ 9 1 ((kI σ 9 1) - 1)) 6 1)) 8 0 (kI (sI (sI σ 9 1 ((kI σ 9 1) - 1)) 6 0 (kI (sI σ 9 1 ((kI σ 9 1) - 1)) 6 1)) 8 1)) 6 1 (kI (sI (sI (sI σ 9 1 ((kI σ 9 1) - 1)) 6 0 (kI (sI σ 9 1 ((kI σ 9 1) - 1)) 6 1)) 8 0 (kI (sI (sI σ 9 1 ((kI σ 9 1) - 1)) 6 0 (kI (sI σ 9 1 ((kI σ 9 1) - 1)) 6 1)) 8 1)) 6 2)) 8 1 (kI (sI (sI (sI (sI σ 9 1 ((kI σ 9 1) - 1)) 6 0 (kI (sI σ 9 1 ((kI σ 9 1) - 1)) 6 1)) 8 0 (kI (sI (sI σ 9 1 ((kI σ 9 1) - 1)) 6 0 (kI (sI σ 9 1 ((kI σ 9 1) - 1)) 6 1)) 8 1)) 6 1 (kI (sI (sI (sI σ 9 1 ((kI σ 9 1) - 1)) 6 0 (kI (sI σ 9 1 ((kI σ 9 1) - 1)) 6 1)) 8 0 (kI (sI (sI σ 9 1 ((kI σ 9 1) - 1)) 6 0 (kI (sI σ 9 1 ((kI σ 9 1) - 1)) 6 1)) 8 1)) 6 2)) 8 2), ?_, ?_, ?_, fun f k hf => ?_⟩
  · rw [xf_removeFirst_1, kk_b_eq emp, if_pos rfl, if_neg (show ¬ kI σ 9 1 = 1 by rw [hs]; decide), if_neg (show ¬ kI σ 9 1 = 2 by rw [hs]; decide), if_pos (show kI σ 9 1 = 3 by rw [hs]; decide)]
  · have hr := kr_res (kI σ 8 0) h ht (kr_on10 h ht hst)
    refine kr_qupd hr (Or.inl rfl) (by decide) (fun f i h1 h2 h3 => ?_) (fun _ _ => rfl) (fun f i h1 h2 => ?_) ⟨2, by decide, ?_, ?_, fun i hi => ?_⟩
    · by_cases z : f = 15 ∧ i = t
      · obtain ⟨rfl, rfl⟩ := z
        rw [kI_sI, if_pos ⟨rfl, rfl⟩, kI_sI, if_pos ⟨rfl, rfl⟩]
      · rw [kI_n z, kI_n (by omega), kI_n (by omega), kI_n (by omega), kI_n (by omega), kI_n (by omega), kI_n z]
    · rw [mrem_1, mI_n (by omega), mI_n (by omega), mI_n (by omega), mI_n (by omega), mI_n (by omega), mI_n (by omega), mI_n (by omega)]
      rw [show mI μ 21 4 = kI σ 8 0 from a0.2.symm]
    · exact (show _ = kI σ 9 1 - 1 from rfl).trans (by rw [hs]; decide)
    · exact (show _ = mI μ 19 1 - 1 from rfl).trans (by rw [j3]; decide)
    · rcases (show i = 0 ∨ i = 1 by omega) with rfl | rfl
      · exact ⟨by first | rfl | exact a0.1 | exact a1.1 | exact a2.1, by first | rfl | exact a0.2 | exact a1.2 | exact a2.2⟩
      · exact ⟨by first | rfl | exact a0.1 | exact a1.1 | exact a2.1, by first | rfl | exact a0.2 | exact a1.2 | exact a2.2⟩
  · exact (show _ = kI σ 9 1 - 1 from rfl).trans (by rw [hs]; decide)
  · rw [kI_n (by omega), kI_n (by omega), kI_n (by omega), kI_n (by omega), kI_n (by omega)]
set_option maxHeartbeats 4000000 in
theorem kr_rem_1_4 {N B t : Nat} {σ : kx_S} {μ : km_S} (h : kr N B 2 σ μ) (ht : t < 8) (hst : kI σ 10 t = 1) (hs : kI σ 9 1 = nI 4) : ∃ R, xf_removeFirst_1 σ = (kI σ 8 0, R) ∧ kr N B 1 (sI R 15 t (kI σ 8 0)) (mrem_1 μ t) ∧ kI R 9 1 = nI 3 ∧ ∀ f k, 10 ≤ f → kI R f k = kI σ f k := by
  obtain ⟨j, j1, j2, j3, j4⟩ := h.2.2.2.1 1 (by decide)
  obtain rfl : j = 4 := (nI_eq (by omega) (by omega)).mp (j2.symm.trans hs)
  have a0 := j4 0 (by decide)
  have a1 := j4 1 (by decide)
  have a2 := j4 2 (by decide)
  have a3 := j4 3 (by decide)
  have emp : xf_isEmpty_1 σ = (0, σ) := by unfold xf_isEmpty_1; rw [if_neg (by rw [hs]; decide)]
  refine ⟨sI (sI (sI (sI (sI (sI (sI σ 9 1 ((kI σ 9 1) - 1)) 6 0 (kI (sI σ 9 1 ((kI σ 9 1) - 1)) 6 1)) 8 0 (kI (sI (sI σ 9 1 ((kI σ 9 1) - 1)) 6 0 (kI (sI σ 9 1 ((kI σ 9 1) - 1)) 6 1)) 8 1)) 6 1 (kI (sI (sI (sI σ 9 1 ((kI σ 9 1) - 1)) 6 0 (kI (sI σ 9 1 ((kI σ 9 1) - 1)) 6 1)) 8 0 (kI (sI (sI σ 9 1 ((kI σ 9 1) - 1)) 6 0 (kI (sI σ 9 1 ((kI σ 9 1) - 1)) 6 1)) 8 1)) 6 2)) 8 1 (kI (sI (sI (sI (sI σ 9 1 ((kI σ 9 1) - 1)) 6 0 (kI (sI σ 9 1 ((kI σ 9 1) - 1)) 6 1)) 8 0 (kI (sI (sI σ 9 1 ((kI σ 9 1) - 1)) 6 0 (kI (sI σ 9 1 ((kI σ 9 1) - 1)) 6 1)) 8 1)) 6 1 (kI (sI (sI (sI σ 9 1 ((kI σ 9 1) - 1)) 6 0 (kI (sI σ 9 1 ((kI σ 9 1) - 1)) 6 1)) 8 0 (kI (sI (sI σ 9 1 ((kI σ 9 1) - 1)) 6 0 (kI (sI σ 9 1 ((kI σ 9 1) - 1)) 6 1)) 8 1)) 6 2)) 8 2)) 6 2 (kI (sI (sI (sI (sI (sI σ 9 1 ((kI σ 9 1) - 1)) 6 0 (kI (sI σ 9 1 ((kI σ 9 1) - 1)) 6 1)) 8 0 (kI (sI (sI σ 9 1 ((kI σ 9 1) - 1)) 6 0 (kI (sI σ 9 1 ((kI σ 9 1) - 1)) 6 1)) 8 1)) 6 1 (kI (sI (sI (sI σ 9 1 ((kI σ 9 1) - 1)) 6 0 (kI (sI σ 9 1 ((kI σ 9 1) - 1)) 6 1)) 8 0 (kI (sI (sI σ 9 1 ((kI σ 9 1) - 1)) 6 0 (kI (sI σ 9 1 ((kI σ 9 1) - 1)) 6 1)) 8 1)) 6 2)) 8 1 (kI (sI (sI (sI (sI σ 9 1 ((kI σ 9 1) - 1)) 6 0 (kI (sI σ 9 1 ((kI σ 9 1) - 1)) 6 1)) 8 0 (kI (sI (sI σ 9 1 ((kI σ 9 1) - 1)) 6 0 (kI (sI σ 9 1 ((kI σ 9 1) - 1)) 6 1)) 8 1)) 6 1 (kI (sI (sI (sI σ 9 1 ((kI σ 9 1) - 1)) 6 0 (kI (sI σ 9 1 ((kI σ 9 1) - 1)) 6 1)) 8 0 (kI (sI (sI σ 9 1 ((kI σ 9 1) - 1)) 6 0 (kI (sI σ 9 1 ((kI σ 9 1) - 1)) 6 1)) 8 1)) 6 2)) 8 2)) 6 3)) 8 2 (kI (sI (sI (sI (sI (sI (sI σ 9 1 ((kI σ 9 1) - 1)) 6 0 (kI (sI σ 9 1 ((kI σ 9 1) - 1)) 6 1)) 8 0 (kI (sI (sI σ 9 1 ((kI σ 9 1) - 1)) 6 0 (kI (sI σ 9 1 ((kI σ 9 1) - 1)) 6 1)) 8 1)) 6 1 (kI (sI (sI (sI σ 9 1 ((kI σ 9 1) - 1)) 6 0 (kI (sI σ 9 1 ((kI σ 9 1) - 1)) 6 1)) 8 0 (kI (sI (sI σ 9 1 ((kI σ 9 1) - 1)) 6 0 (kI (sI σ 9 1 ((kI σ 9 1) - 1)) 6 1)) 8 1)) 6 2)) 8 1 (kI (sI (sI (sI (sI σ 9 1 ((kI σ 9 1) - 1)) 6 0 (kI (sI σ 9 1 ((kI σ 9 1) - 1)) 6 1)) 8 0 (kI (sI (sI σ 9 1 ((kI σ 9 1) - 1)) 6 0 (kI (sI σ 9 1 ((kI σ 9 1) - 1)) 6 1)) 8 1)) 6 1 (kI (sI (sI (sI σ 9 1 ((kI σ 9 1) - 1)) 6 0 (kI (sI σ 9 1 ((kI σ 9 1) - 1)) 6 1)) 8 0 (kI (sI (sI σ 9 1 ((kI σ 9 1) - 1)) 6 0 (kI (sI σ 9 1 ((kI σ 9 1) - 1)) 6 1)) 8 1)) 6 2)) 8 2)) 6 2 (kI (sI (sI (sI (sI (sI σ 9 1 ((kI σ 9 1) - 1)) 6 0 (kI (sI σ 9 1 ((kI σ 9 1) - 1)) 6 1)) 8 0 (kI (sI (sI σ 9 1 ((kI σ 9 1) - 1)) 6 0 (kI (sI σ 9 1 ((kI σ 9 1) - 1)) 6 1)) 8 1)) 6 1 (kI (sI (sI (sI σ 9 1 ((kI σ 9 1) - 1)) 6 0 (kI (sI σ 9 1 ((kI σ 9 1) - 1)) 6 1)) 8 0 (kI (sI (sI σ 9 1 ((kI σ 9 1) - 1)) 6 0 (kI (sI σ 9 1 ((kI σ 9 1) - 1)) 6 1)) 8 1)) 6 2)) 8 1 (kI (sI (sI (sI (sI σ 9 1 ((kI σ 9 1) - 1)) 6 0 (kI (sI σ 9 1 ((kI σ 9 1) - 1)) 6 1)) 8 0 (kI (sI (sI σ 9 1 ((kI σ 9 1) - 1)) 6 0 (kI (sI σ 9 1 ((kI σ 9 1) - 1)) 6 1)) 8 1)) 6 1 (kI (sI (sI (sI σ 9 1 ((kI σ 9 1) - 1)) 6 0 (kI (sI σ 9 1 ((kI σ 9 1) - 1)) 6 1)) 8 0 (kI (sI (sI σ 9 1 ((kI σ 9 1) - 1)) 6 0 (kI (sI σ 9 1 ((kI σ 9 1) - 1)) 6 1)) 8 1)) 6 2)) 8 2)) 6 3)) 8 3), ?_, ?_, ?_, fun f k hf => ?_⟩
  · rw [xf_removeFirst_1, kk_b_eq emp, if_pos rfl, if_neg (show ¬ kI σ 9 1 = 1 by rw [hs]; decide), if_neg (show ¬ kI σ 9 1 = 2 by rw [hs]; decide), if_neg (show ¬ kI σ 9 1 = 3 by rw [hs]; decide)]
  · have hr := kr_res (kI σ 8 0) h ht (kr_on10 h ht hst)
    refine kr_qupd hr (Or.inl rfl) (by decide) (fun f i h1 h2 h3 => ?_) (fun _ _ => rfl) (fun f i h1 h2 => ?_) ⟨3, by decide, ?_, ?_, fun i hi => ?_⟩
    · by_cases z : f = 15 ∧ i = t
      · obtain ⟨rfl, rfl⟩ := z
        rw [kI_sI, if_pos ⟨rfl, rfl⟩, kI_sI, if_pos ⟨rfl, rfl⟩]
      · rw [kI_n z, kI_n (by omega), kI_n (by omega), kI_n (by omega), kI_n (by omega), kI_n (by omega), kI_n (by omega), kI_n (by omega), kI_n z]
    · rw [mrem_1, mI_n (by omega), mI_n (by omega), mI_n (by omega), mI_n (by omega), mI_n (by omega), mI_n (by omega), mI_n (by omega)]
      rw [show mI μ 21 4 = kI σ 8 0 from a0.2.symm]
    · exact (show _ = kI σ 9 1 - 1 from rfl).trans (by rw [hs]; decide)
    · exact (show _ = mI μ 19 1 - 1 from rfl).trans (by rw [j3]; decide)
    · rcases (show i = 0 ∨ i = 1 ∨ i = 2 by omega) with rfl | rfl | rfl
      · exact ⟨by first | rfl | exact a0.1 | exact a1.1 | exact a2.1 | exact a3.1, by first | rfl | exact a0.2 | exact a1.2 | exact a2.2 | exact a3.2⟩
      · exact ⟨by first | rfl | exact a0.1 | exact a1.1 | exact a2.1 | exact a3.1, by first | rfl | exact a0.2 | exact a1.2 | exact a2.2 | exact a3.2⟩
      · exact ⟨by first | rfl | exact a0.1 | exact a1.1 | exact a2.1 | exact a3.1, by first | rfl | exact a0.2 | exact a1.2 | exact a2.2 | exact a3.2⟩
  · exact (show _ = kI σ 9 1 - 1 from rfl).trans (by rw [hs]; decide)
  · rw [kI_n (by omega), kI_n (by omega), kI_n (by omega), kI_n (by omega), kI_n (by omega), kI_n (by omega), kI_n (by omega)]
theorem kr_rem {N B t q j : Nat} {σ : kx_S} {μ : km_S} (h : kr N B 2 σ μ) (ht : t < 8) (hst : kI σ 10 t = 1) (hq : q < 2) (hj : 0 < j) (hj4 : j ≤ 4) (hs : kI σ 9 q = nI j) : ∃ R, xf_removeFirst σ q = (kI σ (7 + q) 0, R) ∧ kr N B q (sI R 15 t (kI σ (7 + q) 0)) (mrem μ q t) ∧ kI R 9 q = nI (j - 1) ∧ ∀ f k, 10 ≤ f → kI R f k = kI σ f k := by
  rcases (show q = 0 ∨ q = 1 by omega) with rfl | rfl
  · rcases (show j = 1 ∨ j = 2 ∨ j = 3 ∨ j = 4 by omega) with rfl | rfl | rfl | rfl
    · exact kr_rem_0_1 h ht hst hs
    · exact kr_rem_0_2 h ht hst hs
    · exact kr_rem_0_3 h ht hst hs
    · exact kr_rem_0_4 h ht hst hs
  · rcases (show j = 1 ∨ j = 2 ∨ j = 3 ∨ j = 4 by omega) with rfl | rfl | rfl | rfl
    · exact kr_rem_1_1 h ht hst hs
    · exact kr_rem_1_2 h ht hst hs
    · exact kr_rem_1_3 h ht hst hs
    · exact kr_rem_1_4 h ht hst hs
theorem xf_full {σ : kx_S} {k : Nat} (hk : k < 2) : xf_isFull σ k = (if kI σ 9 k = 4 then 1 else 0, σ) := by
  rcases (show k = 0 ∨ k = 1 by omega) with rfl | rfl
  · show xf_isFull_0 σ = _
    unfold xf_isFull_0
    split <;> rfl
  · show xf_isFull_1 σ = _
    unfold xf_isFull_1
    split <;> rfl
theorem xf_empty {σ : kx_S} {k : Nat} (hk : k < 2) : xf_isEmpty σ k = (if kI σ 9 k = 0 then 1 else 0, σ) := by
  rcases (show k = 0 ∨ k = 1 by omega) with rfl | rfl
  · show xf_isEmpty_0 σ = _
    unfold xf_isEmpty_0
    split <;> rfl
  · show xf_isEmpty_1 σ = _
    unfold xf_isEmpty_1
    split <;> rfl
theorem kk_i40 : ∀ k, k < 2 → (∀ m, m < 4 → ¬ 40 + nI k = 10 + nI m) ∧ (∀ m, m < 4 → ¬ 50 + nI k = 10 + nI m) ∧ ∀ q, q < 2 → (40 + nI k = 40 + nI q → k = q) ∧ (50 + nI k = 50 + nI q → k = q) ∧ ¬ 40 + nI k = 50 + nI q ∧ ¬ 50 + nI k = 40 + nI q := by decide +kernel
theorem mblock_msg (μ : km_S) {t : Nat} (ht : t < 8) (w d v y : Int32) (f i : Nat) : mI (sM (sM (mf_block μ (nI t) w d) 13 t v) 14 t y) f i = mI (mf_block (sM (sM μ 13 t v) 14 t y) (nI t) w d) f i := by
  rw [mI_sM, mI_sM, mblock_c μ ht, mblock_c _ ht]
  by_cases c : f = 14 ∧ i = t
  · obtain ⟨rfl, rfl⟩ := c
    simp [mI_sM]
  · rw [if_neg c]
    by_cases c2 : f = 13 ∧ i = t
    · obtain ⟨rfl, rfl⟩ := c2
      simp [mI_sM]
    · rw [if_neg c2]
      simp [mI_sM, c, c2]
theorem kr_ne {N B x : Nat} {σ : kx_S} {μ : km_S} {t : Nat} (h : kr N B x σ μ) (ht : t < 8) (hn : ¬ kI σ 16 t = 0) : kI σ 10 t = 2 := by
  by_cases c : kI σ 10 t = 2
  · exact c
  · exact absurd ((h.2.2.2.2.2 t ht).2.2.2.1 c) hn
theorem kr_send {N B : Nat} {σ : kx_S} {μ : km_S} (q rank value : Int32) (hN : N < 2 ^ 30) (h : kr N B 2 σ μ) : kr_ri (N + 1) B (xf_send σ q rank value) (mf_send μ q rank value) := by
  obtain ⟨o1, s1, e1⟩ : ∃ o1 s1, xf_runner σ = (o1, s1) := ⟨_, _, rfl⟩
  obtain ⟨r1, u1, e2⟩ : ∃ r1 u1, mf_running μ = (r1, u1) := ⟨_, _, rfl⟩
  obtain ⟨h1, -, ha⟩ := kr_run hN h e1 e2
  have no : kr_ri (N + 1) B ((-1 : Int32), s1) ((-1 : Int32), u1) := ⟨rfl, kr_mono (Nat.le_succ N) h1⟩
  rw [xf_send, mf_send, kk_b_eq e1, kk_b_eq e2]
  by_cases c : mf_out q 2 = 0
  · have c2 : ¬ xf_isBelow q 2 = 0 := fun z => (kk_bo q 2).mp z c
    rw [if_pos c]
    by_cases d : mf_out rank 10 = 0
    · have d2 : ¬ xf_isBelow rank 10 = 0 := fun z => (kk_bo rank 10).mp z d
      rw [if_pos d]
      rcases ha with ⟨rfl, rfl⟩ | ⟨t, ht, rfl, rfl, hs⟩
      · rw [kk_o_none, if_neg c2, if_neg d2, if_neg (show ¬ (0 : Int32) ≤ -1 by decide)]; exact no
      · obtain ⟨k, hk, rfl⟩ := vp_in_of (km_in (n := 2) (by decide) c) (by decide)
        obtain ⟨j, j1, j2, j3, -⟩ := h1.2.2.2.1 k hk
        have n0 : ¬ kI s1 10 t = 0 := by rw [hs]; decide
        rw [kk_o_some, if_neg c2, if_neg d2, if_pos (nI_pos' (by omega)), nI_clamp (n := k) (by omega), nI_clamp (n := t) (by omega), kk_b_eq (xf_full hk), j2, j3]
        by_cases g : j = 4
        · subst g
          rw [if_pos (show nI 4 = 4 from rfl), if_neg (show ¬ (1 : Int32) = 0 by decide), if_pos (show nI 4 = 4 from rfl), kk_v, kk_v]
          have h2 := kr_msg rank value h1 ht
          have h3 := kr_block (w := 40 + nI k) (d := 0) (D := 1000000000000) h2 ht (by rw [kI_sI, if_neg (by omega), kI_sI, if_neg (by omega)]; exact n0) (Or.inl ⟨rfl, rfl⟩) (fun m hm z => absurd z ((kk_i40 k hk).1 m hm)) (fun q hq _ => ⟨fun z => by
            obtain rfl := ((kk_i40 k hk).2.2 q hq).1 z
            rw [kI_sI, if_neg (by omega), kI_sI, if_neg (by omega), j2]; rfl, fun z => absurd z ((kk_i40 k hk).2.2 q hq).2.2.1⟩)
          exact ⟨rfl, kr_fr h3 (fun _ _ _ => rfl) (fun _ _ => rfl) (fun f i _ => mblock_msg u1 ht _ _ _ _ f i)⟩
        · have g4 : ¬ nI j = 4 := fun z => g ((nI_eq (a := j) (b := 4) (by omega) (by omega)).mp z)
          rw [if_neg g4, if_pos rfl, if_neg g4, kk_v, xf_arrive, nI_clamp (n := k) (by omega)]
          have h2 := kr_res 0 h1 ht (kr_on10 h1 ht hs)
          obtain ⟨o3, s3, e3⟩ : ∃ o3 s3, xf_firstWaiter (sI s1 15 t 0) (50 + nI k) = (o3, s3) := ⟨_, _, rfl⟩
          obtain ⟨r3, u3, e4⟩ : ∃ r3 u3, mf_firstWaiter (sM u1 11 t 0) (50 + nI k) = (r3, u3) := ⟨_, _, rfl⟩
          obtain ⟨h3, hb⟩ := kr_fw hN h2 e3 e4
          rw [kk_b_eq e3, kk_b_eq e4]
          rcases hb with ⟨rfl, rfl⟩ | ⟨t3, ht3, rfl, rfl, hs3, hon3⟩
          · rw [kk_o_none, if_neg (show ¬ (0 : Int32) ≤ -1 by decide), kk_v, kk_v]
            have sz : kI s3 9 k = nI j := by rw [xf_fw_fr e3 9 k (by decide), kI_sI, if_neg (by omega)]; exact j2
            obtain ⟨h4, z4, f4⟩ := kr_ins (j := j) rank value h3 (Or.inl rfl) hk (by omega) sz
            refine ⟨rfl, kr_mono (Nat.le_succ N) (kr_fromq h4 (fun t5 ht5 => ⟨fun z => ?_, fun z => ?_⟩))⟩
            · rw [f4 16 t5 (by decide)] at z
              have := (h3.2.2.2.2.1 t5 k ht5 hk (by omega)).1 z
              rw [sz] at this
              exact absurd this g4
            · rw [f4 16 t5 (by decide)] at z
              exact absurd ⟨kr_ne h3 ht5 (fun y => (kk_z40 hk).2 (by rw [← z]; exact y.symm)), z⟩ (xf_fw_none e3 t5 ht5)
          · rw [kk_o_some, if_pos (nI_pos' (by omega)), kk_v, kk_v, nI_clamp (n := t3) (by omega)]
            exact ⟨rfl, kr_ready h3 ht3 (by rw [hs3]; decide)⟩
    · rw [if_neg d]
      rcases ha with ⟨rfl, rfl⟩ | ⟨t, ht, rfl, rfl, hs⟩
      · rw [kk_o_none, if_neg c2, if_pos ((kk_bo rank 10).mpr d)]; exact no
      · rw [kk_o_some, if_neg c2, if_pos ((kk_bo rank 10).mpr d)]; exact no
  · rw [if_neg c]
    rcases ha with ⟨rfl, rfl⟩ | ⟨t, ht, rfl, rfl, hs⟩
    · rw [kk_o_none, if_pos ((kk_bo q 2).mpr c)]; exact no
    · rw [kk_o_some, if_pos ((kk_bo q 2).mpr c)]; exact no
theorem mf_rec_eq (μ : km_S) {k : Nat} (hk : k < 2) : mf_receive μ (nI k) = kk_b (mf_running μ) (fun r1 s1 => if 0 ≤ r1 then (if mI s1 19 k = 0 then kk_v (mf_block s1 r1 (50 + nI k) 0) (fun s5 => (1, s5)) else kk_b (mf_firstWaiter (mrem s1 k r1.toNatClampNeg) (40 + nI k)) (fun r2 s2 => if 0 ≤ r2 then kk_v (mf_comeIn s2 (nI k) (mI s2 13 r2.toNatClampNeg) (mI s2 14 r2.toNatClampNeg)) (fun s3 => kk_v (mf_ready (sM s3 11 r2.toNatClampNeg 0) r2) (fun s4 => (0, s4))) else (0, s2))) else ((-1), s1)) := by
  rcases (show k = 0 ∨ k = 1 by omega) with rfl | rfl
  · rw [mf_receive]
    simp only [show (mf_out (nI 0) 2 = 0) = True from eq_true (by decide), show (nI 0 = 0) = True from eq_true rfl, if_true]
    rfl
  · rw [mf_receive]
    simp only [show (mf_out (nI 1) 2 = 0) = True from eq_true (by decide), show (nI 1 = 0) = False from eq_false (by decide), if_true, if_false]
    rfl
theorem kr_receive {N B : Nat} {σ : kx_S} {μ : km_S} (q : Int32) (hN : N < 2 ^ 30) (h : kr N B 2 σ μ) : kr_ri (N + 1) B (xf_receive σ q) (mf_receive μ q) := by
  obtain ⟨o1, s1, e1⟩ : ∃ o1 s1, xf_runner σ = (o1, s1) := ⟨_, _, rfl⟩
  obtain ⟨r1, u1, e2⟩ : ∃ r1 u1, mf_running μ = (r1, u1) := ⟨_, _, rfl⟩
  obtain ⟨h1, -, ha⟩ := kr_run hN h e1 e2
  have no : kr_ri (N + 1) B ((-1 : Int32), s1) ((-1 : Int32), u1) := ⟨rfl, kr_mono (Nat.le_succ N) h1⟩
  by_cases c : mf_out q 2 = 0
  · have c2 : ¬ xf_isBelow q 2 = 0 := fun z => (kk_bo q 2).mp z c
    obtain ⟨k, hk, rfl⟩ := vp_in_of (km_in (n := 2) (by decide) c) (by decide)
    rw [xf_receive, mf_rec_eq μ hk, kk_b_eq e1, kk_b_eq e2]
    rcases ha with ⟨rfl, rfl⟩ | ⟨t, ht, rfl, rfl, hs⟩
    · rw [kk_o_none, if_neg c2, if_neg (show ¬ (0 : Int32) ≤ -1 by decide)]; exact no
    · obtain ⟨j, j1, j2, j3, -⟩ := h1.2.2.2.1 k hk
      have n0 : ¬ kI s1 10 t = 0 := by rw [hs]; decide
      rw [kk_o_some, if_neg c2, if_pos (nI_pos' (by omega)), nI_clamp (n := k) (by omega), nI_clamp (n := t) (by omega), kk_b_eq (xf_empty hk), j2, j3]
      rcases Nat.eq_zero_or_pos j with rfl | hj
      · rw [if_pos (show nI 0 = 0 from rfl), if_neg (show ¬ (1 : Int32) = 0 by decide), if_pos (show nI 0 = 0 from rfl), kk_v, kk_v]
        exact ⟨rfl, kr_block h1 ht n0 (Or.inl ⟨rfl, rfl⟩) (fun m hm z => absurd z ((kk_i40 k hk).2.1 m hm)) (fun q hq _ => ⟨fun z => absurd z ((kk_i40 k hk).2.2 q hq).2.2.2, fun z => by
          obtain rfl := ((kk_i40 k hk).2.2 q hq).2.1 z
          rw [j2]; rfl⟩)⟩
      · have g0 : ¬ nI j = 0 := nI_ne0 hj (by omega)
        obtain ⟨R, eR, h2, zR, fR⟩ := kr_rem h1 ht hs hk hj j1 j2
        rw [if_neg g0, if_pos rfl, if_neg g0, kk_b_eq eR]
        obtain ⟨o4, s4, e3⟩ : ∃ o4 s4, xf_firstWaiter (sI R 15 t (kI s1 (7 + k) 0)) (40 + nI k) = (o4, s4) := ⟨_, _, rfl⟩
        obtain ⟨r4, u4, e4⟩ : ∃ r4 u4, mf_firstWaiter (mrem u1 k t) (40 + nI k) = (r4, u4) := ⟨_, _, rfl⟩
        obtain ⟨h4, hb⟩ := kr_fw hN h2 e3 e4
        rw [kk_b_eq e3, kk_b_eq e4]
        have f4 : ∀ a, kI s4 16 a = kI s1 16 a := fun a => by rw [xf_fw_fr e3 16 a (by decide), kI_sI, if_neg (by omega), fR 16 a (by decide)]
        have no50 : ∀ a, a < 8 → ¬ kI s1 16 a = 50 + nI k := fun a ha8 z => by
          have := (h1.2.2.2.2.1 a k ha8 hk (by omega)).2 z
          rw [j2] at this
          exact g0 this
        rcases hb with ⟨rfl, rfl⟩ | ⟨t4, ht4, rfl, rfl, hs4, hon4⟩
        · rw [kk_o_none, if_neg (show ¬ (0 : Int32) ≤ -1 by decide)]
          refine ⟨rfl, kr_mono (Nat.le_succ N) (kr_fromq h4 (fun a ha8 => ⟨fun z => ?_, fun z => ?_⟩))⟩
          · exact absurd ⟨kr_ne h4 ha8 (fun y => (kk_z40 hk).1 (by rw [← z]; exact y.symm)), z⟩ (xf_fw_none e3 a ha8)
          · rw [f4] at z; exact absurd z (no50 a ha8)
        · have j4 : j = 4 := by
            rw [f4] at hon4
            have := (h1.2.2.2.2.1 t4 k ht4 hk (by omega)).1 hon4
            rw [j2] at this
            exact (nI_eq (a := j) (b := 4) (by omega) (by omega)).mp this
          rw [kk_o_some, if_pos (nI_pos' (by omega)), nI_clamp (n := t4) (by omega), kk_v, kk_v, kk_v, kk_v, xf_arrive, nI_clamp (n := k) (by omega)]
          obtain ⟨o5, s5, e5⟩ : ∃ o5 s5, xf_firstWaiter s4 (50 + nI k) = (o5, s5) := ⟨_, _, rfl⟩
          obtain ⟨r5, u5, e6⟩ : ∃ r5 u5, mf_firstWaiter u4 (50 + nI k) = (r5, u5) := ⟨_, _, rfl⟩
          obtain ⟨-, hc⟩ := kr_fw hN h4 e5 e6
          have h5 : kr N B k s5 u4 := kr_fr h4 (fun f i hf => xf_fw_fr e5 f i hf) (fun f i => by rw [xf_fw_st e5]; exact (xf_work_fr s4 f i).2) (fun _ _ _ => rfl)
          rw [kk_b_eq e5]
          rcases hc with ⟨rfl, -⟩ | ⟨t5, ht5, -, -, hs5, hon5⟩
          · rw [kk_o_none, kk_v]
            have T4 := h4.2.2.2.2.2 t4 ht4
            rw [← T4.1.2.2.2.2.2.1, ← T4.1.2.2.2.2.2.2]
            have sz : kI s5 9 k = nI 3 := by rw [xf_fw_fr e5 9 k (by decide), xf_fw_fr e3 9 k (by decide), kI_sI, if_neg (by omega), zR, j4]
            obtain ⟨h6, z6, f6⟩ := kr_ins (j := 3) (kI s4 19 t4) (kI s4 20 t4) h5 (Or.inr rfl) hk (by decide) sz
            have h7 := kr_ready (res := 0) h6 ht4 (by rw [f6 10 t4 (by decide), xf_fw_fr e5 10 t4 (by decide), hs4]; decide)
            refine ⟨rfl, kr_fromq h7 (fun a ha8 => ⟨fun _ => ?_, fun z => ?_⟩)⟩
            · rw [xready_I, if_neg (by omega), if_neg (by omega), if_neg (by omega), if_neg (by omega), z6]; rfl
            · rw [xready_I, if_neg (by omega), if_neg (by omega)] at z
              by_cases y : a = t4
              · rw [if_pos ⟨rfl, y⟩] at z; exact absurd z (kk_z40 hk).2
              · rw [if_neg (fun w => y w.2), if_neg (by omega), f6 16 a (by decide), xf_fw_fr e5 16 a (by decide), f4] at z
                exact absurd z (no50 a ha8)
          · rw [xf_fw_fr e5 16 t5 (by decide), f4] at hon5
            exact absurd hon5 (no50 t5 ht5)
  · rw [xf_receive, mf_receive, kk_b_eq e1, kk_b_eq e2, if_neg c]
    rcases ha with ⟨rfl, rfl⟩ | ⟨t, ht, rfl, rfl, hs⟩
    · rw [kk_o_none, if_pos ((kk_bo q 2).mpr c)]; exact no
    · rw [kk_o_some, if_pos ((kk_bo q 2).mpr c)]; exact no
