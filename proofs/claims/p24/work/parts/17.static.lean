section
/-! What stands fixed behind the constructors: shapes of the first 176 cells, final references. -/
def hs_L : List (Nat × Nat) := [(11, 0), (8, 0), (103, 16), (5, 0), (5, 0), (5, 0), (5, 0), (5, 0), (5, 0), (5, 0), (5, 0), (5, 0), (5, 0), (5, 0), (5, 0), (5, 0), (5, 0), (5, 0), (5, 0), (100, 1000), (100, 64), (100, 4), (104, 0), (1, 0), (101, 32), (100, 4096), (106, 16), (100, 0), (100, 0), (100, 0), (100, 0), (100, 0), (100, 0), (100, 0), (100, 0), (100, 0), (100, 0), (100, 0), (100, 0), (100, 0), (100, 0), (100, 0), (100, 0), (106, 4), (100, 0), (100, 0), (100, 0), (100, 0), (9, 0), (9, 0), (101, 128), (5, 0), (8, 0), (103, 16), (5, 0), (5, 0), (5, 0), (5, 0), (5, 0), (5, 0), (5, 0), (5, 0), (5, 0), (5, 0), (5, 0), (5, 0), (5, 0), (5, 0), (5, 0), (5, 0), (101, 128), (5, 0), (8, 0), (103, 16), (5, 0), (5, 0), (5, 0), (5, 0), (5, 0), (5, 0), (5, 0), (5, 0), (5, 0), (5, 0), (5, 0), (5, 0), (5, 0), (5, 0), (5, 0), (5, 0), (2, 0), (8, 0), (103, 16), (5, 0), (5, 0), (5, 0), (5, 0), (5, 0), (5, 0), (5, 0), (5, 0), (5, 0), (5, 0), (5, 0), (5, 0), (5, 0), (5, 0), (5, 0), (5, 0), (5, 0), (4, 0), (7, 0), (100, 1001), (101, 1001), (100, 1001), (100, 1001), (100, 0), (100, 64), (104, 0), (0, 0), (100, 600), (12, 0), (101, 32), (100, 4096), (100, 19200), (100, 32), (100, 1000), (101, 256), (100, 2), (100, 2), (100, 32), (101, 32), (100, 32), (100, 32), (100, 32), (100, 2), (100, 2), (101, 2), (100, 2), (100, 16), (100, 16), (100, 16), (100, 2), (100, 16), (101, 16), (100, 16), (100, 16), (100, 9600), (100, 64), (100, 1002), (101, 1002), (100, 1002), (100, 1002), (101, 1002), (100, 4000), (101, 12), (100, 12), (100, 12), (101, 12), (100, 12), (100, 12), (100, 13), (100, 12), (102, 12), (100, 4000), (100, 256), (100, 256), (100, 256), (100, 256), (100, 8), (101, 8), (100, 8), (100, 512), (101, 512), (102, 256), (102, 256)]
def h_S (n : Nat) (SH : Nat → Nat × Nat) : Prop := 176 ≤ n ∧ ∀ q, q < 176 → SH q = hs_L.getD q (0, 0)
theorem c0 {n : Nat} {SH : Nat → Nat × Nat} (h : h_S n SH) : 0 < n := Nat.lt_of_lt_of_le (by decide) h.1
theorem s0 {n : Nat} {SH : Nat → Nat × Nat} (h : h_S n SH) : SH 0 = (11, 0) := h.2 0 (by decide)
theorem c1 {n : Nat} {SH : Nat → Nat × Nat} (h : h_S n SH) : 1 < n := Nat.lt_of_lt_of_le (by decide) h.1
theorem s1 {n : Nat} {SH : Nat → Nat × Nat} (h : h_S n SH) : SH 1 = (8, 0) := h.2 1 (by decide)
theorem c2 {n : Nat} {SH : Nat → Nat × Nat} (h : h_S n SH) : 2 < n := Nat.lt_of_lt_of_le (by decide) h.1
theorem s2 {n : Nat} {SH : Nat → Nat × Nat} (h : h_S n SH) : SH 2 = (103, 16) := h.2 2 (by decide)
theorem c3 {n : Nat} {SH : Nat → Nat × Nat} (h : h_S n SH) : 3 < n := Nat.lt_of_lt_of_le (by decide) h.1
theorem s3 {n : Nat} {SH : Nat → Nat × Nat} (h : h_S n SH) : SH 3 = (5, 0) := h.2 3 (by decide)
theorem c4 {n : Nat} {SH : Nat → Nat × Nat} (h : h_S n SH) : 4 < n := Nat.lt_of_lt_of_le (by decide) h.1
theorem s4 {n : Nat} {SH : Nat → Nat × Nat} (h : h_S n SH) : SH 4 = (5, 0) := h.2 4 (by decide)
theorem c5 {n : Nat} {SH : Nat → Nat × Nat} (h : h_S n SH) : 5 < n := Nat.lt_of_lt_of_le (by decide) h.1
theorem s5 {n : Nat} {SH : Nat → Nat × Nat} (h : h_S n SH) : SH 5 = (5, 0) := h.2 5 (by decide)
theorem c6 {n : Nat} {SH : Nat → Nat × Nat} (h : h_S n SH) : 6 < n := Nat.lt_of_lt_of_le (by decide) h.1
theorem s6 {n : Nat} {SH : Nat → Nat × Nat} (h : h_S n SH) : SH 6 = (5, 0) := h.2 6 (by decide)
theorem c7 {n : Nat} {SH : Nat → Nat × Nat} (h : h_S n SH) : 7 < n := Nat.lt_of_lt_of_le (by decide) h.1
theorem s7 {n : Nat} {SH : Nat → Nat × Nat} (h : h_S n SH) : SH 7 = (5, 0) := h.2 7 (by decide)
theorem c8 {n : Nat} {SH : Nat → Nat × Nat} (h : h_S n SH) : 8 < n := Nat.lt_of_lt_of_le (by decide) h.1
theorem s8 {n : Nat} {SH : Nat → Nat × Nat} (h : h_S n SH) : SH 8 = (5, 0) := h.2 8 (by decide)
theorem c9 {n : Nat} {SH : Nat → Nat × Nat} (h : h_S n SH) : 9 < n := Nat.lt_of_lt_of_le (by decide) h.1
theorem s9 {n : Nat} {SH : Nat → Nat × Nat} (h : h_S n SH) : SH 9 = (5, 0) := h.2 9 (by decide)
theorem c10 {n : Nat} {SH : Nat → Nat × Nat} (h : h_S n SH) : 10 < n := Nat.lt_of_lt_of_le (by decide) h.1
theorem s10 {n : Nat} {SH : Nat → Nat × Nat} (h : h_S n SH) : SH 10 = (5, 0) := h.2 10 (by decide)
theorem c11 {n : Nat} {SH : Nat → Nat × Nat} (h : h_S n SH) : 11 < n := Nat.lt_of_lt_of_le (by decide) h.1
theorem s11 {n : Nat} {SH : Nat → Nat × Nat} (h : h_S n SH) : SH 11 = (5, 0) := h.2 11 (by decide)
theorem c12 {n : Nat} {SH : Nat → Nat × Nat} (h : h_S n SH) : 12 < n := Nat.lt_of_lt_of_le (by decide) h.1
theorem s12 {n : Nat} {SH : Nat → Nat × Nat} (h : h_S n SH) : SH 12 = (5, 0) := h.2 12 (by decide)
theorem c13 {n : Nat} {SH : Nat → Nat × Nat} (h : h_S n SH) : 13 < n := Nat.lt_of_lt_of_le (by decide) h.1
theorem s13 {n : Nat} {SH : Nat → Nat × Nat} (h : h_S n SH) : SH 13 = (5, 0) := h.2 13 (by decide)
theorem c14 {n : Nat} {SH : Nat → Nat × Nat} (h : h_S n SH) : 14 < n := Nat.lt_of_lt_of_le (by decide) h.1
theorem s14 {n : Nat} {SH : Nat → Nat × Nat} (h : h_S n SH) : SH 14 = (5, 0) := h.2 14 (by decide)
theorem c15 {n : Nat} {SH : Nat → Nat × Nat} (h : h_S n SH) : 15 < n := Nat.lt_of_lt_of_le (by decide) h.1
theorem s15 {n : Nat} {SH : Nat → Nat × Nat} (h : h_S n SH) : SH 15 = (5, 0) := h.2 15 (by decide)
theorem c16 {n : Nat} {SH : Nat → Nat × Nat} (h : h_S n SH) : 16 < n := Nat.lt_of_lt_of_le (by decide) h.1
theorem s16 {n : Nat} {SH : Nat → Nat × Nat} (h : h_S n SH) : SH 16 = (5, 0) := h.2 16 (by decide)
theorem c17 {n : Nat} {SH : Nat → Nat × Nat} (h : h_S n SH) : 17 < n := Nat.lt_of_lt_of_le (by decide) h.1
theorem s17 {n : Nat} {SH : Nat → Nat × Nat} (h : h_S n SH) : SH 17 = (5, 0) := h.2 17 (by decide)
theorem c18 {n : Nat} {SH : Nat → Nat × Nat} (h : h_S n SH) : 18 < n := Nat.lt_of_lt_of_le (by decide) h.1
theorem s18 {n : Nat} {SH : Nat → Nat × Nat} (h : h_S n SH) : SH 18 = (5, 0) := h.2 18 (by decide)
theorem c19 {n : Nat} {SH : Nat → Nat × Nat} (h : h_S n SH) : 19 < n := Nat.lt_of_lt_of_le (by decide) h.1
theorem s19 {n : Nat} {SH : Nat → Nat × Nat} (h : h_S n SH) : SH 19 = (100, 1000) := h.2 19 (by decide)
theorem c20 {n : Nat} {SH : Nat → Nat × Nat} (h : h_S n SH) : 20 < n := Nat.lt_of_lt_of_le (by decide) h.1
theorem s20 {n : Nat} {SH : Nat → Nat × Nat} (h : h_S n SH) : SH 20 = (100, 64) := h.2 20 (by decide)
theorem c21 {n : Nat} {SH : Nat → Nat × Nat} (h : h_S n SH) : 21 < n := Nat.lt_of_lt_of_le (by decide) h.1
theorem s21 {n : Nat} {SH : Nat → Nat × Nat} (h : h_S n SH) : SH 21 = (100, 4) := h.2 21 (by decide)
theorem c22 {n : Nat} {SH : Nat → Nat × Nat} (h : h_S n SH) : 22 < n := Nat.lt_of_lt_of_le (by decide) h.1
theorem s22 {n : Nat} {SH : Nat → Nat × Nat} (h : h_S n SH) : SH 22 = (104, 0) := h.2 22 (by decide)
theorem c23 {n : Nat} {SH : Nat → Nat × Nat} (h : h_S n SH) : 23 < n := Nat.lt_of_lt_of_le (by decide) h.1
theorem s23 {n : Nat} {SH : Nat → Nat × Nat} (h : h_S n SH) : SH 23 = (1, 0) := h.2 23 (by decide)
theorem c24 {n : Nat} {SH : Nat → Nat × Nat} (h : h_S n SH) : 24 < n := Nat.lt_of_lt_of_le (by decide) h.1
theorem s24 {n : Nat} {SH : Nat → Nat × Nat} (h : h_S n SH) : SH 24 = (101, 32) := h.2 24 (by decide)
theorem c25 {n : Nat} {SH : Nat → Nat × Nat} (h : h_S n SH) : 25 < n := Nat.lt_of_lt_of_le (by decide) h.1
theorem s25 {n : Nat} {SH : Nat → Nat × Nat} (h : h_S n SH) : SH 25 = (100, 4096) := h.2 25 (by decide)
theorem c26 {n : Nat} {SH : Nat → Nat × Nat} (h : h_S n SH) : 26 < n := Nat.lt_of_lt_of_le (by decide) h.1
theorem s26 {n : Nat} {SH : Nat → Nat × Nat} (h : h_S n SH) : SH 26 = (106, 16) := h.2 26 (by decide)
theorem c27 {n : Nat} {SH : Nat → Nat × Nat} (h : h_S n SH) : 27 < n := Nat.lt_of_lt_of_le (by decide) h.1
theorem s27 {n : Nat} {SH : Nat → Nat × Nat} (h : h_S n SH) : SH 27 = (100, 0) := h.2 27 (by decide)
theorem c28 {n : Nat} {SH : Nat → Nat × Nat} (h : h_S n SH) : 28 < n := Nat.lt_of_lt_of_le (by decide) h.1
theorem s28 {n : Nat} {SH : Nat → Nat × Nat} (h : h_S n SH) : SH 28 = (100, 0) := h.2 28 (by decide)
theorem c29 {n : Nat} {SH : Nat → Nat × Nat} (h : h_S n SH) : 29 < n := Nat.lt_of_lt_of_le (by decide) h.1
theorem s29 {n : Nat} {SH : Nat → Nat × Nat} (h : h_S n SH) : SH 29 = (100, 0) := h.2 29 (by decide)
theorem c30 {n : Nat} {SH : Nat → Nat × Nat} (h : h_S n SH) : 30 < n := Nat.lt_of_lt_of_le (by decide) h.1
theorem s30 {n : Nat} {SH : Nat → Nat × Nat} (h : h_S n SH) : SH 30 = (100, 0) := h.2 30 (by decide)
theorem c31 {n : Nat} {SH : Nat → Nat × Nat} (h : h_S n SH) : 31 < n := Nat.lt_of_lt_of_le (by decide) h.1
theorem s31 {n : Nat} {SH : Nat → Nat × Nat} (h : h_S n SH) : SH 31 = (100, 0) := h.2 31 (by decide)
theorem c32 {n : Nat} {SH : Nat → Nat × Nat} (h : h_S n SH) : 32 < n := Nat.lt_of_lt_of_le (by decide) h.1
theorem s32 {n : Nat} {SH : Nat → Nat × Nat} (h : h_S n SH) : SH 32 = (100, 0) := h.2 32 (by decide)
theorem c33 {n : Nat} {SH : Nat → Nat × Nat} (h : h_S n SH) : 33 < n := Nat.lt_of_lt_of_le (by decide) h.1
theorem s33 {n : Nat} {SH : Nat → Nat × Nat} (h : h_S n SH) : SH 33 = (100, 0) := h.2 33 (by decide)
theorem c34 {n : Nat} {SH : Nat → Nat × Nat} (h : h_S n SH) : 34 < n := Nat.lt_of_lt_of_le (by decide) h.1
theorem s34 {n : Nat} {SH : Nat → Nat × Nat} (h : h_S n SH) : SH 34 = (100, 0) := h.2 34 (by decide)
theorem c35 {n : Nat} {SH : Nat → Nat × Nat} (h : h_S n SH) : 35 < n := Nat.lt_of_lt_of_le (by decide) h.1
theorem s35 {n : Nat} {SH : Nat → Nat × Nat} (h : h_S n SH) : SH 35 = (100, 0) := h.2 35 (by decide)
theorem c36 {n : Nat} {SH : Nat → Nat × Nat} (h : h_S n SH) : 36 < n := Nat.lt_of_lt_of_le (by decide) h.1
theorem s36 {n : Nat} {SH : Nat → Nat × Nat} (h : h_S n SH) : SH 36 = (100, 0) := h.2 36 (by decide)
theorem c37 {n : Nat} {SH : Nat → Nat × Nat} (h : h_S n SH) : 37 < n := Nat.lt_of_lt_of_le (by decide) h.1
theorem s37 {n : Nat} {SH : Nat → Nat × Nat} (h : h_S n SH) : SH 37 = (100, 0) := h.2 37 (by decide)
theorem c38 {n : Nat} {SH : Nat → Nat × Nat} (h : h_S n SH) : 38 < n := Nat.lt_of_lt_of_le (by decide) h.1
theorem s38 {n : Nat} {SH : Nat → Nat × Nat} (h : h_S n SH) : SH 38 = (100, 0) := h.2 38 (by decide)
theorem c39 {n : Nat} {SH : Nat → Nat × Nat} (h : h_S n SH) : 39 < n := Nat.lt_of_lt_of_le (by decide) h.1
theorem s39 {n : Nat} {SH : Nat → Nat × Nat} (h : h_S n SH) : SH 39 = (100, 0) := h.2 39 (by decide)
theorem c40 {n : Nat} {SH : Nat → Nat × Nat} (h : h_S n SH) : 40 < n := Nat.lt_of_lt_of_le (by decide) h.1
theorem s40 {n : Nat} {SH : Nat → Nat × Nat} (h : h_S n SH) : SH 40 = (100, 0) := h.2 40 (by decide)
theorem c41 {n : Nat} {SH : Nat → Nat × Nat} (h : h_S n SH) : 41 < n := Nat.lt_of_lt_of_le (by decide) h.1
theorem s41 {n : Nat} {SH : Nat → Nat × Nat} (h : h_S n SH) : SH 41 = (100, 0) := h.2 41 (by decide)
theorem c42 {n : Nat} {SH : Nat → Nat × Nat} (h : h_S n SH) : 42 < n := Nat.lt_of_lt_of_le (by decide) h.1
theorem s42 {n : Nat} {SH : Nat → Nat × Nat} (h : h_S n SH) : SH 42 = (100, 0) := h.2 42 (by decide)
theorem c43 {n : Nat} {SH : Nat → Nat × Nat} (h : h_S n SH) : 43 < n := Nat.lt_of_lt_of_le (by decide) h.1
theorem s43 {n : Nat} {SH : Nat → Nat × Nat} (h : h_S n SH) : SH 43 = (106, 4) := h.2 43 (by decide)
theorem c44 {n : Nat} {SH : Nat → Nat × Nat} (h : h_S n SH) : 44 < n := Nat.lt_of_lt_of_le (by decide) h.1
theorem s44 {n : Nat} {SH : Nat → Nat × Nat} (h : h_S n SH) : SH 44 = (100, 0) := h.2 44 (by decide)
theorem c45 {n : Nat} {SH : Nat → Nat × Nat} (h : h_S n SH) : 45 < n := Nat.lt_of_lt_of_le (by decide) h.1
theorem s45 {n : Nat} {SH : Nat → Nat × Nat} (h : h_S n SH) : SH 45 = (100, 0) := h.2 45 (by decide)
theorem c46 {n : Nat} {SH : Nat → Nat × Nat} (h : h_S n SH) : 46 < n := Nat.lt_of_lt_of_le (by decide) h.1
theorem s46 {n : Nat} {SH : Nat → Nat × Nat} (h : h_S n SH) : SH 46 = (100, 0) := h.2 46 (by decide)
theorem c47 {n : Nat} {SH : Nat → Nat × Nat} (h : h_S n SH) : 47 < n := Nat.lt_of_lt_of_le (by decide) h.1
theorem s47 {n : Nat} {SH : Nat → Nat × Nat} (h : h_S n SH) : SH 47 = (100, 0) := h.2 47 (by decide)
theorem c48 {n : Nat} {SH : Nat → Nat × Nat} (h : h_S n SH) : 48 < n := Nat.lt_of_lt_of_le (by decide) h.1
theorem s48 {n : Nat} {SH : Nat → Nat × Nat} (h : h_S n SH) : SH 48 = (9, 0) := h.2 48 (by decide)
theorem c49 {n : Nat} {SH : Nat → Nat × Nat} (h : h_S n SH) : 49 < n := Nat.lt_of_lt_of_le (by decide) h.1
theorem s49 {n : Nat} {SH : Nat → Nat × Nat} (h : h_S n SH) : SH 49 = (9, 0) := h.2 49 (by decide)
theorem c50 {n : Nat} {SH : Nat → Nat × Nat} (h : h_S n SH) : 50 < n := Nat.lt_of_lt_of_le (by decide) h.1
theorem s50 {n : Nat} {SH : Nat → Nat × Nat} (h : h_S n SH) : SH 50 = (101, 128) := h.2 50 (by decide)
theorem c51 {n : Nat} {SH : Nat → Nat × Nat} (h : h_S n SH) : 51 < n := Nat.lt_of_lt_of_le (by decide) h.1
theorem s51 {n : Nat} {SH : Nat → Nat × Nat} (h : h_S n SH) : SH 51 = (5, 0) := h.2 51 (by decide)
theorem c52 {n : Nat} {SH : Nat → Nat × Nat} (h : h_S n SH) : 52 < n := Nat.lt_of_lt_of_le (by decide) h.1
theorem s52 {n : Nat} {SH : Nat → Nat × Nat} (h : h_S n SH) : SH 52 = (8, 0) := h.2 52 (by decide)
theorem c53 {n : Nat} {SH : Nat → Nat × Nat} (h : h_S n SH) : 53 < n := Nat.lt_of_lt_of_le (by decide) h.1
theorem s53 {n : Nat} {SH : Nat → Nat × Nat} (h : h_S n SH) : SH 53 = (103, 16) := h.2 53 (by decide)
theorem c54 {n : Nat} {SH : Nat → Nat × Nat} (h : h_S n SH) : 54 < n := Nat.lt_of_lt_of_le (by decide) h.1
theorem s54 {n : Nat} {SH : Nat → Nat × Nat} (h : h_S n SH) : SH 54 = (5, 0) := h.2 54 (by decide)
theorem c55 {n : Nat} {SH : Nat → Nat × Nat} (h : h_S n SH) : 55 < n := Nat.lt_of_lt_of_le (by decide) h.1
theorem s55 {n : Nat} {SH : Nat → Nat × Nat} (h : h_S n SH) : SH 55 = (5, 0) := h.2 55 (by decide)
theorem c56 {n : Nat} {SH : Nat → Nat × Nat} (h : h_S n SH) : 56 < n := Nat.lt_of_lt_of_le (by decide) h.1
theorem s56 {n : Nat} {SH : Nat → Nat × Nat} (h : h_S n SH) : SH 56 = (5, 0) := h.2 56 (by decide)
theorem c57 {n : Nat} {SH : Nat → Nat × Nat} (h : h_S n SH) : 57 < n := Nat.lt_of_lt_of_le (by decide) h.1
theorem s57 {n : Nat} {SH : Nat → Nat × Nat} (h : h_S n SH) : SH 57 = (5, 0) := h.2 57 (by decide)
theorem c58 {n : Nat} {SH : Nat → Nat × Nat} (h : h_S n SH) : 58 < n := Nat.lt_of_lt_of_le (by decide) h.1
theorem s58 {n : Nat} {SH : Nat → Nat × Nat} (h : h_S n SH) : SH 58 = (5, 0) := h.2 58 (by decide)
theorem c59 {n : Nat} {SH : Nat → Nat × Nat} (h : h_S n SH) : 59 < n := Nat.lt_of_lt_of_le (by decide) h.1
theorem s59 {n : Nat} {SH : Nat → Nat × Nat} (h : h_S n SH) : SH 59 = (5, 0) := h.2 59 (by decide)
theorem c60 {n : Nat} {SH : Nat → Nat × Nat} (h : h_S n SH) : 60 < n := Nat.lt_of_lt_of_le (by decide) h.1
theorem s60 {n : Nat} {SH : Nat → Nat × Nat} (h : h_S n SH) : SH 60 = (5, 0) := h.2 60 (by decide)
theorem c61 {n : Nat} {SH : Nat → Nat × Nat} (h : h_S n SH) : 61 < n := Nat.lt_of_lt_of_le (by decide) h.1
theorem s61 {n : Nat} {SH : Nat → Nat × Nat} (h : h_S n SH) : SH 61 = (5, 0) := h.2 61 (by decide)
theorem c62 {n : Nat} {SH : Nat → Nat × Nat} (h : h_S n SH) : 62 < n := Nat.lt_of_lt_of_le (by decide) h.1
theorem s62 {n : Nat} {SH : Nat → Nat × Nat} (h : h_S n SH) : SH 62 = (5, 0) := h.2 62 (by decide)
theorem c63 {n : Nat} {SH : Nat → Nat × Nat} (h : h_S n SH) : 63 < n := Nat.lt_of_lt_of_le (by decide) h.1
theorem s63 {n : Nat} {SH : Nat → Nat × Nat} (h : h_S n SH) : SH 63 = (5, 0) := h.2 63 (by decide)
theorem c64 {n : Nat} {SH : Nat → Nat × Nat} (h : h_S n SH) : 64 < n := Nat.lt_of_lt_of_le (by decide) h.1
theorem s64 {n : Nat} {SH : Nat → Nat × Nat} (h : h_S n SH) : SH 64 = (5, 0) := h.2 64 (by decide)
theorem c65 {n : Nat} {SH : Nat → Nat × Nat} (h : h_S n SH) : 65 < n := Nat.lt_of_lt_of_le (by decide) h.1
theorem s65 {n : Nat} {SH : Nat → Nat × Nat} (h : h_S n SH) : SH 65 = (5, 0) := h.2 65 (by decide)
theorem c66 {n : Nat} {SH : Nat → Nat × Nat} (h : h_S n SH) : 66 < n := Nat.lt_of_lt_of_le (by decide) h.1
theorem s66 {n : Nat} {SH : Nat → Nat × Nat} (h : h_S n SH) : SH 66 = (5, 0) := h.2 66 (by decide)
theorem c67 {n : Nat} {SH : Nat → Nat × Nat} (h : h_S n SH) : 67 < n := Nat.lt_of_lt_of_le (by decide) h.1
theorem s67 {n : Nat} {SH : Nat → Nat × Nat} (h : h_S n SH) : SH 67 = (5, 0) := h.2 67 (by decide)
theorem c68 {n : Nat} {SH : Nat → Nat × Nat} (h : h_S n SH) : 68 < n := Nat.lt_of_lt_of_le (by decide) h.1
theorem s68 {n : Nat} {SH : Nat → Nat × Nat} (h : h_S n SH) : SH 68 = (5, 0) := h.2 68 (by decide)
theorem c69 {n : Nat} {SH : Nat → Nat × Nat} (h : h_S n SH) : 69 < n := Nat.lt_of_lt_of_le (by decide) h.1
theorem s69 {n : Nat} {SH : Nat → Nat × Nat} (h : h_S n SH) : SH 69 = (5, 0) := h.2 69 (by decide)
theorem c70 {n : Nat} {SH : Nat → Nat × Nat} (h : h_S n SH) : 70 < n := Nat.lt_of_lt_of_le (by decide) h.1
theorem s70 {n : Nat} {SH : Nat → Nat × Nat} (h : h_S n SH) : SH 70 = (101, 128) := h.2 70 (by decide)
theorem c71 {n : Nat} {SH : Nat → Nat × Nat} (h : h_S n SH) : 71 < n := Nat.lt_of_lt_of_le (by decide) h.1
theorem s71 {n : Nat} {SH : Nat → Nat × Nat} (h : h_S n SH) : SH 71 = (5, 0) := h.2 71 (by decide)
theorem c72 {n : Nat} {SH : Nat → Nat × Nat} (h : h_S n SH) : 72 < n := Nat.lt_of_lt_of_le (by decide) h.1
theorem s72 {n : Nat} {SH : Nat → Nat × Nat} (h : h_S n SH) : SH 72 = (8, 0) := h.2 72 (by decide)
theorem c73 {n : Nat} {SH : Nat → Nat × Nat} (h : h_S n SH) : 73 < n := Nat.lt_of_lt_of_le (by decide) h.1
theorem s73 {n : Nat} {SH : Nat → Nat × Nat} (h : h_S n SH) : SH 73 = (103, 16) := h.2 73 (by decide)
theorem c74 {n : Nat} {SH : Nat → Nat × Nat} (h : h_S n SH) : 74 < n := Nat.lt_of_lt_of_le (by decide) h.1
theorem s74 {n : Nat} {SH : Nat → Nat × Nat} (h : h_S n SH) : SH 74 = (5, 0) := h.2 74 (by decide)
theorem c75 {n : Nat} {SH : Nat → Nat × Nat} (h : h_S n SH) : 75 < n := Nat.lt_of_lt_of_le (by decide) h.1
theorem s75 {n : Nat} {SH : Nat → Nat × Nat} (h : h_S n SH) : SH 75 = (5, 0) := h.2 75 (by decide)
theorem c76 {n : Nat} {SH : Nat → Nat × Nat} (h : h_S n SH) : 76 < n := Nat.lt_of_lt_of_le (by decide) h.1
theorem s76 {n : Nat} {SH : Nat → Nat × Nat} (h : h_S n SH) : SH 76 = (5, 0) := h.2 76 (by decide)
theorem c77 {n : Nat} {SH : Nat → Nat × Nat} (h : h_S n SH) : 77 < n := Nat.lt_of_lt_of_le (by decide) h.1
theorem s77 {n : Nat} {SH : Nat → Nat × Nat} (h : h_S n SH) : SH 77 = (5, 0) := h.2 77 (by decide)
theorem c78 {n : Nat} {SH : Nat → Nat × Nat} (h : h_S n SH) : 78 < n := Nat.lt_of_lt_of_le (by decide) h.1
theorem s78 {n : Nat} {SH : Nat → Nat × Nat} (h : h_S n SH) : SH 78 = (5, 0) := h.2 78 (by decide)
theorem c79 {n : Nat} {SH : Nat → Nat × Nat} (h : h_S n SH) : 79 < n := Nat.lt_of_lt_of_le (by decide) h.1
theorem s79 {n : Nat} {SH : Nat → Nat × Nat} (h : h_S n SH) : SH 79 = (5, 0) := h.2 79 (by decide)
theorem c80 {n : Nat} {SH : Nat → Nat × Nat} (h : h_S n SH) : 80 < n := Nat.lt_of_lt_of_le (by decide) h.1
theorem s80 {n : Nat} {SH : Nat → Nat × Nat} (h : h_S n SH) : SH 80 = (5, 0) := h.2 80 (by decide)
theorem c81 {n : Nat} {SH : Nat → Nat × Nat} (h : h_S n SH) : 81 < n := Nat.lt_of_lt_of_le (by decide) h.1
theorem s81 {n : Nat} {SH : Nat → Nat × Nat} (h : h_S n SH) : SH 81 = (5, 0) := h.2 81 (by decide)
theorem c82 {n : Nat} {SH : Nat → Nat × Nat} (h : h_S n SH) : 82 < n := Nat.lt_of_lt_of_le (by decide) h.1
theorem s82 {n : Nat} {SH : Nat → Nat × Nat} (h : h_S n SH) : SH 82 = (5, 0) := h.2 82 (by decide)
theorem c83 {n : Nat} {SH : Nat → Nat × Nat} (h : h_S n SH) : 83 < n := Nat.lt_of_lt_of_le (by decide) h.1
theorem s83 {n : Nat} {SH : Nat → Nat × Nat} (h : h_S n SH) : SH 83 = (5, 0) := h.2 83 (by decide)
theorem c84 {n : Nat} {SH : Nat → Nat × Nat} (h : h_S n SH) : 84 < n := Nat.lt_of_lt_of_le (by decide) h.1
theorem s84 {n : Nat} {SH : Nat → Nat × Nat} (h : h_S n SH) : SH 84 = (5, 0) := h.2 84 (by decide)
theorem c85 {n : Nat} {SH : Nat → Nat × Nat} (h : h_S n SH) : 85 < n := Nat.lt_of_lt_of_le (by decide) h.1
theorem s85 {n : Nat} {SH : Nat → Nat × Nat} (h : h_S n SH) : SH 85 = (5, 0) := h.2 85 (by decide)
theorem c86 {n : Nat} {SH : Nat → Nat × Nat} (h : h_S n SH) : 86 < n := Nat.lt_of_lt_of_le (by decide) h.1
theorem s86 {n : Nat} {SH : Nat → Nat × Nat} (h : h_S n SH) : SH 86 = (5, 0) := h.2 86 (by decide)
theorem c87 {n : Nat} {SH : Nat → Nat × Nat} (h : h_S n SH) : 87 < n := Nat.lt_of_lt_of_le (by decide) h.1
theorem s87 {n : Nat} {SH : Nat → Nat × Nat} (h : h_S n SH) : SH 87 = (5, 0) := h.2 87 (by decide)
theorem c88 {n : Nat} {SH : Nat → Nat × Nat} (h : h_S n SH) : 88 < n := Nat.lt_of_lt_of_le (by decide) h.1
theorem s88 {n : Nat} {SH : Nat → Nat × Nat} (h : h_S n SH) : SH 88 = (5, 0) := h.2 88 (by decide)
theorem c89 {n : Nat} {SH : Nat → Nat × Nat} (h : h_S n SH) : 89 < n := Nat.lt_of_lt_of_le (by decide) h.1
theorem s89 {n : Nat} {SH : Nat → Nat × Nat} (h : h_S n SH) : SH 89 = (5, 0) := h.2 89 (by decide)
theorem c90 {n : Nat} {SH : Nat → Nat × Nat} (h : h_S n SH) : 90 < n := Nat.lt_of_lt_of_le (by decide) h.1
theorem s90 {n : Nat} {SH : Nat → Nat × Nat} (h : h_S n SH) : SH 90 = (2, 0) := h.2 90 (by decide)
theorem c91 {n : Nat} {SH : Nat → Nat × Nat} (h : h_S n SH) : 91 < n := Nat.lt_of_lt_of_le (by decide) h.1
theorem s91 {n : Nat} {SH : Nat → Nat × Nat} (h : h_S n SH) : SH 91 = (8, 0) := h.2 91 (by decide)
theorem c92 {n : Nat} {SH : Nat → Nat × Nat} (h : h_S n SH) : 92 < n := Nat.lt_of_lt_of_le (by decide) h.1
theorem s92 {n : Nat} {SH : Nat → Nat × Nat} (h : h_S n SH) : SH 92 = (103, 16) := h.2 92 (by decide)
theorem c93 {n : Nat} {SH : Nat → Nat × Nat} (h : h_S n SH) : 93 < n := Nat.lt_of_lt_of_le (by decide) h.1
theorem s93 {n : Nat} {SH : Nat → Nat × Nat} (h : h_S n SH) : SH 93 = (5, 0) := h.2 93 (by decide)
theorem c94 {n : Nat} {SH : Nat → Nat × Nat} (h : h_S n SH) : 94 < n := Nat.lt_of_lt_of_le (by decide) h.1
theorem s94 {n : Nat} {SH : Nat → Nat × Nat} (h : h_S n SH) : SH 94 = (5, 0) := h.2 94 (by decide)
theorem c95 {n : Nat} {SH : Nat → Nat × Nat} (h : h_S n SH) : 95 < n := Nat.lt_of_lt_of_le (by decide) h.1
theorem s95 {n : Nat} {SH : Nat → Nat × Nat} (h : h_S n SH) : SH 95 = (5, 0) := h.2 95 (by decide)
theorem c96 {n : Nat} {SH : Nat → Nat × Nat} (h : h_S n SH) : 96 < n := Nat.lt_of_lt_of_le (by decide) h.1
theorem s96 {n : Nat} {SH : Nat → Nat × Nat} (h : h_S n SH) : SH 96 = (5, 0) := h.2 96 (by decide)
theorem c97 {n : Nat} {SH : Nat → Nat × Nat} (h : h_S n SH) : 97 < n := Nat.lt_of_lt_of_le (by decide) h.1
theorem s97 {n : Nat} {SH : Nat → Nat × Nat} (h : h_S n SH) : SH 97 = (5, 0) := h.2 97 (by decide)
theorem c98 {n : Nat} {SH : Nat → Nat × Nat} (h : h_S n SH) : 98 < n := Nat.lt_of_lt_of_le (by decide) h.1
theorem s98 {n : Nat} {SH : Nat → Nat × Nat} (h : h_S n SH) : SH 98 = (5, 0) := h.2 98 (by decide)
theorem c99 {n : Nat} {SH : Nat → Nat × Nat} (h : h_S n SH) : 99 < n := Nat.lt_of_lt_of_le (by decide) h.1
theorem s99 {n : Nat} {SH : Nat → Nat × Nat} (h : h_S n SH) : SH 99 = (5, 0) := h.2 99 (by decide)
theorem c100 {n : Nat} {SH : Nat → Nat × Nat} (h : h_S n SH) : 100 < n := Nat.lt_of_lt_of_le (by decide) h.1
theorem s100 {n : Nat} {SH : Nat → Nat × Nat} (h : h_S n SH) : SH 100 = (5, 0) := h.2 100 (by decide)
theorem c101 {n : Nat} {SH : Nat → Nat × Nat} (h : h_S n SH) : 101 < n := Nat.lt_of_lt_of_le (by decide) h.1
theorem s101 {n : Nat} {SH : Nat → Nat × Nat} (h : h_S n SH) : SH 101 = (5, 0) := h.2 101 (by decide)
theorem c102 {n : Nat} {SH : Nat → Nat × Nat} (h : h_S n SH) : 102 < n := Nat.lt_of_lt_of_le (by decide) h.1
theorem s102 {n : Nat} {SH : Nat → Nat × Nat} (h : h_S n SH) : SH 102 = (5, 0) := h.2 102 (by decide)
theorem c103 {n : Nat} {SH : Nat → Nat × Nat} (h : h_S n SH) : 103 < n := Nat.lt_of_lt_of_le (by decide) h.1
theorem s103 {n : Nat} {SH : Nat → Nat × Nat} (h : h_S n SH) : SH 103 = (5, 0) := h.2 103 (by decide)
theorem c104 {n : Nat} {SH : Nat → Nat × Nat} (h : h_S n SH) : 104 < n := Nat.lt_of_lt_of_le (by decide) h.1
theorem s104 {n : Nat} {SH : Nat → Nat × Nat} (h : h_S n SH) : SH 104 = (5, 0) := h.2 104 (by decide)
theorem c105 {n : Nat} {SH : Nat → Nat × Nat} (h : h_S n SH) : 105 < n := Nat.lt_of_lt_of_le (by decide) h.1
theorem s105 {n : Nat} {SH : Nat → Nat × Nat} (h : h_S n SH) : SH 105 = (5, 0) := h.2 105 (by decide)
theorem c106 {n : Nat} {SH : Nat → Nat × Nat} (h : h_S n SH) : 106 < n := Nat.lt_of_lt_of_le (by decide) h.1
theorem s106 {n : Nat} {SH : Nat → Nat × Nat} (h : h_S n SH) : SH 106 = (5, 0) := h.2 106 (by decide)
theorem c107 {n : Nat} {SH : Nat → Nat × Nat} (h : h_S n SH) : 107 < n := Nat.lt_of_lt_of_le (by decide) h.1
theorem s107 {n : Nat} {SH : Nat → Nat × Nat} (h : h_S n SH) : SH 107 = (5, 0) := h.2 107 (by decide)
theorem c108 {n : Nat} {SH : Nat → Nat × Nat} (h : h_S n SH) : 108 < n := Nat.lt_of_lt_of_le (by decide) h.1
theorem s108 {n : Nat} {SH : Nat → Nat × Nat} (h : h_S n SH) : SH 108 = (5, 0) := h.2 108 (by decide)
theorem c109 {n : Nat} {SH : Nat → Nat × Nat} (h : h_S n SH) : 109 < n := Nat.lt_of_lt_of_le (by decide) h.1
theorem s109 {n : Nat} {SH : Nat → Nat × Nat} (h : h_S n SH) : SH 109 = (5, 0) := h.2 109 (by decide)
theorem c110 {n : Nat} {SH : Nat → Nat × Nat} (h : h_S n SH) : 110 < n := Nat.lt_of_lt_of_le (by decide) h.1
theorem s110 {n : Nat} {SH : Nat → Nat × Nat} (h : h_S n SH) : SH 110 = (4, 0) := h.2 110 (by decide)
theorem c111 {n : Nat} {SH : Nat → Nat × Nat} (h : h_S n SH) : 111 < n := Nat.lt_of_lt_of_le (by decide) h.1
theorem s111 {n : Nat} {SH : Nat → Nat × Nat} (h : h_S n SH) : SH 111 = (7, 0) := h.2 111 (by decide)
theorem c112 {n : Nat} {SH : Nat → Nat × Nat} (h : h_S n SH) : 112 < n := Nat.lt_of_lt_of_le (by decide) h.1
theorem s112 {n : Nat} {SH : Nat → Nat × Nat} (h : h_S n SH) : SH 112 = (100, 1001) := h.2 112 (by decide)
theorem c113 {n : Nat} {SH : Nat → Nat × Nat} (h : h_S n SH) : 113 < n := Nat.lt_of_lt_of_le (by decide) h.1
theorem s113 {n : Nat} {SH : Nat → Nat × Nat} (h : h_S n SH) : SH 113 = (101, 1001) := h.2 113 (by decide)
theorem c114 {n : Nat} {SH : Nat → Nat × Nat} (h : h_S n SH) : 114 < n := Nat.lt_of_lt_of_le (by decide) h.1
theorem s114 {n : Nat} {SH : Nat → Nat × Nat} (h : h_S n SH) : SH 114 = (100, 1001) := h.2 114 (by decide)
theorem c115 {n : Nat} {SH : Nat → Nat × Nat} (h : h_S n SH) : 115 < n := Nat.lt_of_lt_of_le (by decide) h.1
theorem s115 {n : Nat} {SH : Nat → Nat × Nat} (h : h_S n SH) : SH 115 = (100, 1001) := h.2 115 (by decide)
theorem c116 {n : Nat} {SH : Nat → Nat × Nat} (h : h_S n SH) : 116 < n := Nat.lt_of_lt_of_le (by decide) h.1
theorem s116 {n : Nat} {SH : Nat → Nat × Nat} (h : h_S n SH) : SH 116 = (100, 0) := h.2 116 (by decide)
theorem c117 {n : Nat} {SH : Nat → Nat × Nat} (h : h_S n SH) : 117 < n := Nat.lt_of_lt_of_le (by decide) h.1
theorem s117 {n : Nat} {SH : Nat → Nat × Nat} (h : h_S n SH) : SH 117 = (100, 64) := h.2 117 (by decide)
theorem c118 {n : Nat} {SH : Nat → Nat × Nat} (h : h_S n SH) : 118 < n := Nat.lt_of_lt_of_le (by decide) h.1
theorem s118 {n : Nat} {SH : Nat → Nat × Nat} (h : h_S n SH) : SH 118 = (104, 0) := h.2 118 (by decide)
theorem c119 {n : Nat} {SH : Nat → Nat × Nat} (h : h_S n SH) : 119 < n := Nat.lt_of_lt_of_le (by decide) h.1
theorem s119 {n : Nat} {SH : Nat → Nat × Nat} (h : h_S n SH) : SH 119 = (0, 0) := h.2 119 (by decide)
theorem c120 {n : Nat} {SH : Nat → Nat × Nat} (h : h_S n SH) : 120 < n := Nat.lt_of_lt_of_le (by decide) h.1
theorem s120 {n : Nat} {SH : Nat → Nat × Nat} (h : h_S n SH) : SH 120 = (100, 600) := h.2 120 (by decide)
theorem c121 {n : Nat} {SH : Nat → Nat × Nat} (h : h_S n SH) : 121 < n := Nat.lt_of_lt_of_le (by decide) h.1
theorem s121 {n : Nat} {SH : Nat → Nat × Nat} (h : h_S n SH) : SH 121 = (12, 0) := h.2 121 (by decide)
theorem c122 {n : Nat} {SH : Nat → Nat × Nat} (h : h_S n SH) : 122 < n := Nat.lt_of_lt_of_le (by decide) h.1
theorem s122 {n : Nat} {SH : Nat → Nat × Nat} (h : h_S n SH) : SH 122 = (101, 32) := h.2 122 (by decide)
theorem c123 {n : Nat} {SH : Nat → Nat × Nat} (h : h_S n SH) : 123 < n := Nat.lt_of_lt_of_le (by decide) h.1
theorem s123 {n : Nat} {SH : Nat → Nat × Nat} (h : h_S n SH) : SH 123 = (100, 4096) := h.2 123 (by decide)
theorem c124 {n : Nat} {SH : Nat → Nat × Nat} (h : h_S n SH) : 124 < n := Nat.lt_of_lt_of_le (by decide) h.1
theorem s124 {n : Nat} {SH : Nat → Nat × Nat} (h : h_S n SH) : SH 124 = (100, 19200) := h.2 124 (by decide)
theorem c125 {n : Nat} {SH : Nat → Nat × Nat} (h : h_S n SH) : 125 < n := Nat.lt_of_lt_of_le (by decide) h.1
theorem s125 {n : Nat} {SH : Nat → Nat × Nat} (h : h_S n SH) : SH 125 = (100, 32) := h.2 125 (by decide)
theorem c126 {n : Nat} {SH : Nat → Nat × Nat} (h : h_S n SH) : 126 < n := Nat.lt_of_lt_of_le (by decide) h.1
theorem s126 {n : Nat} {SH : Nat → Nat × Nat} (h : h_S n SH) : SH 126 = (100, 1000) := h.2 126 (by decide)
theorem c127 {n : Nat} {SH : Nat → Nat × Nat} (h : h_S n SH) : 127 < n := Nat.lt_of_lt_of_le (by decide) h.1
theorem s127 {n : Nat} {SH : Nat → Nat × Nat} (h : h_S n SH) : SH 127 = (101, 256) := h.2 127 (by decide)
theorem c128 {n : Nat} {SH : Nat → Nat × Nat} (h : h_S n SH) : 128 < n := Nat.lt_of_lt_of_le (by decide) h.1
theorem s128 {n : Nat} {SH : Nat → Nat × Nat} (h : h_S n SH) : SH 128 = (100, 2) := h.2 128 (by decide)
theorem c129 {n : Nat} {SH : Nat → Nat × Nat} (h : h_S n SH) : 129 < n := Nat.lt_of_lt_of_le (by decide) h.1
theorem s129 {n : Nat} {SH : Nat → Nat × Nat} (h : h_S n SH) : SH 129 = (100, 2) := h.2 129 (by decide)
theorem c130 {n : Nat} {SH : Nat → Nat × Nat} (h : h_S n SH) : 130 < n := Nat.lt_of_lt_of_le (by decide) h.1
theorem s130 {n : Nat} {SH : Nat → Nat × Nat} (h : h_S n SH) : SH 130 = (100, 32) := h.2 130 (by decide)
theorem c131 {n : Nat} {SH : Nat → Nat × Nat} (h : h_S n SH) : 131 < n := Nat.lt_of_lt_of_le (by decide) h.1
theorem s131 {n : Nat} {SH : Nat → Nat × Nat} (h : h_S n SH) : SH 131 = (101, 32) := h.2 131 (by decide)
theorem c132 {n : Nat} {SH : Nat → Nat × Nat} (h : h_S n SH) : 132 < n := Nat.lt_of_lt_of_le (by decide) h.1
theorem s132 {n : Nat} {SH : Nat → Nat × Nat} (h : h_S n SH) : SH 132 = (100, 32) := h.2 132 (by decide)
theorem c133 {n : Nat} {SH : Nat → Nat × Nat} (h : h_S n SH) : 133 < n := Nat.lt_of_lt_of_le (by decide) h.1
theorem s133 {n : Nat} {SH : Nat → Nat × Nat} (h : h_S n SH) : SH 133 = (100, 32) := h.2 133 (by decide)
theorem c134 {n : Nat} {SH : Nat → Nat × Nat} (h : h_S n SH) : 134 < n := Nat.lt_of_lt_of_le (by decide) h.1
theorem s134 {n : Nat} {SH : Nat → Nat × Nat} (h : h_S n SH) : SH 134 = (100, 32) := h.2 134 (by decide)
theorem c135 {n : Nat} {SH : Nat → Nat × Nat} (h : h_S n SH) : 135 < n := Nat.lt_of_lt_of_le (by decide) h.1
theorem s135 {n : Nat} {SH : Nat → Nat × Nat} (h : h_S n SH) : SH 135 = (100, 2) := h.2 135 (by decide)
theorem c136 {n : Nat} {SH : Nat → Nat × Nat} (h : h_S n SH) : 136 < n := Nat.lt_of_lt_of_le (by decide) h.1
theorem s136 {n : Nat} {SH : Nat → Nat × Nat} (h : h_S n SH) : SH 136 = (100, 2) := h.2 136 (by decide)
theorem c137 {n : Nat} {SH : Nat → Nat × Nat} (h : h_S n SH) : 137 < n := Nat.lt_of_lt_of_le (by decide) h.1
theorem s137 {n : Nat} {SH : Nat → Nat × Nat} (h : h_S n SH) : SH 137 = (101, 2) := h.2 137 (by decide)
theorem c138 {n : Nat} {SH : Nat → Nat × Nat} (h : h_S n SH) : 138 < n := Nat.lt_of_lt_of_le (by decide) h.1
theorem s138 {n : Nat} {SH : Nat → Nat × Nat} (h : h_S n SH) : SH 138 = (100, 2) := h.2 138 (by decide)
theorem c139 {n : Nat} {SH : Nat → Nat × Nat} (h : h_S n SH) : 139 < n := Nat.lt_of_lt_of_le (by decide) h.1
theorem s139 {n : Nat} {SH : Nat → Nat × Nat} (h : h_S n SH) : SH 139 = (100, 16) := h.2 139 (by decide)
theorem c140 {n : Nat} {SH : Nat → Nat × Nat} (h : h_S n SH) : 140 < n := Nat.lt_of_lt_of_le (by decide) h.1
theorem s140 {n : Nat} {SH : Nat → Nat × Nat} (h : h_S n SH) : SH 140 = (100, 16) := h.2 140 (by decide)
theorem c141 {n : Nat} {SH : Nat → Nat × Nat} (h : h_S n SH) : 141 < n := Nat.lt_of_lt_of_le (by decide) h.1
theorem s141 {n : Nat} {SH : Nat → Nat × Nat} (h : h_S n SH) : SH 141 = (100, 16) := h.2 141 (by decide)
theorem c142 {n : Nat} {SH : Nat → Nat × Nat} (h : h_S n SH) : 142 < n := Nat.lt_of_lt_of_le (by decide) h.1
theorem s142 {n : Nat} {SH : Nat → Nat × Nat} (h : h_S n SH) : SH 142 = (100, 2) := h.2 142 (by decide)
theorem c143 {n : Nat} {SH : Nat → Nat × Nat} (h : h_S n SH) : 143 < n := Nat.lt_of_lt_of_le (by decide) h.1
theorem s143 {n : Nat} {SH : Nat → Nat × Nat} (h : h_S n SH) : SH 143 = (100, 16) := h.2 143 (by decide)
theorem c144 {n : Nat} {SH : Nat → Nat × Nat} (h : h_S n SH) : 144 < n := Nat.lt_of_lt_of_le (by decide) h.1
theorem s144 {n : Nat} {SH : Nat → Nat × Nat} (h : h_S n SH) : SH 144 = (101, 16) := h.2 144 (by decide)
theorem c145 {n : Nat} {SH : Nat → Nat × Nat} (h : h_S n SH) : 145 < n := Nat.lt_of_lt_of_le (by decide) h.1
theorem s145 {n : Nat} {SH : Nat → Nat × Nat} (h : h_S n SH) : SH 145 = (100, 16) := h.2 145 (by decide)
theorem c146 {n : Nat} {SH : Nat → Nat × Nat} (h : h_S n SH) : 146 < n := Nat.lt_of_lt_of_le (by decide) h.1
theorem s146 {n : Nat} {SH : Nat → Nat × Nat} (h : h_S n SH) : SH 146 = (100, 16) := h.2 146 (by decide)
theorem c147 {n : Nat} {SH : Nat → Nat × Nat} (h : h_S n SH) : 147 < n := Nat.lt_of_lt_of_le (by decide) h.1
theorem s147 {n : Nat} {SH : Nat → Nat × Nat} (h : h_S n SH) : SH 147 = (100, 9600) := h.2 147 (by decide)
theorem c148 {n : Nat} {SH : Nat → Nat × Nat} (h : h_S n SH) : 148 < n := Nat.lt_of_lt_of_le (by decide) h.1
theorem s148 {n : Nat} {SH : Nat → Nat × Nat} (h : h_S n SH) : SH 148 = (100, 64) := h.2 148 (by decide)
theorem c149 {n : Nat} {SH : Nat → Nat × Nat} (h : h_S n SH) : 149 < n := Nat.lt_of_lt_of_le (by decide) h.1
theorem s149 {n : Nat} {SH : Nat → Nat × Nat} (h : h_S n SH) : SH 149 = (100, 1002) := h.2 149 (by decide)
theorem c150 {n : Nat} {SH : Nat → Nat × Nat} (h : h_S n SH) : 150 < n := Nat.lt_of_lt_of_le (by decide) h.1
theorem s150 {n : Nat} {SH : Nat → Nat × Nat} (h : h_S n SH) : SH 150 = (101, 1002) := h.2 150 (by decide)
theorem c151 {n : Nat} {SH : Nat → Nat × Nat} (h : h_S n SH) : 151 < n := Nat.lt_of_lt_of_le (by decide) h.1
theorem s151 {n : Nat} {SH : Nat → Nat × Nat} (h : h_S n SH) : SH 151 = (100, 1002) := h.2 151 (by decide)
theorem c152 {n : Nat} {SH : Nat → Nat × Nat} (h : h_S n SH) : 152 < n := Nat.lt_of_lt_of_le (by decide) h.1
theorem s152 {n : Nat} {SH : Nat → Nat × Nat} (h : h_S n SH) : SH 152 = (100, 1002) := h.2 152 (by decide)
theorem c153 {n : Nat} {SH : Nat → Nat × Nat} (h : h_S n SH) : 153 < n := Nat.lt_of_lt_of_le (by decide) h.1
theorem s153 {n : Nat} {SH : Nat → Nat × Nat} (h : h_S n SH) : SH 153 = (101, 1002) := h.2 153 (by decide)
theorem c154 {n : Nat} {SH : Nat → Nat × Nat} (h : h_S n SH) : 154 < n := Nat.lt_of_lt_of_le (by decide) h.1
theorem s154 {n : Nat} {SH : Nat → Nat × Nat} (h : h_S n SH) : SH 154 = (100, 4000) := h.2 154 (by decide)
theorem c155 {n : Nat} {SH : Nat → Nat × Nat} (h : h_S n SH) : 155 < n := Nat.lt_of_lt_of_le (by decide) h.1
theorem s155 {n : Nat} {SH : Nat → Nat × Nat} (h : h_S n SH) : SH 155 = (101, 12) := h.2 155 (by decide)
theorem c156 {n : Nat} {SH : Nat → Nat × Nat} (h : h_S n SH) : 156 < n := Nat.lt_of_lt_of_le (by decide) h.1
theorem s156 {n : Nat} {SH : Nat → Nat × Nat} (h : h_S n SH) : SH 156 = (100, 12) := h.2 156 (by decide)
theorem c157 {n : Nat} {SH : Nat → Nat × Nat} (h : h_S n SH) : 157 < n := Nat.lt_of_lt_of_le (by decide) h.1
theorem s157 {n : Nat} {SH : Nat → Nat × Nat} (h : h_S n SH) : SH 157 = (100, 12) := h.2 157 (by decide)
theorem c158 {n : Nat} {SH : Nat → Nat × Nat} (h : h_S n SH) : 158 < n := Nat.lt_of_lt_of_le (by decide) h.1
theorem s158 {n : Nat} {SH : Nat → Nat × Nat} (h : h_S n SH) : SH 158 = (101, 12) := h.2 158 (by decide)
theorem c159 {n : Nat} {SH : Nat → Nat × Nat} (h : h_S n SH) : 159 < n := Nat.lt_of_lt_of_le (by decide) h.1
theorem s159 {n : Nat} {SH : Nat → Nat × Nat} (h : h_S n SH) : SH 159 = (100, 12) := h.2 159 (by decide)
theorem c160 {n : Nat} {SH : Nat → Nat × Nat} (h : h_S n SH) : 160 < n := Nat.lt_of_lt_of_le (by decide) h.1
theorem s160 {n : Nat} {SH : Nat → Nat × Nat} (h : h_S n SH) : SH 160 = (100, 12) := h.2 160 (by decide)
theorem c161 {n : Nat} {SH : Nat → Nat × Nat} (h : h_S n SH) : 161 < n := Nat.lt_of_lt_of_le (by decide) h.1
theorem s161 {n : Nat} {SH : Nat → Nat × Nat} (h : h_S n SH) : SH 161 = (100, 13) := h.2 161 (by decide)
theorem c162 {n : Nat} {SH : Nat → Nat × Nat} (h : h_S n SH) : 162 < n := Nat.lt_of_lt_of_le (by decide) h.1
theorem s162 {n : Nat} {SH : Nat → Nat × Nat} (h : h_S n SH) : SH 162 = (100, 12) := h.2 162 (by decide)
theorem c163 {n : Nat} {SH : Nat → Nat × Nat} (h : h_S n SH) : 163 < n := Nat.lt_of_lt_of_le (by decide) h.1
theorem s163 {n : Nat} {SH : Nat → Nat × Nat} (h : h_S n SH) : SH 163 = (102, 12) := h.2 163 (by decide)
theorem c164 {n : Nat} {SH : Nat → Nat × Nat} (h : h_S n SH) : 164 < n := Nat.lt_of_lt_of_le (by decide) h.1
theorem s164 {n : Nat} {SH : Nat → Nat × Nat} (h : h_S n SH) : SH 164 = (100, 4000) := h.2 164 (by decide)
theorem c165 {n : Nat} {SH : Nat → Nat × Nat} (h : h_S n SH) : 165 < n := Nat.lt_of_lt_of_le (by decide) h.1
theorem s165 {n : Nat} {SH : Nat → Nat × Nat} (h : h_S n SH) : SH 165 = (100, 256) := h.2 165 (by decide)
theorem c166 {n : Nat} {SH : Nat → Nat × Nat} (h : h_S n SH) : 166 < n := Nat.lt_of_lt_of_le (by decide) h.1
theorem s166 {n : Nat} {SH : Nat → Nat × Nat} (h : h_S n SH) : SH 166 = (100, 256) := h.2 166 (by decide)
theorem c167 {n : Nat} {SH : Nat → Nat × Nat} (h : h_S n SH) : 167 < n := Nat.lt_of_lt_of_le (by decide) h.1
theorem s167 {n : Nat} {SH : Nat → Nat × Nat} (h : h_S n SH) : SH 167 = (100, 256) := h.2 167 (by decide)
theorem c168 {n : Nat} {SH : Nat → Nat × Nat} (h : h_S n SH) : 168 < n := Nat.lt_of_lt_of_le (by decide) h.1
theorem s168 {n : Nat} {SH : Nat → Nat × Nat} (h : h_S n SH) : SH 168 = (100, 256) := h.2 168 (by decide)
theorem c169 {n : Nat} {SH : Nat → Nat × Nat} (h : h_S n SH) : 169 < n := Nat.lt_of_lt_of_le (by decide) h.1
theorem s169 {n : Nat} {SH : Nat → Nat × Nat} (h : h_S n SH) : SH 169 = (100, 8) := h.2 169 (by decide)
theorem c170 {n : Nat} {SH : Nat → Nat × Nat} (h : h_S n SH) : 170 < n := Nat.lt_of_lt_of_le (by decide) h.1
theorem s170 {n : Nat} {SH : Nat → Nat × Nat} (h : h_S n SH) : SH 170 = (101, 8) := h.2 170 (by decide)
theorem c171 {n : Nat} {SH : Nat → Nat × Nat} (h : h_S n SH) : 171 < n := Nat.lt_of_lt_of_le (by decide) h.1
theorem s171 {n : Nat} {SH : Nat → Nat × Nat} (h : h_S n SH) : SH 171 = (100, 8) := h.2 171 (by decide)
theorem c172 {n : Nat} {SH : Nat → Nat × Nat} (h : h_S n SH) : 172 < n := Nat.lt_of_lt_of_le (by decide) h.1
theorem s172 {n : Nat} {SH : Nat → Nat × Nat} (h : h_S n SH) : SH 172 = (100, 512) := h.2 172 (by decide)
theorem c173 {n : Nat} {SH : Nat → Nat × Nat} (h : h_S n SH) : 173 < n := Nat.lt_of_lt_of_le (by decide) h.1
theorem s173 {n : Nat} {SH : Nat → Nat × Nat} (h : h_S n SH) : SH 173 = (101, 512) := h.2 173 (by decide)
theorem c174 {n : Nat} {SH : Nat → Nat × Nat} (h : h_S n SH) : 174 < n := Nat.lt_of_lt_of_le (by decide) h.1
theorem s174 {n : Nat} {SH : Nat → Nat × Nat} (h : h_S n SH) : SH 174 = (102, 256) := h.2 174 (by decide)
theorem c175 {n : Nat} {SH : Nat → Nat × Nat} (h : h_S n SH) : 175 < n := Nat.lt_of_lt_of_le (by decide) h.1
theorem s175 {n : Nat} {SH : Nat → Nat × Nat} (h : h_S n SH) : SH 175 = (102, 256) := h.2 175 (by decide)
def hf_L : List (Nat × Nat × Nat) := [(0, 0, 23), (0, 1, 48), (0, 2, 90), (0, 3, 110), (0, 4, 119), (0, 5, 1), (0, 6, 19), (0, 7, 20), (0, 8, 21), (1, 0, 2), (2, 0, 3), (2, 1, 4), (2, 2, 5), (2, 3, 6), (2, 4, 7), (2, 5, 8), (2, 6, 9), (2, 7, 10), (2, 8, 11), (2, 9, 12), (2, 10, 13), (2, 11, 14), (2, 12, 15), (2, 13, 16), (2, 14, 17), (2, 15, 18), (23, 0, 24), (23, 1, 25), (23, 2, 26), (23, 3, 43), (48, 0, 23), (48, 1, 49), (48, 2, 70), (48, 3, 71), (48, 4, 72), (49, 0, 23), (49, 2, 50), (49, 3, 51), (49, 4, 52), (52, 0, 53), (53, 0, 54), (53, 1, 55), (53, 2, 56), (53, 3, 57), (53, 4, 58), (53, 5, 59), (53, 6, 60), (53, 7, 61), (53, 8, 62), (53, 9, 63), (53, 10, 64), (53, 11, 65), (53, 12, 66), (53, 13, 67), (53, 14, 68), (53, 15, 69), (72, 0, 73), (73, 0, 74), (73, 1, 75), (73, 2, 76), (73, 3, 77), (73, 4, 78), (73, 5, 79), (73, 6, 80), (73, 7, 81), (73, 8, 82), (73, 9, 83), (73, 10, 84), (73, 11, 85), (73, 12, 86), (73, 13, 87), (73, 14, 88), (73, 15, 89), (90, 0, 23), (90, 1, 48), (90, 2, 91), (90, 3, 109), (91, 0, 92), (92, 0, 93), (92, 1, 94), (92, 2, 95), (92, 3, 96), (92, 4, 97), (92, 5, 98), (92, 6, 99), (92, 7, 100), (92, 8, 101), (92, 9, 102), (92, 10, 103), (92, 11, 104), (92, 12, 105), (92, 13, 106), (92, 14, 107), (92, 15, 108), (110, 0, 111), (110, 1, 117), (111, 0, 112), (111, 1, 113), (111, 2, 114), (111, 3, 115), (119, 0, 120), (121, 1, 122), (121, 2, 123), (121, 3, 124), (121, 4, 125), (121, 12, 126), (121, 14, 127), (121, 15, 128), (121, 16, 129), (121, 17, 130), (121, 18, 131), (121, 19, 132), (121, 20, 133), (121, 21, 134), (121, 22, 135), (121, 23, 136), (121, 24, 137), (121, 25, 138), (121, 26, 139), (121, 27, 140), (121, 28, 141), (121, 45, 142), (121, 48, 143), (121, 49, 144), (121, 50, 145), (121, 51, 146), (121, 52, 147), (121, 60, 148), (121, 62, 149), (121, 63, 150), (121, 64, 151), (121, 65, 152), (121, 66, 153), (121, 72, 154), (121, 75, 155), (121, 76, 156), (121, 77, 157), (121, 79, 158), (121, 80, 159), (121, 81, 160), (121, 82, 161), (121, 83, 162), (121, 84, 163), (121, 85, 164), (121, 86, 165), (121, 87, 166), (121, 88, 167), (121, 89, 168), (121, 96, 169), (121, 97, 170), (121, 98, 171), (121, 99, 172), (121, 100, 173), (121, 102, 174), (121, 103, 175)]
def h_FR (FR : Nat → Nat → Option Nat) : Prop := ∀ e ∈ hf_L, FR e.1 e.2.1 = some e.2.2
theorem r0_0 {FR : Nat → Nat → Option Nat} (h : h_FR FR) : FR 0 0 = some 23 := h (0, 0, 23) (List.mem_of_getElem? (i := 0) rfl)
theorem r0_1 {FR : Nat → Nat → Option Nat} (h : h_FR FR) : FR 0 1 = some 48 := h (0, 1, 48) (List.mem_of_getElem? (i := 1) rfl)
theorem r0_2 {FR : Nat → Nat → Option Nat} (h : h_FR FR) : FR 0 2 = some 90 := h (0, 2, 90) (List.mem_of_getElem? (i := 2) rfl)
theorem r0_3 {FR : Nat → Nat → Option Nat} (h : h_FR FR) : FR 0 3 = some 110 := h (0, 3, 110) (List.mem_of_getElem? (i := 3) rfl)
theorem r0_4 {FR : Nat → Nat → Option Nat} (h : h_FR FR) : FR 0 4 = some 119 := h (0, 4, 119) (List.mem_of_getElem? (i := 4) rfl)
theorem r0_5 {FR : Nat → Nat → Option Nat} (h : h_FR FR) : FR 0 5 = some 1 := h (0, 5, 1) (List.mem_of_getElem? (i := 5) rfl)
theorem r0_6 {FR : Nat → Nat → Option Nat} (h : h_FR FR) : FR 0 6 = some 19 := h (0, 6, 19) (List.mem_of_getElem? (i := 6) rfl)
theorem r0_7 {FR : Nat → Nat → Option Nat} (h : h_FR FR) : FR 0 7 = some 20 := h (0, 7, 20) (List.mem_of_getElem? (i := 7) rfl)
theorem r0_8 {FR : Nat → Nat → Option Nat} (h : h_FR FR) : FR 0 8 = some 21 := h (0, 8, 21) (List.mem_of_getElem? (i := 8) rfl)
theorem r1_0 {FR : Nat → Nat → Option Nat} (h : h_FR FR) : FR 1 0 = some 2 := h (1, 0, 2) (List.mem_of_getElem? (i := 9) rfl)
theorem r2_0 {FR : Nat → Nat → Option Nat} (h : h_FR FR) : FR 2 0 = some 3 := h (2, 0, 3) (List.mem_of_getElem? (i := 10) rfl)
theorem r2_1 {FR : Nat → Nat → Option Nat} (h : h_FR FR) : FR 2 1 = some 4 := h (2, 1, 4) (List.mem_of_getElem? (i := 11) rfl)
theorem r2_2 {FR : Nat → Nat → Option Nat} (h : h_FR FR) : FR 2 2 = some 5 := h (2, 2, 5) (List.mem_of_getElem? (i := 12) rfl)
theorem r2_3 {FR : Nat → Nat → Option Nat} (h : h_FR FR) : FR 2 3 = some 6 := h (2, 3, 6) (List.mem_of_getElem? (i := 13) rfl)
theorem r2_4 {FR : Nat → Nat → Option Nat} (h : h_FR FR) : FR 2 4 = some 7 := h (2, 4, 7) (List.mem_of_getElem? (i := 14) rfl)
theorem r2_5 {FR : Nat → Nat → Option Nat} (h : h_FR FR) : FR 2 5 = some 8 := h (2, 5, 8) (List.mem_of_getElem? (i := 15) rfl)
theorem r2_6 {FR : Nat → Nat → Option Nat} (h : h_FR FR) : FR 2 6 = some 9 := h (2, 6, 9) (List.mem_of_getElem? (i := 16) rfl)
theorem r2_7 {FR : Nat → Nat → Option Nat} (h : h_FR FR) : FR 2 7 = some 10 := h (2, 7, 10) (List.mem_of_getElem? (i := 17) rfl)
theorem r2_8 {FR : Nat → Nat → Option Nat} (h : h_FR FR) : FR 2 8 = some 11 := h (2, 8, 11) (List.mem_of_getElem? (i := 18) rfl)
theorem r2_9 {FR : Nat → Nat → Option Nat} (h : h_FR FR) : FR 2 9 = some 12 := h (2, 9, 12) (List.mem_of_getElem? (i := 19) rfl)
theorem r2_10 {FR : Nat → Nat → Option Nat} (h : h_FR FR) : FR 2 10 = some 13 := h (2, 10, 13) (List.mem_of_getElem? (i := 20) rfl)
theorem r2_11 {FR : Nat → Nat → Option Nat} (h : h_FR FR) : FR 2 11 = some 14 := h (2, 11, 14) (List.mem_of_getElem? (i := 21) rfl)
theorem r2_12 {FR : Nat → Nat → Option Nat} (h : h_FR FR) : FR 2 12 = some 15 := h (2, 12, 15) (List.mem_of_getElem? (i := 22) rfl)
theorem r2_13 {FR : Nat → Nat → Option Nat} (h : h_FR FR) : FR 2 13 = some 16 := h (2, 13, 16) (List.mem_of_getElem? (i := 23) rfl)
theorem r2_14 {FR : Nat → Nat → Option Nat} (h : h_FR FR) : FR 2 14 = some 17 := h (2, 14, 17) (List.mem_of_getElem? (i := 24) rfl)
theorem r2_15 {FR : Nat → Nat → Option Nat} (h : h_FR FR) : FR 2 15 = some 18 := h (2, 15, 18) (List.mem_of_getElem? (i := 25) rfl)
theorem r23_0 {FR : Nat → Nat → Option Nat} (h : h_FR FR) : FR 23 0 = some 24 := h (23, 0, 24) (List.mem_of_getElem? (i := 26) rfl)
theorem r23_1 {FR : Nat → Nat → Option Nat} (h : h_FR FR) : FR 23 1 = some 25 := h (23, 1, 25) (List.mem_of_getElem? (i := 27) rfl)
theorem r23_2 {FR : Nat → Nat → Option Nat} (h : h_FR FR) : FR 23 2 = some 26 := h (23, 2, 26) (List.mem_of_getElem? (i := 28) rfl)
theorem r23_3 {FR : Nat → Nat → Option Nat} (h : h_FR FR) : FR 23 3 = some 43 := h (23, 3, 43) (List.mem_of_getElem? (i := 29) rfl)
theorem r48_0 {FR : Nat → Nat → Option Nat} (h : h_FR FR) : FR 48 0 = some 23 := h (48, 0, 23) (List.mem_of_getElem? (i := 30) rfl)
theorem r48_1 {FR : Nat → Nat → Option Nat} (h : h_FR FR) : FR 48 1 = some 49 := h (48, 1, 49) (List.mem_of_getElem? (i := 31) rfl)
theorem r48_2 {FR : Nat → Nat → Option Nat} (h : h_FR FR) : FR 48 2 = some 70 := h (48, 2, 70) (List.mem_of_getElem? (i := 32) rfl)
theorem r48_3 {FR : Nat → Nat → Option Nat} (h : h_FR FR) : FR 48 3 = some 71 := h (48, 3, 71) (List.mem_of_getElem? (i := 33) rfl)
theorem r48_4 {FR : Nat → Nat → Option Nat} (h : h_FR FR) : FR 48 4 = some 72 := h (48, 4, 72) (List.mem_of_getElem? (i := 34) rfl)
theorem r49_0 {FR : Nat → Nat → Option Nat} (h : h_FR FR) : FR 49 0 = some 23 := h (49, 0, 23) (List.mem_of_getElem? (i := 35) rfl)
theorem r49_2 {FR : Nat → Nat → Option Nat} (h : h_FR FR) : FR 49 2 = some 50 := h (49, 2, 50) (List.mem_of_getElem? (i := 36) rfl)
theorem r49_3 {FR : Nat → Nat → Option Nat} (h : h_FR FR) : FR 49 3 = some 51 := h (49, 3, 51) (List.mem_of_getElem? (i := 37) rfl)
theorem r49_4 {FR : Nat → Nat → Option Nat} (h : h_FR FR) : FR 49 4 = some 52 := h (49, 4, 52) (List.mem_of_getElem? (i := 38) rfl)
theorem r52_0 {FR : Nat → Nat → Option Nat} (h : h_FR FR) : FR 52 0 = some 53 := h (52, 0, 53) (List.mem_of_getElem? (i := 39) rfl)
theorem r53_0 {FR : Nat → Nat → Option Nat} (h : h_FR FR) : FR 53 0 = some 54 := h (53, 0, 54) (List.mem_of_getElem? (i := 40) rfl)
theorem r53_1 {FR : Nat → Nat → Option Nat} (h : h_FR FR) : FR 53 1 = some 55 := h (53, 1, 55) (List.mem_of_getElem? (i := 41) rfl)
theorem r53_2 {FR : Nat → Nat → Option Nat} (h : h_FR FR) : FR 53 2 = some 56 := h (53, 2, 56) (List.mem_of_getElem? (i := 42) rfl)
theorem r53_3 {FR : Nat → Nat → Option Nat} (h : h_FR FR) : FR 53 3 = some 57 := h (53, 3, 57) (List.mem_of_getElem? (i := 43) rfl)
theorem r53_4 {FR : Nat → Nat → Option Nat} (h : h_FR FR) : FR 53 4 = some 58 := h (53, 4, 58) (List.mem_of_getElem? (i := 44) rfl)
theorem r53_5 {FR : Nat → Nat → Option Nat} (h : h_FR FR) : FR 53 5 = some 59 := h (53, 5, 59) (List.mem_of_getElem? (i := 45) rfl)
theorem r53_6 {FR : Nat → Nat → Option Nat} (h : h_FR FR) : FR 53 6 = some 60 := h (53, 6, 60) (List.mem_of_getElem? (i := 46) rfl)
theorem r53_7 {FR : Nat → Nat → Option Nat} (h : h_FR FR) : FR 53 7 = some 61 := h (53, 7, 61) (List.mem_of_getElem? (i := 47) rfl)
theorem r53_8 {FR : Nat → Nat → Option Nat} (h : h_FR FR) : FR 53 8 = some 62 := h (53, 8, 62) (List.mem_of_getElem? (i := 48) rfl)
theorem r53_9 {FR : Nat → Nat → Option Nat} (h : h_FR FR) : FR 53 9 = some 63 := h (53, 9, 63) (List.mem_of_getElem? (i := 49) rfl)
theorem r53_10 {FR : Nat → Nat → Option Nat} (h : h_FR FR) : FR 53 10 = some 64 := h (53, 10, 64) (List.mem_of_getElem? (i := 50) rfl)
theorem r53_11 {FR : Nat → Nat → Option Nat} (h : h_FR FR) : FR 53 11 = some 65 := h (53, 11, 65) (List.mem_of_getElem? (i := 51) rfl)
theorem r53_12 {FR : Nat → Nat → Option Nat} (h : h_FR FR) : FR 53 12 = some 66 := h (53, 12, 66) (List.mem_of_getElem? (i := 52) rfl)
theorem r53_13 {FR : Nat → Nat → Option Nat} (h : h_FR FR) : FR 53 13 = some 67 := h (53, 13, 67) (List.mem_of_getElem? (i := 53) rfl)
theorem r53_14 {FR : Nat → Nat → Option Nat} (h : h_FR FR) : FR 53 14 = some 68 := h (53, 14, 68) (List.mem_of_getElem? (i := 54) rfl)
theorem r53_15 {FR : Nat → Nat → Option Nat} (h : h_FR FR) : FR 53 15 = some 69 := h (53, 15, 69) (List.mem_of_getElem? (i := 55) rfl)
theorem r72_0 {FR : Nat → Nat → Option Nat} (h : h_FR FR) : FR 72 0 = some 73 := h (72, 0, 73) (List.mem_of_getElem? (i := 56) rfl)
theorem r73_0 {FR : Nat → Nat → Option Nat} (h : h_FR FR) : FR 73 0 = some 74 := h (73, 0, 74) (List.mem_of_getElem? (i := 57) rfl)
theorem r73_1 {FR : Nat → Nat → Option Nat} (h : h_FR FR) : FR 73 1 = some 75 := h (73, 1, 75) (List.mem_of_getElem? (i := 58) rfl)
theorem r73_2 {FR : Nat → Nat → Option Nat} (h : h_FR FR) : FR 73 2 = some 76 := h (73, 2, 76) (List.mem_of_getElem? (i := 59) rfl)
theorem r73_3 {FR : Nat → Nat → Option Nat} (h : h_FR FR) : FR 73 3 = some 77 := h (73, 3, 77) (List.mem_of_getElem? (i := 60) rfl)
theorem r73_4 {FR : Nat → Nat → Option Nat} (h : h_FR FR) : FR 73 4 = some 78 := h (73, 4, 78) (List.mem_of_getElem? (i := 61) rfl)
theorem r73_5 {FR : Nat → Nat → Option Nat} (h : h_FR FR) : FR 73 5 = some 79 := h (73, 5, 79) (List.mem_of_getElem? (i := 62) rfl)
theorem r73_6 {FR : Nat → Nat → Option Nat} (h : h_FR FR) : FR 73 6 = some 80 := h (73, 6, 80) (List.mem_of_getElem? (i := 63) rfl)
theorem r73_7 {FR : Nat → Nat → Option Nat} (h : h_FR FR) : FR 73 7 = some 81 := h (73, 7, 81) (List.mem_of_getElem? (i := 64) rfl)
theorem r73_8 {FR : Nat → Nat → Option Nat} (h : h_FR FR) : FR 73 8 = some 82 := h (73, 8, 82) (List.mem_of_getElem? (i := 65) rfl)
theorem r73_9 {FR : Nat → Nat → Option Nat} (h : h_FR FR) : FR 73 9 = some 83 := h (73, 9, 83) (List.mem_of_getElem? (i := 66) rfl)
theorem r73_10 {FR : Nat → Nat → Option Nat} (h : h_FR FR) : FR 73 10 = some 84 := h (73, 10, 84) (List.mem_of_getElem? (i := 67) rfl)
theorem r73_11 {FR : Nat → Nat → Option Nat} (h : h_FR FR) : FR 73 11 = some 85 := h (73, 11, 85) (List.mem_of_getElem? (i := 68) rfl)
theorem r73_12 {FR : Nat → Nat → Option Nat} (h : h_FR FR) : FR 73 12 = some 86 := h (73, 12, 86) (List.mem_of_getElem? (i := 69) rfl)
theorem r73_13 {FR : Nat → Nat → Option Nat} (h : h_FR FR) : FR 73 13 = some 87 := h (73, 13, 87) (List.mem_of_getElem? (i := 70) rfl)
theorem r73_14 {FR : Nat → Nat → Option Nat} (h : h_FR FR) : FR 73 14 = some 88 := h (73, 14, 88) (List.mem_of_getElem? (i := 71) rfl)
theorem r73_15 {FR : Nat → Nat → Option Nat} (h : h_FR FR) : FR 73 15 = some 89 := h (73, 15, 89) (List.mem_of_getElem? (i := 72) rfl)
theorem r90_0 {FR : Nat → Nat → Option Nat} (h : h_FR FR) : FR 90 0 = some 23 := h (90, 0, 23) (List.mem_of_getElem? (i := 73) rfl)
theorem r90_1 {FR : Nat → Nat → Option Nat} (h : h_FR FR) : FR 90 1 = some 48 := h (90, 1, 48) (List.mem_of_getElem? (i := 74) rfl)
theorem r90_2 {FR : Nat → Nat → Option Nat} (h : h_FR FR) : FR 90 2 = some 91 := h (90, 2, 91) (List.mem_of_getElem? (i := 75) rfl)
theorem r90_3 {FR : Nat → Nat → Option Nat} (h : h_FR FR) : FR 90 3 = some 109 := h (90, 3, 109) (List.mem_of_getElem? (i := 76) rfl)
theorem r91_0 {FR : Nat → Nat → Option Nat} (h : h_FR FR) : FR 91 0 = some 92 := h (91, 0, 92) (List.mem_of_getElem? (i := 77) rfl)
theorem r92_0 {FR : Nat → Nat → Option Nat} (h : h_FR FR) : FR 92 0 = some 93 := h (92, 0, 93) (List.mem_of_getElem? (i := 78) rfl)
theorem r92_1 {FR : Nat → Nat → Option Nat} (h : h_FR FR) : FR 92 1 = some 94 := h (92, 1, 94) (List.mem_of_getElem? (i := 79) rfl)
theorem r92_2 {FR : Nat → Nat → Option Nat} (h : h_FR FR) : FR 92 2 = some 95 := h (92, 2, 95) (List.mem_of_getElem? (i := 80) rfl)
theorem r92_3 {FR : Nat → Nat → Option Nat} (h : h_FR FR) : FR 92 3 = some 96 := h (92, 3, 96) (List.mem_of_getElem? (i := 81) rfl)
theorem r92_4 {FR : Nat → Nat → Option Nat} (h : h_FR FR) : FR 92 4 = some 97 := h (92, 4, 97) (List.mem_of_getElem? (i := 82) rfl)
theorem r92_5 {FR : Nat → Nat → Option Nat} (h : h_FR FR) : FR 92 5 = some 98 := h (92, 5, 98) (List.mem_of_getElem? (i := 83) rfl)
theorem r92_6 {FR : Nat → Nat → Option Nat} (h : h_FR FR) : FR 92 6 = some 99 := h (92, 6, 99) (List.mem_of_getElem? (i := 84) rfl)
theorem r92_7 {FR : Nat → Nat → Option Nat} (h : h_FR FR) : FR 92 7 = some 100 := h (92, 7, 100) (List.mem_of_getElem? (i := 85) rfl)
theorem r92_8 {FR : Nat → Nat → Option Nat} (h : h_FR FR) : FR 92 8 = some 101 := h (92, 8, 101) (List.mem_of_getElem? (i := 86) rfl)
theorem r92_9 {FR : Nat → Nat → Option Nat} (h : h_FR FR) : FR 92 9 = some 102 := h (92, 9, 102) (List.mem_of_getElem? (i := 87) rfl)
theorem r92_10 {FR : Nat → Nat → Option Nat} (h : h_FR FR) : FR 92 10 = some 103 := h (92, 10, 103) (List.mem_of_getElem? (i := 88) rfl)
theorem r92_11 {FR : Nat → Nat → Option Nat} (h : h_FR FR) : FR 92 11 = some 104 := h (92, 11, 104) (List.mem_of_getElem? (i := 89) rfl)
theorem r92_12 {FR : Nat → Nat → Option Nat} (h : h_FR FR) : FR 92 12 = some 105 := h (92, 12, 105) (List.mem_of_getElem? (i := 90) rfl)
theorem r92_13 {FR : Nat → Nat → Option Nat} (h : h_FR FR) : FR 92 13 = some 106 := h (92, 13, 106) (List.mem_of_getElem? (i := 91) rfl)
theorem r92_14 {FR : Nat → Nat → Option Nat} (h : h_FR FR) : FR 92 14 = some 107 := h (92, 14, 107) (List.mem_of_getElem? (i := 92) rfl)
theorem r92_15 {FR : Nat → Nat → Option Nat} (h : h_FR FR) : FR 92 15 = some 108 := h (92, 15, 108) (List.mem_of_getElem? (i := 93) rfl)
theorem r110_0 {FR : Nat → Nat → Option Nat} (h : h_FR FR) : FR 110 0 = some 111 := h (110, 0, 111) (List.mem_of_getElem? (i := 94) rfl)
theorem r110_1 {FR : Nat → Nat → Option Nat} (h : h_FR FR) : FR 110 1 = some 117 := h (110, 1, 117) (List.mem_of_getElem? (i := 95) rfl)
theorem r111_0 {FR : Nat → Nat → Option Nat} (h : h_FR FR) : FR 111 0 = some 112 := h (111, 0, 112) (List.mem_of_getElem? (i := 96) rfl)
theorem r111_1 {FR : Nat → Nat → Option Nat} (h : h_FR FR) : FR 111 1 = some 113 := h (111, 1, 113) (List.mem_of_getElem? (i := 97) rfl)
theorem r111_2 {FR : Nat → Nat → Option Nat} (h : h_FR FR) : FR 111 2 = some 114 := h (111, 2, 114) (List.mem_of_getElem? (i := 98) rfl)
theorem r111_3 {FR : Nat → Nat → Option Nat} (h : h_FR FR) : FR 111 3 = some 115 := h (111, 3, 115) (List.mem_of_getElem? (i := 99) rfl)
theorem r119_0 {FR : Nat → Nat → Option Nat} (h : h_FR FR) : FR 119 0 = some 120 := h (119, 0, 120) (List.mem_of_getElem? (i := 100) rfl)
theorem r121_1 {FR : Nat → Nat → Option Nat} (h : h_FR FR) : FR 121 1 = some 122 := h (121, 1, 122) (List.mem_of_getElem? (i := 101) rfl)
theorem r121_2 {FR : Nat → Nat → Option Nat} (h : h_FR FR) : FR 121 2 = some 123 := h (121, 2, 123) (List.mem_of_getElem? (i := 102) rfl)
theorem r121_3 {FR : Nat → Nat → Option Nat} (h : h_FR FR) : FR 121 3 = some 124 := h (121, 3, 124) (List.mem_of_getElem? (i := 103) rfl)
theorem r121_4 {FR : Nat → Nat → Option Nat} (h : h_FR FR) : FR 121 4 = some 125 := h (121, 4, 125) (List.mem_of_getElem? (i := 104) rfl)
theorem r121_12 {FR : Nat → Nat → Option Nat} (h : h_FR FR) : FR 121 12 = some 126 := h (121, 12, 126) (List.mem_of_getElem? (i := 105) rfl)
theorem r121_14 {FR : Nat → Nat → Option Nat} (h : h_FR FR) : FR 121 14 = some 127 := h (121, 14, 127) (List.mem_of_getElem? (i := 106) rfl)
theorem r121_15 {FR : Nat → Nat → Option Nat} (h : h_FR FR) : FR 121 15 = some 128 := h (121, 15, 128) (List.mem_of_getElem? (i := 107) rfl)
theorem r121_16 {FR : Nat → Nat → Option Nat} (h : h_FR FR) : FR 121 16 = some 129 := h (121, 16, 129) (List.mem_of_getElem? (i := 108) rfl)
theorem r121_17 {FR : Nat → Nat → Option Nat} (h : h_FR FR) : FR 121 17 = some 130 := h (121, 17, 130) (List.mem_of_getElem? (i := 109) rfl)
theorem r121_18 {FR : Nat → Nat → Option Nat} (h : h_FR FR) : FR 121 18 = some 131 := h (121, 18, 131) (List.mem_of_getElem? (i := 110) rfl)
theorem r121_19 {FR : Nat → Nat → Option Nat} (h : h_FR FR) : FR 121 19 = some 132 := h (121, 19, 132) (List.mem_of_getElem? (i := 111) rfl)
theorem r121_20 {FR : Nat → Nat → Option Nat} (h : h_FR FR) : FR 121 20 = some 133 := h (121, 20, 133) (List.mem_of_getElem? (i := 112) rfl)
theorem r121_21 {FR : Nat → Nat → Option Nat} (h : h_FR FR) : FR 121 21 = some 134 := h (121, 21, 134) (List.mem_of_getElem? (i := 113) rfl)
theorem r121_22 {FR : Nat → Nat → Option Nat} (h : h_FR FR) : FR 121 22 = some 135 := h (121, 22, 135) (List.mem_of_getElem? (i := 114) rfl)
theorem r121_23 {FR : Nat → Nat → Option Nat} (h : h_FR FR) : FR 121 23 = some 136 := h (121, 23, 136) (List.mem_of_getElem? (i := 115) rfl)
theorem r121_24 {FR : Nat → Nat → Option Nat} (h : h_FR FR) : FR 121 24 = some 137 := h (121, 24, 137) (List.mem_of_getElem? (i := 116) rfl)
theorem r121_25 {FR : Nat → Nat → Option Nat} (h : h_FR FR) : FR 121 25 = some 138 := h (121, 25, 138) (List.mem_of_getElem? (i := 117) rfl)
theorem r121_26 {FR : Nat → Nat → Option Nat} (h : h_FR FR) : FR 121 26 = some 139 := h (121, 26, 139) (List.mem_of_getElem? (i := 118) rfl)
theorem r121_27 {FR : Nat → Nat → Option Nat} (h : h_FR FR) : FR 121 27 = some 140 := h (121, 27, 140) (List.mem_of_getElem? (i := 119) rfl)
theorem r121_28 {FR : Nat → Nat → Option Nat} (h : h_FR FR) : FR 121 28 = some 141 := h (121, 28, 141) (List.mem_of_getElem? (i := 120) rfl)
theorem r121_45 {FR : Nat → Nat → Option Nat} (h : h_FR FR) : FR 121 45 = some 142 := h (121, 45, 142) (List.mem_of_getElem? (i := 121) rfl)
theorem r121_48 {FR : Nat → Nat → Option Nat} (h : h_FR FR) : FR 121 48 = some 143 := h (121, 48, 143) (List.mem_of_getElem? (i := 122) rfl)
theorem r121_49 {FR : Nat → Nat → Option Nat} (h : h_FR FR) : FR 121 49 = some 144 := h (121, 49, 144) (List.mem_of_getElem? (i := 123) rfl)
theorem r121_50 {FR : Nat → Nat → Option Nat} (h : h_FR FR) : FR 121 50 = some 145 := h (121, 50, 145) (List.mem_of_getElem? (i := 124) rfl)
theorem r121_51 {FR : Nat → Nat → Option Nat} (h : h_FR FR) : FR 121 51 = some 146 := h (121, 51, 146) (List.mem_of_getElem? (i := 125) rfl)
theorem r121_52 {FR : Nat → Nat → Option Nat} (h : h_FR FR) : FR 121 52 = some 147 := h (121, 52, 147) (List.mem_of_getElem? (i := 126) rfl)
theorem r121_60 {FR : Nat → Nat → Option Nat} (h : h_FR FR) : FR 121 60 = some 148 := h (121, 60, 148) (List.mem_of_getElem? (i := 127) rfl)
theorem r121_62 {FR : Nat → Nat → Option Nat} (h : h_FR FR) : FR 121 62 = some 149 := h (121, 62, 149) (List.mem_of_getElem? (i := 128) rfl)
theorem r121_63 {FR : Nat → Nat → Option Nat} (h : h_FR FR) : FR 121 63 = some 150 := h (121, 63, 150) (List.mem_of_getElem? (i := 129) rfl)
theorem r121_64 {FR : Nat → Nat → Option Nat} (h : h_FR FR) : FR 121 64 = some 151 := h (121, 64, 151) (List.mem_of_getElem? (i := 130) rfl)
theorem r121_65 {FR : Nat → Nat → Option Nat} (h : h_FR FR) : FR 121 65 = some 152 := h (121, 65, 152) (List.mem_of_getElem? (i := 131) rfl)
theorem r121_66 {FR : Nat → Nat → Option Nat} (h : h_FR FR) : FR 121 66 = some 153 := h (121, 66, 153) (List.mem_of_getElem? (i := 132) rfl)
theorem r121_72 {FR : Nat → Nat → Option Nat} (h : h_FR FR) : FR 121 72 = some 154 := h (121, 72, 154) (List.mem_of_getElem? (i := 133) rfl)
theorem r121_75 {FR : Nat → Nat → Option Nat} (h : h_FR FR) : FR 121 75 = some 155 := h (121, 75, 155) (List.mem_of_getElem? (i := 134) rfl)
theorem r121_76 {FR : Nat → Nat → Option Nat} (h : h_FR FR) : FR 121 76 = some 156 := h (121, 76, 156) (List.mem_of_getElem? (i := 135) rfl)
theorem r121_77 {FR : Nat → Nat → Option Nat} (h : h_FR FR) : FR 121 77 = some 157 := h (121, 77, 157) (List.mem_of_getElem? (i := 136) rfl)
theorem r121_79 {FR : Nat → Nat → Option Nat} (h : h_FR FR) : FR 121 79 = some 158 := h (121, 79, 158) (List.mem_of_getElem? (i := 137) rfl)
theorem r121_80 {FR : Nat → Nat → Option Nat} (h : h_FR FR) : FR 121 80 = some 159 := h (121, 80, 159) (List.mem_of_getElem? (i := 138) rfl)
theorem r121_81 {FR : Nat → Nat → Option Nat} (h : h_FR FR) : FR 121 81 = some 160 := h (121, 81, 160) (List.mem_of_getElem? (i := 139) rfl)
theorem r121_82 {FR : Nat → Nat → Option Nat} (h : h_FR FR) : FR 121 82 = some 161 := h (121, 82, 161) (List.mem_of_getElem? (i := 140) rfl)
theorem r121_83 {FR : Nat → Nat → Option Nat} (h : h_FR FR) : FR 121 83 = some 162 := h (121, 83, 162) (List.mem_of_getElem? (i := 141) rfl)
theorem r121_84 {FR : Nat → Nat → Option Nat} (h : h_FR FR) : FR 121 84 = some 163 := h (121, 84, 163) (List.mem_of_getElem? (i := 142) rfl)
theorem r121_85 {FR : Nat → Nat → Option Nat} (h : h_FR FR) : FR 121 85 = some 164 := h (121, 85, 164) (List.mem_of_getElem? (i := 143) rfl)
theorem r121_86 {FR : Nat → Nat → Option Nat} (h : h_FR FR) : FR 121 86 = some 165 := h (121, 86, 165) (List.mem_of_getElem? (i := 144) rfl)
theorem r121_87 {FR : Nat → Nat → Option Nat} (h : h_FR FR) : FR 121 87 = some 166 := h (121, 87, 166) (List.mem_of_getElem? (i := 145) rfl)
theorem r121_88 {FR : Nat → Nat → Option Nat} (h : h_FR FR) : FR 121 88 = some 167 := h (121, 88, 167) (List.mem_of_getElem? (i := 146) rfl)
theorem r121_89 {FR : Nat → Nat → Option Nat} (h : h_FR FR) : FR 121 89 = some 168 := h (121, 89, 168) (List.mem_of_getElem? (i := 147) rfl)
theorem r121_96 {FR : Nat → Nat → Option Nat} (h : h_FR FR) : FR 121 96 = some 169 := h (121, 96, 169) (List.mem_of_getElem? (i := 148) rfl)
theorem r121_97 {FR : Nat → Nat → Option Nat} (h : h_FR FR) : FR 121 97 = some 170 := h (121, 97, 170) (List.mem_of_getElem? (i := 149) rfl)
theorem r121_98 {FR : Nat → Nat → Option Nat} (h : h_FR FR) : FR 121 98 = some 171 := h (121, 98, 171) (List.mem_of_getElem? (i := 150) rfl)
theorem r121_99 {FR : Nat → Nat → Option Nat} (h : h_FR FR) : FR 121 99 = some 172 := h (121, 99, 172) (List.mem_of_getElem? (i := 151) rfl)
theorem r121_100 {FR : Nat → Nat → Option Nat} (h : h_FR FR) : FR 121 100 = some 173 := h (121, 100, 173) (List.mem_of_getElem? (i := 152) rfl)
theorem r121_102 {FR : Nat → Nat → Option Nat} (h : h_FR FR) : FR 121 102 = some 174 := h (121, 102, 174) (List.mem_of_getElem? (i := 153) rfl)
theorem r121_103 {FR : Nat → Nat → Option Nat} (h : h_FR FR) : FR 121 103 = some 175 := h (121, 103, 175) (List.mem_of_getElem? (i := 154) rfl)
/-- what of the reference's cells may have changed: its fields ks, its arrays qs -/
def h_fr {α : Type} (F F' : Nat → Nat → α) (ks qs : List Nat) : Prop := (∀ k, k ∉ ks → F' 121 k = F 121 k) ∧ ∀ q, q ≠ 121 → q ∉ qs → F' q = F q
theorem fr_rf {α : Type} {F : Nat → Nat → α} {ks qs : List Nat} : h_fr F F ks qs := ⟨fun _ _ => rfl, fun _ _ _ => rfl⟩
theorem fr_up {α : Type} {F F' : Nat → Nat → α} {ks qs : List Nat} {k : Nat} {x : α} (h : h_fr F F' ks qs) (hk : k ∈ ks) : h_fr F (h_up F' 121 k x) ks qs :=
  ⟨fun i hi => (h_up_ne (fun (e : i = k) => hi (by rw [e]; exact hk))).trans (h.1 i hi), fun q h1 h2 => (h_up_nc h1).trans (h.2 q h1 h2)⟩
theorem fr_ua {α : Type} {F F' : Nat → Nat → α} {ks qs : List Nat} {q k : Nat} {x : α} (h : h_fr F F' ks qs) (hq : q ∈ qs) (h1 : q ≠ 121) : h_fr F (h_up F' q k x) ks qs :=
  ⟨fun i hi => (congrFun (h_up_nc (fun e => h1 e.symm)) i).trans (h.1 i hi), fun q2 h2 h3 => (h_up_nc (fun (e : q2 = q) => h3 (by rw [e]; exact hq))).trans (h.2 q2 h2 h3)⟩
theorem fr_tr {α : Type} {F F1 F2 : Nat → Nat → α} {ks qs ks2 qs2 : List Nat} (h : h_fr F F1 ks qs) (h2 : h_fr F1 F2 ks2 qs2) (s1 : ∀ k ∈ ks2, k ∈ ks) (s2 : ∀ q ∈ qs2, q ∈ qs) : h_fr F F2 ks qs :=
  ⟨fun k hk => (h2.1 k (fun e => hk (s1 k e))).trans (h.1 k hk), fun q h3 h4 => (h2.2 q h3 (fun e => h4 (s2 q e))).trans (h.2 q h3 h4)⟩
/-- the places of an array stay in a range -/
def h_ai (c N : Nat) (lo hi : Int) (F : Nat → Nat → Int32) : Prop := ∀ i, i < N → lo ≤ (F c i).toInt ∧ (F c i).toInt ≤ hi
def h_al (c N : Nat) (lo hi : Int) (F : Nat → Nat → Int64) : Prop := ∀ i, i < N → lo ≤ (F c i).toInt ∧ (F c i).toInt ≤ hi
theorem ai_at {c N : Nat} {lo hi : Int} {F : Nat → Nat → Int32} {x : Int32} {A : Int} (h : h_ai c N lo hi F) (hx : x.toInt = A) (h1 : 0 ≤ A) (h2 : A < N) : lo ≤ (F c x.toNatClampNeg).toInt ∧ (F c x.toNatClampNeg).toInt ≤ hi := h _ (by rw [i_cl hx]; omega)
theorem al_at {c N : Nat} {lo hi : Int} {F : Nat → Nat → Int64} {x : Int32} {A : Int} (h : h_al c N lo hi F) (hx : x.toInt = A) (h1 : 0 ≤ A) (h2 : A < N) : lo ≤ (F c x.toNatClampNeg).toInt ∧ (F c x.toNatClampNeg).toInt ≤ hi := h _ (by rw [i_cl hx]; omega)
theorem ai_up {c N k : Nat} {lo hi : Int} {F : Nat → Nat → Int32} {x : Int32} {A : Int} (h : h_ai c N lo hi F) (hx : x.toInt = A) (h1 : lo ≤ A) (h2 : A ≤ hi) : h_ai c N lo hi (h_up F c k x) := by
  intro i hi2
  by_cases e : i = k
  · subst e; rw [h_up_eq]; omega
  · rw [h_up_ne e]; exact h i hi2
theorem al_up {c N k : Nat} {lo hi : Int} {F : Nat → Nat → Int64} {x : Int64} {A : Int} (h : h_al c N lo hi F) (hx : x.toInt = A) (h1 : lo ≤ A) (h2 : A ≤ hi) : h_al c N lo hi (h_up F c k x) := by
  intro i hi2
  by_cases e : i = k
  · subst e; rw [h_up_eq]; omega
  · rw [h_up_ne e]; exact h i hi2
theorem ai_eq {c N : Nat} {lo hi : Int} {F F' : Nat → Nat → Int32} (h : h_ai c N lo hi F) (e : F' c = F c) : h_ai c N lo hi F' := by
  intro i hi2; rw [e]; exact h i hi2
theorem al_eq {c N : Nat} {lo hi : Int} {F F' : Nat → Nat → Int64} (h : h_al c N lo hi F) (e : F' c = F c) : h_al c N lo hi F' := by
  intro i hi2; rw [e]; exact h i hi2
theorem i_ne0 {x : Int32} {A : Int} (hx : x.toInt = A) (h : A ≠ 0) : ¬ x = 0 := fun e => h (by rw [← hx, e]; rfl)
theorem l_ne0 {x : Int64} {A : Int} (hx : x.toInt = A) (h : A ≠ 0) : ¬ x = 0 := fun e => h (by rw [← hx, e]; rfl)
section HT
variable {base d : Nat} {X : Option (Nat × Nat × (Nat → Int32))} {j pc : Nat} {L : xL} {st : List Value} {s : hS} {Φ : Option Value → hS → Prop}
theorem hw_ti {sk : xK} {x : Int32} (k : ∀ y : Int32, hw sk base d X j pc L (.int y :: st) s Φ) : hw sk base d X j pc L (.int x :: st) s Φ := k x
theorem hw_tl {sk : xK} {x : Int64} (k : ∀ y : Int64, hw sk base d X j pc L (.long y :: st) s Φ) : hw sk base d X j pc L (.long x :: st) s Φ := k x
theorem hw_tib {sk : xK} {x : Int32} {lo hi : Int} (h : lo ≤ x.toInt ∧ x.toInt ≤ hi) (k : ∀ y : Int32, lo ≤ y.toInt ∧ y.toInt ≤ hi → hw sk base d X j pc L (.int y :: st) s Φ) : hw sk base d X j pc L (.int x :: st) s Φ := k x h
theorem hw_tlb {sk : xK} {x : Int64} {lo hi : Int} (h : lo ≤ x.toInt ∧ x.toInt ≤ hi) (k : ∀ y : Int64, lo ≤ y.toInt ∧ y.toInt ≤ hi → hw sk base d X j pc L (.long y :: st) s Φ) : hw sk base d X j pc L (.long x :: st) s Φ := k x h
theorem hw_tie {sk : xK} {x : Int32} {A : Int} (h : x.toInt = A) (k : ∀ y : Int32, y.toInt = A → hw sk base d X j pc L (.int y :: st) s Φ) : hw sk base d X j pc L (.int x :: st) s Φ := k x h
theorem hw_tle {sk : xK} {x : Int64} {A : Int} (h : x.toInt = A) (k : ∀ y : Int64, y.toInt = A → hw sk base d X j pc L (.long y :: st) s Φ) : hw sk base d X j pc L (.long x :: st) s Φ := k x h
end HT
theorem i_01 {x : Int32} {A : Int} (hx : x.toInt = A) (h0 : 0 ≤ A) (h1 : A ≤ 1) : x = 0 ∨ x = 1 := by
  rcases (show A = 0 ∨ A = 1 by omega) with e | e
  · exact Or.inl (i_eqv (by rw [hx, e]; rfl))
  · exact Or.inr (i_eqv (by rw [hx, e]; rfl))
theorem i_nz {x : Int32} {A : Int} (hx : x.toInt = A) (h0 : 0 ≤ A) (h1 : A ≤ 1) : narrow .boolean (.int x) = .int x := by
  rcases i_01 hx h0 h1 with rfl | rfl <;> rfl
end
section
/-! More of numbers; what holds between the reference's arrays. -/
theorem l_nat {x : Int64} {A : Int} (hx : x.toInt = A) (h0 : 0 ≤ A) : (x.toBitVec.toNat : Int) = A := by
  have e2 : x.toInt = x.toBitVec.toInt := rfl
  rw [BitVec.toInt_eq_toNat_cond] at e2
  have b := x.toBitVec.isLt
  split at e2 <;> omega
theorem l_of {x : Int64} {A : Int} (h : (x.toBitVec.toNat : Int) = A) (h1 : A < 9223372036854775808) : x.toInt = A := by
  have e2 : x.toInt = x.toBitVec.toInt := rfl
  rw [BitVec.toInt_eq_toNat_cond] at e2
  split at e2 <;> omega
theorem l_shl8 {x : Int64} {A : Int} (hx : x.toInt = A) (h0 : 0 ≤ A) (h1 : A ≤ 140737488355328) : (x <<< ((8 : Int32).toInt64 &&& 63)).toInt = A * 256 := by
  have e : ((8 : Int32).toInt64 &&& 63) = (8 : Int64) := by decide
  rw [e]
  have hn := l_nat hx h0
  refine l_of ?_ (by omega)
  have e2 : (x <<< (8 : Int64)).toBitVec = x.toBitVec <<< 8 := by
    rw [Int64.toBitVec_shiftLeft]
    rfl
  rw [e2, BitVec.toNat_shiftLeft, Nat.shiftLeft_eq, Nat.mod_eq_of_lt (by omega)]
  omega
theorem l_or8 {x y : Int64} {A B : Int} (hx : x.toInt = A * 256) (hy : y.toInt = B) (h0 : 0 ≤ A) (h1 : A ≤ 140737488355328) (h2 : 0 ≤ B) (h3 : B ≤ 255) : (x ||| y).toInt = A * 256 + B := by
  have hn := l_nat hx (by omega)
  have hm := l_nat hy h2
  refine l_of ?_ (by omega)
  rw [Int64.toBitVec_or, BitVec.toNat_or]
  have ex : x.toBitVec.toNat = 2 ^ 8 * A.toNat := by omega
  have ey : y.toBitVec.toNat < 2 ^ 8 := by omega
  rw [ex, ← Nat.two_pow_add_eq_or_of_lt ey]
  omega
section HK
variable {base d : Nat} {X : Option (Nat × Nat × (Nat → Int32))} {j : Nat} {y : MethodName} {nL : Nat} {ret : Option FieldType} {pc : Nat} {L : xL} {st : List Value} {Φ : Option Value → hS → Prop} {n sl : Nat} {SH : Nat → Nat × Nat} {FI : Nat → Nat → Int32} {FL : Nat → Nat → Int64} {FR : Nat → Nat → Option Nat}
theorem hw_iastk {sk : xK} {c z k : Nat} {i x : Int32} (q : x_at xMM j pc .iastore 1 y nL ret) (hc : c < n) (hs : SH c = (100, z)) (hin : vp_in i z) (hk : i.toNatClampNeg = k) (kk : hw sk base d X j (pc + 1) L st (n, sl, SH, h_up FI c k x, FL, FR) Φ) : hw sk base d X j pc L (.int x :: .int i :: .ref (base + c) :: st) (n, sl, SH, FI, FL, FR) Φ := by
  subst hk; exact hw_iast q hc hs hin kk
theorem hw_lastk {sk : xK} {c z k : Nat} {i : Int32} {x : Int64} (q : x_at xMM j pc .lastore 1 y nL ret) (hc : c < n) (hs : SH c = (101, z)) (hin : vp_in i z) (hk : i.toNatClampNeg = k) (kk : hw sk base d X j (pc + 1) L st (n, sl, SH, FI, h_up FL c k x, FR) Φ) : hw sk base d X j pc L (.long x :: .int i :: .ref (base + c) :: st) (n, sl, SH, FI, FL, FR) Φ := by
  subst hk; exact hw_last q hc hs hin kk
theorem hw_zastk {sk : xK} {c z k : Nat} {i x : Int32} (q : x_at xMM j pc .bastore 1 y nL ret) (hc : c < n) (hs : SH c = (102, z)) (hin : vp_in i z) (hk : i.toNatClampNeg = k) (kk : hw sk base d X j (pc + 1) L st (n, sl, SH, h_up FI c k (vp_nar .boolean x), FL, FR) Φ) : hw sk base d X j pc L (.int x :: .int i :: .ref (base + c) :: st) (n, sl, SH, FI, FL, FR) Φ := by
  subst hk; exact hw_zast q hc hs hin kk
end HK
/-- kinds, values and sizes that belong together: a register's number, or a block's place and size in the pool -/
def rl_h (N : Nat) (k : Nat → Int32) (v : Nat → Int64) (s : Nat → Int32) : Prop := ∀ i, i < N → ((k i).toInt = 2 → 0 ≤ (v i).toInt ∧ (v i).toInt ≤ 31) ∧ ((k i).toInt = 4 → 0 ≤ (v i).toInt ∧ 0 ≤ (s i).toInt ∧ (s i).toInt ≤ 600 ∧ (v i).toInt + (s i).toInt ≤ 19200)
theorem rl_h_up {N i : Nat} {k : Nat → Int32} {v : Nat → Int64} {s : Nat → Int32} {x z : Int32} {y : Int64} (h : rl_h N k v s) (h2 : x.toInt = 2 → 0 ≤ y.toInt ∧ y.toInt ≤ 31) (h4 : x.toInt = 4 → 0 ≤ y.toInt ∧ 0 ≤ z.toInt ∧ z.toInt ≤ 600 ∧ y.toInt + z.toInt ≤ 19200) : rl_h N (va_up k i x) (va_up v i y) (va_up s i z) := by
  intro q hq
  by_cases e : q = i
  · subst e; simp only [va_up, if_pos]; exact ⟨h2, h4⟩
  · simp only [va_up, if_neg e]; exact h q hq
theorem rl_h_k {N i : Nat} {k : Nat → Int32} {v : Nat → Int64} {s : Nat → Int32} {x : Int32} (h : rl_h N k v s) (h2 : x.toInt ≠ 2) (h4 : x.toInt ≠ 4) : rl_h N (va_up k i x) v s := by
  intro q hq
  by_cases e : q = i
  · subst e; simp only [va_up, if_pos]; exact ⟨fun h => absurd h h2, fun h => absurd h h4⟩
  · simp only [va_up, if_neg e]; exact h q hq
theorem rl_h_kv {N i : Nat} {k : Nat → Int32} {v : Nat → Int64} {s : Nat → Int32} {x : Int32} {y : Int64} (h : rl_h N k v s) (h2 : x.toInt ≠ 2) (h4 : x.toInt ≠ 4) : rl_h N (va_up k i x) (va_up v i y) s := by
  intro q hq
  by_cases e : q = i
  · subst e; simp only [va_up, if_pos]; exact ⟨fun h => absurd h h2, fun h => absurd h h4⟩
  · simp only [va_up, if_neg e]; exact h q hq
/-- the parts told: a register's number, or a block's size -/
def rl_p (k : Nat → Int32) (v : Nat → Int64) : Prop := ∀ i, i < 16 → ((k i).toInt = 2 → 0 ≤ (v i).toInt ∧ (v i).toInt ≤ 31) ∧ ((k i).toInt = 4 → 0 ≤ (v i).toInt ∧ (v i).toInt ≤ 600)
theorem rl_p_up {i : Nat} {k : Nat → Int32} {v : Nat → Int64} {x : Int32} {y : Int64} (h : rl_p k v) (h2 : x.toInt = 2 → 0 ≤ y.toInt ∧ y.toInt ≤ 31) (h4 : x.toInt = 4 → 0 ≤ y.toInt ∧ y.toInt ≤ 600) : rl_p (va_up k i x) (va_up v i y) := by
  intro q hq
  by_cases e : q = i
  · subst e; simp only [va_up, if_pos]; exact ⟨h2, h4⟩
  · simp only [va_up, if_neg e]; exact h q hq
/-- where calls go back to -/
def rl_b (b f t : Nat → Int32) : Prop := ∀ i, i < 16 → 0 ≤ (f i).toInt ∧ (f i).toInt ≤ (b i).toInt ∧ (b i).toInt ≤ (t i).toInt ∧ (t i).toInt ≤ 19200 ∧ (t i).toInt ≤ (f i).toInt + 600
theorem rl_b_up {i : Nat} {b f t : Nat → Int32} {x y z : Int32} (h : rl_b b f t) (h1 : 0 ≤ y.toInt) (h2 : y.toInt ≤ x.toInt) (h3 : x.toInt ≤ z.toInt) (h4 : z.toInt ≤ 19200) (h5 : z.toInt ≤ y.toInt + 600) : rl_b (va_up b i x) (va_up f i y) (va_up t i z) := by
  intro q hq
  by_cases e : q = i
  · subst e; simp only [va_up, if_pos]; exact ⟨h1, h2, h3, h4, h5⟩
  · simp only [va_up, if_neg e]; exact h q hq
theorem ai_nc {c N c2 k : Nat} {lo hi : Int} {F : Nat → Nat → Int32} {x : Int32} (h : h_ai c N lo hi F) (e : c ≠ c2) : h_ai c N lo hi (h_up F c2 k x) := ai_eq h (h_up_nc e)
theorem al_nc {c N c2 k : Nat} {lo hi : Int} {F : Nat → Nat → Int64} {x : Int64} (h : h_al c N lo hi F) (e : c ≠ c2) : h_al c N lo hi (h_up F c2 k x) := al_eq h (h_up_nc e)
theorem i_lt {x : Int32} {A : Int} {N : Nat} (hx : x.toInt = A) (h1 : 0 ≤ A) (h2 : A < N) : x.toNatClampNeg < N := by rw [i_cl hx]; omega
/-- a statement that is kept out of sight -/
def hid (p : Prop) : Prop := p
theorem hid_e {p : Prop} (h : hid p) : p := h
end
section
def nX12_puts : Nat := 0xb1dfffa7f80284be00b56004be00b42a2a4f7eff00117a1c1bbe00b42a1e00b42a23009b1c3d1810
theorem bX12_puts : cX12_puts.data.toList.map UInt8.toNat = x_un nX12_puts 40 := by decide +kernel
def iX12_puts : List (Nat × Jvm.ClassFile.Instr × Nat) := [(0, .bipush 24, 2), (2, .istore_n 2, 1), (3, .iload_n 2, 1), (4, .ifCond .lt 35, 3), (7, .aload_n 0, 1), (8, .getfield 30, 3), (11, .aload_n 0, 1), (12, .getfield 190, 3), (15, .iload_n 1, 1), (16, .iload_n 2, 1), (17, .ishr, 1), (18, .sipush 255, 3), (21, .iand, 1), (22, .iastore, 1), (23, .aload_n 0, 1), (24, .aload_n 0, 1), (25, .getfield 190, 3), (28, .iconst 1, 1), (29, .iadd, 1), (30, .putfield 190, 3), (33, .iinc 2 (-8), 3), (36, .goto (-33), 3), (39, .return_, 1)]
theorem dX12_puts : x_il nX12_puts 40 iX12_puts = true := by decide +kernel
theorem aX12_puts (k : Nat) {pc : Nat} {i : Jvm.ClassFile.Instr} {len : Nat} (hk : iX12_puts[k]? = some (pc, i, len)) : x_at xMM 153 pc i len yX12_puts 3 none := ⟨cX12_puts, rfl, x_il_ok bX12_puts dX12_puts k hk⟩
set_option maxHeartbeats 4000000 in
set_option maxRecDepth 100000 in
theorem m_puts {sk : xK} {base d n sl : Nat} {SH : Nat → Nat × Nat} {FI : Nat → Nat → Int32} {FL : Nat → Nat → Int64} {FR : Nat → Nat → Option Nat} (hS : h_S n SH) (hF : h_FR FR) (a1 : Int32) (g0 : 0 ≤ (FI 121 13).toInt ∧ (FI 121 13).toInt ≤ 996) (ai126 : h_ai 126 1000 0 255 FI) : hw sk base d none 153 0 [(0, .ref (base + 121)), (1, .int (a1))] [] (n, sl, SH, FI, FL, FR) (h_V (fun s => ∃ FI' FL', s = (n, sl, SH, FI', FL', FR) ∧ h_fr FI FI' [13] [126] ∧ FL = FL' ∧ (((FI' 121 13)).toInt = (FI 121 13).toInt + 4) ∧ h_ai 126 1000 0 255 FI')) := by
  have rg_a1 := i_rng a1
  refine hw_bp (v := (24 : Int32)) (aX12_puts 0 rfl) (by decide) ?_
  refine xw_istoren (L2 := [(2, .int ((24 : Int32))), (0, .ref (base + 121)), (1, .int (a1))]) (aX12_puts 1 rfl) (by decide) rfl ?_
  refine xw_iloadn (aX12_puts 2 rfl) rfl ?_
  refine hw_iflt (tgt := 39) (aX12_puts 3 rfl) (by decide) (by decide : (24 : Int32).toInt = 24) (fun cd1 => ?_) (fun cd1 => ?_)
  · omega
  · refine hw_aloadn (aX12_puts 4 rfl) rfl ?_
    refine hw_get (v := .ref (base + 126)) (aX12_puts 5 rfl) wf_RX12_30 (c121 hS) (s121 hS) (by decide) (congrArg (fun r => va_rf (h_rf base r)) (r121_12 hF)) ?_
    refine hw_aloadn (aX12_puts 6 rfl) rfl ?_
    refine hw_get (v := .int (FI 121 13)) (aX12_puts 7 rfl) wf_RX12_190 (c121 hS) (s121 hS) (by decide) (congrArg Value.int (show FI 121 13 = FI 121 13 from rfl)) ?_
    refine xw_iloadn (aX12_puts 8 rfl) rfl ?_
    refine xw_iloadn (aX12_puts 9 rfl) rfl ?_
    refine xw_ishr (aX12_puts 10 rfl) ?_
    refine hw_ti (fun x2 => ?_)
    have b3 := i_rng x2
    refine hw_sp (v := (255 : Int32)) (aX12_puts 11 rfl) (by decide) ?_
    refine xw_iand (aX12_puts 12 rfl) ?_
    refine hw_tib (lo := 0) (hi := 255) (i_and (x := x2) (m := (255 : Int32)) (M := 255) (by decide) (by decide)) (fun x4 b5 => ?_)
    refine hw_iast (aX12_puts 13 rfl) (c126 hS) (s126 hS) (h_in rfl (by omega) (by omega)) ?_
    have e6 : h_ai 126 1000 0 255 (h_up FI 126 (FI 121 13).toNatClampNeg (x4)) := ai_up ai126 rfl (by omega) (by omega)
    refine hw_aloadn (aX12_puts 14 rfl) rfl ?_
    refine hw_aloadn (aX12_puts 15 rfl) rfl ?_
    refine hw_get (v := .int (FI 121 13)) (aX12_puts 16 rfl) wf_RX12_190 (c121 hS) (s121 hS) (by decide) (congrArg Value.int (show (h_up FI 126 (FI 121 13).toNatClampNeg (x4)) 121 13 = FI 121 13 from rfl)) ?_
    refine hw_ic (v := (1 : Int32)) (aX12_puts 17 rfl) (by decide) ?_
    refine xw_iadd (aX12_puts 18 rfl) ?_
    refine hw_tie (A := ((FI 121 13).toInt) + (1)) (i_add rfl (by decide : (1 : Int32).toInt = 1) (by omega) (by omega)) (fun x7 e8 => ?_)
    refine hw_puti (aX12_puts 19 rfl) wf_RX12_190 (c121 hS) (s121 hS) (by decide) rfl rfl ?_
    refine xw_iinc (L2 := [(2, .int ((16 : Int32))), (0, .ref (base + 121)), (1, .int (a1))]) (aX12_puts 20 rfl) rfl (by decide) rfl ?_
    refine xw_goto (tgt := 3) (aX12_puts 21 rfl) (by decide) ?_
    refine xw_iloadn (aX12_puts 2 rfl) rfl ?_
    refine hw_iflt (tgt := 39) (aX12_puts 3 rfl) (by decide) (by decide : (16 : Int32).toInt = 16) (fun cd9 => ?_) (fun cd9 => ?_)
    · omega
    · refine hw_aloadn (aX12_puts 4 rfl) rfl ?_
      refine hw_get (v := .ref (base + 126)) (aX12_puts 5 rfl) wf_RX12_30 (c121 hS) (s121 hS) (by decide) (congrArg (fun r => va_rf (h_rf base r)) (r121_12 hF)) ?_
      refine hw_aloadn (aX12_puts 6 rfl) rfl ?_
      refine hw_get (v := .int (x7)) (aX12_puts 7 rfl) wf_RX12_190 (c121 hS) (s121 hS) (by decide) (congrArg Value.int (show (h_up (h_up FI 126 (FI 121 13).toNatClampNeg (x4)) 121 13 (x7)) 121 13 = x7 from rfl)) ?_
      refine xw_iloadn (aX12_puts 8 rfl) rfl ?_
      refine xw_iloadn (aX12_puts 9 rfl) rfl ?_
      refine xw_ishr (aX12_puts 10 rfl) ?_
      refine hw_ti (fun x10 => ?_)
      have b11 := i_rng x10
      refine hw_sp (v := (255 : Int32)) (aX12_puts 11 rfl) (by decide) ?_
      refine xw_iand (aX12_puts 12 rfl) ?_
      refine hw_tib (lo := 0) (hi := 255) (i_and (x := x10) (m := (255 : Int32)) (M := 255) (by decide) (by decide)) (fun x12 b13 => ?_)
      refine hw_iast (aX12_puts 13 rfl) (c126 hS) (s126 hS) (h_in e8 (by omega) (by omega)) ?_
      have e14 : h_ai 126 1000 0 255 (h_up (h_up (h_up FI 126 (FI 121 13).toNatClampNeg (x4)) 121 13 (x7)) 126 (x7).toNatClampNeg (x12)) := ai_up (show h_ai 126 1000 0 255 (h_up (h_up FI 126 (FI 121 13).toNatClampNeg (x4)) 121 13 (x7)) from (ai_nc e6 (by decide))) rfl (by omega) (by omega)
      refine hw_aloadn (aX12_puts 14 rfl) rfl ?_
      refine hw_aloadn (aX12_puts 15 rfl) rfl ?_
      refine hw_get (v := .int (x7)) (aX12_puts 16 rfl) wf_RX12_190 (c121 hS) (s121 hS) (by decide) (congrArg Value.int (show (h_up (h_up (h_up FI 126 (FI 121 13).toNatClampNeg (x4)) 121 13 (x7)) 126 (x7).toNatClampNeg (x12)) 121 13 = x7 from rfl)) ?_
      refine hw_ic (v := (1 : Int32)) (aX12_puts 17 rfl) (by decide) ?_
      refine xw_iadd (aX12_puts 18 rfl) ?_
      refine hw_tie (A := (((FI 121 13).toInt) + (1)) + (1)) (i_add e8 (by decide : (1 : Int32).toInt = 1) (by omega) (by omega)) (fun x15 e16 => ?_)
      refine hw_puti (aX12_puts 19 rfl) wf_RX12_190 (c121 hS) (s121 hS) (by decide) rfl rfl ?_
      refine xw_iinc (L2 := [(2, .int ((8 : Int32))), (0, .ref (base + 121)), (1, .int (a1))]) (aX12_puts 20 rfl) rfl (by decide) rfl ?_
      refine xw_goto (tgt := 3) (aX12_puts 21 rfl) (by decide) ?_
      refine xw_iloadn (aX12_puts 2 rfl) rfl ?_
      refine hw_iflt (tgt := 39) (aX12_puts 3 rfl) (by decide) (by decide : (8 : Int32).toInt = 8) (fun cd17 => ?_) (fun cd17 => ?_)
      · omega
      · refine hw_aloadn (aX12_puts 4 rfl) rfl ?_
        refine hw_get (v := .ref (base + 126)) (aX12_puts 5 rfl) wf_RX12_30 (c121 hS) (s121 hS) (by decide) (congrArg (fun r => va_rf (h_rf base r)) (r121_12 hF)) ?_
        refine hw_aloadn (aX12_puts 6 rfl) rfl ?_
        refine hw_get (v := .int (x15)) (aX12_puts 7 rfl) wf_RX12_190 (c121 hS) (s121 hS) (by decide) (congrArg Value.int (show (h_up (h_up (h_up (h_up FI 126 (FI 121 13).toNatClampNeg (x4)) 121 13 (x7)) 126 (x7).toNatClampNeg (x12)) 121 13 (x15)) 121 13 = x15 from rfl)) ?_
        refine xw_iloadn (aX12_puts 8 rfl) rfl ?_
        refine xw_iloadn (aX12_puts 9 rfl) rfl ?_
        refine xw_ishr (aX12_puts 10 rfl) ?_
        refine hw_ti (fun x18 => ?_)
        have b19 := i_rng x18
        refine hw_sp (v := (255 : Int32)) (aX12_puts 11 rfl) (by decide) ?_
        refine xw_iand (aX12_puts 12 rfl) ?_
        refine hw_tib (lo := 0) (hi := 255) (i_and (x := x18) (m := (255 : Int32)) (M := 255) (by decide) (by decide)) (fun x20 b21 => ?_)
        refine hw_iast (aX12_puts 13 rfl) (c126 hS) (s126 hS) (h_in e16 (by omega) (by omega)) ?_
        have e22 : h_ai 126 1000 0 255 (h_up (h_up (h_up (h_up (h_up FI 126 (FI 121 13).toNatClampNeg (x4)) 121 13 (x7)) 126 (x7).toNatClampNeg (x12)) 121 13 (x15)) 126 (x15).toNatClampNeg (x20)) := ai_up (show h_ai 126 1000 0 255 (h_up (h_up (h_up (h_up FI 126 (FI 121 13).toNatClampNeg (x4)) 121 13 (x7)) 126 (x7).toNatClampNeg (x12)) 121 13 (x15)) from (ai_nc e14 (by decide))) rfl (by omega) (by omega)
        refine hw_aloadn (aX12_puts 14 rfl) rfl ?_
        refine hw_aloadn (aX12_puts 15 rfl) rfl ?_
        refine hw_get (v := .int (x15)) (aX12_puts 16 rfl) wf_RX12_190 (c121 hS) (s121 hS) (by decide) (congrArg Value.int (show (h_up (h_up (h_up (h_up (h_up FI 126 (FI 121 13).toNatClampNeg (x4)) 121 13 (x7)) 126 (x7).toNatClampNeg (x12)) 121 13 (x15)) 126 (x15).toNatClampNeg (x20)) 121 13 = x15 from rfl)) ?_
        refine hw_ic (v := (1 : Int32)) (aX12_puts 17 rfl) (by decide) ?_
        refine xw_iadd (aX12_puts 18 rfl) ?_
        refine hw_tie (A := ((((FI 121 13).toInt) + (1)) + (1)) + (1)) (i_add e16 (by decide : (1 : Int32).toInt = 1) (by omega) (by omega)) (fun x23 e24 => ?_)
        refine hw_puti (aX12_puts 19 rfl) wf_RX12_190 (c121 hS) (s121 hS) (by decide) rfl rfl ?_
        refine xw_iinc (L2 := [(2, .int ((0 : Int32))), (0, .ref (base + 121)), (1, .int (a1))]) (aX12_puts 20 rfl) rfl (by decide) rfl ?_
        refine xw_goto (tgt := 3) (aX12_puts 21 rfl) (by decide) ?_
        refine xw_iloadn (aX12_puts 2 rfl) rfl ?_
        refine hw_iflt (tgt := 39) (aX12_puts 3 rfl) (by decide) (by decide : (0 : Int32).toInt = 0) (fun cd25 => ?_) (fun cd25 => ?_)
        · omega
        · refine hw_aloadn (aX12_puts 4 rfl) rfl ?_
          refine hw_get (v := .ref (base + 126)) (aX12_puts 5 rfl) wf_RX12_30 (c121 hS) (s121 hS) (by decide) (congrArg (fun r => va_rf (h_rf base r)) (r121_12 hF)) ?_
          refine hw_aloadn (aX12_puts 6 rfl) rfl ?_
          refine hw_get (v := .int (x23)) (aX12_puts 7 rfl) wf_RX12_190 (c121 hS) (s121 hS) (by decide) (congrArg Value.int (show (h_up (h_up (h_up (h_up (h_up (h_up FI 126 (FI 121 13).toNatClampNeg (x4)) 121 13 (x7)) 126 (x7).toNatClampNeg (x12)) 121 13 (x15)) 126 (x15).toNatClampNeg (x20)) 121 13 (x23)) 121 13 = x23 from rfl)) ?_
          refine xw_iloadn (aX12_puts 8 rfl) rfl ?_
          refine xw_iloadn (aX12_puts 9 rfl) rfl ?_
          refine xw_ishr (aX12_puts 10 rfl) ?_
          refine hw_ti (fun x26 => ?_)
          have b27 := i_rng x26
          refine hw_sp (v := (255 : Int32)) (aX12_puts 11 rfl) (by decide) ?_
          refine xw_iand (aX12_puts 12 rfl) ?_
          refine hw_tib (lo := 0) (hi := 255) (i_and (x := x26) (m := (255 : Int32)) (M := 255) (by decide) (by decide)) (fun x28 b29 => ?_)
          refine hw_iast (aX12_puts 13 rfl) (c126 hS) (s126 hS) (h_in e24 (by omega) (by omega)) ?_
          have e30 : h_ai 126 1000 0 255 (h_up (h_up (h_up (h_up (h_up (h_up (h_up FI 126 (FI 121 13).toNatClampNeg (x4)) 121 13 (x7)) 126 (x7).toNatClampNeg (x12)) 121 13 (x15)) 126 (x15).toNatClampNeg (x20)) 121 13 (x23)) 126 (x23).toNatClampNeg (x28)) := ai_up (show h_ai 126 1000 0 255 (h_up (h_up (h_up (h_up (h_up (h_up FI 126 (FI 121 13).toNatClampNeg (x4)) 121 13 (x7)) 126 (x7).toNatClampNeg (x12)) 121 13 (x15)) 126 (x15).toNatClampNeg (x20)) 121 13 (x23)) from (ai_nc e22 (by decide))) rfl (by omega) (by omega)
          refine hw_aloadn (aX12_puts 14 rfl) rfl ?_
          refine hw_aloadn (aX12_puts 15 rfl) rfl ?_
          refine hw_get (v := .int (x23)) (aX12_puts 16 rfl) wf_RX12_190 (c121 hS) (s121 hS) (by decide) (congrArg Value.int (show (h_up (h_up (h_up (h_up (h_up (h_up (h_up FI 126 (FI 121 13).toNatClampNeg (x4)) 121 13 (x7)) 126 (x7).toNatClampNeg (x12)) 121 13 (x15)) 126 (x15).toNatClampNeg (x20)) 121 13 (x23)) 126 (x23).toNatClampNeg (x28)) 121 13 = x23 from rfl)) ?_
          refine hw_ic (v := (1 : Int32)) (aX12_puts 17 rfl) (by decide) ?_
          refine xw_iadd (aX12_puts 18 rfl) ?_
          refine hw_tie (A := (((((FI 121 13).toInt) + (1)) + (1)) + (1)) + (1)) (i_add e24 (by decide : (1 : Int32).toInt = 1) (by omega) (by omega)) (fun x31 e32 => ?_)
          refine hw_puti (aX12_puts 19 rfl) wf_RX12_190 (c121 hS) (s121 hS) (by decide) rfl rfl ?_
          refine xw_iinc (L2 := [(2, .int (((-8) : Int32))), (0, .ref (base + 121)), (1, .int (a1))]) (aX12_puts 20 rfl) rfl (by decide) rfl ?_
          refine xw_goto (tgt := 3) (aX12_puts 21 rfl) (by decide) ?_
          refine xw_iloadn (aX12_puts 2 rfl) rfl ?_
          refine hw_iflt (tgt := 39) (aX12_puts 3 rfl) (by decide) (by decide : ((-8) : Int32).toInt = (-8)) (fun cd33 => ?_) (fun cd33 => ?_)
          · refine xw_vret (aX12_puts 22 rfl) rfl ?_
            have e34 : (x31).toInt = (((((FI 121 13).toInt) + (1)) + (1)) + (1)) + (1) := e32
            exact ⟨rfl, _, _, rfl, (fr_up (fr_ua (fr_up (fr_ua (fr_up (fr_ua (fr_up (fr_ua fr_rf (by decide) (by decide)) (by decide)) (by decide) (by decide)) (by decide)) (by decide) (by decide)) (by decide)) (by decide) (by decide)) (by decide)), rfl, (by show ((x31)).toInt = (FI 121 13).toInt + 4; omega), (show h_ai 126 1000 0 255 (h_up (h_up (h_up (h_up (h_up (h_up (h_up (h_up FI 126 (FI 121 13).toNatClampNeg (x4)) 121 13 (x7)) 126 (x7).toNatClampNeg (x12)) 121 13 (x15)) 126 (x15).toNatClampNeg (x20)) 121 13 (x23)) 126 (x23).toNatClampNeg (x28)) 121 13 (x31)) from (ai_nc e30 (by decide)))⟩
          · omega
def nX12_end : Nat := 0xac1bbe00b51b2aac020500a4be00b42a1b0b009b1bbb00b5032a
theorem bX12_end : cX12_end.data.toList.map UInt8.toNat = x_un nX12_end 26 := by decide +kernel
def iX12_end : List (Nat × Jvm.ClassFile.Instr × Nat) := [(0, .aload_n 0, 1), (1, .iconst 0, 1), (2, .putfield 187, 3), (5, .iload_n 1, 1), (6, .ifCond .lt 11, 3), (9, .iload_n 1, 1), (10, .aload_n 0, 1), (11, .getfield 190, 3), (14, .if_icmp .le 5, 3), (17, .iconst (-1), 1), (18, .ireturn, 1), (19, .aload_n 0, 1), (20, .iload_n 1, 1), (21, .putfield 190, 3), (24, .iload_n 1, 1), (25, .ireturn, 1)]
theorem dX12_end : x_il nX12_end 26 iX12_end = true := by decide +kernel
theorem aX12_end (k : Nat) {pc : Nat} {i : Jvm.ClassFile.Instr} {len : Nat} (hk : iX12_end[k]? = some (pc, i, len)) : x_at xMM 155 pc i len yX12_end 2 (some .int) := ⟨cX12_end, rfl, x_il_ok bX12_end dX12_end k hk⟩
set_option maxHeartbeats 4000000 in
set_option maxRecDepth 100000 in
theorem m_end {sk : xK} {base d n sl : Nat} {SH : Nat → Nat × Nat} {FI : Nat → Nat → Int32} {FL : Nat → Nat → Int64} {FR : Nat → Nat → Option Nat} (hS : h_S n SH) (hF : h_FR FR) (a1 : Int32) (g0 : 0 ≤ (FI 121 13).toInt ∧ (FI 121 13).toInt ≤ 1000) : hw sk base d none 155 0 [(0, .ref (base + 121)), (1, .int (a1))] [] (n, sl, SH, FI, FL, FR) (h_I (fun r s => ∃ FI' FL', s = (n, sl, SH, FI', FL', FR) ∧ h_fr FI FI' [0, 13] [] ∧ FL = FL' ∧ (0 ≤ ((FI' 121 13)).toInt ∧ ((FI' 121 13)).toInt ≤ 1000))) := by
  have rg_a1 := i_rng a1
  refine hw_aloadn (aX12_end 0 rfl) rfl ?_
  refine hw_ic (v := (0 : Int32)) (aX12_end 1 rfl) (by decide) ?_
  refine hw_puti (aX12_end 2 rfl) wf_RX12_187 (c121 hS) (s121 hS) (by decide) rfl rfl ?_
  refine xw_iloadn (aX12_end 3 rfl) rfl ?_
  refine hw_iflt (tgt := 17) (aX12_end 4 rfl) (by decide) rfl (fun cd1 => ?_) (fun cd1 => ?_)
  · refine hw_ic (v := ((-1) : Int32)) (aX12_end 9 rfl) (by decide) ?_
    refine xw_iret (aX12_end 10 rfl) rfl rfl ?_
    have e2 : (((-1) : Int32)).toInt = (-1) := (by decide : ((-1) : Int32).toInt = (-1))
    exact ⟨((-1) : Int32), rfl, _, _, rfl, (fr_up fr_rf (by decide)), rfl, (by show 0 ≤ ((FI 121 13)).toInt ∧ ((FI 121 13)).toInt ≤ 1000; omega)⟩
  · refine xw_iloadn (aX12_end 5 rfl) rfl ?_
    refine hw_aloadn (aX12_end 6 rfl) rfl ?_
    refine hw_get (v := .int (FI 121 13)) (aX12_end 7 rfl) wf_RX12_190 (c121 hS) (s121 hS) (by decide) (congrArg Value.int (show (h_up FI 121 0 ((0 : Int32))) 121 13 = FI 121 13 from rfl)) ?_
    refine hw_icle (tgt := 19) (aX12_end 8 rfl) (by decide) rfl rfl (fun cd3 => ?_) (fun cd3 => ?_)
    · refine hw_aloadn (aX12_end 11 rfl) rfl ?_
      refine xw_iloadn (aX12_end 12 rfl) rfl ?_
      refine hw_puti (aX12_end 13 rfl) wf_RX12_190 (c121 hS) (s121 hS) (by decide) rfl rfl ?_
      refine xw_iloadn (aX12_end 14 rfl) rfl ?_
      refine xw_iret (aX12_end 15 rfl) rfl rfl ?_
      have e4 : (a1).toInt = (a1).toInt := rfl
      exact ⟨a1, rfl, _, _, rfl, (fr_up (fr_up fr_rf (by decide)) (by decide)), rfl, (by show 0 ≤ ((a1)).toInt ∧ ((a1)).toInt ≤ 1000; omega)⟩
    · refine hw_ic (v := ((-1) : Int32)) (aX12_end 9 rfl) (by decide) ?_
      refine xw_iret (aX12_end 10 rfl) rfl rfl ?_
      have e5 : (((-1) : Int32)).toInt = (-1) := (by decide : ((-1) : Int32).toInt = (-1))
      exact ⟨((-1) : Int32), rfl, _, _, rfl, (fr_up fr_rf (by decide)), rfl, (by show 0 ≤ ((FI 121 13)).toInt ∧ ((FI 121 13)).toInt ≤ 1000; omega)⟩
def nX12_load : Nat := 0xac0450201b0700b42aac030500a41f101b09009b1bbb00b5032a
theorem bX12_load : cX12_load.data.toList.map UInt8.toNat = x_un nX12_load 26 := by decide +kernel
def iX12_load : List (Nat × Jvm.ClassFile.Instr × Nat) := [(0, .aload_n 0, 1), (1, .iconst 0, 1), (2, .putfield 187, 3), (5, .iload_n 1, 1), (6, .ifCond .lt 9, 3), (9, .iload_n 1, 1), (10, .bipush 31, 2), (12, .if_icmp .le 5, 3), (15, .iconst 0, 1), (16, .ireturn, 1), (17, .aload_n 0, 1), (18, .getfield 7, 3), (21, .iload_n 1, 1), (22, .lload_n 2, 1), (23, .lastore, 1), (24, .iconst 1, 1), (25, .ireturn, 1)]
theorem dX12_load : x_il nX12_load 26 iX12_load = true := by decide +kernel
theorem aX12_load (k : Nat) {pc : Nat} {i : Jvm.ClassFile.Instr} {len : Nat} (hk : iX12_load[k]? = some (pc, i, len)) : x_at xMM 159 pc i len yX12_load 4 (some .boolean) := ⟨cX12_load, rfl, x_il_ok bX12_load dX12_load k hk⟩
set_option maxHeartbeats 4000000 in
set_option maxRecDepth 100000 in
theorem m_load {sk : xK} {base d n sl : Nat} {SH : Nat → Nat × Nat} {FI : Nat → Nat → Int32} {FL : Nat → Nat → Int64} {FR : Nat → Nat → Option Nat} (hS : h_S n SH) (hF : h_FR FR) (a1 : Int32) (a2 : Int64) : hw sk base d none 159 0 [(0, .ref (base + 121)), (1, .int (a1)), (2, .long (a2))] [] (n, sl, SH, FI, FL, FR) (h_I (fun r s => ∃ FI' FL', s = (n, sl, SH, FI', FL', FR) ∧ h_fr FI FI' [0] [] ∧ h_fr FL FL' [] [122] ∧ (0 ≤ r.toInt ∧ r.toInt ≤ 1))) := by
  have rg_a1 := i_rng a1
  have rg_a2 := l_rng a2
  refine hw_aloadn (aX12_load 0 rfl) rfl ?_
  refine hw_ic (v := (0 : Int32)) (aX12_load 1 rfl) (by decide) ?_
  refine hw_puti (aX12_load 2 rfl) wf_RX12_187 (c121 hS) (s121 hS) (by decide) rfl rfl ?_
  refine xw_iloadn (aX12_load 3 rfl) rfl ?_
  refine hw_iflt (tgt := 15) (aX12_load 4 rfl) (by decide) rfl (fun cd1 => ?_) (fun cd1 => ?_)
  · refine hw_ic (v := (0 : Int32)) (aX12_load 8 rfl) (by decide) ?_
    refine xw_iret (aX12_load 9 rfl) rfl (by decide) ?_
    have e2 : ((0 : Int32)).toInt = 0 := (by decide : (0 : Int32).toInt = 0)
    exact ⟨(0 : Int32), rfl, _, _, rfl, (fr_up fr_rf (by decide)), fr_rf, (by show 0 ≤ ((0 : Int32)).toInt ∧ ((0 : Int32)).toInt ≤ 1; omega)⟩
  · refine xw_iloadn (aX12_load 5 rfl) rfl ?_
    refine hw_bp (v := (31 : Int32)) (aX12_load 6 rfl) (by decide) ?_
    refine hw_icle (tgt := 17) (aX12_load 7 rfl) (by decide) rfl (by decide : (31 : Int32).toInt = 31) (fun cd3 => ?_) (fun cd3 => ?_)
    · refine hw_aloadn (aX12_load 10 rfl) rfl ?_
      refine hw_get (v := .ref (base + 122)) (aX12_load 11 rfl) wf_RX12_7 (c121 hS) (s121 hS) (by decide) (congrArg (fun r => va_rf (h_rf base r)) (r121_1 hF)) ?_
      refine xw_iloadn (aX12_load 12 rfl) rfl ?_
      refine xw_lloadn (aX12_load 13 rfl) rfl ?_
      refine hw_last (aX12_load 14 rfl) (c122 hS) (s122 hS) (h_in rfl (by omega) (by omega)) ?_
      refine hw_ic (v := (1 : Int32)) (aX12_load 15 rfl) (by decide) ?_
      refine xw_iret (aX12_load 16 rfl) rfl (by decide) ?_
      have e4 : ((1 : Int32)).toInt = 1 := (by decide : (1 : Int32).toInt = 1)
      exact ⟨(1 : Int32), rfl, _, _, rfl, (fr_up fr_rf (by decide)), (fr_ua fr_rf (by decide) (by decide)), (by show 0 ≤ ((1 : Int32)).toInt ∧ ((1 : Int32)).toInt ≤ 1; omega)⟩
    · refine hw_ic (v := (0 : Int32)) (aX12_load 8 rfl) (by decide) ?_
      refine xw_iret (aX12_load 9 rfl) rfl (by decide) ?_
      have e5 : ((0 : Int32)).toInt = 0 := (by decide : (0 : Int32).toInt = 0)
      exact ⟨(0 : Int32), rfl, _, _, rfl, (fr_up fr_rf (by decide)), fr_rf, (by show 0 ≤ ((0 : Int32)).toInt ∧ ((0 : Int32)).toInt ≤ 1; omega)⟩
def nX12_register : Nat := 0xad2f1b0700b42a0900a7090700a41f101b09009b1bbb00b5032a
theorem bX12_register : cX12_register.data.toList.map UInt8.toNat = x_un nX12_register 26 := by decide +kernel
def iX12_register : List (Nat × Jvm.ClassFile.Instr × Nat) := [(0, .aload_n 0, 1), (1, .iconst 0, 1), (2, .putfield 187, 3), (5, .iload_n 1, 1), (6, .ifCond .lt 9, 3), (9, .iload_n 1, 1), (10, .bipush 31, 2), (12, .if_icmp .le 7, 3), (15, .lconst 0, 1), (16, .goto 9, 3), (19, .aload_n 0, 1), (20, .getfield 7, 3), (23, .iload_n 1, 1), (24, .laload, 1), (25, .lreturn, 1)]
theorem dX12_register : x_il nX12_register 26 iX12_register = true := by decide +kernel
theorem aX12_register (k : Nat) {pc : Nat} {i : Jvm.ClassFile.Instr} {len : Nat} (hk : iX12_register[k]? = some (pc, i, len)) : x_at xMM 160 pc i len yX12_register 2 (some .long) := ⟨cX12_register, rfl, x_il_ok bX12_register dX12_register k hk⟩
set_option maxHeartbeats 4000000 in
set_option maxRecDepth 100000 in
theorem m_register {sk : xK} {base d n sl : Nat} {SH : Nat → Nat × Nat} {FI : Nat → Nat → Int32} {FL : Nat → Nat → Int64} {FR : Nat → Nat → Option Nat} (hS : h_S n SH) (hF : h_FR FR) (a1 : Int32) : hw sk base d none 160 0 [(0, .ref (base + 121)), (1, .int (a1))] [] (n, sl, SH, FI, FL, FR) (h_J (fun r s => ∃ FI' FL', s = (n, sl, SH, FI', FL', FR) ∧ h_fr FI FI' [0] [] ∧ FL = FL')) := by
  have rg_a1 := i_rng a1
  refine hw_aloadn (aX12_register 0 rfl) rfl ?_
  refine hw_ic (v := (0 : Int32)) (aX12_register 1 rfl) (by decide) ?_
  refine hw_puti (aX12_register 2 rfl) wf_RX12_187 (c121 hS) (s121 hS) (by decide) rfl rfl ?_
  refine xw_iloadn (aX12_register 3 rfl) rfl ?_
  refine hw_iflt (tgt := 15) (aX12_register 4 rfl) (by decide) rfl (fun cd1 => ?_) (fun cd1 => ?_)
  · refine hw_lc (v := (0 : Int64)) (aX12_register 8 rfl) (by decide) ?_
    refine xw_goto (tgt := 25) (aX12_register 9 rfl) (by decide) ?_
    refine xw_lret (aX12_register 14 rfl) rfl ?_
    have e2 : ((0 : Int64)).toInt = 0 := (by decide : (0 : Int64).toInt = 0)
    exact ⟨(0 : Int64), rfl, _, _, rfl, (fr_up fr_rf (by decide)), rfl⟩
  · refine xw_iloadn (aX12_register 5 rfl) rfl ?_
    refine hw_bp (v := (31 : Int32)) (aX12_register 6 rfl) (by decide) ?_
    refine hw_icle (tgt := 19) (aX12_register 7 rfl) (by decide) rfl (by decide : (31 : Int32).toInt = 31) (fun cd3 => ?_) (fun cd3 => ?_)
    · refine hw_aloadn (aX12_register 10 rfl) rfl ?_
      refine hw_get (v := .ref (base + 122)) (aX12_register 11 rfl) wf_RX12_7 (c121 hS) (s121 hS) (by decide) (congrArg (fun r => va_rf (h_rf base r)) (r121_1 hF)) ?_
      refine xw_iloadn (aX12_register 12 rfl) rfl ?_
      refine hw_lald (v := FL 122 (a1).toNatClampNeg) (aX12_register 13 rfl) (c122 hS) (s122 hS) (h_in rfl (by omega) (by omega)) rfl ?_
      refine hw_tl (fun x4 => ?_)
      have b5 := l_rng x4
      refine xw_lret (aX12_register 14 rfl) rfl ?_
      have e6 : (x4).toInt = (x4).toInt := rfl
      exact ⟨x4, rfl, _, _, rfl, (fr_up fr_rf (by decide)), rfl⟩
    · refine hw_lc (v := (0 : Int64)) (aX12_register 8 rfl) (by decide) ?_
      refine xw_goto (tgt := 25) (aX12_register 9 rfl) (by decide) ?_
      refine xw_lret (aX12_register 14 rfl) rfl ?_
      have e7 : ((0 : Int64)).toInt = 0 := (by decide : (0 : Int64).toInt = 0)
      exact ⟨(0 : Int64), rfl, _, _, rfl, (fr_up fr_rf (by decide)), rfl⟩
def nX12_poke : Nat := 0xac044f7eff00111c1b0d00b42aac030500a4ff0f111b0a009b1bbb00b5032a
theorem bX12_poke : cX12_poke.data.toList.map UInt8.toNat = x_un nX12_poke 31 := by decide +kernel
def iX12_poke : List (Nat × Jvm.ClassFile.Instr × Nat) := [(0, .aload_n 0, 1), (1, .iconst 0, 1), (2, .putfield 187, 3), (5, .iload_n 1, 1), (6, .ifCond .lt 10, 3), (9, .iload_n 1, 1), (10, .sipush 4095, 3), (13, .if_icmp .le 5, 3), (16, .iconst 0, 1), (17, .ireturn, 1), (18, .aload_n 0, 1), (19, .getfield 13, 3), (22, .iload_n 1, 1), (23, .iload_n 2, 1), (24, .sipush 255, 3), (27, .iand, 1), (28, .iastore, 1), (29, .iconst 1, 1), (30, .ireturn, 1)]
theorem dX12_poke : x_il nX12_poke 31 iX12_poke = true := by decide +kernel
theorem aX12_poke (k : Nat) {pc : Nat} {i : Jvm.ClassFile.Instr} {len : Nat} (hk : iX12_poke[k]? = some (pc, i, len)) : x_at xMM 161 pc i len yX12_poke 3 (some .boolean) := ⟨cX12_poke, rfl, x_il_ok bX12_poke dX12_poke k hk⟩
set_option maxHeartbeats 4000000 in
set_option maxRecDepth 100000 in
theorem m_poke {sk : xK} {base d n sl : Nat} {SH : Nat → Nat × Nat} {FI : Nat → Nat → Int32} {FL : Nat → Nat → Int64} {FR : Nat → Nat → Option Nat} (hS : h_S n SH) (hF : h_FR FR) (a1 : Int32) (a2 : Int32) : hw sk base d none 161 0 [(0, .ref (base + 121)), (1, .int (a1)), (2, .int (a2))] [] (n, sl, SH, FI, FL, FR) (h_I (fun r s => ∃ FI' FL', s = (n, sl, SH, FI', FL', FR) ∧ h_fr FI FI' [0] [123] ∧ FL = FL' ∧ (0 ≤ r.toInt ∧ r.toInt ≤ 1))) := by
  have rg_a1 := i_rng a1
  have rg_a2 := i_rng a2
  refine hw_aloadn (aX12_poke 0 rfl) rfl ?_
  refine hw_ic (v := (0 : Int32)) (aX12_poke 1 rfl) (by decide) ?_
  refine hw_puti (aX12_poke 2 rfl) wf_RX12_187 (c121 hS) (s121 hS) (by decide) rfl rfl ?_
  refine xw_iloadn (aX12_poke 3 rfl) rfl ?_
  refine hw_iflt (tgt := 16) (aX12_poke 4 rfl) (by decide) rfl (fun cd1 => ?_) (fun cd1 => ?_)
  · refine hw_ic (v := (0 : Int32)) (aX12_poke 8 rfl) (by decide) ?_
    refine xw_iret (aX12_poke 9 rfl) rfl (by decide) ?_
    have e2 : ((0 : Int32)).toInt = 0 := (by decide : (0 : Int32).toInt = 0)
    exact ⟨(0 : Int32), rfl, _, _, rfl, (fr_up fr_rf (by decide)), rfl, (by show 0 ≤ ((0 : Int32)).toInt ∧ ((0 : Int32)).toInt ≤ 1; omega)⟩
  · refine xw_iloadn (aX12_poke 5 rfl) rfl ?_
    refine hw_sp (v := (4095 : Int32)) (aX12_poke 6 rfl) (by decide) ?_
    refine hw_icle (tgt := 18) (aX12_poke 7 rfl) (by decide) rfl (by decide : (4095 : Int32).toInt = 4095) (fun cd3 => ?_) (fun cd3 => ?_)
    · refine hw_aloadn (aX12_poke 10 rfl) rfl ?_
      refine hw_get (v := .ref (base + 123)) (aX12_poke 11 rfl) wf_RX12_13 (c121 hS) (s121 hS) (by decide) (congrArg (fun r => va_rf (h_rf base r)) (r121_2 hF)) ?_
      refine xw_iloadn (aX12_poke 12 rfl) rfl ?_
      refine xw_iloadn (aX12_poke 13 rfl) rfl ?_
      refine hw_sp (v := (255 : Int32)) (aX12_poke 14 rfl) (by decide) ?_
      refine xw_iand (aX12_poke 15 rfl) ?_
      refine hw_tib (lo := 0) (hi := 255) (i_and (x := a2) (m := (255 : Int32)) (M := 255) (by decide) (by decide)) (fun x4 b5 => ?_)
      refine hw_iast (aX12_poke 16 rfl) (c123 hS) (s123 hS) (h_in rfl (by omega) (by omega)) ?_
      refine hw_ic (v := (1 : Int32)) (aX12_poke 17 rfl) (by decide) ?_
      refine xw_iret (aX12_poke 18 rfl) rfl (by decide) ?_
      have e6 : ((1 : Int32)).toInt = 1 := (by decide : (1 : Int32).toInt = 1)
      exact ⟨(1 : Int32), rfl, _, _, rfl, (fr_ua (fr_up fr_rf (by decide)) (by decide) (by decide)), rfl, (by show 0 ≤ ((1 : Int32)).toInt ∧ ((1 : Int32)).toInt ≤ 1; omega)⟩
    · refine hw_ic (v := (0 : Int32)) (aX12_poke 8 rfl) (by decide) ?_
      refine xw_iret (aX12_poke 9 rfl) rfl (by decide) ?_
      have e7 : ((0 : Int32)).toInt = 0 := (by decide : (0 : Int32).toInt = 0)
      exact ⟨(0 : Int32), rfl, _, _, rfl, (fr_up fr_rf (by decide)), rfl, (by show 0 ≤ ((0 : Int32)).toInt ∧ ((0 : Int32)).toInt ≤ 1; omega)⟩
def nX12_peek : Nat := 0xac2e1b0d00b42a0900a7020700a4ff0f111b0a009b1bbb00b5032a
theorem bX12_peek : cX12_peek.data.toList.map UInt8.toNat = x_un nX12_peek 27 := by decide +kernel
def iX12_peek : List (Nat × Jvm.ClassFile.Instr × Nat) := [(0, .aload_n 0, 1), (1, .iconst 0, 1), (2, .putfield 187, 3), (5, .iload_n 1, 1), (6, .ifCond .lt 10, 3), (9, .iload_n 1, 1), (10, .sipush 4095, 3), (13, .if_icmp .le 7, 3), (16, .iconst (-1), 1), (17, .goto 9, 3), (20, .aload_n 0, 1), (21, .getfield 13, 3), (24, .iload_n 1, 1), (25, .iaload, 1), (26, .ireturn, 1)]
theorem dX12_peek : x_il nX12_peek 27 iX12_peek = true := by decide +kernel
theorem aX12_peek (k : Nat) {pc : Nat} {i : Jvm.ClassFile.Instr} {len : Nat} (hk : iX12_peek[k]? = some (pc, i, len)) : x_at xMM 162 pc i len yX12_peek 2 (some .int) := ⟨cX12_peek, rfl, x_il_ok bX12_peek dX12_peek k hk⟩
set_option maxHeartbeats 4000000 in
set_option maxRecDepth 100000 in
theorem m_peek {sk : xK} {base d n sl : Nat} {SH : Nat → Nat × Nat} {FI : Nat → Nat → Int32} {FL : Nat → Nat → Int64} {FR : Nat → Nat → Option Nat} (hS : h_S n SH) (hF : h_FR FR) (a1 : Int32) : hw sk base d none 162 0 [(0, .ref (base + 121)), (1, .int (a1))] [] (n, sl, SH, FI, FL, FR) (h_I (fun r s => ∃ FI' FL', s = (n, sl, SH, FI', FL', FR) ∧ h_fr FI FI' [0] [] ∧ FL = FL')) := by
  have rg_a1 := i_rng a1
  refine hw_aloadn (aX12_peek 0 rfl) rfl ?_
  refine hw_ic (v := (0 : Int32)) (aX12_peek 1 rfl) (by decide) ?_
  refine hw_puti (aX12_peek 2 rfl) wf_RX12_187 (c121 hS) (s121 hS) (by decide) rfl rfl ?_
  refine xw_iloadn (aX12_peek 3 rfl) rfl ?_
  refine hw_iflt (tgt := 16) (aX12_peek 4 rfl) (by decide) rfl (fun cd1 => ?_) (fun cd1 => ?_)
  · refine hw_ic (v := ((-1) : Int32)) (aX12_peek 8 rfl) (by decide) ?_
    refine xw_goto (tgt := 26) (aX12_peek 9 rfl) (by decide) ?_
    refine xw_iret (aX12_peek 14 rfl) rfl rfl ?_
    have e2 : (((-1) : Int32)).toInt = (-1) := (by decide : ((-1) : Int32).toInt = (-1))
    exact ⟨((-1) : Int32), rfl, _, _, rfl, (fr_up fr_rf (by decide)), rfl⟩
  · refine xw_iloadn (aX12_peek 5 rfl) rfl ?_
    refine hw_sp (v := (4095 : Int32)) (aX12_peek 6 rfl) (by decide) ?_
    refine hw_icle (tgt := 20) (aX12_peek 7 rfl) (by decide) rfl (by decide : (4095 : Int32).toInt = 4095) (fun cd3 => ?_) (fun cd3 => ?_)
    · refine hw_aloadn (aX12_peek 10 rfl) rfl ?_
      refine hw_get (v := .ref (base + 123)) (aX12_peek 11 rfl) wf_RX12_13 (c121 hS) (s121 hS) (by decide) (congrArg (fun r => va_rf (h_rf base r)) (r121_2 hF)) ?_
      refine xw_iloadn (aX12_peek 12 rfl) rfl ?_
      refine hw_iald (v := FI 123 (a1).toNatClampNeg) (aX12_peek 13 rfl) (c123 hS) (s123 hS) (h_in rfl (by omega) (by omega)) rfl ?_
      refine hw_ti (fun x4 => ?_)
      have b5 := i_rng x4
      refine xw_iret (aX12_peek 14 rfl) rfl rfl ?_
      have e6 : (x4).toInt = (x4).toInt := rfl
      exact ⟨x4, rfl, _, _, rfl, (fr_up fr_rf (by decide)), rfl⟩
    · refine hw_ic (v := ((-1) : Int32)) (aX12_peek 8 rfl) (by decide) ?_
      refine xw_goto (tgt := 26) (aX12_peek 9 rfl) (by decide) ?_
      refine xw_iret (aX12_peek 14 rfl) rfl rfl ?_
      have e7 : (((-1) : Int32)).toInt = (-1) := (by decide : ((-1) : Int32).toInt = (-1))
      exact ⟨((-1) : Int32), rfl, _, _, rfl, (fr_up fr_rf (by decide)), rfl⟩
def nX12_frame : Nat := 0xac041700b51b2aac030500a40f101b0900a1021bbb00b5032a
theorem bX12_frame : cX12_frame.data.toList.map UInt8.toNat = x_un nX12_frame 25 := by decide +kernel
def iX12_frame : List (Nat × Jvm.ClassFile.Instr × Nat) := [(0, .aload_n 0, 1), (1, .iconst 0, 1), (2, .putfield 187, 3), (5, .iload_n 1, 1), (6, .iconst (-1), 1), (7, .if_icmp .lt 9, 3), (10, .iload_n 1, 1), (11, .bipush 15, 2), (13, .if_icmp .le 5, 3), (16, .iconst 0, 1), (17, .ireturn, 1), (18, .aload_n 0, 1), (19, .iload_n 1, 1), (20, .putfield 23, 3), (23, .iconst 1, 1), (24, .ireturn, 1)]
theorem dX12_frame : x_il nX12_frame 25 iX12_frame = true := by decide +kernel
theorem aX12_frame (k : Nat) {pc : Nat} {i : Jvm.ClassFile.Instr} {len : Nat} (hk : iX12_frame[k]? = some (pc, i, len)) : x_at xMM 163 pc i len yX12_frame 2 (some .boolean) := ⟨cX12_frame, rfl, x_il_ok bX12_frame dX12_frame k hk⟩
set_option maxHeartbeats 4000000 in
set_option maxRecDepth 100000 in
theorem m_frame {sk : xK} {base d n sl : Nat} {SH : Nat → Nat × Nat} {FI : Nat → Nat → Int32} {FL : Nat → Nat → Int64} {FR : Nat → Nat → Option Nat} (hS : h_S n SH) (hF : h_FR FR) (a1 : Int32) (g0 : -1 ≤ (FI 121 5).toInt ∧ (FI 121 5).toInt ≤ 15) : hw sk base d none 163 0 [(0, .ref (base + 121)), (1, .int (a1))] [] (n, sl, SH, FI, FL, FR) (h_I (fun r s => ∃ FI' FL', s = (n, sl, SH, FI', FL', FR) ∧ h_fr FI FI' [0, 5] [] ∧ FL = FL' ∧ (-1 ≤ ((FI' 121 5)).toInt ∧ ((FI' 121 5)).toInt ≤ 15) ∧ (0 ≤ r.toInt ∧ r.toInt ≤ 1))) := by
  have rg_a1 := i_rng a1
  refine hw_aloadn (aX12_frame 0 rfl) rfl ?_
  refine hw_ic (v := (0 : Int32)) (aX12_frame 1 rfl) (by decide) ?_
  refine hw_puti (aX12_frame 2 rfl) wf_RX12_187 (c121 hS) (s121 hS) (by decide) rfl rfl ?_
  refine xw_iloadn (aX12_frame 3 rfl) rfl ?_
  refine hw_ic (v := ((-1) : Int32)) (aX12_frame 4 rfl) (by decide) ?_
  refine hw_iclt (tgt := 16) (aX12_frame 5 rfl) (by decide) rfl (by decide : ((-1) : Int32).toInt = (-1)) (fun cd1 => ?_) (fun cd1 => ?_)
  · refine hw_ic (v := (0 : Int32)) (aX12_frame 9 rfl) (by decide) ?_
    refine xw_iret (aX12_frame 10 rfl) rfl (by decide) ?_
    have e2 : ((0 : Int32)).toInt = 0 := (by decide : (0 : Int32).toInt = 0)
    exact ⟨(0 : Int32), rfl, _, _, rfl, (fr_up fr_rf (by decide)), rfl, (by show -1 ≤ ((FI 121 5)).toInt ∧ ((FI 121 5)).toInt ≤ 15; omega), (by show 0 ≤ ((0 : Int32)).toInt ∧ ((0 : Int32)).toInt ≤ 1; omega)⟩
  · refine xw_iloadn (aX12_frame 6 rfl) rfl ?_
    refine hw_bp (v := (15 : Int32)) (aX12_frame 7 rfl) (by decide) ?_
    refine hw_icle (tgt := 18) (aX12_frame 8 rfl) (by decide) rfl (by decide : (15 : Int32).toInt = 15) (fun cd3 => ?_) (fun cd3 => ?_)
    · refine hw_aloadn (aX12_frame 11 rfl) rfl ?_
      refine xw_iloadn (aX12_frame 12 rfl) rfl ?_
      refine hw_puti (aX12_frame 13 rfl) wf_RX12_23 (c121 hS) (s121 hS) (by decide) rfl rfl ?_
      refine hw_ic (v := (1 : Int32)) (aX12_frame 14 rfl) (by decide) ?_
      refine xw_iret (aX12_frame 15 rfl) rfl (by decide) ?_
      have e4 : ((1 : Int32)).toInt = 1 := (by decide : (1 : Int32).toInt = 1)
      exact ⟨(1 : Int32), rfl, _, _, rfl, (fr_up (fr_up fr_rf (by decide)) (by decide)), rfl, (by show -1 ≤ ((a1)).toInt ∧ ((a1)).toInt ≤ 15; omega), (by show 0 ≤ ((1 : Int32)).toInt ∧ ((1 : Int32)).toInt ≤ 1; omega)⟩
    · refine hw_ic (v := (0 : Int32)) (aX12_frame 9 rfl) (by decide) ?_
      refine xw_iret (aX12_frame 10 rfl) rfl (by decide) ?_
      have e5 : ((0 : Int32)).toInt = 0 := (by decide : (0 : Int32).toInt = 0)
      exact ⟨(0 : Int32), rfl, _, _, rfl, (fr_up fr_rf (by decide)), rfl, (by show -1 ≤ ((FI 121 5)).toInt ∧ ((FI 121 5)).toInt ≤ 15; omega), (by show 0 ≤ ((0 : Int32)).toInt ∧ ((0 : Int32)).toInt ≤ 1; omega)⟩
def nX12_cfa : Nat := 0xac04c900b5202a1b00b51b2aac030500a41f101b0900a1021bbb00b5032a
theorem bX12_cfa : cX12_cfa.data.toList.map UInt8.toNat = x_un nX12_cfa 30 := by decide +kernel
def iX12_cfa : List (Nat × Jvm.ClassFile.Instr × Nat) := [(0, .aload_n 0, 1), (1, .iconst 0, 1), (2, .putfield 187, 3), (5, .iload_n 1, 1), (6, .iconst (-1), 1), (7, .if_icmp .lt 9, 3), (10, .iload_n 1, 1), (11, .bipush 31, 2), (13, .if_icmp .le 5, 3), (16, .iconst 0, 1), (17, .ireturn, 1), (18, .aload_n 0, 1), (19, .iload_n 1, 1), (20, .putfield 27, 3), (23, .aload_n 0, 1), (24, .lload_n 2, 1), (25, .putfield 201, 3), (28, .iconst 1, 1), (29, .ireturn, 1)]
theorem dX12_cfa : x_il nX12_cfa 30 iX12_cfa = true := by decide +kernel
theorem aX12_cfa (k : Nat) {pc : Nat} {i : Jvm.ClassFile.Instr} {len : Nat} (hk : iX12_cfa[k]? = some (pc, i, len)) : x_at xMM 164 pc i len yX12_cfa 4 (some .boolean) := ⟨cX12_cfa, rfl, x_il_ok bX12_cfa dX12_cfa k hk⟩
set_option maxHeartbeats 4000000 in
set_option maxRecDepth 100000 in
theorem m_cfa {sk : xK} {base d n sl : Nat} {SH : Nat → Nat × Nat} {FI : Nat → Nat → Int32} {FL : Nat → Nat → Int64} {FR : Nat → Nat → Option Nat} (hS : h_S n SH) (hF : h_FR FR) (a1 : Int32) (a2 : Int64) (g0 : -1 ≤ (FI 121 6).toInt ∧ (FI 121 6).toInt ≤ 31) : hw sk base d none 164 0 [(0, .ref (base + 121)), (1, .int (a1)), (2, .long (a2))] [] (n, sl, SH, FI, FL, FR) (h_I (fun r s => ∃ FI' FL', s = (n, sl, SH, FI', FL', FR) ∧ h_fr FI FI' [0, 6] [] ∧ h_fr FL FL' [7] [] ∧ (-1 ≤ ((FI' 121 6)).toInt ∧ ((FI' 121 6)).toInt ≤ 31) ∧ (0 ≤ r.toInt ∧ r.toInt ≤ 1))) := by
  have rg_a1 := i_rng a1
  have rg_a2 := l_rng a2
  refine hw_aloadn (aX12_cfa 0 rfl) rfl ?_
  refine hw_ic (v := (0 : Int32)) (aX12_cfa 1 rfl) (by decide) ?_
  refine hw_puti (aX12_cfa 2 rfl) wf_RX12_187 (c121 hS) (s121 hS) (by decide) rfl rfl ?_
  refine xw_iloadn (aX12_cfa 3 rfl) rfl ?_
  refine hw_ic (v := ((-1) : Int32)) (aX12_cfa 4 rfl) (by decide) ?_
  refine hw_iclt (tgt := 16) (aX12_cfa 5 rfl) (by decide) rfl (by decide : ((-1) : Int32).toInt = (-1)) (fun cd1 => ?_) (fun cd1 => ?_)
  · refine hw_ic (v := (0 : Int32)) (aX12_cfa 9 rfl) (by decide) ?_
    refine xw_iret (aX12_cfa 10 rfl) rfl (by decide) ?_
    have e2 : ((0 : Int32)).toInt = 0 := (by decide : (0 : Int32).toInt = 0)
    exact ⟨(0 : Int32), rfl, _, _, rfl, (fr_up fr_rf (by decide)), fr_rf, (by show -1 ≤ ((FI 121 6)).toInt ∧ ((FI 121 6)).toInt ≤ 31; omega), (by show 0 ≤ ((0 : Int32)).toInt ∧ ((0 : Int32)).toInt ≤ 1; omega)⟩
  · refine xw_iloadn (aX12_cfa 6 rfl) rfl ?_
    refine hw_bp (v := (31 : Int32)) (aX12_cfa 7 rfl) (by decide) ?_
    refine hw_icle (tgt := 18) (aX12_cfa 8 rfl) (by decide) rfl (by decide : (31 : Int32).toInt = 31) (fun cd3 => ?_) (fun cd3 => ?_)
    · refine hw_aloadn (aX12_cfa 11 rfl) rfl ?_
      refine xw_iloadn (aX12_cfa 12 rfl) rfl ?_
      refine hw_puti (aX12_cfa 13 rfl) wf_RX12_27 (c121 hS) (s121 hS) (by decide) rfl rfl ?_
      refine hw_aloadn (aX12_cfa 14 rfl) rfl ?_
      refine xw_lloadn (aX12_cfa 15 rfl) rfl ?_
      refine hw_putl (aX12_cfa 16 rfl) wf_RX12_201 (c121 hS) (s121 hS) (by decide) rfl rfl ?_
      refine hw_ic (v := (1 : Int32)) (aX12_cfa 17 rfl) (by decide) ?_
      refine xw_iret (aX12_cfa 18 rfl) rfl (by decide) ?_
      have e4 : ((1 : Int32)).toInt = 1 := (by decide : (1 : Int32).toInt = 1)
      exact ⟨(1 : Int32), rfl, _, _, rfl, (fr_up (fr_up fr_rf (by decide)) (by decide)), (fr_up fr_rf (by decide)), (by show -1 ≤ ((a1)).toInt ∧ ((a1)).toInt ≤ 31; omega), (by show 0 ≤ ((1 : Int32)).toInt ∧ ((1 : Int32)).toInt ≤ 1; omega)⟩
    · refine hw_ic (v := (0 : Int32)) (aX12_cfa 9 rfl) (by decide) ?_
      refine xw_iret (aX12_cfa 10 rfl) rfl (by decide) ?_
      have e5 : ((0 : Int32)).toInt = 0 := (by decide : (0 : Int32).toInt = 0)
      exact ⟨(0 : Int32), rfl, _, _, rfl, (fr_up fr_rf (by decide)), fr_rf, (by show -1 ≤ ((FI 121 6)).toInt ∧ ((FI 121 6)).toInt ≤ 31; omega), (by show 0 ≤ ((0 : Int32)).toInt ∧ ((0 : Int32)).toInt ≤ 1; omega)⟩
def nX12_set : Nat := 0xac04d700b504152ad400b5202a0e00a7d000b504152acd00b5202a11009a1bac030500a4041b08009b1bbb00b5032a
theorem bX12_set : cX12_set.data.toList.map UInt8.toNat = x_un nX12_set 47 := by decide +kernel
def iX12_set : List (Nat × Jvm.ClassFile.Instr × Nat) := [(0, .aload_n 0, 1), (1, .iconst 0, 1), (2, .putfield 187, 3), (5, .iload_n 1, 1), (6, .ifCond .lt 8, 3), (9, .iload_n 1, 1), (10, .iconst 1, 1), (11, .if_icmp .le 5, 3), (14, .iconst 0, 1), (15, .ireturn, 1), (16, .iload_n 1, 1), (17, .ifCond .ne 17, 3), (20, .aload_n 0, 1), (21, .lload_n 2, 1), (22, .putfield 205, 3), (25, .aload_n 0, 1), (26, .iload 4, 2), (28, .putfield 208, 3), (31, .goto 14, 3), (34, .aload_n 0, 1), (35, .lload_n 2, 1), (36, .putfield 212, 3), (39, .aload_n 0, 1), (40, .iload 4, 2), (42, .putfield 215, 3), (45, .iconst 1, 1), (46, .ireturn, 1)]
theorem dX12_set : x_il nX12_set 47 iX12_set = true := by decide +kernel
theorem aX12_set (k : Nat) {pc : Nat} {i : Jvm.ClassFile.Instr} {len : Nat} (hk : iX12_set[k]? = some (pc, i, len)) : x_at xMM 165 pc i len yX12_set 5 (some .boolean) := ⟨cX12_set, rfl, x_il_ok bX12_set dX12_set k hk⟩
set_option maxHeartbeats 4000000 in
set_option maxRecDepth 100000 in
theorem m_set {sk : xK} {base d n sl : Nat} {SH : Nat → Nat × Nat} {FI : Nat → Nat → Int32} {FL : Nat → Nat → Int64} {FR : Nat → Nat → Option Nat} (hS : h_S n SH) (hF : h_FR FR) (a1 : Int32) (a2 : Int64) (a3 : Int32) (g0 : 0 ≤ (a3).toInt ∧ (a3).toInt ≤ 1) : hw sk base d none 165 0 [(0, .ref (base + 121)), (1, .int (a1)), (2, .long (a2)), (4, .int (a3))] [] (n, sl, SH, FI, FL, FR) (h_I (fun r s => ∃ FI' FL', s = (n, sl, SH, FI', FL', FR) ∧ h_fr FI FI' [0, 10, 11] [] ∧ h_fr FL FL' [8, 9] [] ∧ (0 ≤ r.toInt ∧ r.toInt ≤ 1))) := by
  have rg_a1 := i_rng a1
  have rg_a2 := l_rng a2
  have rg_a3 := i_rng a3
  refine hw_aloadn (aX12_set 0 rfl) rfl ?_
  refine hw_ic (v := (0 : Int32)) (aX12_set 1 rfl) (by decide) ?_
  refine hw_puti (aX12_set 2 rfl) wf_RX12_187 (c121 hS) (s121 hS) (by decide) rfl rfl ?_
  refine xw_iloadn (aX12_set 3 rfl) rfl ?_
  refine hw_iflt (tgt := 14) (aX12_set 4 rfl) (by decide) rfl (fun cd1 => ?_) (fun cd1 => ?_)
  · refine hw_ic (v := (0 : Int32)) (aX12_set 8 rfl) (by decide) ?_
    refine xw_iret (aX12_set 9 rfl) rfl (by decide) ?_
    have e2 : ((0 : Int32)).toInt = 0 := (by decide : (0 : Int32).toInt = 0)
    exact ⟨(0 : Int32), rfl, _, _, rfl, (fr_up fr_rf (by decide)), fr_rf, (by show 0 ≤ ((0 : Int32)).toInt ∧ ((0 : Int32)).toInt ≤ 1; omega)⟩
  · refine xw_iloadn (aX12_set 5 rfl) rfl ?_
    refine hw_ic (v := (1 : Int32)) (aX12_set 6 rfl) (by decide) ?_
    refine hw_icle (tgt := 16) (aX12_set 7 rfl) (by decide) rfl (by decide : (1 : Int32).toInt = 1) (fun cd3 => ?_) (fun cd3 => ?_)
    · refine xw_iloadn (aX12_set 10 rfl) rfl ?_
      refine hw_ifne (tgt := 34) (aX12_set 11 rfl) (by decide) rfl (fun cd4 => ?_) (fun cd4 => ?_)
      · refine hw_aloadn (aX12_set 19 rfl) rfl ?_
        refine xw_lloadn (aX12_set 20 rfl) rfl ?_
        refine hw_putl (aX12_set 21 rfl) wf_RX12_212 (c121 hS) (s121 hS) (by decide) rfl rfl ?_
        refine hw_aloadn (aX12_set 22 rfl) rfl ?_
        refine xw_iload (aX12_set 23 rfl) rfl ?_
        refine hw_putz (aX12_set 24 rfl) wf_RX12_215 (c121 hS) (s121 hS) (by decide) rfl rfl (i_01 rfl (by omega) (by omega)) ?_
        refine hw_ic (v := (1 : Int32)) (aX12_set 25 rfl) (by decide) ?_
        refine xw_iret (aX12_set 26 rfl) rfl (by decide) ?_
        have e5 : ((1 : Int32)).toInt = 1 := (by decide : (1 : Int32).toInt = 1)
        exact ⟨(1 : Int32), rfl, _, _, rfl, (fr_up (fr_up fr_rf (by decide)) (by decide)), (fr_up fr_rf (by decide)), (by show 0 ≤ ((1 : Int32)).toInt ∧ ((1 : Int32)).toInt ≤ 1; omega)⟩
      · refine hw_aloadn (aX12_set 12 rfl) rfl ?_
        refine xw_lloadn (aX12_set 13 rfl) rfl ?_
        refine hw_putl (aX12_set 14 rfl) wf_RX12_205 (c121 hS) (s121 hS) (by decide) rfl rfl ?_
        refine hw_aloadn (aX12_set 15 rfl) rfl ?_
        refine xw_iload (aX12_set 16 rfl) rfl ?_
        refine hw_putz (aX12_set 17 rfl) wf_RX12_208 (c121 hS) (s121 hS) (by decide) rfl rfl (i_01 rfl (by omega) (by omega)) ?_
        refine xw_goto (tgt := 45) (aX12_set 18 rfl) (by decide) ?_
        refine hw_ic (v := (1 : Int32)) (aX12_set 25 rfl) (by decide) ?_
        refine xw_iret (aX12_set 26 rfl) rfl (by decide) ?_
        have e6 : ((1 : Int32)).toInt = 1 := (by decide : (1 : Int32).toInt = 1)
        exact ⟨(1 : Int32), rfl, _, _, rfl, (fr_up (fr_up fr_rf (by decide)) (by decide)), (fr_up fr_rf (by decide)), (by show 0 ≤ ((1 : Int32)).toInt ∧ ((1 : Int32)).toInt ≤ 1; omega)⟩
    · refine hw_ic (v := (0 : Int32)) (aX12_set 8 rfl) (by decide) ?_
      refine xw_iret (aX12_set 9 rfl) rfl (by decide) ?_
      have e7 : ((0 : Int32)).toInt = 0 := (by decide : (0 : Int32).toInt = 0)
      exact ⟨(0 : Int32), rfl, _, _, rfl, (fr_up fr_rf (by decide)), fr_rf, (by show 0 ≤ ((0 : Int32)).toInt ∧ ((0 : Int32)).toInt ≤ 1; omega)⟩
def nX12_feed : Nat := 0xacbe00b42ac100b605152ac100b604152ac100b61d2ac100b61c2ac100b61b2aac020500a4e80311601410be00b42abb00b5032a
theorem bX12_feed : cX12_feed.data.toList.map UInt8.toNat = x_un nX12_feed 52 := by decide +kernel
def iX12_feed : List (Nat × Jvm.ClassFile.Instr × Nat) := [(0, .aload_n 0, 1), (1, .iconst 0, 1), (2, .putfield 187, 3), (5, .aload_n 0, 1), (6, .getfield 190, 3), (9, .bipush 20, 2), (11, .iadd, 1), (12, .sipush 1000, 3), (15, .if_icmp .le 5, 3), (18, .iconst (-1), 1), (19, .ireturn, 1), (20, .aload_n 0, 1), (21, .iload_n 1, 1), (22, .invokevirtual 193, 3), (25, .aload_n 0, 1), (26, .iload_n 2, 1), (27, .invokevirtual 193, 3), (30, .aload_n 0, 1), (31, .iload_n 3, 1), (32, .invokevirtual 193, 3), (35, .aload_n 0, 1), (36, .iload 4, 2), (38, .invokevirtual 193, 3), (41, .aload_n 0, 1), (42, .iload 5, 2), (44, .invokevirtual 193, 3), (47, .aload_n 0, 1), (48, .getfield 190, 3), (51, .ireturn, 1)]
theorem dX12_feed : x_il nX12_feed 52 iX12_feed = true := by decide +kernel
theorem aX12_feed (k : Nat) {pc : Nat} {i : Jvm.ClassFile.Instr} {len : Nat} (hk : iX12_feed[k]? = some (pc, i, len)) : x_at xMM 154 pc i len yX12_feed 6 (some .int) := ⟨cX12_feed, rfl, x_il_ok bX12_feed dX12_feed k hk⟩
set_option maxHeartbeats 4000000 in
set_option maxRecDepth 100000 in
theorem m_feed {sk : xK} {base d n sl : Nat} {SH : Nat → Nat × Nat} {FI : Nat → Nat → Int32} {FL : Nat → Nat → Int64} {FR : Nat → Nat → Option Nat} (hS : h_S n SH) (hF : h_FR FR) (a1 : Int32) (a2 : Int32) (a3 : Int32) (a4 : Int32) (a5 : Int32) (g0 : 0 ≤ (FI 121 13).toInt ∧ (FI 121 13).toInt ≤ 1000) (ai126 : h_ai 126 1000 0 255 FI) : hw sk base (d + 1) none 154 0 [(0, .ref (base + 121)), (1, .int (a1)), (2, .int (a2)), (3, .int (a3)), (4, .int (a4)), (5, .int (a5))] [] (n, sl, SH, FI, FL, FR) (h_I (fun r s => ∃ FI' FL', s = (n, sl, SH, FI', FL', FR) ∧ h_fr FI FI' [0, 13] [126] ∧ FL = FL' ∧ (0 ≤ ((FI' 121 13)).toInt ∧ ((FI' 121 13)).toInt ≤ 1000) ∧ h_ai 126 1000 0 255 FI')) := by
  have rg_a1 := i_rng a1
  have rg_a2 := i_rng a2
  have rg_a3 := i_rng a3
  have rg_a4 := i_rng a4
  have rg_a5 := i_rng a5
  refine hw_aloadn (aX12_feed 0 rfl) rfl ?_
  refine hw_ic (v := (0 : Int32)) (aX12_feed 1 rfl) (by decide) ?_
  refine hw_puti (aX12_feed 2 rfl) wf_RX12_187 (c121 hS) (s121 hS) (by decide) rfl rfl ?_
  refine hw_aloadn (aX12_feed 3 rfl) rfl ?_
  refine hw_get (v := .int (FI 121 13)) (aX12_feed 4 rfl) wf_RX12_190 (c121 hS) (s121 hS) (by decide) (congrArg Value.int (show (h_up FI 121 0 ((0 : Int32))) 121 13 = FI 121 13 from rfl)) ?_
  refine hw_bp (v := (20 : Int32)) (aX12_feed 5 rfl) (by decide) ?_
  refine xw_iadd (aX12_feed 6 rfl) ?_
  refine hw_tie (A := ((FI 121 13).toInt) + (20)) (i_add rfl (by decide : (20 : Int32).toInt = 20) (by omega) (by omega)) (fun x1 e2 => ?_)
  refine hw_sp (v := (1000 : Int32)) (aX12_feed 7 rfl) (by decide) ?_
  refine hw_icle (tgt := 20) (aX12_feed 8 rfl) (by decide) e2 (by decide : (1000 : Int32).toInt = 1000) (fun cd3 => ?_) (fun cd3 => ?_)
  · refine hw_aloadn (aX12_feed 11 rfl) rfl ?_
    refine xw_iloadn (aX12_feed 12 rfl) rfl ?_
    refine hw_callV (Bs := [.int (a1)]) (rest := []) (aX12_feed 13 rfl) wc_RX12_193 (by decide) rfl wi_yX12_puts wv_yX12_puts (c121 hS) (s121 hS) rfl rfl rfl (Nat.le_of_ble_eq_true rfl) (Nat.le_of_ble_eq_true rfl) (m_puts (d := d) hS hF (a1) (by show 0 ≤ ((h_up FI 121 0 ((0 : Int32))) 121 13).toInt ∧ ((h_up FI 121 0 ((0 : Int32))) 121 13).toInt ≤ 996; rw [show (h_up FI 121 0 ((0 : Int32))) 121 13 = FI 121 13 from rfl]; show 0 ≤ (FI 121 13).toInt ∧ (FI 121 13).toInt ≤ 996; omega) (show h_ai 126 1000 0 255 (h_up FI 121 0 ((0 : Int32))) from (show h_ai 126 1000 0 255 (h_up FI 121 0 ((0 : Int32))) from (ai_nc ai126 (by decide))))) (fun v4 sv5 p6 => ?_)
    obtain ⟨rfl, FI8, FL9, rfl, f7I, rfl, t11, ai12⟩ := p6
    rw [show (h_up FI 121 0 ((0 : Int32))) 121 13 = FI 121 13 from rfl] at t11
    show hw sk base _ none _ _ _ [] _ _
    refine hw_aloadn (aX12_feed 14 rfl) rfl ?_
    refine xw_iloadn (aX12_feed 15 rfl) rfl ?_
    refine hw_callV (Bs := [.int (a2)]) (rest := []) (aX12_feed 16 rfl) wc_RX12_193 (by decide) rfl wi_yX12_puts wv_yX12_puts (c121 hS) (s121 hS) rfl rfl rfl (Nat.le_of_ble_eq_true rfl) (Nat.le_of_ble_eq_true rfl) (m_puts (d := d) hS hF (a2) (by show 0 ≤ ((FI8) 121 13).toInt ∧ ((FI8) 121 13).toInt ≤ 996; rw [show (FI8) 121 13 = FI8 121 13 from rfl]; show 0 ≤ (FI8 121 13).toInt ∧ (FI8 121 13).toInt ≤ 996; omega) (show h_ai 126 1000 0 255 (FI8) from ai12)) (fun v13 sv14 p15 => ?_)
    obtain ⟨rfl, FI17, FL18, rfl, f16I, rfl, t20, ai21⟩ := p15
    rw [show (FI8) 121 13 = FI8 121 13 from rfl] at t20
    show hw sk base _ none _ _ _ [] _ _
    refine hw_aloadn (aX12_feed 17 rfl) rfl ?_
    refine xw_iloadn (aX12_feed 18 rfl) rfl ?_
    refine hw_callV (Bs := [.int (a3)]) (rest := []) (aX12_feed 19 rfl) wc_RX12_193 (by decide) rfl wi_yX12_puts wv_yX12_puts (c121 hS) (s121 hS) rfl rfl rfl (Nat.le_of_ble_eq_true rfl) (Nat.le_of_ble_eq_true rfl) (m_puts (d := d) hS hF (a3) (by show 0 ≤ ((FI17) 121 13).toInt ∧ ((FI17) 121 13).toInt ≤ 996; rw [show (FI17) 121 13 = FI17 121 13 from rfl]; show 0 ≤ (FI17 121 13).toInt ∧ (FI17 121 13).toInt ≤ 996; omega) (show h_ai 126 1000 0 255 (FI17) from ai21)) (fun v22 sv23 p24 => ?_)
    obtain ⟨rfl, FI26, FL27, rfl, f25I, rfl, t29, ai30⟩ := p24
    rw [show (FI17) 121 13 = FI17 121 13 from rfl] at t29
    show hw sk base _ none _ _ _ [] _ _
    refine hw_aloadn (aX12_feed 20 rfl) rfl ?_
    refine xw_iload (aX12_feed 21 rfl) rfl ?_
    refine hw_callV (Bs := [.int (a4)]) (rest := []) (aX12_feed 22 rfl) wc_RX12_193 (by decide) rfl wi_yX12_puts wv_yX12_puts (c121 hS) (s121 hS) rfl rfl rfl (Nat.le_of_ble_eq_true rfl) (Nat.le_of_ble_eq_true rfl) (m_puts (d := d) hS hF (a4) (by show 0 ≤ ((FI26) 121 13).toInt ∧ ((FI26) 121 13).toInt ≤ 996; rw [show (FI26) 121 13 = FI26 121 13 from rfl]; show 0 ≤ (FI26 121 13).toInt ∧ (FI26 121 13).toInt ≤ 996; omega) (show h_ai 126 1000 0 255 (FI26) from ai30)) (fun v31 sv32 p33 => ?_)
    obtain ⟨rfl, FI35, FL36, rfl, f34I, rfl, t38, ai39⟩ := p33
    rw [show (FI26) 121 13 = FI26 121 13 from rfl] at t38
    show hw sk base _ none _ _ _ [] _ _
    refine hw_aloadn (aX12_feed 23 rfl) rfl ?_
    refine xw_iload (aX12_feed 24 rfl) rfl ?_
    refine hw_callV (Bs := [.int (a5)]) (rest := []) (aX12_feed 25 rfl) wc_RX12_193 (by decide) rfl wi_yX12_puts wv_yX12_puts (c121 hS) (s121 hS) rfl rfl rfl (Nat.le_of_ble_eq_true rfl) (Nat.le_of_ble_eq_true rfl) (m_puts (d := d) hS hF (a5) (by show 0 ≤ ((FI35) 121 13).toInt ∧ ((FI35) 121 13).toInt ≤ 996; rw [show (FI35) 121 13 = FI35 121 13 from rfl]; show 0 ≤ (FI35 121 13).toInt ∧ (FI35 121 13).toInt ≤ 996; omega) (show h_ai 126 1000 0 255 (FI35) from ai39)) (fun v40 sv41 p42 => ?_)
    obtain ⟨rfl, FI44, FL45, rfl, f43I, rfl, t47, ai48⟩ := p42
    rw [show (FI35) 121 13 = FI35 121 13 from rfl] at t47
    show hw sk base _ none _ _ _ [] _ _
    refine hw_aloadn (aX12_feed 26 rfl) rfl ?_
    refine hw_get (v := .int (FI44 121 13)) (aX12_feed 27 rfl) wf_RX12_190 (c121 hS) (s121 hS) (by decide) (congrArg Value.int (show FI44 121 13 = FI44 121 13 from rfl)) ?_
    refine xw_iret (aX12_feed 28 rfl) rfl rfl ?_
    have e49 : (FI44 121 13).toInt = (FI44 121 13).toInt := rfl
    exact ⟨FI44 121 13, rfl, _, _, rfl, (fr_tr (fr_tr (fr_tr (fr_tr (fr_tr (fr_up fr_rf (by decide)) f7I (by decide) (by decide)) f16I (by decide) (by decide)) f25I (by decide) (by decide)) f34I (by decide) (by decide)) f43I (by decide) (by decide)), rfl, (by show 0 ≤ ((FI44 121 13)).toInt ∧ ((FI44 121 13)).toInt ≤ 1000; omega), ai48⟩
  · refine hw_ic (v := ((-1) : Int32)) (aX12_feed 9 rfl) (by decide) ?_
    refine xw_iret (aX12_feed 10 rfl) rfl rfl ?_
    have e50 : (((-1) : Int32)).toInt = (-1) := (by decide : ((-1) : Int32).toInt = (-1))
    exact ⟨((-1) : Int32), rfl, _, _, rfl, (fr_up fr_rf (by decide)), rfl, (by show 0 ≤ ((FI 121 13)).toInt ∧ ((FI 121 13)).toInt ≤ 1000; omega), (show h_ai 126 1000 0 255 (h_up FI 121 0 ((0 : Int32))) from (ai_nc ai126 (by decide)))⟩
end
