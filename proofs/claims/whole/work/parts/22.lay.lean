/-! the fixed layout: what each object is, who holds it (by program: layout.py) -/
def am_SH : List (Nat × Nat) := [(10, 11), (4, 2), (20, 40), (8, 14), (20, 60), (20, 40), (20, 40), (20, 40), (9, 4), (24, 4), (23, 4), (6, 4), (20, 8), (20, 8), (22, 8), (7, 4), (20, 60), (20, 4), (7, 4), (20, 60), (20, 4), (7, 4), (20, 60), (20, 4), (7, 4), (20, 60), (20, 4), (1, 6), (1, 6), (1, 6), (1, 6), (9, 4), (24, 4), (23, 4), (6, 4), (20, 8), (20, 8), (22, 8), (7, 4), (20, 60), (20, 4), (7, 4), (20, 60), (20, 4), (7, 4), (20, 60), (20, 4), (7, 4), (20, 60), (20, 4), (1, 6), (1, 6), (1, 6), (1, 6), (2, 5), (3, 3), (20, 61), (5, 5), (25, 4), (20, 4), (20, 4), (20, 4), (20, 4), (20, 4), (20, 4), (0, 3), (11, 57), (20, 240), (20, 4), (20, 4), (20, 4), (20, 4), (20, 4), (20, 4), (20, 4), (20, 16), (20, 8), (20, 8), (20, 8), (21, 40), (20, 40), (20, 40), (20, 40), (20, 40), (20, 60), (20, 61), (20, 4), (20, 4), (20, 16), (20, 240), (20, 4), (20, 4), (20, 4), (20, 4), (20, 4), (20, 4), (20, 16), (20, 8), (20, 8), (20, 8)]
def am_RL : List ((Nat × Nat) × Nat) := [((1, 0), 2), ((0, 0), 1), ((3, 0), 4), ((3, 1), 5), ((3, 2), 6), ((3, 3), 7), ((0, 1), 3), ((8, 0), 9), ((8, 1), 10), ((11, 0), 12), ((11, 1), 13), ((11, 2), 14), ((8, 2), 11), ((15, 0), 16), ((15, 1), 17), ((9, 0), 15), ((18, 0), 19), ((18, 1), 20), ((9, 1), 18), ((21, 0), 22), ((21, 1), 23), ((9, 2), 21), ((24, 0), 25), ((24, 1), 26), ((9, 3), 24), ((10, 0), 27), ((10, 1), 28), ((10, 2), 29), ((10, 3), 30), ((0, 2), 8), ((31, 0), 32), ((31, 1), 33), ((34, 0), 35), ((34, 1), 36), ((34, 2), 37), ((31, 2), 34), ((38, 0), 39), ((38, 1), 40), ((32, 0), 38), ((41, 0), 42), ((41, 1), 43), ((32, 1), 41), ((44, 0), 45), ((44, 1), 46), ((32, 2), 44), ((47, 0), 48), ((47, 1), 49), ((32, 3), 47), ((33, 0), 50), ((33, 1), 51), ((33, 2), 52), ((33, 3), 53), ((0, 3), 31), ((0, 4), 54), ((55, 0), 56), ((0, 5), 55), ((58, 0), 59), ((58, 1), 60), ((58, 2), 61), ((58, 3), 62), ((57, 0), 58), ((57, 1), 63), ((57, 2), 64), ((0, 6), 57), ((0, 7), 65), ((66, 0), 67), ((66, 1), 68), ((66, 2), 69), ((66, 6), 70), ((66, 7), 71), ((66, 8), 72), ((66, 9), 73), ((66, 10), 74), ((66, 11), 75), ((66, 13), 76), ((66, 14), 77), ((66, 15), 78), ((66, 17), 79), ((66, 20), 80), ((66, 21), 81), ((66, 22), 82), ((66, 23), 83), ((66, 33), 84), ((66, 34), 85), ((66, 36), 86), ((66, 37), 87), ((66, 38), 88), ((66, 45), 89), ((66, 46), 90), ((66, 47), 91), ((66, 48), 92), ((66, 49), 93), ((66, 50), 94), ((66, 51), 95), ((66, 52), 96), ((66, 53), 97), ((66, 54), 98), ((66, 55), 99)]
def am_F (σ : am_M) : Prop := am_S σ = am_SH ∧ ∀ q ∈ am_RL, am_R σ q.1.1 q.1.2 = some q.2
theorem am_ixN {σ : am_M} {c o k n : Nat} (hk : am_kd σ o = c) (hl : am_ln σ o = n) (h : k < n) (hn : n < 2 ^ 31) : am_ix σ c o (nI k) = true := by
  have h1 : (nI k).toNatClampNeg = k := nI_clamp (by omega)
  have h2 : ¬ nI k < 0 := nI_pos (by omega)
  unfold am_ix
  rw [hk, hl, h1]
  simp [h2, h]
theorem kd0 {σ : am_M} (h : am_F σ) : am_kd σ 0 = 10 := by unfold am_kd; rw [h.1]; rfl
theorem ln0 {σ : am_M} (h : am_F σ) : am_ln σ 0 = 11 := by unfold am_ln; rw [h.1]; rfl
theorem kd1 {σ : am_M} (h : am_F σ) : am_kd σ 1 = 4 := by unfold am_kd; rw [h.1]; rfl
theorem ln1 {σ : am_M} (h : am_F σ) : am_ln σ 1 = 2 := by unfold am_ln; rw [h.1]; rfl
theorem kd2 {σ : am_M} (h : am_F σ) : am_kd σ 2 = 20 := by unfold am_kd; rw [h.1]; rfl
theorem ln2 {σ : am_M} (h : am_F σ) : am_ln σ 2 = 40 := by unfold am_ln; rw [h.1]; rfl
theorem ix2 {σ : am_M} (h : am_F σ) {k : Nat} (hk : k < 40) : am_ix σ 20 2 (nI k) = true := am_ixN (kd2 h) (ln2 h) hk (by decide)
theorem kd3 {σ : am_M} (h : am_F σ) : am_kd σ 3 = 8 := by unfold am_kd; rw [h.1]; rfl
theorem ln3 {σ : am_M} (h : am_F σ) : am_ln σ 3 = 14 := by unfold am_ln; rw [h.1]; rfl
theorem kd4 {σ : am_M} (h : am_F σ) : am_kd σ 4 = 20 := by unfold am_kd; rw [h.1]; rfl
theorem ln4 {σ : am_M} (h : am_F σ) : am_ln σ 4 = 60 := by unfold am_ln; rw [h.1]; rfl
theorem ix4 {σ : am_M} (h : am_F σ) {k : Nat} (hk : k < 60) : am_ix σ 20 4 (nI k) = true := am_ixN (kd4 h) (ln4 h) hk (by decide)
theorem kd5 {σ : am_M} (h : am_F σ) : am_kd σ 5 = 20 := by unfold am_kd; rw [h.1]; rfl
theorem ln5 {σ : am_M} (h : am_F σ) : am_ln σ 5 = 40 := by unfold am_ln; rw [h.1]; rfl
theorem ix5 {σ : am_M} (h : am_F σ) {k : Nat} (hk : k < 40) : am_ix σ 20 5 (nI k) = true := am_ixN (kd5 h) (ln5 h) hk (by decide)
theorem kd6 {σ : am_M} (h : am_F σ) : am_kd σ 6 = 20 := by unfold am_kd; rw [h.1]; rfl
theorem ln6 {σ : am_M} (h : am_F σ) : am_ln σ 6 = 40 := by unfold am_ln; rw [h.1]; rfl
theorem ix6 {σ : am_M} (h : am_F σ) {k : Nat} (hk : k < 40) : am_ix σ 20 6 (nI k) = true := am_ixN (kd6 h) (ln6 h) hk (by decide)
theorem kd7 {σ : am_M} (h : am_F σ) : am_kd σ 7 = 20 := by unfold am_kd; rw [h.1]; rfl
theorem ln7 {σ : am_M} (h : am_F σ) : am_ln σ 7 = 40 := by unfold am_ln; rw [h.1]; rfl
theorem ix7 {σ : am_M} (h : am_F σ) {k : Nat} (hk : k < 40) : am_ix σ 20 7 (nI k) = true := am_ixN (kd7 h) (ln7 h) hk (by decide)
theorem kd8 {σ : am_M} (h : am_F σ) : am_kd σ 8 = 9 := by unfold am_kd; rw [h.1]; rfl
theorem ln8 {σ : am_M} (h : am_F σ) : am_ln σ 8 = 4 := by unfold am_ln; rw [h.1]; rfl
theorem kd9 {σ : am_M} (h : am_F σ) : am_kd σ 9 = 24 := by unfold am_kd; rw [h.1]; rfl
theorem ln9 {σ : am_M} (h : am_F σ) : am_ln σ 9 = 4 := by unfold am_ln; rw [h.1]; rfl
theorem ix9 {σ : am_M} (h : am_F σ) {k : Nat} (hk : k < 4) : am_ix σ 24 9 (nI k) = true := am_ixN (kd9 h) (ln9 h) hk (by decide)
theorem kd10 {σ : am_M} (h : am_F σ) : am_kd σ 10 = 23 := by unfold am_kd; rw [h.1]; rfl
theorem ln10 {σ : am_M} (h : am_F σ) : am_ln σ 10 = 4 := by unfold am_ln; rw [h.1]; rfl
theorem ix10 {σ : am_M} (h : am_F σ) {k : Nat} (hk : k < 4) : am_ix σ 23 10 (nI k) = true := am_ixN (kd10 h) (ln10 h) hk (by decide)
theorem kd11 {σ : am_M} (h : am_F σ) : am_kd σ 11 = 6 := by unfold am_kd; rw [h.1]; rfl
theorem ln11 {σ : am_M} (h : am_F σ) : am_ln σ 11 = 4 := by unfold am_ln; rw [h.1]; rfl
theorem kd12 {σ : am_M} (h : am_F σ) : am_kd σ 12 = 20 := by unfold am_kd; rw [h.1]; rfl
theorem ln12 {σ : am_M} (h : am_F σ) : am_ln σ 12 = 8 := by unfold am_ln; rw [h.1]; rfl
theorem ix12 {σ : am_M} (h : am_F σ) {k : Nat} (hk : k < 8) : am_ix σ 20 12 (nI k) = true := am_ixN (kd12 h) (ln12 h) hk (by decide)
theorem kd13 {σ : am_M} (h : am_F σ) : am_kd σ 13 = 20 := by unfold am_kd; rw [h.1]; rfl
theorem ln13 {σ : am_M} (h : am_F σ) : am_ln σ 13 = 8 := by unfold am_ln; rw [h.1]; rfl
theorem ix13 {σ : am_M} (h : am_F σ) {k : Nat} (hk : k < 8) : am_ix σ 20 13 (nI k) = true := am_ixN (kd13 h) (ln13 h) hk (by decide)
theorem kd14 {σ : am_M} (h : am_F σ) : am_kd σ 14 = 22 := by unfold am_kd; rw [h.1]; rfl
theorem ln14 {σ : am_M} (h : am_F σ) : am_ln σ 14 = 8 := by unfold am_ln; rw [h.1]; rfl
theorem ix14 {σ : am_M} (h : am_F σ) {k : Nat} (hk : k < 8) : am_ix σ 22 14 (nI k) = true := am_ixN (kd14 h) (ln14 h) hk (by decide)
theorem kd15 {σ : am_M} (h : am_F σ) : am_kd σ 15 = 7 := by unfold am_kd; rw [h.1]; rfl
theorem ln15 {σ : am_M} (h : am_F σ) : am_ln σ 15 = 4 := by unfold am_ln; rw [h.1]; rfl
theorem kd16 {σ : am_M} (h : am_F σ) : am_kd σ 16 = 20 := by unfold am_kd; rw [h.1]; rfl
theorem ln16 {σ : am_M} (h : am_F σ) : am_ln σ 16 = 60 := by unfold am_ln; rw [h.1]; rfl
theorem ix16 {σ : am_M} (h : am_F σ) {k : Nat} (hk : k < 60) : am_ix σ 20 16 (nI k) = true := am_ixN (kd16 h) (ln16 h) hk (by decide)
theorem kd17 {σ : am_M} (h : am_F σ) : am_kd σ 17 = 20 := by unfold am_kd; rw [h.1]; rfl
theorem ln17 {σ : am_M} (h : am_F σ) : am_ln σ 17 = 4 := by unfold am_ln; rw [h.1]; rfl
theorem ix17 {σ : am_M} (h : am_F σ) {k : Nat} (hk : k < 4) : am_ix σ 20 17 (nI k) = true := am_ixN (kd17 h) (ln17 h) hk (by decide)
theorem kd18 {σ : am_M} (h : am_F σ) : am_kd σ 18 = 7 := by unfold am_kd; rw [h.1]; rfl
theorem ln18 {σ : am_M} (h : am_F σ) : am_ln σ 18 = 4 := by unfold am_ln; rw [h.1]; rfl
theorem kd19 {σ : am_M} (h : am_F σ) : am_kd σ 19 = 20 := by unfold am_kd; rw [h.1]; rfl
theorem ln19 {σ : am_M} (h : am_F σ) : am_ln σ 19 = 60 := by unfold am_ln; rw [h.1]; rfl
theorem ix19 {σ : am_M} (h : am_F σ) {k : Nat} (hk : k < 60) : am_ix σ 20 19 (nI k) = true := am_ixN (kd19 h) (ln19 h) hk (by decide)
theorem kd20 {σ : am_M} (h : am_F σ) : am_kd σ 20 = 20 := by unfold am_kd; rw [h.1]; rfl
theorem ln20 {σ : am_M} (h : am_F σ) : am_ln σ 20 = 4 := by unfold am_ln; rw [h.1]; rfl
theorem ix20 {σ : am_M} (h : am_F σ) {k : Nat} (hk : k < 4) : am_ix σ 20 20 (nI k) = true := am_ixN (kd20 h) (ln20 h) hk (by decide)
theorem kd21 {σ : am_M} (h : am_F σ) : am_kd σ 21 = 7 := by unfold am_kd; rw [h.1]; rfl
theorem ln21 {σ : am_M} (h : am_F σ) : am_ln σ 21 = 4 := by unfold am_ln; rw [h.1]; rfl
theorem kd22 {σ : am_M} (h : am_F σ) : am_kd σ 22 = 20 := by unfold am_kd; rw [h.1]; rfl
theorem ln22 {σ : am_M} (h : am_F σ) : am_ln σ 22 = 60 := by unfold am_ln; rw [h.1]; rfl
theorem ix22 {σ : am_M} (h : am_F σ) {k : Nat} (hk : k < 60) : am_ix σ 20 22 (nI k) = true := am_ixN (kd22 h) (ln22 h) hk (by decide)
theorem kd23 {σ : am_M} (h : am_F σ) : am_kd σ 23 = 20 := by unfold am_kd; rw [h.1]; rfl
theorem ln23 {σ : am_M} (h : am_F σ) : am_ln σ 23 = 4 := by unfold am_ln; rw [h.1]; rfl
theorem ix23 {σ : am_M} (h : am_F σ) {k : Nat} (hk : k < 4) : am_ix σ 20 23 (nI k) = true := am_ixN (kd23 h) (ln23 h) hk (by decide)
theorem kd24 {σ : am_M} (h : am_F σ) : am_kd σ 24 = 7 := by unfold am_kd; rw [h.1]; rfl
theorem ln24 {σ : am_M} (h : am_F σ) : am_ln σ 24 = 4 := by unfold am_ln; rw [h.1]; rfl
theorem kd25 {σ : am_M} (h : am_F σ) : am_kd σ 25 = 20 := by unfold am_kd; rw [h.1]; rfl
theorem ln25 {σ : am_M} (h : am_F σ) : am_ln σ 25 = 60 := by unfold am_ln; rw [h.1]; rfl
theorem ix25 {σ : am_M} (h : am_F σ) {k : Nat} (hk : k < 60) : am_ix σ 20 25 (nI k) = true := am_ixN (kd25 h) (ln25 h) hk (by decide)
theorem kd26 {σ : am_M} (h : am_F σ) : am_kd σ 26 = 20 := by unfold am_kd; rw [h.1]; rfl
theorem ln26 {σ : am_M} (h : am_F σ) : am_ln σ 26 = 4 := by unfold am_ln; rw [h.1]; rfl
theorem ix26 {σ : am_M} (h : am_F σ) {k : Nat} (hk : k < 4) : am_ix σ 20 26 (nI k) = true := am_ixN (kd26 h) (ln26 h) hk (by decide)
theorem kd27 {σ : am_M} (h : am_F σ) : am_kd σ 27 = 1 := by unfold am_kd; rw [h.1]; rfl
theorem ln27 {σ : am_M} (h : am_F σ) : am_ln σ 27 = 6 := by unfold am_ln; rw [h.1]; rfl
theorem kd28 {σ : am_M} (h : am_F σ) : am_kd σ 28 = 1 := by unfold am_kd; rw [h.1]; rfl
theorem ln28 {σ : am_M} (h : am_F σ) : am_ln σ 28 = 6 := by unfold am_ln; rw [h.1]; rfl
theorem kd29 {σ : am_M} (h : am_F σ) : am_kd σ 29 = 1 := by unfold am_kd; rw [h.1]; rfl
theorem ln29 {σ : am_M} (h : am_F σ) : am_ln σ 29 = 6 := by unfold am_ln; rw [h.1]; rfl
theorem kd30 {σ : am_M} (h : am_F σ) : am_kd σ 30 = 1 := by unfold am_kd; rw [h.1]; rfl
theorem ln30 {σ : am_M} (h : am_F σ) : am_ln σ 30 = 6 := by unfold am_ln; rw [h.1]; rfl
theorem kd31 {σ : am_M} (h : am_F σ) : am_kd σ 31 = 9 := by unfold am_kd; rw [h.1]; rfl
theorem ln31 {σ : am_M} (h : am_F σ) : am_ln σ 31 = 4 := by unfold am_ln; rw [h.1]; rfl
theorem kd32 {σ : am_M} (h : am_F σ) : am_kd σ 32 = 24 := by unfold am_kd; rw [h.1]; rfl
theorem ln32 {σ : am_M} (h : am_F σ) : am_ln σ 32 = 4 := by unfold am_ln; rw [h.1]; rfl
theorem ix32 {σ : am_M} (h : am_F σ) {k : Nat} (hk : k < 4) : am_ix σ 24 32 (nI k) = true := am_ixN (kd32 h) (ln32 h) hk (by decide)
theorem kd33 {σ : am_M} (h : am_F σ) : am_kd σ 33 = 23 := by unfold am_kd; rw [h.1]; rfl
theorem ln33 {σ : am_M} (h : am_F σ) : am_ln σ 33 = 4 := by unfold am_ln; rw [h.1]; rfl
theorem ix33 {σ : am_M} (h : am_F σ) {k : Nat} (hk : k < 4) : am_ix σ 23 33 (nI k) = true := am_ixN (kd33 h) (ln33 h) hk (by decide)
theorem kd34 {σ : am_M} (h : am_F σ) : am_kd σ 34 = 6 := by unfold am_kd; rw [h.1]; rfl
theorem ln34 {σ : am_M} (h : am_F σ) : am_ln σ 34 = 4 := by unfold am_ln; rw [h.1]; rfl
theorem kd35 {σ : am_M} (h : am_F σ) : am_kd σ 35 = 20 := by unfold am_kd; rw [h.1]; rfl
theorem ln35 {σ : am_M} (h : am_F σ) : am_ln σ 35 = 8 := by unfold am_ln; rw [h.1]; rfl
theorem ix35 {σ : am_M} (h : am_F σ) {k : Nat} (hk : k < 8) : am_ix σ 20 35 (nI k) = true := am_ixN (kd35 h) (ln35 h) hk (by decide)
theorem kd36 {σ : am_M} (h : am_F σ) : am_kd σ 36 = 20 := by unfold am_kd; rw [h.1]; rfl
theorem ln36 {σ : am_M} (h : am_F σ) : am_ln σ 36 = 8 := by unfold am_ln; rw [h.1]; rfl
theorem ix36 {σ : am_M} (h : am_F σ) {k : Nat} (hk : k < 8) : am_ix σ 20 36 (nI k) = true := am_ixN (kd36 h) (ln36 h) hk (by decide)
theorem kd37 {σ : am_M} (h : am_F σ) : am_kd σ 37 = 22 := by unfold am_kd; rw [h.1]; rfl
theorem ln37 {σ : am_M} (h : am_F σ) : am_ln σ 37 = 8 := by unfold am_ln; rw [h.1]; rfl
theorem ix37 {σ : am_M} (h : am_F σ) {k : Nat} (hk : k < 8) : am_ix σ 22 37 (nI k) = true := am_ixN (kd37 h) (ln37 h) hk (by decide)
theorem kd38 {σ : am_M} (h : am_F σ) : am_kd σ 38 = 7 := by unfold am_kd; rw [h.1]; rfl
theorem ln38 {σ : am_M} (h : am_F σ) : am_ln σ 38 = 4 := by unfold am_ln; rw [h.1]; rfl
theorem kd39 {σ : am_M} (h : am_F σ) : am_kd σ 39 = 20 := by unfold am_kd; rw [h.1]; rfl
theorem ln39 {σ : am_M} (h : am_F σ) : am_ln σ 39 = 60 := by unfold am_ln; rw [h.1]; rfl
theorem ix39 {σ : am_M} (h : am_F σ) {k : Nat} (hk : k < 60) : am_ix σ 20 39 (nI k) = true := am_ixN (kd39 h) (ln39 h) hk (by decide)
theorem kd40 {σ : am_M} (h : am_F σ) : am_kd σ 40 = 20 := by unfold am_kd; rw [h.1]; rfl
theorem ln40 {σ : am_M} (h : am_F σ) : am_ln σ 40 = 4 := by unfold am_ln; rw [h.1]; rfl
theorem ix40 {σ : am_M} (h : am_F σ) {k : Nat} (hk : k < 4) : am_ix σ 20 40 (nI k) = true := am_ixN (kd40 h) (ln40 h) hk (by decide)
theorem kd41 {σ : am_M} (h : am_F σ) : am_kd σ 41 = 7 := by unfold am_kd; rw [h.1]; rfl
theorem ln41 {σ : am_M} (h : am_F σ) : am_ln σ 41 = 4 := by unfold am_ln; rw [h.1]; rfl
theorem kd42 {σ : am_M} (h : am_F σ) : am_kd σ 42 = 20 := by unfold am_kd; rw [h.1]; rfl
theorem ln42 {σ : am_M} (h : am_F σ) : am_ln σ 42 = 60 := by unfold am_ln; rw [h.1]; rfl
theorem ix42 {σ : am_M} (h : am_F σ) {k : Nat} (hk : k < 60) : am_ix σ 20 42 (nI k) = true := am_ixN (kd42 h) (ln42 h) hk (by decide)
theorem kd43 {σ : am_M} (h : am_F σ) : am_kd σ 43 = 20 := by unfold am_kd; rw [h.1]; rfl
theorem ln43 {σ : am_M} (h : am_F σ) : am_ln σ 43 = 4 := by unfold am_ln; rw [h.1]; rfl
theorem ix43 {σ : am_M} (h : am_F σ) {k : Nat} (hk : k < 4) : am_ix σ 20 43 (nI k) = true := am_ixN (kd43 h) (ln43 h) hk (by decide)
theorem kd44 {σ : am_M} (h : am_F σ) : am_kd σ 44 = 7 := by unfold am_kd; rw [h.1]; rfl
theorem ln44 {σ : am_M} (h : am_F σ) : am_ln σ 44 = 4 := by unfold am_ln; rw [h.1]; rfl
theorem kd45 {σ : am_M} (h : am_F σ) : am_kd σ 45 = 20 := by unfold am_kd; rw [h.1]; rfl
theorem ln45 {σ : am_M} (h : am_F σ) : am_ln σ 45 = 60 := by unfold am_ln; rw [h.1]; rfl
theorem ix45 {σ : am_M} (h : am_F σ) {k : Nat} (hk : k < 60) : am_ix σ 20 45 (nI k) = true := am_ixN (kd45 h) (ln45 h) hk (by decide)
theorem kd46 {σ : am_M} (h : am_F σ) : am_kd σ 46 = 20 := by unfold am_kd; rw [h.1]; rfl
theorem ln46 {σ : am_M} (h : am_F σ) : am_ln σ 46 = 4 := by unfold am_ln; rw [h.1]; rfl
theorem ix46 {σ : am_M} (h : am_F σ) {k : Nat} (hk : k < 4) : am_ix σ 20 46 (nI k) = true := am_ixN (kd46 h) (ln46 h) hk (by decide)
theorem kd47 {σ : am_M} (h : am_F σ) : am_kd σ 47 = 7 := by unfold am_kd; rw [h.1]; rfl
theorem ln47 {σ : am_M} (h : am_F σ) : am_ln σ 47 = 4 := by unfold am_ln; rw [h.1]; rfl
theorem kd48 {σ : am_M} (h : am_F σ) : am_kd σ 48 = 20 := by unfold am_kd; rw [h.1]; rfl
theorem ln48 {σ : am_M} (h : am_F σ) : am_ln σ 48 = 60 := by unfold am_ln; rw [h.1]; rfl
theorem ix48 {σ : am_M} (h : am_F σ) {k : Nat} (hk : k < 60) : am_ix σ 20 48 (nI k) = true := am_ixN (kd48 h) (ln48 h) hk (by decide)
theorem kd49 {σ : am_M} (h : am_F σ) : am_kd σ 49 = 20 := by unfold am_kd; rw [h.1]; rfl
theorem ln49 {σ : am_M} (h : am_F σ) : am_ln σ 49 = 4 := by unfold am_ln; rw [h.1]; rfl
theorem ix49 {σ : am_M} (h : am_F σ) {k : Nat} (hk : k < 4) : am_ix σ 20 49 (nI k) = true := am_ixN (kd49 h) (ln49 h) hk (by decide)
theorem kd50 {σ : am_M} (h : am_F σ) : am_kd σ 50 = 1 := by unfold am_kd; rw [h.1]; rfl
theorem ln50 {σ : am_M} (h : am_F σ) : am_ln σ 50 = 6 := by unfold am_ln; rw [h.1]; rfl
theorem kd51 {σ : am_M} (h : am_F σ) : am_kd σ 51 = 1 := by unfold am_kd; rw [h.1]; rfl
theorem ln51 {σ : am_M} (h : am_F σ) : am_ln σ 51 = 6 := by unfold am_ln; rw [h.1]; rfl
theorem kd52 {σ : am_M} (h : am_F σ) : am_kd σ 52 = 1 := by unfold am_kd; rw [h.1]; rfl
theorem ln52 {σ : am_M} (h : am_F σ) : am_ln σ 52 = 6 := by unfold am_ln; rw [h.1]; rfl
theorem kd53 {σ : am_M} (h : am_F σ) : am_kd σ 53 = 1 := by unfold am_kd; rw [h.1]; rfl
theorem ln53 {σ : am_M} (h : am_F σ) : am_ln σ 53 = 6 := by unfold am_ln; rw [h.1]; rfl
theorem kd54 {σ : am_M} (h : am_F σ) : am_kd σ 54 = 2 := by unfold am_kd; rw [h.1]; rfl
theorem ln54 {σ : am_M} (h : am_F σ) : am_ln σ 54 = 5 := by unfold am_ln; rw [h.1]; rfl
theorem kd55 {σ : am_M} (h : am_F σ) : am_kd σ 55 = 3 := by unfold am_kd; rw [h.1]; rfl
theorem ln55 {σ : am_M} (h : am_F σ) : am_ln σ 55 = 3 := by unfold am_ln; rw [h.1]; rfl
theorem kd56 {σ : am_M} (h : am_F σ) : am_kd σ 56 = 20 := by unfold am_kd; rw [h.1]; rfl
theorem ln56 {σ : am_M} (h : am_F σ) : am_ln σ 56 = 61 := by unfold am_ln; rw [h.1]; rfl
theorem ix56 {σ : am_M} (h : am_F σ) {k : Nat} (hk : k < 61) : am_ix σ 20 56 (nI k) = true := am_ixN (kd56 h) (ln56 h) hk (by decide)
theorem kd57 {σ : am_M} (h : am_F σ) : am_kd σ 57 = 5 := by unfold am_kd; rw [h.1]; rfl
theorem ln57 {σ : am_M} (h : am_F σ) : am_ln σ 57 = 5 := by unfold am_ln; rw [h.1]; rfl
theorem kd58 {σ : am_M} (h : am_F σ) : am_kd σ 58 = 25 := by unfold am_kd; rw [h.1]; rfl
theorem ln58 {σ : am_M} (h : am_F σ) : am_ln σ 58 = 4 := by unfold am_ln; rw [h.1]; rfl
theorem ix58 {σ : am_M} (h : am_F σ) {k : Nat} (hk : k < 4) : am_ix σ 25 58 (nI k) = true := am_ixN (kd58 h) (ln58 h) hk (by decide)
theorem kd59 {σ : am_M} (h : am_F σ) : am_kd σ 59 = 20 := by unfold am_kd; rw [h.1]; rfl
theorem ln59 {σ : am_M} (h : am_F σ) : am_ln σ 59 = 4 := by unfold am_ln; rw [h.1]; rfl
theorem ix59 {σ : am_M} (h : am_F σ) {k : Nat} (hk : k < 4) : am_ix σ 20 59 (nI k) = true := am_ixN (kd59 h) (ln59 h) hk (by decide)
theorem kd60 {σ : am_M} (h : am_F σ) : am_kd σ 60 = 20 := by unfold am_kd; rw [h.1]; rfl
theorem ln60 {σ : am_M} (h : am_F σ) : am_ln σ 60 = 4 := by unfold am_ln; rw [h.1]; rfl
theorem ix60 {σ : am_M} (h : am_F σ) {k : Nat} (hk : k < 4) : am_ix σ 20 60 (nI k) = true := am_ixN (kd60 h) (ln60 h) hk (by decide)
theorem kd61 {σ : am_M} (h : am_F σ) : am_kd σ 61 = 20 := by unfold am_kd; rw [h.1]; rfl
theorem ln61 {σ : am_M} (h : am_F σ) : am_ln σ 61 = 4 := by unfold am_ln; rw [h.1]; rfl
theorem ix61 {σ : am_M} (h : am_F σ) {k : Nat} (hk : k < 4) : am_ix σ 20 61 (nI k) = true := am_ixN (kd61 h) (ln61 h) hk (by decide)
theorem kd62 {σ : am_M} (h : am_F σ) : am_kd σ 62 = 20 := by unfold am_kd; rw [h.1]; rfl
theorem ln62 {σ : am_M} (h : am_F σ) : am_ln σ 62 = 4 := by unfold am_ln; rw [h.1]; rfl
theorem ix62 {σ : am_M} (h : am_F σ) {k : Nat} (hk : k < 4) : am_ix σ 20 62 (nI k) = true := am_ixN (kd62 h) (ln62 h) hk (by decide)
theorem kd63 {σ : am_M} (h : am_F σ) : am_kd σ 63 = 20 := by unfold am_kd; rw [h.1]; rfl
theorem ln63 {σ : am_M} (h : am_F σ) : am_ln σ 63 = 4 := by unfold am_ln; rw [h.1]; rfl
theorem ix63 {σ : am_M} (h : am_F σ) {k : Nat} (hk : k < 4) : am_ix σ 20 63 (nI k) = true := am_ixN (kd63 h) (ln63 h) hk (by decide)
theorem kd64 {σ : am_M} (h : am_F σ) : am_kd σ 64 = 20 := by unfold am_kd; rw [h.1]; rfl
theorem ln64 {σ : am_M} (h : am_F σ) : am_ln σ 64 = 4 := by unfold am_ln; rw [h.1]; rfl
theorem ix64 {σ : am_M} (h : am_F σ) {k : Nat} (hk : k < 4) : am_ix σ 20 64 (nI k) = true := am_ixN (kd64 h) (ln64 h) hk (by decide)
theorem kd65 {σ : am_M} (h : am_F σ) : am_kd σ 65 = 0 := by unfold am_kd; rw [h.1]; rfl
theorem ln65 {σ : am_M} (h : am_F σ) : am_ln σ 65 = 3 := by unfold am_ln; rw [h.1]; rfl
theorem kd66 {σ : am_M} (h : am_F σ) : am_kd σ 66 = 11 := by unfold am_kd; rw [h.1]; rfl
theorem ln66 {σ : am_M} (h : am_F σ) : am_ln σ 66 = 57 := by unfold am_ln; rw [h.1]; rfl
theorem kd67 {σ : am_M} (h : am_F σ) : am_kd σ 67 = 20 := by unfold am_kd; rw [h.1]; rfl
theorem ln67 {σ : am_M} (h : am_F σ) : am_ln σ 67 = 240 := by unfold am_ln; rw [h.1]; rfl
theorem ix67 {σ : am_M} (h : am_F σ) {k : Nat} (hk : k < 240) : am_ix σ 20 67 (nI k) = true := am_ixN (kd67 h) (ln67 h) hk (by decide)
theorem kd68 {σ : am_M} (h : am_F σ) : am_kd σ 68 = 20 := by unfold am_kd; rw [h.1]; rfl
theorem ln68 {σ : am_M} (h : am_F σ) : am_ln σ 68 = 4 := by unfold am_ln; rw [h.1]; rfl
theorem ix68 {σ : am_M} (h : am_F σ) {k : Nat} (hk : k < 4) : am_ix σ 20 68 (nI k) = true := am_ixN (kd68 h) (ln68 h) hk (by decide)
theorem kd69 {σ : am_M} (h : am_F σ) : am_kd σ 69 = 20 := by unfold am_kd; rw [h.1]; rfl
theorem ln69 {σ : am_M} (h : am_F σ) : am_ln σ 69 = 4 := by unfold am_ln; rw [h.1]; rfl
theorem ix69 {σ : am_M} (h : am_F σ) {k : Nat} (hk : k < 4) : am_ix σ 20 69 (nI k) = true := am_ixN (kd69 h) (ln69 h) hk (by decide)
theorem kd70 {σ : am_M} (h : am_F σ) : am_kd σ 70 = 20 := by unfold am_kd; rw [h.1]; rfl
theorem ln70 {σ : am_M} (h : am_F σ) : am_ln σ 70 = 4 := by unfold am_ln; rw [h.1]; rfl
theorem ix70 {σ : am_M} (h : am_F σ) {k : Nat} (hk : k < 4) : am_ix σ 20 70 (nI k) = true := am_ixN (kd70 h) (ln70 h) hk (by decide)
theorem kd71 {σ : am_M} (h : am_F σ) : am_kd σ 71 = 20 := by unfold am_kd; rw [h.1]; rfl
theorem ln71 {σ : am_M} (h : am_F σ) : am_ln σ 71 = 4 := by unfold am_ln; rw [h.1]; rfl
theorem ix71 {σ : am_M} (h : am_F σ) {k : Nat} (hk : k < 4) : am_ix σ 20 71 (nI k) = true := am_ixN (kd71 h) (ln71 h) hk (by decide)
theorem kd72 {σ : am_M} (h : am_F σ) : am_kd σ 72 = 20 := by unfold am_kd; rw [h.1]; rfl
theorem ln72 {σ : am_M} (h : am_F σ) : am_ln σ 72 = 4 := by unfold am_ln; rw [h.1]; rfl
theorem ix72 {σ : am_M} (h : am_F σ) {k : Nat} (hk : k < 4) : am_ix σ 20 72 (nI k) = true := am_ixN (kd72 h) (ln72 h) hk (by decide)
theorem kd73 {σ : am_M} (h : am_F σ) : am_kd σ 73 = 20 := by unfold am_kd; rw [h.1]; rfl
theorem ln73 {σ : am_M} (h : am_F σ) : am_ln σ 73 = 4 := by unfold am_ln; rw [h.1]; rfl
theorem ix73 {σ : am_M} (h : am_F σ) {k : Nat} (hk : k < 4) : am_ix σ 20 73 (nI k) = true := am_ixN (kd73 h) (ln73 h) hk (by decide)
theorem kd74 {σ : am_M} (h : am_F σ) : am_kd σ 74 = 20 := by unfold am_kd; rw [h.1]; rfl
theorem ln74 {σ : am_M} (h : am_F σ) : am_ln σ 74 = 4 := by unfold am_ln; rw [h.1]; rfl
theorem ix74 {σ : am_M} (h : am_F σ) {k : Nat} (hk : k < 4) : am_ix σ 20 74 (nI k) = true := am_ixN (kd74 h) (ln74 h) hk (by decide)
theorem kd75 {σ : am_M} (h : am_F σ) : am_kd σ 75 = 20 := by unfold am_kd; rw [h.1]; rfl
theorem ln75 {σ : am_M} (h : am_F σ) : am_ln σ 75 = 16 := by unfold am_ln; rw [h.1]; rfl
theorem ix75 {σ : am_M} (h : am_F σ) {k : Nat} (hk : k < 16) : am_ix σ 20 75 (nI k) = true := am_ixN (kd75 h) (ln75 h) hk (by decide)
theorem kd76 {σ : am_M} (h : am_F σ) : am_kd σ 76 = 20 := by unfold am_kd; rw [h.1]; rfl
theorem ln76 {σ : am_M} (h : am_F σ) : am_ln σ 76 = 8 := by unfold am_ln; rw [h.1]; rfl
theorem ix76 {σ : am_M} (h : am_F σ) {k : Nat} (hk : k < 8) : am_ix σ 20 76 (nI k) = true := am_ixN (kd76 h) (ln76 h) hk (by decide)
theorem kd77 {σ : am_M} (h : am_F σ) : am_kd σ 77 = 20 := by unfold am_kd; rw [h.1]; rfl
theorem ln77 {σ : am_M} (h : am_F σ) : am_ln σ 77 = 8 := by unfold am_ln; rw [h.1]; rfl
theorem ix77 {σ : am_M} (h : am_F σ) {k : Nat} (hk : k < 8) : am_ix σ 20 77 (nI k) = true := am_ixN (kd77 h) (ln77 h) hk (by decide)
theorem kd78 {σ : am_M} (h : am_F σ) : am_kd σ 78 = 20 := by unfold am_kd; rw [h.1]; rfl
theorem ln78 {σ : am_M} (h : am_F σ) : am_ln σ 78 = 8 := by unfold am_ln; rw [h.1]; rfl
theorem ix78 {σ : am_M} (h : am_F σ) {k : Nat} (hk : k < 8) : am_ix σ 20 78 (nI k) = true := am_ixN (kd78 h) (ln78 h) hk (by decide)
theorem kd79 {σ : am_M} (h : am_F σ) : am_kd σ 79 = 21 := by unfold am_kd; rw [h.1]; rfl
theorem ln79 {σ : am_M} (h : am_F σ) : am_ln σ 79 = 40 := by unfold am_ln; rw [h.1]; rfl
theorem ix79 {σ : am_M} (h : am_F σ) {k : Nat} (hk : k < 40) : am_ix σ 21 79 (nI k) = true := am_ixN (kd79 h) (ln79 h) hk (by decide)
theorem kd80 {σ : am_M} (h : am_F σ) : am_kd σ 80 = 20 := by unfold am_kd; rw [h.1]; rfl
theorem ln80 {σ : am_M} (h : am_F σ) : am_ln σ 80 = 40 := by unfold am_ln; rw [h.1]; rfl
theorem ix80 {σ : am_M} (h : am_F σ) {k : Nat} (hk : k < 40) : am_ix σ 20 80 (nI k) = true := am_ixN (kd80 h) (ln80 h) hk (by decide)
theorem kd81 {σ : am_M} (h : am_F σ) : am_kd σ 81 = 20 := by unfold am_kd; rw [h.1]; rfl
theorem ln81 {σ : am_M} (h : am_F σ) : am_ln σ 81 = 40 := by unfold am_ln; rw [h.1]; rfl
theorem ix81 {σ : am_M} (h : am_F σ) {k : Nat} (hk : k < 40) : am_ix σ 20 81 (nI k) = true := am_ixN (kd81 h) (ln81 h) hk (by decide)
theorem kd82 {σ : am_M} (h : am_F σ) : am_kd σ 82 = 20 := by unfold am_kd; rw [h.1]; rfl
theorem ln82 {σ : am_M} (h : am_F σ) : am_ln σ 82 = 40 := by unfold am_ln; rw [h.1]; rfl
theorem ix82 {σ : am_M} (h : am_F σ) {k : Nat} (hk : k < 40) : am_ix σ 20 82 (nI k) = true := am_ixN (kd82 h) (ln82 h) hk (by decide)
theorem kd83 {σ : am_M} (h : am_F σ) : am_kd σ 83 = 20 := by unfold am_kd; rw [h.1]; rfl
theorem ln83 {σ : am_M} (h : am_F σ) : am_ln σ 83 = 40 := by unfold am_ln; rw [h.1]; rfl
theorem ix83 {σ : am_M} (h : am_F σ) {k : Nat} (hk : k < 40) : am_ix σ 20 83 (nI k) = true := am_ixN (kd83 h) (ln83 h) hk (by decide)
theorem kd84 {σ : am_M} (h : am_F σ) : am_kd σ 84 = 20 := by unfold am_kd; rw [h.1]; rfl
theorem ln84 {σ : am_M} (h : am_F σ) : am_ln σ 84 = 60 := by unfold am_ln; rw [h.1]; rfl
theorem ix84 {σ : am_M} (h : am_F σ) {k : Nat} (hk : k < 60) : am_ix σ 20 84 (nI k) = true := am_ixN (kd84 h) (ln84 h) hk (by decide)
theorem kd85 {σ : am_M} (h : am_F σ) : am_kd σ 85 = 20 := by unfold am_kd; rw [h.1]; rfl
theorem ln85 {σ : am_M} (h : am_F σ) : am_ln σ 85 = 61 := by unfold am_ln; rw [h.1]; rfl
theorem ix85 {σ : am_M} (h : am_F σ) {k : Nat} (hk : k < 61) : am_ix σ 20 85 (nI k) = true := am_ixN (kd85 h) (ln85 h) hk (by decide)
theorem kd86 {σ : am_M} (h : am_F σ) : am_kd σ 86 = 20 := by unfold am_kd; rw [h.1]; rfl
theorem ln86 {σ : am_M} (h : am_F σ) : am_ln σ 86 = 4 := by unfold am_ln; rw [h.1]; rfl
theorem ix86 {σ : am_M} (h : am_F σ) {k : Nat} (hk : k < 4) : am_ix σ 20 86 (nI k) = true := am_ixN (kd86 h) (ln86 h) hk (by decide)
theorem kd87 {σ : am_M} (h : am_F σ) : am_kd σ 87 = 20 := by unfold am_kd; rw [h.1]; rfl
theorem ln87 {σ : am_M} (h : am_F σ) : am_ln σ 87 = 4 := by unfold am_ln; rw [h.1]; rfl
theorem ix87 {σ : am_M} (h : am_F σ) {k : Nat} (hk : k < 4) : am_ix σ 20 87 (nI k) = true := am_ixN (kd87 h) (ln87 h) hk (by decide)
theorem kd88 {σ : am_M} (h : am_F σ) : am_kd σ 88 = 20 := by unfold am_kd; rw [h.1]; rfl
theorem ln88 {σ : am_M} (h : am_F σ) : am_ln σ 88 = 16 := by unfold am_ln; rw [h.1]; rfl
theorem ix88 {σ : am_M} (h : am_F σ) {k : Nat} (hk : k < 16) : am_ix σ 20 88 (nI k) = true := am_ixN (kd88 h) (ln88 h) hk (by decide)
theorem kd89 {σ : am_M} (h : am_F σ) : am_kd σ 89 = 20 := by unfold am_kd; rw [h.1]; rfl
theorem ln89 {σ : am_M} (h : am_F σ) : am_ln σ 89 = 240 := by unfold am_ln; rw [h.1]; rfl
theorem ix89 {σ : am_M} (h : am_F σ) {k : Nat} (hk : k < 240) : am_ix σ 20 89 (nI k) = true := am_ixN (kd89 h) (ln89 h) hk (by decide)
theorem kd90 {σ : am_M} (h : am_F σ) : am_kd σ 90 = 20 := by unfold am_kd; rw [h.1]; rfl
theorem ln90 {σ : am_M} (h : am_F σ) : am_ln σ 90 = 4 := by unfold am_ln; rw [h.1]; rfl
theorem ix90 {σ : am_M} (h : am_F σ) {k : Nat} (hk : k < 4) : am_ix σ 20 90 (nI k) = true := am_ixN (kd90 h) (ln90 h) hk (by decide)
theorem kd91 {σ : am_M} (h : am_F σ) : am_kd σ 91 = 20 := by unfold am_kd; rw [h.1]; rfl
theorem ln91 {σ : am_M} (h : am_F σ) : am_ln σ 91 = 4 := by unfold am_ln; rw [h.1]; rfl
theorem ix91 {σ : am_M} (h : am_F σ) {k : Nat} (hk : k < 4) : am_ix σ 20 91 (nI k) = true := am_ixN (kd91 h) (ln91 h) hk (by decide)
theorem kd92 {σ : am_M} (h : am_F σ) : am_kd σ 92 = 20 := by unfold am_kd; rw [h.1]; rfl
theorem ln92 {σ : am_M} (h : am_F σ) : am_ln σ 92 = 4 := by unfold am_ln; rw [h.1]; rfl
theorem ix92 {σ : am_M} (h : am_F σ) {k : Nat} (hk : k < 4) : am_ix σ 20 92 (nI k) = true := am_ixN (kd92 h) (ln92 h) hk (by decide)
theorem kd93 {σ : am_M} (h : am_F σ) : am_kd σ 93 = 20 := by unfold am_kd; rw [h.1]; rfl
theorem ln93 {σ : am_M} (h : am_F σ) : am_ln σ 93 = 4 := by unfold am_ln; rw [h.1]; rfl
theorem ix93 {σ : am_M} (h : am_F σ) {k : Nat} (hk : k < 4) : am_ix σ 20 93 (nI k) = true := am_ixN (kd93 h) (ln93 h) hk (by decide)
theorem kd94 {σ : am_M} (h : am_F σ) : am_kd σ 94 = 20 := by unfold am_kd; rw [h.1]; rfl
theorem ln94 {σ : am_M} (h : am_F σ) : am_ln σ 94 = 4 := by unfold am_ln; rw [h.1]; rfl
theorem ix94 {σ : am_M} (h : am_F σ) {k : Nat} (hk : k < 4) : am_ix σ 20 94 (nI k) = true := am_ixN (kd94 h) (ln94 h) hk (by decide)
theorem kd95 {σ : am_M} (h : am_F σ) : am_kd σ 95 = 20 := by unfold am_kd; rw [h.1]; rfl
theorem ln95 {σ : am_M} (h : am_F σ) : am_ln σ 95 = 4 := by unfold am_ln; rw [h.1]; rfl
theorem ix95 {σ : am_M} (h : am_F σ) {k : Nat} (hk : k < 4) : am_ix σ 20 95 (nI k) = true := am_ixN (kd95 h) (ln95 h) hk (by decide)
theorem kd96 {σ : am_M} (h : am_F σ) : am_kd σ 96 = 20 := by unfold am_kd; rw [h.1]; rfl
theorem ln96 {σ : am_M} (h : am_F σ) : am_ln σ 96 = 16 := by unfold am_ln; rw [h.1]; rfl
theorem ix96 {σ : am_M} (h : am_F σ) {k : Nat} (hk : k < 16) : am_ix σ 20 96 (nI k) = true := am_ixN (kd96 h) (ln96 h) hk (by decide)
theorem kd97 {σ : am_M} (h : am_F σ) : am_kd σ 97 = 20 := by unfold am_kd; rw [h.1]; rfl
theorem ln97 {σ : am_M} (h : am_F σ) : am_ln σ 97 = 8 := by unfold am_ln; rw [h.1]; rfl
theorem ix97 {σ : am_M} (h : am_F σ) {k : Nat} (hk : k < 8) : am_ix σ 20 97 (nI k) = true := am_ixN (kd97 h) (ln97 h) hk (by decide)
theorem kd98 {σ : am_M} (h : am_F σ) : am_kd σ 98 = 20 := by unfold am_kd; rw [h.1]; rfl
theorem ln98 {σ : am_M} (h : am_F σ) : am_ln σ 98 = 8 := by unfold am_ln; rw [h.1]; rfl
theorem ix98 {σ : am_M} (h : am_F σ) {k : Nat} (hk : k < 8) : am_ix σ 20 98 (nI k) = true := am_ixN (kd98 h) (ln98 h) hk (by decide)
theorem kd99 {σ : am_M} (h : am_F σ) : am_kd σ 99 = 20 := by unfold am_kd; rw [h.1]; rfl
theorem ln99 {σ : am_M} (h : am_F σ) : am_ln σ 99 = 8 := by unfold am_ln; rw [h.1]; rfl
theorem ix99 {σ : am_M} (h : am_F σ) {k : Nat} (hk : k < 8) : am_ix σ 20 99 (nI k) = true := am_ixN (kd99 h) (ln99 h) hk (by decide)
theorem rr1_0 {σ : am_M} (h : am_F σ) : am_R σ 1 0 = some 2 := h.2 ((1, 0), 2) (by decide +kernel)
theorem rr0_0 {σ : am_M} (h : am_F σ) : am_R σ 0 0 = some 1 := h.2 ((0, 0), 1) (by decide +kernel)
theorem rr3_0 {σ : am_M} (h : am_F σ) : am_R σ 3 0 = some 4 := h.2 ((3, 0), 4) (by decide +kernel)
theorem rr3_1 {σ : am_M} (h : am_F σ) : am_R σ 3 1 = some 5 := h.2 ((3, 1), 5) (by decide +kernel)
theorem rr3_2 {σ : am_M} (h : am_F σ) : am_R σ 3 2 = some 6 := h.2 ((3, 2), 6) (by decide +kernel)
theorem rr3_3 {σ : am_M} (h : am_F σ) : am_R σ 3 3 = some 7 := h.2 ((3, 3), 7) (by decide +kernel)
theorem rr0_1 {σ : am_M} (h : am_F σ) : am_R σ 0 1 = some 3 := h.2 ((0, 1), 3) (by decide +kernel)
theorem rr8_0 {σ : am_M} (h : am_F σ) : am_R σ 8 0 = some 9 := h.2 ((8, 0), 9) (by decide +kernel)
theorem rr8_1 {σ : am_M} (h : am_F σ) : am_R σ 8 1 = some 10 := h.2 ((8, 1), 10) (by decide +kernel)
theorem rr11_0 {σ : am_M} (h : am_F σ) : am_R σ 11 0 = some 12 := h.2 ((11, 0), 12) (by decide +kernel)
theorem rr11_1 {σ : am_M} (h : am_F σ) : am_R σ 11 1 = some 13 := h.2 ((11, 1), 13) (by decide +kernel)
theorem rr11_2 {σ : am_M} (h : am_F σ) : am_R σ 11 2 = some 14 := h.2 ((11, 2), 14) (by decide +kernel)
theorem rr8_2 {σ : am_M} (h : am_F σ) : am_R σ 8 2 = some 11 := h.2 ((8, 2), 11) (by decide +kernel)
theorem rr15_0 {σ : am_M} (h : am_F σ) : am_R σ 15 0 = some 16 := h.2 ((15, 0), 16) (by decide +kernel)
theorem rr15_1 {σ : am_M} (h : am_F σ) : am_R σ 15 1 = some 17 := h.2 ((15, 1), 17) (by decide +kernel)
theorem rr9_0 {σ : am_M} (h : am_F σ) : am_R σ 9 0 = some 15 := h.2 ((9, 0), 15) (by decide +kernel)
theorem rr18_0 {σ : am_M} (h : am_F σ) : am_R σ 18 0 = some 19 := h.2 ((18, 0), 19) (by decide +kernel)
theorem rr18_1 {σ : am_M} (h : am_F σ) : am_R σ 18 1 = some 20 := h.2 ((18, 1), 20) (by decide +kernel)
theorem rr9_1 {σ : am_M} (h : am_F σ) : am_R σ 9 1 = some 18 := h.2 ((9, 1), 18) (by decide +kernel)
theorem rr21_0 {σ : am_M} (h : am_F σ) : am_R σ 21 0 = some 22 := h.2 ((21, 0), 22) (by decide +kernel)
theorem rr21_1 {σ : am_M} (h : am_F σ) : am_R σ 21 1 = some 23 := h.2 ((21, 1), 23) (by decide +kernel)
theorem rr9_2 {σ : am_M} (h : am_F σ) : am_R σ 9 2 = some 21 := h.2 ((9, 2), 21) (by decide +kernel)
theorem rr24_0 {σ : am_M} (h : am_F σ) : am_R σ 24 0 = some 25 := h.2 ((24, 0), 25) (by decide +kernel)
theorem rr24_1 {σ : am_M} (h : am_F σ) : am_R σ 24 1 = some 26 := h.2 ((24, 1), 26) (by decide +kernel)
theorem rr9_3 {σ : am_M} (h : am_F σ) : am_R σ 9 3 = some 24 := h.2 ((9, 3), 24) (by decide +kernel)
theorem rr10_0 {σ : am_M} (h : am_F σ) : am_R σ 10 0 = some 27 := h.2 ((10, 0), 27) (by decide +kernel)
theorem rr10_1 {σ : am_M} (h : am_F σ) : am_R σ 10 1 = some 28 := h.2 ((10, 1), 28) (by decide +kernel)
theorem rr10_2 {σ : am_M} (h : am_F σ) : am_R σ 10 2 = some 29 := h.2 ((10, 2), 29) (by decide +kernel)
theorem rr10_3 {σ : am_M} (h : am_F σ) : am_R σ 10 3 = some 30 := h.2 ((10, 3), 30) (by decide +kernel)
theorem rr0_2 {σ : am_M} (h : am_F σ) : am_R σ 0 2 = some 8 := h.2 ((0, 2), 8) (by decide +kernel)
theorem rr31_0 {σ : am_M} (h : am_F σ) : am_R σ 31 0 = some 32 := h.2 ((31, 0), 32) (by decide +kernel)
theorem rr31_1 {σ : am_M} (h : am_F σ) : am_R σ 31 1 = some 33 := h.2 ((31, 1), 33) (by decide +kernel)
theorem rr34_0 {σ : am_M} (h : am_F σ) : am_R σ 34 0 = some 35 := h.2 ((34, 0), 35) (by decide +kernel)
theorem rr34_1 {σ : am_M} (h : am_F σ) : am_R σ 34 1 = some 36 := h.2 ((34, 1), 36) (by decide +kernel)
theorem rr34_2 {σ : am_M} (h : am_F σ) : am_R σ 34 2 = some 37 := h.2 ((34, 2), 37) (by decide +kernel)
theorem rr31_2 {σ : am_M} (h : am_F σ) : am_R σ 31 2 = some 34 := h.2 ((31, 2), 34) (by decide +kernel)
theorem rr38_0 {σ : am_M} (h : am_F σ) : am_R σ 38 0 = some 39 := h.2 ((38, 0), 39) (by decide +kernel)
theorem rr38_1 {σ : am_M} (h : am_F σ) : am_R σ 38 1 = some 40 := h.2 ((38, 1), 40) (by decide +kernel)
theorem rr32_0 {σ : am_M} (h : am_F σ) : am_R σ 32 0 = some 38 := h.2 ((32, 0), 38) (by decide +kernel)
theorem rr41_0 {σ : am_M} (h : am_F σ) : am_R σ 41 0 = some 42 := h.2 ((41, 0), 42) (by decide +kernel)
theorem rr41_1 {σ : am_M} (h : am_F σ) : am_R σ 41 1 = some 43 := h.2 ((41, 1), 43) (by decide +kernel)
theorem rr32_1 {σ : am_M} (h : am_F σ) : am_R σ 32 1 = some 41 := h.2 ((32, 1), 41) (by decide +kernel)
theorem rr44_0 {σ : am_M} (h : am_F σ) : am_R σ 44 0 = some 45 := h.2 ((44, 0), 45) (by decide +kernel)
theorem rr44_1 {σ : am_M} (h : am_F σ) : am_R σ 44 1 = some 46 := h.2 ((44, 1), 46) (by decide +kernel)
theorem rr32_2 {σ : am_M} (h : am_F σ) : am_R σ 32 2 = some 44 := h.2 ((32, 2), 44) (by decide +kernel)
theorem rr47_0 {σ : am_M} (h : am_F σ) : am_R σ 47 0 = some 48 := h.2 ((47, 0), 48) (by decide +kernel)
theorem rr47_1 {σ : am_M} (h : am_F σ) : am_R σ 47 1 = some 49 := h.2 ((47, 1), 49) (by decide +kernel)
theorem rr32_3 {σ : am_M} (h : am_F σ) : am_R σ 32 3 = some 47 := h.2 ((32, 3), 47) (by decide +kernel)
theorem rr33_0 {σ : am_M} (h : am_F σ) : am_R σ 33 0 = some 50 := h.2 ((33, 0), 50) (by decide +kernel)
theorem rr33_1 {σ : am_M} (h : am_F σ) : am_R σ 33 1 = some 51 := h.2 ((33, 1), 51) (by decide +kernel)
theorem rr33_2 {σ : am_M} (h : am_F σ) : am_R σ 33 2 = some 52 := h.2 ((33, 2), 52) (by decide +kernel)
theorem rr33_3 {σ : am_M} (h : am_F σ) : am_R σ 33 3 = some 53 := h.2 ((33, 3), 53) (by decide +kernel)
theorem rr0_3 {σ : am_M} (h : am_F σ) : am_R σ 0 3 = some 31 := h.2 ((0, 3), 31) (by decide +kernel)
theorem rr0_4 {σ : am_M} (h : am_F σ) : am_R σ 0 4 = some 54 := h.2 ((0, 4), 54) (by decide +kernel)
theorem rr55_0 {σ : am_M} (h : am_F σ) : am_R σ 55 0 = some 56 := h.2 ((55, 0), 56) (by decide +kernel)
theorem rr0_5 {σ : am_M} (h : am_F σ) : am_R σ 0 5 = some 55 := h.2 ((0, 5), 55) (by decide +kernel)
theorem rr58_0 {σ : am_M} (h : am_F σ) : am_R σ 58 0 = some 59 := h.2 ((58, 0), 59) (by decide +kernel)
theorem rr58_1 {σ : am_M} (h : am_F σ) : am_R σ 58 1 = some 60 := h.2 ((58, 1), 60) (by decide +kernel)
theorem rr58_2 {σ : am_M} (h : am_F σ) : am_R σ 58 2 = some 61 := h.2 ((58, 2), 61) (by decide +kernel)
theorem rr58_3 {σ : am_M} (h : am_F σ) : am_R σ 58 3 = some 62 := h.2 ((58, 3), 62) (by decide +kernel)
theorem rr57_0 {σ : am_M} (h : am_F σ) : am_R σ 57 0 = some 58 := h.2 ((57, 0), 58) (by decide +kernel)
theorem rr57_1 {σ : am_M} (h : am_F σ) : am_R σ 57 1 = some 63 := h.2 ((57, 1), 63) (by decide +kernel)
theorem rr57_2 {σ : am_M} (h : am_F σ) : am_R σ 57 2 = some 64 := h.2 ((57, 2), 64) (by decide +kernel)
theorem rr0_6 {σ : am_M} (h : am_F σ) : am_R σ 0 6 = some 57 := h.2 ((0, 6), 57) (by decide +kernel)
theorem rr0_7 {σ : am_M} (h : am_F σ) : am_R σ 0 7 = some 65 := h.2 ((0, 7), 65) (by decide +kernel)
theorem rr66_0 {σ : am_M} (h : am_F σ) : am_R σ 66 0 = some 67 := h.2 ((66, 0), 67) (by decide +kernel)
theorem rr66_1 {σ : am_M} (h : am_F σ) : am_R σ 66 1 = some 68 := h.2 ((66, 1), 68) (by decide +kernel)
theorem rr66_2 {σ : am_M} (h : am_F σ) : am_R σ 66 2 = some 69 := h.2 ((66, 2), 69) (by decide +kernel)
theorem rr66_6 {σ : am_M} (h : am_F σ) : am_R σ 66 6 = some 70 := h.2 ((66, 6), 70) (by decide +kernel)
theorem rr66_7 {σ : am_M} (h : am_F σ) : am_R σ 66 7 = some 71 := h.2 ((66, 7), 71) (by decide +kernel)
theorem rr66_8 {σ : am_M} (h : am_F σ) : am_R σ 66 8 = some 72 := h.2 ((66, 8), 72) (by decide +kernel)
theorem rr66_9 {σ : am_M} (h : am_F σ) : am_R σ 66 9 = some 73 := h.2 ((66, 9), 73) (by decide +kernel)
theorem rr66_10 {σ : am_M} (h : am_F σ) : am_R σ 66 10 = some 74 := h.2 ((66, 10), 74) (by decide +kernel)
theorem rr66_11 {σ : am_M} (h : am_F σ) : am_R σ 66 11 = some 75 := h.2 ((66, 11), 75) (by decide +kernel)
theorem rr66_13 {σ : am_M} (h : am_F σ) : am_R σ 66 13 = some 76 := h.2 ((66, 13), 76) (by decide +kernel)
theorem rr66_14 {σ : am_M} (h : am_F σ) : am_R σ 66 14 = some 77 := h.2 ((66, 14), 77) (by decide +kernel)
theorem rr66_15 {σ : am_M} (h : am_F σ) : am_R σ 66 15 = some 78 := h.2 ((66, 15), 78) (by decide +kernel)
theorem rr66_17 {σ : am_M} (h : am_F σ) : am_R σ 66 17 = some 79 := h.2 ((66, 17), 79) (by decide +kernel)
theorem rr66_20 {σ : am_M} (h : am_F σ) : am_R σ 66 20 = some 80 := h.2 ((66, 20), 80) (by decide +kernel)
theorem rr66_21 {σ : am_M} (h : am_F σ) : am_R σ 66 21 = some 81 := h.2 ((66, 21), 81) (by decide +kernel)
theorem rr66_22 {σ : am_M} (h : am_F σ) : am_R σ 66 22 = some 82 := h.2 ((66, 22), 82) (by decide +kernel)
theorem rr66_23 {σ : am_M} (h : am_F σ) : am_R σ 66 23 = some 83 := h.2 ((66, 23), 83) (by decide +kernel)
theorem rr66_33 {σ : am_M} (h : am_F σ) : am_R σ 66 33 = some 84 := h.2 ((66, 33), 84) (by decide +kernel)
theorem rr66_34 {σ : am_M} (h : am_F σ) : am_R σ 66 34 = some 85 := h.2 ((66, 34), 85) (by decide +kernel)
theorem rr66_36 {σ : am_M} (h : am_F σ) : am_R σ 66 36 = some 86 := h.2 ((66, 36), 86) (by decide +kernel)
theorem rr66_37 {σ : am_M} (h : am_F σ) : am_R σ 66 37 = some 87 := h.2 ((66, 37), 87) (by decide +kernel)
theorem rr66_38 {σ : am_M} (h : am_F σ) : am_R σ 66 38 = some 88 := h.2 ((66, 38), 88) (by decide +kernel)
theorem rr66_45 {σ : am_M} (h : am_F σ) : am_R σ 66 45 = some 89 := h.2 ((66, 45), 89) (by decide +kernel)
theorem rr66_46 {σ : am_M} (h : am_F σ) : am_R σ 66 46 = some 90 := h.2 ((66, 46), 90) (by decide +kernel)
theorem rr66_47 {σ : am_M} (h : am_F σ) : am_R σ 66 47 = some 91 := h.2 ((66, 47), 91) (by decide +kernel)
theorem rr66_48 {σ : am_M} (h : am_F σ) : am_R σ 66 48 = some 92 := h.2 ((66, 48), 92) (by decide +kernel)
theorem rr66_49 {σ : am_M} (h : am_F σ) : am_R σ 66 49 = some 93 := h.2 ((66, 49), 93) (by decide +kernel)
theorem rr66_50 {σ : am_M} (h : am_F σ) : am_R σ 66 50 = some 94 := h.2 ((66, 50), 94) (by decide +kernel)
theorem rr66_51 {σ : am_M} (h : am_F σ) : am_R σ 66 51 = some 95 := h.2 ((66, 51), 95) (by decide +kernel)
theorem rr66_52 {σ : am_M} (h : am_F σ) : am_R σ 66 52 = some 96 := h.2 ((66, 52), 96) (by decide +kernel)
theorem rr66_53 {σ : am_M} (h : am_F σ) : am_R σ 66 53 = some 97 := h.2 ((66, 53), 97) (by decide +kernel)
theorem rr66_54 {σ : am_M} (h : am_F σ) : am_R σ 66 54 = some 98 := h.2 ((66, 54), 98) (by decide +kernel)
theorem rr66_55 {σ : am_M} (h : am_F σ) : am_R σ 66 55 = some 99 := h.2 ((66, 55), 99) (by decide +kernel)
section WR
variable {σ : am_M} {o k a j : Nat} {v : Int32} {w : Int64}
theorem am_I_wI : am_I (am_wI σ o k v) a j = if a = o ∧ j = k then v else am_I σ a j := rfl
theorem am_I_wJ : am_I (am_wJ σ o k w) a j = am_I σ a j := rfl
theorem am_J_wI : am_J (am_wI σ o k v) a j = am_J σ a j := rfl
theorem am_J_wJ : am_J (am_wJ σ o k w) a j = if a = o ∧ j = k then w else am_J σ a j := rfl
theorem am_R_wI : am_R (am_wI σ o k v) a j = am_R σ a j := rfl
theorem am_R_wJ : am_R (am_wJ σ o k w) a j = am_R σ a j := rfl
theorem am_kd_wI : am_kd (am_wI σ o k v) a = am_kd σ a := rfl
theorem am_kd_wJ : am_kd (am_wJ σ o k w) a = am_kd σ a := rfl
theorem am_ln_wI : am_ln (am_wI σ o k v) a = am_ln σ a := rfl
theorem am_ln_wJ : am_ln (am_wJ σ o k w) a = am_ln σ a := rfl
theorem am_ix_wI {c : Nat} {i : Int32} : am_ix (am_wI σ o k v) c a i = am_ix σ c a i := rfl
theorem am_ix_wJ {c : Nat} {i : Int32} : am_ix (am_wJ σ o k w) c a i = am_ix σ c a i := rfl
theorem am_F_wI : am_F (am_wI σ o k v) = am_F σ := rfl
theorem am_F_wJ : am_F (am_wJ σ o k w) = am_F σ := rfl
variable {b i n : Nat}
theorem am_I_wC {x : Nat} : am_I (am_wC σ a b i j n) o x = if o = b ∧ j ≤ x ∧ x < j + n then am_I σ a (i + (x - j)) else am_I σ o x := rfl
theorem am_J_wC {x : Nat} : am_J (am_wC σ a b i j n) o x = am_J σ o x := rfl
theorem am_R_wC {x : Nat} : am_R (am_wC σ a b i j n) o x = am_R σ o x := rfl
theorem am_kd_wC : am_kd (am_wC σ a b i j n) o = am_kd σ o := rfl
theorem am_ln_wC : am_ln (am_wC σ a b i j n) o = am_ln σ o := rfl
theorem am_ix_wC {c : Nat} {x : Int32} : am_ix (am_wC σ a b i j n) c o x = am_ix σ c o x := rfl
theorem am_F_wC : am_F (am_wC σ a b i j n) = am_F σ := rfl
end WR
