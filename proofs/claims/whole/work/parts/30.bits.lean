/-! bits of a long -/
def bt (x p : Int) : Bool := (Int64.ofInt x).toBitVec.getLsbD p.toNat
set_option maxRecDepth 100000 in
theorem shl1_bv : ∀ n : Nat, n < 64 → (Int64.ofInt (lshl 1 (n : Int))).toBitVec = 1#64 <<< n := by decide +kernel
set_option maxRecDepth 100000 in
theorem one_bv : ∀ n : Nat, n < 64 → ∀ p : Nat, p < 64 → (1#64 <<< n).getLsbD p = decide (p = n) := by decide +kernel
theorem shl1_bt {q p : Int} (q0 : 0 ≤ q) (q1 : q < 64) (p0 : 0 ≤ p) (p1 : p < 64) : bt (lshl 1 q) p = decide (p = q) := by
  unfold bt
  have h := shl1_bv q.toNat (by omega)
  rw [show ((q.toNat : Nat) : Int) = q by omega] at h
  rw [h, one_bv _ (by omega) _ (by omega)]
  apply decide_eq_decide.mpr
  omega
theorem bt_lor2 (x y p : Int) : bt (lor x y) p = (bt x p || bt y p) := by
  unfold bt lor
  rw [Int64.ofInt_toInt, Int64.toBitVec_or, BitVec.getLsbD_or]
theorem bt_land2 (x y p : Int) : bt (land x y) p = (bt x p && bt y p) := by
  unfold bt land
  rw [Int64.ofInt_toInt, Int64.toBitVec_and, BitVec.getLsbD_and]
theorem bt_lor {x q p : Int} (q0 : 0 ≤ q) (q1 : q < 64) (p0 : 0 ≤ p) (p1 : p < 64) : bt (lor x (lshl 1 q)) p = (bt x p || decide (p = q)) := by
  rw [bt_lor2, shl1_bt q0 q1 p0 p1]
theorem bt_0 (p : Int) : bt 0 p = false := by
  unfold bt
  rw [show (Int64.ofInt 0).toBitVec = 0#64 by decide]
  exact BitVec.getLsbD_zero
theorem bt_ext {x y : Int} (h : ∀ p : Int, 0 ≤ p → p < 64 → bt x p = bt y p) : w64 x = w64 y := by
  unfold w64
  congr 1
  apply Int64.toBitVec_inj.mp
  apply BitVec.eq_of_getLsbD_eq
  intro i hi
  have := h (i : Int) (by omega) (by omega)
  unfold bt at this
  rw [show ((i : Int).toNat) = i by omega] at this
  exact this
theorem lcmp0 (x : Int) : w32 (lcmp x 0) = 0 ↔ w64 x = 0 := by
  have z : w64 0 = 0 := by decide
  have a1 : w32 1 = 1 := by decide
  have a0 : w32 0 = 0 := by decide
  have am : w32 (-1) = -1 := by decide
  unfold lcmp
  rw [z]
  by_cases c : 0 < w64 x
  · rw [if_pos c, a1]; omega
  · rw [if_neg c]
    by_cases c2 : w64 x = 0
    · rw [if_pos c2, a0]; omega
    · rw [if_neg c2, am]; omega
/-- is a bit set -/
theorem land_bt {x q : Int} (q0 : 0 ≤ q) (q1 : q < 64) : w32 (lcmp (land x (lshl 1 q)) 0) = 0 ↔ bt x q = false := by
  rw [lcmp0]
  have z : w64 0 = 0 := by decide
  constructor
  · intro h
    have h2 : bt (land x (lshl 1 q)) q = bt 0 q := by
      unfold bt
      have h3 : Int64.ofInt (land x (lshl 1 q)) = Int64.ofInt 0 := by
        apply Int64.toInt_inj.mp
        show w64 _ = w64 _
        rw [h, z]
      rw [h3]
    rw [bt_0, bt_land2, shl1_bt q0 q1 q0 q1] at h2
    simpa using h2
  · intro h
    rw [← z]
    apply bt_ext
    intro p p0 p1
    rw [bt_0, bt_land2, shl1_bt q0 q1 p0 p1]
    by_cases e : p = q
    · rw [e, h]; rfl
    · simp [e]
/-- how many of the first bits are set -/
def cntB (x : Int) : Nat → Int
  | 0 => 0
  | p + 1 => cntB x p + (if bt x (p : Int) = true then 1 else 0)
theorem cntB_b (x : Int) : ∀ n, 0 ≤ cntB x n ∧ cntB x n ≤ n
  | 0 => by show 0 ≤ (0 : Int) ∧ (0 : Int) ≤ ((0 : Nat) : Int); omega
  | n + 1 => by
    have h := cntB_b x n
    show 0 ≤ cntB x n + _ ∧ cntB x n + _ ≤ ((n + 1 : Nat) : Int)
    split <;> omega
theorem cntB_lt {x q : Int} (q0 : 0 ≤ q) (h : bt x q = false) : ∀ n : Nat, q < n → cntB x n ≤ n - 1
  | 0, hq => by omega
  | n + 1, hq => by
    have h1 := cntB_b x n
    show cntB x n + _ ≤ _
    by_cases e : q = n
    · rw [if_neg (by rw [← e, h]; decide)]; omega
    · have h2 := cntB_lt q0 h n (by omega)
      split <;> omega
theorem cntB_lor {x q : Int} (q0 : 0 ≤ q) (q1 : q < 64) (h : bt x q = false) : ∀ n : Nat, n ≤ 64 → cntB (lor x (lshl 1 q)) n = cntB x n + (if q < n then 1 else 0)
  | 0, _ => by rw [if_neg (by omega)]; rfl
  | n + 1, hn => by
    have h2 := cntB_lor q0 q1 h n (by omega)
    show cntB _ n + _ = cntB x n + _ + _
    rw [h2, bt_lor q0 q1 (by omega) (by omega)]
    by_cases e : q = n
    · rw [if_neg (by omega), if_pos (by simp [e]), if_neg (by rw [← e, h]; decide), if_pos (by omega)]
    · have e2 : ((n : Int) = q) = False := by simp; omega
      simp only [e2, decide_false, Bool.or_false]
      split <;> split <;> split <;> omega
theorem cntB_0 : ∀ n, cntB 0 n = 0
  | 0 => rfl
  | n + 1 => by show cntB 0 n + _ = 0; rw [cntB_0 n, bt_0]; rfl
