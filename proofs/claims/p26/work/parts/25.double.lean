/-! a share's bits -/
def bN (r : UInt64) : Bool := decide (r &&& 0x7fffffffffffffff ≤ 0x7ff0000000000000)
theorem bN_n {r : UInt64} (h : bN r = true) : vf_n64 r := by
  unfold bN at h
  unfold vf_n64
  exact of_decide_eq_true h
def bl : Nat → Nat → UInt64 → Option Int64
  | 0, _, _ => none
  | n + 1, e, s => if Op.cmpValue (FP.dcmp s 0x3ff0000000000000) .g < 0 then (if bN (FP.dmul s 0x4000000000000000) then bl n (e - 1) (FP.dmul s 0x4000000000000000) else none)
    else if bN (FP.dsub s 0x3ff0000000000000) && bN (FP.dmul (FP.dsub s 0x3ff0000000000000) 0x4330000000000000) then some ((lN e <<< ((nI 52).toInt64 &&& 63)) ||| FP.d2l (FP.dmul (FP.dsub s 0x3ff0000000000000) 0x4330000000000000)) else none
def bx (x : UInt64) : Bool := x == 0 || (decide (0 < Op.cmpValue (FP.dcmp x 0) .l) && bl 8 1023 x == some x.toInt64)
def bA (A n : Nat) : UInt64 := FP.ddiv (FP.i2d (nI n)) (FP.i2d (nI A))
def bC (A n : Nat) : Bool := bN (bA A n) && bx (bA A n)
theorem bC_all : ∀ A, A < 65 → A = 0 ∨ ∀ n, n < A + 1 → bC A n = true := by decide +kernel
