def ddq (e s : Nat) : UInt64 := FP.ddiv (FP.i2d (nI e)) (FP.i2d (nI s))
def ddc (e s : Nat) : Bool := decide (ddq e s &&& 0x7fffffffffffffff ≤ 0x7ff0000000000000) && decide (FP.dcmp (ddq e s) (ddq e s) = some .eq)
set_option maxRecDepth 100000 in
theorem ddc_a : ball (fun e => ball (fun s => ddc e (s + 1)) 20) 20 = true := by decide +kernel
