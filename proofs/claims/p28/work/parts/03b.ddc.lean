def ddq (e s : Nat) : UInt64 := FP.ddiv (FP.i2d (nI e)) (FP.i2d (nI s))
def ddc (e s : Nat) : Bool := decide (ddq e s &&& 0x7fffffffffffffff ≤ 0x7ff0000000000000) && decide (FP.dcmp (ddq e s) (ddq e s) = some .eq)
set_option maxRecDepth 100000 in
theorem ddc_0 : ball (fun e => ball (fun s => ddc (e + 0) (s + 1)) 20) 20 = true := by decide +kernel
set_option maxRecDepth 100000 in
theorem ddc_1 : ball (fun e => ball (fun s => ddc (e + 20) (s + 1)) 20) 20 = true := by decide +kernel
set_option maxRecDepth 100000 in
theorem ddc_2 : ball (fun e => ball (fun s => ddc (e + 40) (s + 1)) 20) 20 = true := by decide +kernel
set_option maxRecDepth 100000 in
theorem ddc_3 : ball (fun e => ball (fun s => ddc (e + 60) (s + 1)) 20) 20 = true := by decide +kernel
set_option maxRecDepth 100000 in
theorem ddc_4 : ball (fun e => ball (fun s => ddc (e + 80) (s + 1)) 20) 20 = true := by decide +kernel
set_option maxRecDepth 100000 in
theorem ddc_5 : ball (fun e => ball (fun s => ddc (e + 100) (s + 1)) 20) 20 = true := by decide +kernel
set_option maxRecDepth 100000 in
theorem ddc_6 : ball (fun e => ball (fun s => ddc (e + 120) (s + 1)) 20) 20 = true := by decide +kernel
set_option maxRecDepth 100000 in
theorem ddc_7 : ball (fun e => ball (fun s => ddc (e + 140) (s + 1)) 20) 20 = true := by decide +kernel
set_option maxRecDepth 100000 in
theorem ddc_8 : ball (fun e => ball (fun s => ddc (e + 160) (s + 1)) 20) 20 = true := by decide +kernel
set_option maxRecDepth 100000 in
theorem ddc_9 : ball (fun e => ball (fun s => ddc (e + 180) (s + 1)) 20) 20 = true := by decide +kernel
theorem ddc_ok {e s : Nat} (he : e ≤ 190) (h1 : 1 ≤ s) (h2 : s ≤ 20) : ddc e s = true := by
  obtain ⟨t, rfl⟩ : ∃ t, s = t + 1 := ⟨s - 1, by omega⟩
  rcases Nat.lt_or_ge e 20 with q | q
  · have := ball_ok (ball_ok ddc_0 (e - 0) (by omega)) t (by omega)
    rw [show e - 0 + 0 = e by omega] at this
    exact this
  rcases Nat.lt_or_ge e 40 with q | q
  · have := ball_ok (ball_ok ddc_1 (e - 20) (by omega)) t (by omega)
    rw [show e - 20 + 20 = e by omega] at this
    exact this
  rcases Nat.lt_or_ge e 60 with q | q
  · have := ball_ok (ball_ok ddc_2 (e - 40) (by omega)) t (by omega)
    rw [show e - 40 + 40 = e by omega] at this
    exact this
  rcases Nat.lt_or_ge e 80 with q | q
  · have := ball_ok (ball_ok ddc_3 (e - 60) (by omega)) t (by omega)
    rw [show e - 60 + 60 = e by omega] at this
    exact this
  rcases Nat.lt_or_ge e 100 with q | q
  · have := ball_ok (ball_ok ddc_4 (e - 80) (by omega)) t (by omega)
    rw [show e - 80 + 80 = e by omega] at this
    exact this
  rcases Nat.lt_or_ge e 120 with q | q
  · have := ball_ok (ball_ok ddc_5 (e - 100) (by omega)) t (by omega)
    rw [show e - 100 + 100 = e by omega] at this
    exact this
  rcases Nat.lt_or_ge e 140 with q | q
  · have := ball_ok (ball_ok ddc_6 (e - 120) (by omega)) t (by omega)
    rw [show e - 120 + 120 = e by omega] at this
    exact this
  rcases Nat.lt_or_ge e 160 with q | q
  · have := ball_ok (ball_ok ddc_7 (e - 140) (by omega)) t (by omega)
    rw [show e - 140 + 140 = e by omega] at this
    exact this
  rcases Nat.lt_or_ge e 180 with q | q
  · have := ball_ok (ball_ok ddc_8 (e - 160) (by omega)) t (by omega)
    rw [show e - 160 + 160 = e by omega] at this
    exact this
  rcases Nat.lt_or_ge e 200 with q | q
  · have := ball_ok (ball_ok ddc_9 (e - 180) (by omega)) t (by omega)
    rw [show e - 180 + 180 = e by omega] at this
    exact this
  omega
