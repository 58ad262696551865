/-- a stretch of a method's rows -/
def ck_r (y lo n : Nat) : Bool := (List.range n).all (fun j => match pgT y (lo + j) with | none => true | some e => ck_e y (lo + j) e)
set_option maxRecDepth 100000 in
theorem ck_l_0 : ck_r 333 0 60 = true := by decide +kernel
set_option maxRecDepth 100000 in
theorem ck_l_60 : ck_r 333 60 60 = true := by decide +kernel
set_option maxRecDepth 100000 in
theorem ck_l_120 : ck_r 333 120 60 = true := by decide +kernel
set_option maxRecDepth 100000 in
theorem ck_l_180 : ck_r 333 180 60 = true := by decide +kernel
set_option maxRecDepth 100000 in
theorem ck_l_240 : ck_r 333 240 60 = true := by decide +kernel
set_option maxRecDepth 100000 in
theorem ck_l_300 : ck_r 333 300 60 = true := by decide +kernel
set_option maxRecDepth 100000 in
theorem ck_l_360 : ck_r 333 360 60 = true := by decide +kernel
set_option maxRecDepth 100000 in
theorem ck_l_420 : ck_r 333 420 60 = true := by decide +kernel
