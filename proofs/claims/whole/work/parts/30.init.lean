/-! THE PURE SIDE. The state behind the two constructors, by computation. -/
def sv2 : St := (nwO σ00 6).getD σ00
def sv4 : St := (f_X7_init sv2 0).getD σ00
def sv6 : St := (nwO sv4 7).getD σ00
def sv8 : St := (f_X8_init sv6 42).getD σ00
theorem getD_some {α : Type} {o : Option α} {d : α} (h : o.isSome = true) : o = some (o.getD d) := by
  cases o with
  | none => cases h
  | some a => rfl
set_option maxRecDepth 100000 in
theorem sv2_eq : nwO σ00 6 = some sv2 := getD_some (by decide +kernel)
set_option maxRecDepth 100000 in
theorem sv4_eq : f_X7_init sv2 0 = some sv4 := getD_some (by decide +kernel)
set_option maxRecDepth 100000 in
theorem sv4_n : sv4.2.2 = 42 := by decide +kernel
set_option maxRecDepth 100000 in
theorem sv6_eq : nwO sv4 7 = some sv6 := getD_some (by decide +kernel)
set_option maxRecDepth 100000 in
theorem sv8_eq : f_X8_init sv6 42 = some sv8 := getD_some (by decide +kernel)
set_option maxRecDepth 100000 in
theorem sv8_n : sv8.2.2 = 59 := by decide +kernel
def RF0 : Nat → Nat → Option Nat := sv8.2.1
def M0 : Nat → Nat → Int32 := sv8.1
set_option maxRecDepth 100000 in
theorem rf0_0_0 : RF0 0 0 = some 1 := by decide +kernel
set_option maxRecDepth 100000 in
theorem m0_now : ∀ k, k < 1234 → M0 43 k = (if k = 7 then 1 else if k = 10 then 1 else if k = 13 then 1 else if k = 16 then 1 else if k = 19 then 1 else 0) := by decide +kernel
