section IK
variable {m : Nat → Nat → Int32} {b : Option Nat} {σ : St}
theorem svi_eq : f_X7_image sv8 0 = some ((f_X7_image sv8 0).getD (0, σ00)) := getD_some (by decide +kernel)
end IK
