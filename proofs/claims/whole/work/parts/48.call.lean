/-! SOUNDNESS: calls -/
def isK (n : Nat) (w : Cond) : Bool := match w with
  | .castable _ _ => n == 0
  | .native _ => n == 1
  | .codeSync _ _ _ _ => n == 2
  | .superclass _ _ => n == 3
  | .selects _ _ _ => n == 4
  | .lays _ _ _ _ => n == 5
  | .instantiable _ _ => n == 6
  | .fieldLink _ _ _ _ _ => n == 7
  | .methodLink _ _ _ => n == 8
  | _ => false
theorem t0 : (vx_atS RX6 40 "java/lang/IllegalArgumentException" excN).all (fun w => goodWord w || !(isK 0 w)) = true := by decide +kernel
theorem t1 : (vx_atS RX6 40 "java/lang/IllegalArgumentException" excN).all (fun w => goodWord w || !(isK 1 w)) = true := by decide +kernel
theorem t2 : (vx_atS RX6 40 "java/lang/IllegalArgumentException" excN).all (fun w => goodWord w || !(isK 2 w)) = true := by decide +kernel
theorem t3 : (vx_atS RX6 40 "java/lang/IllegalArgumentException" excN).all (fun w => goodWord w || !(isK 3 w)) = true := by decide +kernel
theorem t4 : (vx_atS RX6 40 "java/lang/IllegalArgumentException" excN).all (fun w => goodWord w || !(isK 4 w)) = true := by decide +kernel
theorem t5 : (vx_atS RX6 40 "java/lang/IllegalArgumentException" excN).all (fun w => goodWord w || !(isK 5 w)) = true := by decide +kernel
theorem t6 : (vx_atS RX6 40 "java/lang/IllegalArgumentException" excN).all (fun w => goodWord w || !(isK 6 w)) = true := by decide +kernel
theorem t7 : (vx_atS RX6 40 "java/lang/IllegalArgumentException" excN).all (fun w => goodWord w || !(isK 7 w)) = true := by decide +kernel
theorem t8 : (vx_atS RX6 40 "java/lang/IllegalArgumentException" excN).all (fun w => goodWord w || !(isK 8 w)) = true := by decide +kernel
