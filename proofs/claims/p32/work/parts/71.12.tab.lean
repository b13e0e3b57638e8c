/-! the methods are as the tables say, by the kernel -/
theorem qm_20 : (List.range' 80 4).all (fun c => Nat.beq (qKd c) 9 || qBig.contains c || qMoB c) = true := by decide +kernel
theorem qm_21 : (List.range' 84 4).all (fun c => Nat.beq (qKd c) 9 || qBig.contains c || qMoB c) = true := by decide +kernel
theorem qm_22 : (List.range' 88 4).all (fun c => Nat.beq (qKd c) 9 || qBig.contains c || qMoB c) = true := by decide +kernel
theorem qm_23 : (List.range' 92 4).all (fun c => Nat.beq (qKd c) 9 || qBig.contains c || qMoB c) = true := by decide +kernel
theorem qm_24 : (List.range' 96 4).all (fun c => Nat.beq (qKd c) 9 || qBig.contains c || qMoB c) = true := by decide +kernel
theorem qm_25 : (List.range' 100 4).all (fun c => Nat.beq (qKd c) 9 || qBig.contains c || qMoB c) = true := by decide +kernel
theorem qm_26 : (List.range' 104 4).all (fun c => Nat.beq (qKd c) 9 || qBig.contains c || qMoB c) = true := by decide +kernel
theorem qm_27 : (List.range' 108 4).all (fun c => Nat.beq (qKd c) 9 || qBig.contains c || qMoB c) = true := by decide +kernel
theorem qm_28 : (List.range' 112 4).all (fun c => Nat.beq (qKd c) 9 || qBig.contains c || qMoB c) = true := by decide +kernel
theorem qm_29 : (List.range' 116 4).all (fun c => Nat.beq (qKd c) 9 || qBig.contains c || qMoB c) = true := by decide +kernel
