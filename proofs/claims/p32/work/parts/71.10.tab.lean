/-! the methods are as the tables say, by the kernel -/
theorem qm_0 : (List.range' 0 4).all (fun c => Nat.beq (qKd c) 9 || qBig.contains c || qMoB c) = true := by decide +kernel
theorem qm_1 : (List.range' 4 4).all (fun c => Nat.beq (qKd c) 9 || qBig.contains c || qMoB c) = true := by decide +kernel
theorem qm_2 : (List.range' 8 4).all (fun c => Nat.beq (qKd c) 9 || qBig.contains c || qMoB c) = true := by decide +kernel
theorem qm_3 : (List.range' 12 4).all (fun c => Nat.beq (qKd c) 9 || qBig.contains c || qMoB c) = true := by decide +kernel
theorem qm_4 : (List.range' 16 4).all (fun c => Nat.beq (qKd c) 9 || qBig.contains c || qMoB c) = true := by decide +kernel
theorem qm_5 : (List.range' 20 4).all (fun c => Nat.beq (qKd c) 9 || qBig.contains c || qMoB c) = true := by decide +kernel
theorem qm_6 : (List.range' 24 4).all (fun c => Nat.beq (qKd c) 9 || qBig.contains c || qMoB c) = true := by decide +kernel
theorem qm_7 : (List.range' 28 4).all (fun c => Nat.beq (qKd c) 9 || qBig.contains c || qMoB c) = true := by decide +kernel
theorem qm_8 : (List.range' 32 4).all (fun c => Nat.beq (qKd c) 9 || qBig.contains c || qMoB c) = true := by decide +kernel
theorem qm_9 : (List.range' 36 4).all (fun c => Nat.beq (qKd c) 9 || qBig.contains c || qMoB c) = true := by decide +kernel
