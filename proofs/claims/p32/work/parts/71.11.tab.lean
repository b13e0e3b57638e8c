/-! the methods are as the tables say, by the kernel -/
theorem qm_10 : (List.range' 40 4).all (fun c => Nat.beq (qKd c) 9 || qBig.contains c || qMoB c) = true := by decide +kernel
theorem qm_11 : (List.range' 44 4).all (fun c => Nat.beq (qKd c) 9 || qBig.contains c || qMoB c) = true := by decide +kernel
theorem qm_12 : (List.range' 48 4).all (fun c => Nat.beq (qKd c) 9 || qBig.contains c || qMoB c) = true := by decide +kernel
theorem qm_13 : (List.range' 52 4).all (fun c => Nat.beq (qKd c) 9 || qBig.contains c || qMoB c) = true := by decide +kernel
theorem qm_14 : (List.range' 56 4).all (fun c => Nat.beq (qKd c) 9 || qBig.contains c || qMoB c) = true := by decide +kernel
theorem qm_15 : (List.range' 60 4).all (fun c => Nat.beq (qKd c) 9 || qBig.contains c || qMoB c) = true := by decide +kernel
theorem qm_16 : (List.range' 64 4).all (fun c => Nat.beq (qKd c) 9 || qBig.contains c || qMoB c) = true := by decide +kernel
theorem qm_17 : (List.range' 68 4).all (fun c => Nat.beq (qKd c) 9 || qBig.contains c || qMoB c) = true := by decide +kernel
theorem qm_18 : (List.range' 72 4).all (fun c => Nat.beq (qKd c) 9 || qBig.contains c || qMoB c) = true := by decide +kernel
theorem qm_19 : (List.range' 76 4).all (fun c => Nat.beq (qKd c) 9 || qBig.contains c || qMoB c) = true := by decide +kernel
