/-! the methods are as the tables say, by the kernel -/
theorem qm_30 : (List.range' 120 4).all (fun c => Nat.beq (qKd c) 9 || qBig.contains c || qMoB c) = true := by decide +kernel
theorem qm_31 : (List.range' 124 4).all (fun c => Nat.beq (qKd c) 9 || qBig.contains c || qMoB c) = true := by decide +kernel
theorem qm_32 : (List.range' 128 4).all (fun c => Nat.beq (qKd c) 9 || qBig.contains c || qMoB c) = true := by decide +kernel
theorem qm_33 : (List.range' 132 4).all (fun c => Nat.beq (qKd c) 9 || qBig.contains c || qMoB c) = true := by decide +kernel
theorem qm_34 : (List.range' 136 4).all (fun c => Nat.beq (qKd c) 9 || qBig.contains c || qMoB c) = true := by decide +kernel
theorem qm_35 : (List.range' 140 4).all (fun c => Nat.beq (qKd c) 9 || qBig.contains c || qMoB c) = true := by decide +kernel
theorem qm_36 : (List.range' 144 4).all (fun c => Nat.beq (qKd c) 9 || qBig.contains c || qMoB c) = true := by decide +kernel
theorem qm_37 : (List.range' 148 4).all (fun c => Nat.beq (qKd c) 9 || qBig.contains c || qMoB c) = true := by decide +kernel
theorem qm_38 : (List.range' 152 4).all (fun c => Nat.beq (qKd c) 9 || qBig.contains c || qMoB c) = true := by decide +kernel
theorem qm_39 : (List.range' 156 4).all (fun c => Nat.beq (qKd c) 9 || qBig.contains c || qMoB c) = true := by decide +kernel
