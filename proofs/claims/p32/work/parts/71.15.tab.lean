/-! the methods are as the tables say, by the kernel -/
theorem qm_50 : (List.range' 200 4).all (fun c => Nat.beq (qKd c) 9 || qBig.contains c || qMoB c) = true := by decide +kernel
theorem qm_51 : (List.range' 204 4).all (fun c => Nat.beq (qKd c) 9 || qBig.contains c || qMoB c) = true := by decide +kernel
theorem qm_52 : (List.range' 208 4).all (fun c => Nat.beq (qKd c) 9 || qBig.contains c || qMoB c) = true := by decide +kernel
theorem qm_53 : (List.range' 212 4).all (fun c => Nat.beq (qKd c) 9 || qBig.contains c || qMoB c) = true := by decide +kernel
theorem qm_54 : (List.range' 216 4).all (fun c => Nat.beq (qKd c) 9 || qBig.contains c || qMoB c) = true := by decide +kernel
theorem qm_55 : (List.range' 220 4).all (fun c => Nat.beq (qKd c) 9 || qBig.contains c || qMoB c) = true := by decide +kernel
theorem qm_56 : (List.range' 224 4).all (fun c => Nat.beq (qKd c) 9 || qBig.contains c || qMoB c) = true := by decide +kernel
theorem qm_57 : (List.range' 228 4).all (fun c => Nat.beq (qKd c) 9 || qBig.contains c || qMoB c) = true := by decide +kernel
theorem qm_58 : (List.range' 232 4).all (fun c => Nat.beq (qKd c) 9 || qBig.contains c || qMoB c) = true := by decide +kernel
theorem qm_59 : (List.range' 236 2).all (fun c => Nat.beq (qKd c) 9 || qBig.contains c || qMoB c) = true := by decide +kernel
