/-! decode, by the bytes -/
def x_by (cc : ByteArray) (p : Nat) : Option Nat := if h : p < cc.size then some cc[p].toNat else none
theorem x_u1 {cc : ByteArray} {p b : Nat} (h : x_by cc p = some b) : (Jvm.ClassFile.Reader.u1 : Jvm.ClassFile.Decoder Nat) cc p = .ok (b, p + 1) := by
  unfold x_by at h
  by_cases hp : p < cc.size
  · rw [dif_pos hp] at h
    cases h
    show (dite (p < cc.size) (fun h => (do set (p + 1); pure cc[p].toNat : Jvm.ClassFile.Decoder Nat)) (fun _ => throw _)) cc p = _
    rw [dif_pos hp]
    rfl
  · rw [dif_neg hp] at h
    cases h
theorem x_d1 {cc : ByteArray} {pc : Nat} (h : x_by cc pc = some 1) : decode cc pc = .ok (.aconst_null, 1) := by
  have hu := x_u1 h
  have hi : (Jvm.ClassFile.Decoder.instr pc) cc pc = .ok (.aconst_null, pc + 1) := by
    show Except.bind ((Jvm.ClassFile.Reader.u1 : Jvm.ClassFile.Decoder Nat) cc pc) _ = _
    rw [hu]
    rfl
  show Except.bind ((Jvm.ClassFile.Decoder.instr pc) cc pc) _ = _
  rw [hi]
  show Except.ok (_, pc + 1 - pc) = _
  rw [Nat.add_sub_cancel_left]
theorem x_d2 {cc : ByteArray} {pc : Nat} (h : x_by cc pc = some 2) : decode cc pc = .ok (.iconst (-1), 1) := by
  have hu := x_u1 h
  have hi : (Jvm.ClassFile.Decoder.instr pc) cc pc = .ok (.iconst (-1), pc + 1) := by
    show Except.bind ((Jvm.ClassFile.Reader.u1 : Jvm.ClassFile.Decoder Nat) cc pc) _ = _
    rw [hu]
    rfl
  show Except.bind ((Jvm.ClassFile.Decoder.instr pc) cc pc) _ = _
  rw [hi]
  show Except.ok (_, pc + 1 - pc) = _
  rw [Nat.add_sub_cancel_left]
theorem x_d3 {cc : ByteArray} {pc : Nat} (h : x_by cc pc = some 3) : decode cc pc = .ok (.iconst 0, 1) := by
  have hu := x_u1 h
  have hi : (Jvm.ClassFile.Decoder.instr pc) cc pc = .ok (.iconst 0, pc + 1) := by
    show Except.bind ((Jvm.ClassFile.Reader.u1 : Jvm.ClassFile.Decoder Nat) cc pc) _ = _
    rw [hu]
    rfl
  show Except.bind ((Jvm.ClassFile.Decoder.instr pc) cc pc) _ = _
  rw [hi]
  show Except.ok (_, pc + 1 - pc) = _
  rw [Nat.add_sub_cancel_left]
theorem x_d4 {cc : ByteArray} {pc : Nat} (h : x_by cc pc = some 4) : decode cc pc = .ok (.iconst 1, 1) := by
  have hu := x_u1 h
  have hi : (Jvm.ClassFile.Decoder.instr pc) cc pc = .ok (.iconst 1, pc + 1) := by
    show Except.bind ((Jvm.ClassFile.Reader.u1 : Jvm.ClassFile.Decoder Nat) cc pc) _ = _
    rw [hu]
    rfl
  show Except.bind ((Jvm.ClassFile.Decoder.instr pc) cc pc) _ = _
  rw [hi]
  show Except.ok (_, pc + 1 - pc) = _
  rw [Nat.add_sub_cancel_left]
theorem x_d5 {cc : ByteArray} {pc : Nat} (h : x_by cc pc = some 5) : decode cc pc = .ok (.iconst 2, 1) := by
  have hu := x_u1 h
  have hi : (Jvm.ClassFile.Decoder.instr pc) cc pc = .ok (.iconst 2, pc + 1) := by
    show Except.bind ((Jvm.ClassFile.Reader.u1 : Jvm.ClassFile.Decoder Nat) cc pc) _ = _
    rw [hu]
    rfl
  show Except.bind ((Jvm.ClassFile.Decoder.instr pc) cc pc) _ = _
  rw [hi]
  show Except.ok (_, pc + 1 - pc) = _
  rw [Nat.add_sub_cancel_left]
theorem x_d6 {cc : ByteArray} {pc : Nat} (h : x_by cc pc = some 6) : decode cc pc = .ok (.iconst 3, 1) := by
  have hu := x_u1 h
  have hi : (Jvm.ClassFile.Decoder.instr pc) cc pc = .ok (.iconst 3, pc + 1) := by
    show Except.bind ((Jvm.ClassFile.Reader.u1 : Jvm.ClassFile.Decoder Nat) cc pc) _ = _
    rw [hu]
    rfl
  show Except.bind ((Jvm.ClassFile.Decoder.instr pc) cc pc) _ = _
  rw [hi]
  show Except.ok (_, pc + 1 - pc) = _
  rw [Nat.add_sub_cancel_left]
theorem x_d7 {cc : ByteArray} {pc : Nat} (h : x_by cc pc = some 7) : decode cc pc = .ok (.iconst 4, 1) := by
  have hu := x_u1 h
  have hi : (Jvm.ClassFile.Decoder.instr pc) cc pc = .ok (.iconst 4, pc + 1) := by
    show Except.bind ((Jvm.ClassFile.Reader.u1 : Jvm.ClassFile.Decoder Nat) cc pc) _ = _
    rw [hu]
    rfl
  show Except.bind ((Jvm.ClassFile.Decoder.instr pc) cc pc) _ = _
  rw [hi]
  show Except.ok (_, pc + 1 - pc) = _
  rw [Nat.add_sub_cancel_left]
theorem x_d8 {cc : ByteArray} {pc : Nat} (h : x_by cc pc = some 8) : decode cc pc = .ok (.iconst 5, 1) := by
  have hu := x_u1 h
  have hi : (Jvm.ClassFile.Decoder.instr pc) cc pc = .ok (.iconst 5, pc + 1) := by
    show Except.bind ((Jvm.ClassFile.Reader.u1 : Jvm.ClassFile.Decoder Nat) cc pc) _ = _
    rw [hu]
    rfl
  show Except.bind ((Jvm.ClassFile.Decoder.instr pc) cc pc) _ = _
  rw [hi]
  show Except.ok (_, pc + 1 - pc) = _
  rw [Nat.add_sub_cancel_left]
theorem x_d9 {cc : ByteArray} {pc : Nat} (h : x_by cc pc = some 9) : decode cc pc = .ok (.lconst 0, 1) := by
  have hu := x_u1 h
  have hi : (Jvm.ClassFile.Decoder.instr pc) cc pc = .ok (.lconst 0, pc + 1) := by
    show Except.bind ((Jvm.ClassFile.Reader.u1 : Jvm.ClassFile.Decoder Nat) cc pc) _ = _
    rw [hu]
    rfl
  show Except.bind ((Jvm.ClassFile.Decoder.instr pc) cc pc) _ = _
  rw [hi]
  show Except.ok (_, pc + 1 - pc) = _
  rw [Nat.add_sub_cancel_left]
theorem x_d10 {cc : ByteArray} {pc : Nat} (h : x_by cc pc = some 10) : decode cc pc = .ok (.lconst 1, 1) := by
  have hu := x_u1 h
  have hi : (Jvm.ClassFile.Decoder.instr pc) cc pc = .ok (.lconst 1, pc + 1) := by
    show Except.bind ((Jvm.ClassFile.Reader.u1 : Jvm.ClassFile.Decoder Nat) cc pc) _ = _
    rw [hu]
    rfl
  show Except.bind ((Jvm.ClassFile.Decoder.instr pc) cc pc) _ = _
  rw [hi]
  show Except.ok (_, pc + 1 - pc) = _
  rw [Nat.add_sub_cancel_left]
theorem x_d16 {cc : ByteArray} {pc b1 : Nat} (h : x_by cc pc = some 16) (h1 : x_by cc (pc + 1) = some b1) : decode cc pc = .ok (.bipush  (Jvm.ClassFile.Reader.signed 8 b1), 2) := by
  have hu := x_u1 h
  have hu1 := x_u1 h1
  have hi : (Jvm.ClassFile.Decoder.instr pc) cc pc = .ok (.bipush  (Jvm.ClassFile.Reader.signed 8 b1), pc + 2) := by
    show Except.bind ((Jvm.ClassFile.Reader.u1 : Jvm.ClassFile.Decoder Nat) cc pc) _ = _
    rw [hu]
    show Except.bind (Except.bind ((Jvm.ClassFile.Reader.u1 : Jvm.ClassFile.Decoder Nat) cc (pc + 1)) _) _ = _
    rw [hu1]
    rfl
  show Except.bind ((Jvm.ClassFile.Decoder.instr pc) cc pc) _ = _
  rw [hi]
  show Except.ok (_, pc + 2 - pc) = _
  rw [Nat.add_sub_cancel_left]
theorem x_d17 {cc : ByteArray} {pc b1 b2 : Nat} (h : x_by cc pc = some 17) (h1 : x_by cc (pc + 1) = some b1) (h2 : x_by cc (pc + 1 + 1) = some b2) : decode cc pc = .ok (.sipush  (Jvm.ClassFile.Reader.signed 16 (b1 * 256 + b2)), 3) := by
  have hu := x_u1 h
  have hu1 := x_u1 h1
  have hu2 := x_u1 h2
  have hi : (Jvm.ClassFile.Decoder.instr pc) cc pc = .ok (.sipush  (Jvm.ClassFile.Reader.signed 16 (b1 * 256 + b2)), pc + 3) := by
    show Except.bind ((Jvm.ClassFile.Reader.u1 : Jvm.ClassFile.Decoder Nat) cc pc) _ = _
    rw [hu]
    show Except.bind (Except.bind (Except.bind ((Jvm.ClassFile.Reader.u1 : Jvm.ClassFile.Decoder Nat) cc (pc + 1)) _) _) _ = _
    rw [hu1]
    show Except.bind (Except.bind (Except.bind ((Jvm.ClassFile.Reader.u1 : Jvm.ClassFile.Decoder Nat) cc (pc + 1 + 1)) _) _) _ = _
    rw [hu2]
    rfl
  show Except.bind ((Jvm.ClassFile.Decoder.instr pc) cc pc) _ = _
  rw [hi]
  show Except.ok (_, pc + 3 - pc) = _
  rw [Nat.add_sub_cancel_left]
theorem x_d18 {cc : ByteArray} {pc b1 : Nat} (h : x_by cc pc = some 18) (h1 : x_by cc (pc + 1) = some b1) : decode cc pc = .ok (.ldc  b1, 2) := by
  have hu := x_u1 h
  have hu1 := x_u1 h1
  have hi : (Jvm.ClassFile.Decoder.instr pc) cc pc = .ok (.ldc  b1, pc + 2) := by
    show Except.bind ((Jvm.ClassFile.Reader.u1 : Jvm.ClassFile.Decoder Nat) cc pc) _ = _
    rw [hu]
    show Except.bind ((Jvm.ClassFile.Reader.u1 : Jvm.ClassFile.Decoder Nat) cc (pc + 1)) _ = _
    rw [hu1]
    rfl
  show Except.bind ((Jvm.ClassFile.Decoder.instr pc) cc pc) _ = _
  rw [hi]
  show Except.ok (_, pc + 2 - pc) = _
  rw [Nat.add_sub_cancel_left]
theorem x_d20 {cc : ByteArray} {pc b1 b2 : Nat} (h : x_by cc pc = some 20) (h1 : x_by cc (pc + 1) = some b1) (h2 : x_by cc (pc + 1 + 1) = some b2) : decode cc pc = .ok (.ldc2_w  (b1 * 256 + b2), 3) := by
  have hu := x_u1 h
  have hu1 := x_u1 h1
  have hu2 := x_u1 h2
  have hi : (Jvm.ClassFile.Decoder.instr pc) cc pc = .ok (.ldc2_w  (b1 * 256 + b2), pc + 3) := by
    show Except.bind ((Jvm.ClassFile.Reader.u1 : Jvm.ClassFile.Decoder Nat) cc pc) _ = _
    rw [hu]
    show Except.bind (Except.bind ((Jvm.ClassFile.Reader.u1 : Jvm.ClassFile.Decoder Nat) cc (pc + 1)) _) _ = _
    rw [hu1]
    show Except.bind (Except.bind ((Jvm.ClassFile.Reader.u1 : Jvm.ClassFile.Decoder Nat) cc (pc + 1 + 1)) _) _ = _
    rw [hu2]
    rfl
  show Except.bind ((Jvm.ClassFile.Decoder.instr pc) cc pc) _ = _
  rw [hi]
  show Except.ok (_, pc + 3 - pc) = _
  rw [Nat.add_sub_cancel_left]
theorem x_d21 {cc : ByteArray} {pc b1 : Nat} (h : x_by cc pc = some 21) (h1 : x_by cc (pc + 1) = some b1) : decode cc pc = .ok (.iload  b1, 2) := by
  have hu := x_u1 h
  have hu1 := x_u1 h1
  have hi : (Jvm.ClassFile.Decoder.instr pc) cc pc = .ok (.iload  b1, pc + 2) := by
    show Except.bind ((Jvm.ClassFile.Reader.u1 : Jvm.ClassFile.Decoder Nat) cc pc) _ = _
    rw [hu]
    show Except.bind ((Jvm.ClassFile.Reader.u1 : Jvm.ClassFile.Decoder Nat) cc (pc + 1)) _ = _
    rw [hu1]
    rfl
  show Except.bind ((Jvm.ClassFile.Decoder.instr pc) cc pc) _ = _
  rw [hi]
  show Except.ok (_, pc + 2 - pc) = _
  rw [Nat.add_sub_cancel_left]
theorem x_d22 {cc : ByteArray} {pc b1 : Nat} (h : x_by cc pc = some 22) (h1 : x_by cc (pc + 1) = some b1) : decode cc pc = .ok (.lload  b1, 2) := by
  have hu := x_u1 h
  have hu1 := x_u1 h1
  have hi : (Jvm.ClassFile.Decoder.instr pc) cc pc = .ok (.lload  b1, pc + 2) := by
    show Except.bind ((Jvm.ClassFile.Reader.u1 : Jvm.ClassFile.Decoder Nat) cc pc) _ = _
    rw [hu]
    show Except.bind ((Jvm.ClassFile.Reader.u1 : Jvm.ClassFile.Decoder Nat) cc (pc + 1)) _ = _
    rw [hu1]
    rfl
  show Except.bind ((Jvm.ClassFile.Decoder.instr pc) cc pc) _ = _
  rw [hi]
  show Except.ok (_, pc + 2 - pc) = _
  rw [Nat.add_sub_cancel_left]
theorem x_d25 {cc : ByteArray} {pc b1 : Nat} (h : x_by cc pc = some 25) (h1 : x_by cc (pc + 1) = some b1) : decode cc pc = .ok (.aload  b1, 2) := by
  have hu := x_u1 h
  have hu1 := x_u1 h1
  have hi : (Jvm.ClassFile.Decoder.instr pc) cc pc = .ok (.aload  b1, pc + 2) := by
    show Except.bind ((Jvm.ClassFile.Reader.u1 : Jvm.ClassFile.Decoder Nat) cc pc) _ = _
    rw [hu]
    show Except.bind ((Jvm.ClassFile.Reader.u1 : Jvm.ClassFile.Decoder Nat) cc (pc + 1)) _ = _
    rw [hu1]
    rfl
  show Except.bind ((Jvm.ClassFile.Decoder.instr pc) cc pc) _ = _
  rw [hi]
  show Except.ok (_, pc + 2 - pc) = _
  rw [Nat.add_sub_cancel_left]
theorem x_d26 {cc : ByteArray} {pc : Nat} (h : x_by cc pc = some 26) : decode cc pc = .ok (.iload_n 0, 1) := by
  have hu := x_u1 h
  have hi : (Jvm.ClassFile.Decoder.instr pc) cc pc = .ok (.iload_n 0, pc + 1) := by
    show Except.bind ((Jvm.ClassFile.Reader.u1 : Jvm.ClassFile.Decoder Nat) cc pc) _ = _
    rw [hu]
    rfl
  show Except.bind ((Jvm.ClassFile.Decoder.instr pc) cc pc) _ = _
  rw [hi]
  show Except.ok (_, pc + 1 - pc) = _
  rw [Nat.add_sub_cancel_left]
theorem x_d27 {cc : ByteArray} {pc : Nat} (h : x_by cc pc = some 27) : decode cc pc = .ok (.iload_n 1, 1) := by
  have hu := x_u1 h
  have hi : (Jvm.ClassFile.Decoder.instr pc) cc pc = .ok (.iload_n 1, pc + 1) := by
    show Except.bind ((Jvm.ClassFile.Reader.u1 : Jvm.ClassFile.Decoder Nat) cc pc) _ = _
    rw [hu]
    rfl
  show Except.bind ((Jvm.ClassFile.Decoder.instr pc) cc pc) _ = _
  rw [hi]
  show Except.ok (_, pc + 1 - pc) = _
  rw [Nat.add_sub_cancel_left]
theorem x_d28 {cc : ByteArray} {pc : Nat} (h : x_by cc pc = some 28) : decode cc pc = .ok (.iload_n 2, 1) := by
  have hu := x_u1 h
  have hi : (Jvm.ClassFile.Decoder.instr pc) cc pc = .ok (.iload_n 2, pc + 1) := by
    show Except.bind ((Jvm.ClassFile.Reader.u1 : Jvm.ClassFile.Decoder Nat) cc pc) _ = _
    rw [hu]
    rfl
  show Except.bind ((Jvm.ClassFile.Decoder.instr pc) cc pc) _ = _
  rw [hi]
  show Except.ok (_, pc + 1 - pc) = _
  rw [Nat.add_sub_cancel_left]
theorem x_d29 {cc : ByteArray} {pc : Nat} (h : x_by cc pc = some 29) : decode cc pc = .ok (.iload_n 3, 1) := by
  have hu := x_u1 h
  have hi : (Jvm.ClassFile.Decoder.instr pc) cc pc = .ok (.iload_n 3, pc + 1) := by
    show Except.bind ((Jvm.ClassFile.Reader.u1 : Jvm.ClassFile.Decoder Nat) cc pc) _ = _
    rw [hu]
    rfl
  show Except.bind ((Jvm.ClassFile.Decoder.instr pc) cc pc) _ = _
  rw [hi]
  show Except.ok (_, pc + 1 - pc) = _
  rw [Nat.add_sub_cancel_left]
theorem x_d30 {cc : ByteArray} {pc : Nat} (h : x_by cc pc = some 30) : decode cc pc = .ok (.lload_n 0, 1) := by
  have hu := x_u1 h
  have hi : (Jvm.ClassFile.Decoder.instr pc) cc pc = .ok (.lload_n 0, pc + 1) := by
    show Except.bind ((Jvm.ClassFile.Reader.u1 : Jvm.ClassFile.Decoder Nat) cc pc) _ = _
    rw [hu]
    rfl
  show Except.bind ((Jvm.ClassFile.Decoder.instr pc) cc pc) _ = _
  rw [hi]
  show Except.ok (_, pc + 1 - pc) = _
  rw [Nat.add_sub_cancel_left]
theorem x_d31 {cc : ByteArray} {pc : Nat} (h : x_by cc pc = some 31) : decode cc pc = .ok (.lload_n 1, 1) := by
  have hu := x_u1 h
  have hi : (Jvm.ClassFile.Decoder.instr pc) cc pc = .ok (.lload_n 1, pc + 1) := by
    show Except.bind ((Jvm.ClassFile.Reader.u1 : Jvm.ClassFile.Decoder Nat) cc pc) _ = _
    rw [hu]
    rfl
  show Except.bind ((Jvm.ClassFile.Decoder.instr pc) cc pc) _ = _
  rw [hi]
  show Except.ok (_, pc + 1 - pc) = _
  rw [Nat.add_sub_cancel_left]
theorem x_d32 {cc : ByteArray} {pc : Nat} (h : x_by cc pc = some 32) : decode cc pc = .ok (.lload_n 2, 1) := by
  have hu := x_u1 h
  have hi : (Jvm.ClassFile.Decoder.instr pc) cc pc = .ok (.lload_n 2, pc + 1) := by
    show Except.bind ((Jvm.ClassFile.Reader.u1 : Jvm.ClassFile.Decoder Nat) cc pc) _ = _
    rw [hu]
    rfl
  show Except.bind ((Jvm.ClassFile.Decoder.instr pc) cc pc) _ = _
  rw [hi]
  show Except.ok (_, pc + 1 - pc) = _
  rw [Nat.add_sub_cancel_left]
theorem x_d33 {cc : ByteArray} {pc : Nat} (h : x_by cc pc = some 33) : decode cc pc = .ok (.lload_n 3, 1) := by
  have hu := x_u1 h
  have hi : (Jvm.ClassFile.Decoder.instr pc) cc pc = .ok (.lload_n 3, pc + 1) := by
    show Except.bind ((Jvm.ClassFile.Reader.u1 : Jvm.ClassFile.Decoder Nat) cc pc) _ = _
    rw [hu]
    rfl
  show Except.bind ((Jvm.ClassFile.Decoder.instr pc) cc pc) _ = _
  rw [hi]
  show Except.ok (_, pc + 1 - pc) = _
  rw [Nat.add_sub_cancel_left]
theorem x_d42 {cc : ByteArray} {pc : Nat} (h : x_by cc pc = some 42) : decode cc pc = .ok (.aload_n 0, 1) := by
  have hu := x_u1 h
  have hi : (Jvm.ClassFile.Decoder.instr pc) cc pc = .ok (.aload_n 0, pc + 1) := by
    show Except.bind ((Jvm.ClassFile.Reader.u1 : Jvm.ClassFile.Decoder Nat) cc pc) _ = _
    rw [hu]
    rfl
  show Except.bind ((Jvm.ClassFile.Decoder.instr pc) cc pc) _ = _
  rw [hi]
  show Except.ok (_, pc + 1 - pc) = _
  rw [Nat.add_sub_cancel_left]
theorem x_d43 {cc : ByteArray} {pc : Nat} (h : x_by cc pc = some 43) : decode cc pc = .ok (.aload_n 1, 1) := by
  have hu := x_u1 h
  have hi : (Jvm.ClassFile.Decoder.instr pc) cc pc = .ok (.aload_n 1, pc + 1) := by
    show Except.bind ((Jvm.ClassFile.Reader.u1 : Jvm.ClassFile.Decoder Nat) cc pc) _ = _
    rw [hu]
    rfl
  show Except.bind ((Jvm.ClassFile.Decoder.instr pc) cc pc) _ = _
  rw [hi]
  show Except.ok (_, pc + 1 - pc) = _
  rw [Nat.add_sub_cancel_left]
theorem x_d44 {cc : ByteArray} {pc : Nat} (h : x_by cc pc = some 44) : decode cc pc = .ok (.aload_n 2, 1) := by
  have hu := x_u1 h
  have hi : (Jvm.ClassFile.Decoder.instr pc) cc pc = .ok (.aload_n 2, pc + 1) := by
    show Except.bind ((Jvm.ClassFile.Reader.u1 : Jvm.ClassFile.Decoder Nat) cc pc) _ = _
    rw [hu]
    rfl
  show Except.bind ((Jvm.ClassFile.Decoder.instr pc) cc pc) _ = _
  rw [hi]
  show Except.ok (_, pc + 1 - pc) = _
  rw [Nat.add_sub_cancel_left]
theorem x_d45 {cc : ByteArray} {pc : Nat} (h : x_by cc pc = some 45) : decode cc pc = .ok (.aload_n 3, 1) := by
  have hu := x_u1 h
  have hi : (Jvm.ClassFile.Decoder.instr pc) cc pc = .ok (.aload_n 3, pc + 1) := by
    show Except.bind ((Jvm.ClassFile.Reader.u1 : Jvm.ClassFile.Decoder Nat) cc pc) _ = _
    rw [hu]
    rfl
  show Except.bind ((Jvm.ClassFile.Decoder.instr pc) cc pc) _ = _
  rw [hi]
  show Except.ok (_, pc + 1 - pc) = _
  rw [Nat.add_sub_cancel_left]
theorem x_d46 {cc : ByteArray} {pc : Nat} (h : x_by cc pc = some 46) : decode cc pc = .ok (.iaload, 1) := by
  have hu := x_u1 h
  have hi : (Jvm.ClassFile.Decoder.instr pc) cc pc = .ok (.iaload, pc + 1) := by
    show Except.bind ((Jvm.ClassFile.Reader.u1 : Jvm.ClassFile.Decoder Nat) cc pc) _ = _
    rw [hu]
    rfl
  show Except.bind ((Jvm.ClassFile.Decoder.instr pc) cc pc) _ = _
  rw [hi]
  show Except.ok (_, pc + 1 - pc) = _
  rw [Nat.add_sub_cancel_left]
theorem x_d47 {cc : ByteArray} {pc : Nat} (h : x_by cc pc = some 47) : decode cc pc = .ok (.laload, 1) := by
  have hu := x_u1 h
  have hi : (Jvm.ClassFile.Decoder.instr pc) cc pc = .ok (.laload, pc + 1) := by
    show Except.bind ((Jvm.ClassFile.Reader.u1 : Jvm.ClassFile.Decoder Nat) cc pc) _ = _
    rw [hu]
    rfl
  show Except.bind ((Jvm.ClassFile.Decoder.instr pc) cc pc) _ = _
  rw [hi]
  show Except.ok (_, pc + 1 - pc) = _
  rw [Nat.add_sub_cancel_left]
theorem x_d50 {cc : ByteArray} {pc : Nat} (h : x_by cc pc = some 50) : decode cc pc = .ok (.aaload, 1) := by
  have hu := x_u1 h
  have hi : (Jvm.ClassFile.Decoder.instr pc) cc pc = .ok (.aaload, pc + 1) := by
    show Except.bind ((Jvm.ClassFile.Reader.u1 : Jvm.ClassFile.Decoder Nat) cc pc) _ = _
    rw [hu]
    rfl
  show Except.bind ((Jvm.ClassFile.Decoder.instr pc) cc pc) _ = _
  rw [hi]
  show Except.ok (_, pc + 1 - pc) = _
  rw [Nat.add_sub_cancel_left]
theorem x_d51 {cc : ByteArray} {pc : Nat} (h : x_by cc pc = some 51) : decode cc pc = .ok (.baload, 1) := by
  have hu := x_u1 h
  have hi : (Jvm.ClassFile.Decoder.instr pc) cc pc = .ok (.baload, pc + 1) := by
    show Except.bind ((Jvm.ClassFile.Reader.u1 : Jvm.ClassFile.Decoder Nat) cc pc) _ = _
    rw [hu]
    rfl
  show Except.bind ((Jvm.ClassFile.Decoder.instr pc) cc pc) _ = _
  rw [hi]
  show Except.ok (_, pc + 1 - pc) = _
  rw [Nat.add_sub_cancel_left]
theorem x_d54 {cc : ByteArray} {pc b1 : Nat} (h : x_by cc pc = some 54) (h1 : x_by cc (pc + 1) = some b1) : decode cc pc = .ok (.istore  b1, 2) := by
  have hu := x_u1 h
  have hu1 := x_u1 h1
  have hi : (Jvm.ClassFile.Decoder.instr pc) cc pc = .ok (.istore  b1, pc + 2) := by
    show Except.bind ((Jvm.ClassFile.Reader.u1 : Jvm.ClassFile.Decoder Nat) cc pc) _ = _
    rw [hu]
    show Except.bind ((Jvm.ClassFile.Reader.u1 : Jvm.ClassFile.Decoder Nat) cc (pc + 1)) _ = _
    rw [hu1]
    rfl
  show Except.bind ((Jvm.ClassFile.Decoder.instr pc) cc pc) _ = _
  rw [hi]
  show Except.ok (_, pc + 2 - pc) = _
  rw [Nat.add_sub_cancel_left]
theorem x_d55 {cc : ByteArray} {pc b1 : Nat} (h : x_by cc pc = some 55) (h1 : x_by cc (pc + 1) = some b1) : decode cc pc = .ok (.lstore  b1, 2) := by
  have hu := x_u1 h
  have hu1 := x_u1 h1
  have hi : (Jvm.ClassFile.Decoder.instr pc) cc pc = .ok (.lstore  b1, pc + 2) := by
    show Except.bind ((Jvm.ClassFile.Reader.u1 : Jvm.ClassFile.Decoder Nat) cc pc) _ = _
    rw [hu]
    show Except.bind ((Jvm.ClassFile.Reader.u1 : Jvm.ClassFile.Decoder Nat) cc (pc + 1)) _ = _
    rw [hu1]
    rfl
  show Except.bind ((Jvm.ClassFile.Decoder.instr pc) cc pc) _ = _
  rw [hi]
  show Except.ok (_, pc + 2 - pc) = _
  rw [Nat.add_sub_cancel_left]
theorem x_d58 {cc : ByteArray} {pc b1 : Nat} (h : x_by cc pc = some 58) (h1 : x_by cc (pc + 1) = some b1) : decode cc pc = .ok (.astore  b1, 2) := by
  have hu := x_u1 h
  have hu1 := x_u1 h1
  have hi : (Jvm.ClassFile.Decoder.instr pc) cc pc = .ok (.astore  b1, pc + 2) := by
    show Except.bind ((Jvm.ClassFile.Reader.u1 : Jvm.ClassFile.Decoder Nat) cc pc) _ = _
    rw [hu]
    show Except.bind ((Jvm.ClassFile.Reader.u1 : Jvm.ClassFile.Decoder Nat) cc (pc + 1)) _ = _
    rw [hu1]
    rfl
  show Except.bind ((Jvm.ClassFile.Decoder.instr pc) cc pc) _ = _
  rw [hi]
  show Except.ok (_, pc + 2 - pc) = _
  rw [Nat.add_sub_cancel_left]
theorem x_d59 {cc : ByteArray} {pc : Nat} (h : x_by cc pc = some 59) : decode cc pc = .ok (.istore_n 0, 1) := by
  have hu := x_u1 h
  have hi : (Jvm.ClassFile.Decoder.instr pc) cc pc = .ok (.istore_n 0, pc + 1) := by
    show Except.bind ((Jvm.ClassFile.Reader.u1 : Jvm.ClassFile.Decoder Nat) cc pc) _ = _
    rw [hu]
    rfl
  show Except.bind ((Jvm.ClassFile.Decoder.instr pc) cc pc) _ = _
  rw [hi]
  show Except.ok (_, pc + 1 - pc) = _
  rw [Nat.add_sub_cancel_left]
theorem x_d60 {cc : ByteArray} {pc : Nat} (h : x_by cc pc = some 60) : decode cc pc = .ok (.istore_n 1, 1) := by
  have hu := x_u1 h
  have hi : (Jvm.ClassFile.Decoder.instr pc) cc pc = .ok (.istore_n 1, pc + 1) := by
    show Except.bind ((Jvm.ClassFile.Reader.u1 : Jvm.ClassFile.Decoder Nat) cc pc) _ = _
    rw [hu]
    rfl
  show Except.bind ((Jvm.ClassFile.Decoder.instr pc) cc pc) _ = _
  rw [hi]
  show Except.ok (_, pc + 1 - pc) = _
  rw [Nat.add_sub_cancel_left]
theorem x_d61 {cc : ByteArray} {pc : Nat} (h : x_by cc pc = some 61) : decode cc pc = .ok (.istore_n 2, 1) := by
  have hu := x_u1 h
  have hi : (Jvm.ClassFile.Decoder.instr pc) cc pc = .ok (.istore_n 2, pc + 1) := by
    show Except.bind ((Jvm.ClassFile.Reader.u1 : Jvm.ClassFile.Decoder Nat) cc pc) _ = _
    rw [hu]
    rfl
  show Except.bind ((Jvm.ClassFile.Decoder.instr pc) cc pc) _ = _
  rw [hi]
  show Except.ok (_, pc + 1 - pc) = _
  rw [Nat.add_sub_cancel_left]
theorem x_d62 {cc : ByteArray} {pc : Nat} (h : x_by cc pc = some 62) : decode cc pc = .ok (.istore_n 3, 1) := by
  have hu := x_u1 h
  have hi : (Jvm.ClassFile.Decoder.instr pc) cc pc = .ok (.istore_n 3, pc + 1) := by
    show Except.bind ((Jvm.ClassFile.Reader.u1 : Jvm.ClassFile.Decoder Nat) cc pc) _ = _
    rw [hu]
    rfl
  show Except.bind ((Jvm.ClassFile.Decoder.instr pc) cc pc) _ = _
  rw [hi]
  show Except.ok (_, pc + 1 - pc) = _
  rw [Nat.add_sub_cancel_left]
theorem x_d63 {cc : ByteArray} {pc : Nat} (h : x_by cc pc = some 63) : decode cc pc = .ok (.lstore_n 0, 1) := by
  have hu := x_u1 h
  have hi : (Jvm.ClassFile.Decoder.instr pc) cc pc = .ok (.lstore_n 0, pc + 1) := by
    show Except.bind ((Jvm.ClassFile.Reader.u1 : Jvm.ClassFile.Decoder Nat) cc pc) _ = _
    rw [hu]
    rfl
  show Except.bind ((Jvm.ClassFile.Decoder.instr pc) cc pc) _ = _
  rw [hi]
  show Except.ok (_, pc + 1 - pc) = _
  rw [Nat.add_sub_cancel_left]
theorem x_d64 {cc : ByteArray} {pc : Nat} (h : x_by cc pc = some 64) : decode cc pc = .ok (.lstore_n 1, 1) := by
  have hu := x_u1 h
  have hi : (Jvm.ClassFile.Decoder.instr pc) cc pc = .ok (.lstore_n 1, pc + 1) := by
    show Except.bind ((Jvm.ClassFile.Reader.u1 : Jvm.ClassFile.Decoder Nat) cc pc) _ = _
    rw [hu]
    rfl
  show Except.bind ((Jvm.ClassFile.Decoder.instr pc) cc pc) _ = _
  rw [hi]
  show Except.ok (_, pc + 1 - pc) = _
  rw [Nat.add_sub_cancel_left]
theorem x_d65 {cc : ByteArray} {pc : Nat} (h : x_by cc pc = some 65) : decode cc pc = .ok (.lstore_n 2, 1) := by
  have hu := x_u1 h
  have hi : (Jvm.ClassFile.Decoder.instr pc) cc pc = .ok (.lstore_n 2, pc + 1) := by
    show Except.bind ((Jvm.ClassFile.Reader.u1 : Jvm.ClassFile.Decoder Nat) cc pc) _ = _
    rw [hu]
    rfl
  show Except.bind ((Jvm.ClassFile.Decoder.instr pc) cc pc) _ = _
  rw [hi]
  show Except.ok (_, pc + 1 - pc) = _
  rw [Nat.add_sub_cancel_left]
theorem x_d66 {cc : ByteArray} {pc : Nat} (h : x_by cc pc = some 66) : decode cc pc = .ok (.lstore_n 3, 1) := by
  have hu := x_u1 h
  have hi : (Jvm.ClassFile.Decoder.instr pc) cc pc = .ok (.lstore_n 3, pc + 1) := by
    show Except.bind ((Jvm.ClassFile.Reader.u1 : Jvm.ClassFile.Decoder Nat) cc pc) _ = _
    rw [hu]
    rfl
  show Except.bind ((Jvm.ClassFile.Decoder.instr pc) cc pc) _ = _
  rw [hi]
  show Except.ok (_, pc + 1 - pc) = _
  rw [Nat.add_sub_cancel_left]
theorem x_d75 {cc : ByteArray} {pc : Nat} (h : x_by cc pc = some 75) : decode cc pc = .ok (.astore_n 0, 1) := by
  have hu := x_u1 h
  have hi : (Jvm.ClassFile.Decoder.instr pc) cc pc = .ok (.astore_n 0, pc + 1) := by
    show Except.bind ((Jvm.ClassFile.Reader.u1 : Jvm.ClassFile.Decoder Nat) cc pc) _ = _
    rw [hu]
    rfl
  show Except.bind ((Jvm.ClassFile.Decoder.instr pc) cc pc) _ = _
  rw [hi]
  show Except.ok (_, pc + 1 - pc) = _
  rw [Nat.add_sub_cancel_left]
theorem x_d76 {cc : ByteArray} {pc : Nat} (h : x_by cc pc = some 76) : decode cc pc = .ok (.astore_n 1, 1) := by
  have hu := x_u1 h
  have hi : (Jvm.ClassFile.Decoder.instr pc) cc pc = .ok (.astore_n 1, pc + 1) := by
    show Except.bind ((Jvm.ClassFile.Reader.u1 : Jvm.ClassFile.Decoder Nat) cc pc) _ = _
    rw [hu]
    rfl
  show Except.bind ((Jvm.ClassFile.Decoder.instr pc) cc pc) _ = _
  rw [hi]
  show Except.ok (_, pc + 1 - pc) = _
  rw [Nat.add_sub_cancel_left]
theorem x_d77 {cc : ByteArray} {pc : Nat} (h : x_by cc pc = some 77) : decode cc pc = .ok (.astore_n 2, 1) := by
  have hu := x_u1 h
  have hi : (Jvm.ClassFile.Decoder.instr pc) cc pc = .ok (.astore_n 2, pc + 1) := by
    show Except.bind ((Jvm.ClassFile.Reader.u1 : Jvm.ClassFile.Decoder Nat) cc pc) _ = _
    rw [hu]
    rfl
  show Except.bind ((Jvm.ClassFile.Decoder.instr pc) cc pc) _ = _
  rw [hi]
  show Except.ok (_, pc + 1 - pc) = _
  rw [Nat.add_sub_cancel_left]
theorem x_d78 {cc : ByteArray} {pc : Nat} (h : x_by cc pc = some 78) : decode cc pc = .ok (.astore_n 3, 1) := by
  have hu := x_u1 h
  have hi : (Jvm.ClassFile.Decoder.instr pc) cc pc = .ok (.astore_n 3, pc + 1) := by
    show Except.bind ((Jvm.ClassFile.Reader.u1 : Jvm.ClassFile.Decoder Nat) cc pc) _ = _
    rw [hu]
    rfl
  show Except.bind ((Jvm.ClassFile.Decoder.instr pc) cc pc) _ = _
  rw [hi]
  show Except.ok (_, pc + 1 - pc) = _
  rw [Nat.add_sub_cancel_left]
theorem x_d79 {cc : ByteArray} {pc : Nat} (h : x_by cc pc = some 79) : decode cc pc = .ok (.iastore, 1) := by
  have hu := x_u1 h
  have hi : (Jvm.ClassFile.Decoder.instr pc) cc pc = .ok (.iastore, pc + 1) := by
    show Except.bind ((Jvm.ClassFile.Reader.u1 : Jvm.ClassFile.Decoder Nat) cc pc) _ = _
    rw [hu]
    rfl
  show Except.bind ((Jvm.ClassFile.Decoder.instr pc) cc pc) _ = _
  rw [hi]
  show Except.ok (_, pc + 1 - pc) = _
  rw [Nat.add_sub_cancel_left]
theorem x_d80 {cc : ByteArray} {pc : Nat} (h : x_by cc pc = some 80) : decode cc pc = .ok (.lastore, 1) := by
  have hu := x_u1 h
  have hi : (Jvm.ClassFile.Decoder.instr pc) cc pc = .ok (.lastore, pc + 1) := by
    show Except.bind ((Jvm.ClassFile.Reader.u1 : Jvm.ClassFile.Decoder Nat) cc pc) _ = _
    rw [hu]
    rfl
  show Except.bind ((Jvm.ClassFile.Decoder.instr pc) cc pc) _ = _
  rw [hi]
  show Except.ok (_, pc + 1 - pc) = _
  rw [Nat.add_sub_cancel_left]
theorem x_d83 {cc : ByteArray} {pc : Nat} (h : x_by cc pc = some 83) : decode cc pc = .ok (.aastore, 1) := by
  have hu := x_u1 h
  have hi : (Jvm.ClassFile.Decoder.instr pc) cc pc = .ok (.aastore, pc + 1) := by
    show Except.bind ((Jvm.ClassFile.Reader.u1 : Jvm.ClassFile.Decoder Nat) cc pc) _ = _
    rw [hu]
    rfl
  show Except.bind ((Jvm.ClassFile.Decoder.instr pc) cc pc) _ = _
  rw [hi]
  show Except.ok (_, pc + 1 - pc) = _
  rw [Nat.add_sub_cancel_left]
theorem x_d84 {cc : ByteArray} {pc : Nat} (h : x_by cc pc = some 84) : decode cc pc = .ok (.bastore, 1) := by
  have hu := x_u1 h
  have hi : (Jvm.ClassFile.Decoder.instr pc) cc pc = .ok (.bastore, pc + 1) := by
    show Except.bind ((Jvm.ClassFile.Reader.u1 : Jvm.ClassFile.Decoder Nat) cc pc) _ = _
    rw [hu]
    rfl
  show Except.bind ((Jvm.ClassFile.Decoder.instr pc) cc pc) _ = _
  rw [hi]
  show Except.ok (_, pc + 1 - pc) = _
  rw [Nat.add_sub_cancel_left]
theorem x_d87 {cc : ByteArray} {pc : Nat} (h : x_by cc pc = some 87) : decode cc pc = .ok (.pop, 1) := by
  have hu := x_u1 h
  have hi : (Jvm.ClassFile.Decoder.instr pc) cc pc = .ok (.pop, pc + 1) := by
    show Except.bind ((Jvm.ClassFile.Reader.u1 : Jvm.ClassFile.Decoder Nat) cc pc) _ = _
    rw [hu]
    rfl
  show Except.bind ((Jvm.ClassFile.Decoder.instr pc) cc pc) _ = _
  rw [hi]
  show Except.ok (_, pc + 1 - pc) = _
  rw [Nat.add_sub_cancel_left]
theorem x_d88 {cc : ByteArray} {pc : Nat} (h : x_by cc pc = some 88) : decode cc pc = .ok (.pop2, 1) := by
  have hu := x_u1 h
  have hi : (Jvm.ClassFile.Decoder.instr pc) cc pc = .ok (.pop2, pc + 1) := by
    show Except.bind ((Jvm.ClassFile.Reader.u1 : Jvm.ClassFile.Decoder Nat) cc pc) _ = _
    rw [hu]
    rfl
  show Except.bind ((Jvm.ClassFile.Decoder.instr pc) cc pc) _ = _
  rw [hi]
  show Except.ok (_, pc + 1 - pc) = _
  rw [Nat.add_sub_cancel_left]
theorem x_d89 {cc : ByteArray} {pc : Nat} (h : x_by cc pc = some 89) : decode cc pc = .ok (.dup, 1) := by
  have hu := x_u1 h
  have hi : (Jvm.ClassFile.Decoder.instr pc) cc pc = .ok (.dup, pc + 1) := by
    show Except.bind ((Jvm.ClassFile.Reader.u1 : Jvm.ClassFile.Decoder Nat) cc pc) _ = _
    rw [hu]
    rfl
  show Except.bind ((Jvm.ClassFile.Decoder.instr pc) cc pc) _ = _
  rw [hi]
  show Except.ok (_, pc + 1 - pc) = _
  rw [Nat.add_sub_cancel_left]
theorem x_d90 {cc : ByteArray} {pc : Nat} (h : x_by cc pc = some 90) : decode cc pc = .ok (.dup_x1, 1) := by
  have hu := x_u1 h
  have hi : (Jvm.ClassFile.Decoder.instr pc) cc pc = .ok (.dup_x1, pc + 1) := by
    show Except.bind ((Jvm.ClassFile.Reader.u1 : Jvm.ClassFile.Decoder Nat) cc pc) _ = _
    rw [hu]
    rfl
  show Except.bind ((Jvm.ClassFile.Decoder.instr pc) cc pc) _ = _
  rw [hi]
  show Except.ok (_, pc + 1 - pc) = _
  rw [Nat.add_sub_cancel_left]
theorem x_d92 {cc : ByteArray} {pc : Nat} (h : x_by cc pc = some 92) : decode cc pc = .ok (.dup2, 1) := by
  have hu := x_u1 h
  have hi : (Jvm.ClassFile.Decoder.instr pc) cc pc = .ok (.dup2, pc + 1) := by
    show Except.bind ((Jvm.ClassFile.Reader.u1 : Jvm.ClassFile.Decoder Nat) cc pc) _ = _
    rw [hu]
    rfl
  show Except.bind ((Jvm.ClassFile.Decoder.instr pc) cc pc) _ = _
  rw [hi]
  show Except.ok (_, pc + 1 - pc) = _
  rw [Nat.add_sub_cancel_left]
theorem x_d96 {cc : ByteArray} {pc : Nat} (h : x_by cc pc = some 96) : decode cc pc = .ok (.iadd, 1) := by
  have hu := x_u1 h
  have hi : (Jvm.ClassFile.Decoder.instr pc) cc pc = .ok (.iadd, pc + 1) := by
    show Except.bind ((Jvm.ClassFile.Reader.u1 : Jvm.ClassFile.Decoder Nat) cc pc) _ = _
    rw [hu]
    rfl
  show Except.bind ((Jvm.ClassFile.Decoder.instr pc) cc pc) _ = _
  rw [hi]
  show Except.ok (_, pc + 1 - pc) = _
  rw [Nat.add_sub_cancel_left]
theorem x_d97 {cc : ByteArray} {pc : Nat} (h : x_by cc pc = some 97) : decode cc pc = .ok (.ladd, 1) := by
  have hu := x_u1 h
  have hi : (Jvm.ClassFile.Decoder.instr pc) cc pc = .ok (.ladd, pc + 1) := by
    show Except.bind ((Jvm.ClassFile.Reader.u1 : Jvm.ClassFile.Decoder Nat) cc pc) _ = _
    rw [hu]
    rfl
  show Except.bind ((Jvm.ClassFile.Decoder.instr pc) cc pc) _ = _
  rw [hi]
  show Except.ok (_, pc + 1 - pc) = _
  rw [Nat.add_sub_cancel_left]
theorem x_d100 {cc : ByteArray} {pc : Nat} (h : x_by cc pc = some 100) : decode cc pc = .ok (.isub, 1) := by
  have hu := x_u1 h
  have hi : (Jvm.ClassFile.Decoder.instr pc) cc pc = .ok (.isub, pc + 1) := by
    show Except.bind ((Jvm.ClassFile.Reader.u1 : Jvm.ClassFile.Decoder Nat) cc pc) _ = _
    rw [hu]
    rfl
  show Except.bind ((Jvm.ClassFile.Decoder.instr pc) cc pc) _ = _
  rw [hi]
  show Except.ok (_, pc + 1 - pc) = _
  rw [Nat.add_sub_cancel_left]
theorem x_d101 {cc : ByteArray} {pc : Nat} (h : x_by cc pc = some 101) : decode cc pc = .ok (.lsub, 1) := by
  have hu := x_u1 h
  have hi : (Jvm.ClassFile.Decoder.instr pc) cc pc = .ok (.lsub, pc + 1) := by
    show Except.bind ((Jvm.ClassFile.Reader.u1 : Jvm.ClassFile.Decoder Nat) cc pc) _ = _
    rw [hu]
    rfl
  show Except.bind ((Jvm.ClassFile.Decoder.instr pc) cc pc) _ = _
  rw [hi]
  show Except.ok (_, pc + 1 - pc) = _
  rw [Nat.add_sub_cancel_left]
theorem x_d104 {cc : ByteArray} {pc : Nat} (h : x_by cc pc = some 104) : decode cc pc = .ok (.imul, 1) := by
  have hu := x_u1 h
  have hi : (Jvm.ClassFile.Decoder.instr pc) cc pc = .ok (.imul, pc + 1) := by
    show Except.bind ((Jvm.ClassFile.Reader.u1 : Jvm.ClassFile.Decoder Nat) cc pc) _ = _
    rw [hu]
    rfl
  show Except.bind ((Jvm.ClassFile.Decoder.instr pc) cc pc) _ = _
  rw [hi]
  show Except.ok (_, pc + 1 - pc) = _
  rw [Nat.add_sub_cancel_left]
theorem x_d105 {cc : ByteArray} {pc : Nat} (h : x_by cc pc = some 105) : decode cc pc = .ok (.lmul, 1) := by
  have hu := x_u1 h
  have hi : (Jvm.ClassFile.Decoder.instr pc) cc pc = .ok (.lmul, pc + 1) := by
    show Except.bind ((Jvm.ClassFile.Reader.u1 : Jvm.ClassFile.Decoder Nat) cc pc) _ = _
    rw [hu]
    rfl
  show Except.bind ((Jvm.ClassFile.Decoder.instr pc) cc pc) _ = _
  rw [hi]
  show Except.ok (_, pc + 1 - pc) = _
  rw [Nat.add_sub_cancel_left]
theorem x_d108 {cc : ByteArray} {pc : Nat} (h : x_by cc pc = some 108) : decode cc pc = .ok (.idiv, 1) := by
  have hu := x_u1 h
  have hi : (Jvm.ClassFile.Decoder.instr pc) cc pc = .ok (.idiv, pc + 1) := by
    show Except.bind ((Jvm.ClassFile.Reader.u1 : Jvm.ClassFile.Decoder Nat) cc pc) _ = _
    rw [hu]
    rfl
  show Except.bind ((Jvm.ClassFile.Decoder.instr pc) cc pc) _ = _
  rw [hi]
  show Except.ok (_, pc + 1 - pc) = _
  rw [Nat.add_sub_cancel_left]
theorem x_d109 {cc : ByteArray} {pc : Nat} (h : x_by cc pc = some 109) : decode cc pc = .ok (.ldiv, 1) := by
  have hu := x_u1 h
  have hi : (Jvm.ClassFile.Decoder.instr pc) cc pc = .ok (.ldiv, pc + 1) := by
    show Except.bind ((Jvm.ClassFile.Reader.u1 : Jvm.ClassFile.Decoder Nat) cc pc) _ = _
    rw [hu]
    rfl
  show Except.bind ((Jvm.ClassFile.Decoder.instr pc) cc pc) _ = _
  rw [hi]
  show Except.ok (_, pc + 1 - pc) = _
  rw [Nat.add_sub_cancel_left]
theorem x_d112 {cc : ByteArray} {pc : Nat} (h : x_by cc pc = some 112) : decode cc pc = .ok (.irem, 1) := by
  have hu := x_u1 h
  have hi : (Jvm.ClassFile.Decoder.instr pc) cc pc = .ok (.irem, pc + 1) := by
    show Except.bind ((Jvm.ClassFile.Reader.u1 : Jvm.ClassFile.Decoder Nat) cc pc) _ = _
    rw [hu]
    rfl
  show Except.bind ((Jvm.ClassFile.Decoder.instr pc) cc pc) _ = _
  rw [hi]
  show Except.ok (_, pc + 1 - pc) = _
  rw [Nat.add_sub_cancel_left]
theorem x_d113 {cc : ByteArray} {pc : Nat} (h : x_by cc pc = some 113) : decode cc pc = .ok (.lrem, 1) := by
  have hu := x_u1 h
  have hi : (Jvm.ClassFile.Decoder.instr pc) cc pc = .ok (.lrem, pc + 1) := by
    show Except.bind ((Jvm.ClassFile.Reader.u1 : Jvm.ClassFile.Decoder Nat) cc pc) _ = _
    rw [hu]
    rfl
  show Except.bind ((Jvm.ClassFile.Decoder.instr pc) cc pc) _ = _
  rw [hi]
  show Except.ok (_, pc + 1 - pc) = _
  rw [Nat.add_sub_cancel_left]
theorem x_d116 {cc : ByteArray} {pc : Nat} (h : x_by cc pc = some 116) : decode cc pc = .ok (.ineg, 1) := by
  have hu := x_u1 h
  have hi : (Jvm.ClassFile.Decoder.instr pc) cc pc = .ok (.ineg, pc + 1) := by
    show Except.bind ((Jvm.ClassFile.Reader.u1 : Jvm.ClassFile.Decoder Nat) cc pc) _ = _
    rw [hu]
    rfl
  show Except.bind ((Jvm.ClassFile.Decoder.instr pc) cc pc) _ = _
  rw [hi]
  show Except.ok (_, pc + 1 - pc) = _
  rw [Nat.add_sub_cancel_left]
theorem x_d117 {cc : ByteArray} {pc : Nat} (h : x_by cc pc = some 117) : decode cc pc = .ok (.lneg, 1) := by
  have hu := x_u1 h
  have hi : (Jvm.ClassFile.Decoder.instr pc) cc pc = .ok (.lneg, pc + 1) := by
    show Except.bind ((Jvm.ClassFile.Reader.u1 : Jvm.ClassFile.Decoder Nat) cc pc) _ = _
    rw [hu]
    rfl
  show Except.bind ((Jvm.ClassFile.Decoder.instr pc) cc pc) _ = _
  rw [hi]
  show Except.ok (_, pc + 1 - pc) = _
  rw [Nat.add_sub_cancel_left]
theorem x_d120 {cc : ByteArray} {pc : Nat} (h : x_by cc pc = some 120) : decode cc pc = .ok (.ishl, 1) := by
  have hu := x_u1 h
  have hi : (Jvm.ClassFile.Decoder.instr pc) cc pc = .ok (.ishl, pc + 1) := by
    show Except.bind ((Jvm.ClassFile.Reader.u1 : Jvm.ClassFile.Decoder Nat) cc pc) _ = _
    rw [hu]
    rfl
  show Except.bind ((Jvm.ClassFile.Decoder.instr pc) cc pc) _ = _
  rw [hi]
  show Except.ok (_, pc + 1 - pc) = _
  rw [Nat.add_sub_cancel_left]
theorem x_d121 {cc : ByteArray} {pc : Nat} (h : x_by cc pc = some 121) : decode cc pc = .ok (.lshl, 1) := by
  have hu := x_u1 h
  have hi : (Jvm.ClassFile.Decoder.instr pc) cc pc = .ok (.lshl, pc + 1) := by
    show Except.bind ((Jvm.ClassFile.Reader.u1 : Jvm.ClassFile.Decoder Nat) cc pc) _ = _
    rw [hu]
    rfl
  show Except.bind ((Jvm.ClassFile.Decoder.instr pc) cc pc) _ = _
  rw [hi]
  show Except.ok (_, pc + 1 - pc) = _
  rw [Nat.add_sub_cancel_left]
theorem x_d122 {cc : ByteArray} {pc : Nat} (h : x_by cc pc = some 122) : decode cc pc = .ok (.ishr, 1) := by
  have hu := x_u1 h
  have hi : (Jvm.ClassFile.Decoder.instr pc) cc pc = .ok (.ishr, pc + 1) := by
    show Except.bind ((Jvm.ClassFile.Reader.u1 : Jvm.ClassFile.Decoder Nat) cc pc) _ = _
    rw [hu]
    rfl
  show Except.bind ((Jvm.ClassFile.Decoder.instr pc) cc pc) _ = _
  rw [hi]
  show Except.ok (_, pc + 1 - pc) = _
  rw [Nat.add_sub_cancel_left]
theorem x_d123 {cc : ByteArray} {pc : Nat} (h : x_by cc pc = some 123) : decode cc pc = .ok (.lshr, 1) := by
  have hu := x_u1 h
  have hi : (Jvm.ClassFile.Decoder.instr pc) cc pc = .ok (.lshr, pc + 1) := by
    show Except.bind ((Jvm.ClassFile.Reader.u1 : Jvm.ClassFile.Decoder Nat) cc pc) _ = _
    rw [hu]
    rfl
  show Except.bind ((Jvm.ClassFile.Decoder.instr pc) cc pc) _ = _
  rw [hi]
  show Except.ok (_, pc + 1 - pc) = _
  rw [Nat.add_sub_cancel_left]
theorem x_d124 {cc : ByteArray} {pc : Nat} (h : x_by cc pc = some 124) : decode cc pc = .ok (.iushr, 1) := by
  have hu := x_u1 h
  have hi : (Jvm.ClassFile.Decoder.instr pc) cc pc = .ok (.iushr, pc + 1) := by
    show Except.bind ((Jvm.ClassFile.Reader.u1 : Jvm.ClassFile.Decoder Nat) cc pc) _ = _
    rw [hu]
    rfl
  show Except.bind ((Jvm.ClassFile.Decoder.instr pc) cc pc) _ = _
  rw [hi]
  show Except.ok (_, pc + 1 - pc) = _
  rw [Nat.add_sub_cancel_left]
theorem x_d125 {cc : ByteArray} {pc : Nat} (h : x_by cc pc = some 125) : decode cc pc = .ok (.lushr, 1) := by
  have hu := x_u1 h
  have hi : (Jvm.ClassFile.Decoder.instr pc) cc pc = .ok (.lushr, pc + 1) := by
    show Except.bind ((Jvm.ClassFile.Reader.u1 : Jvm.ClassFile.Decoder Nat) cc pc) _ = _
    rw [hu]
    rfl
  show Except.bind ((Jvm.ClassFile.Decoder.instr pc) cc pc) _ = _
  rw [hi]
  show Except.ok (_, pc + 1 - pc) = _
  rw [Nat.add_sub_cancel_left]
theorem x_d126 {cc : ByteArray} {pc : Nat} (h : x_by cc pc = some 126) : decode cc pc = .ok (.iand, 1) := by
  have hu := x_u1 h
  have hi : (Jvm.ClassFile.Decoder.instr pc) cc pc = .ok (.iand, pc + 1) := by
    show Except.bind ((Jvm.ClassFile.Reader.u1 : Jvm.ClassFile.Decoder Nat) cc pc) _ = _
    rw [hu]
    rfl
  show Except.bind ((Jvm.ClassFile.Decoder.instr pc) cc pc) _ = _
  rw [hi]
  show Except.ok (_, pc + 1 - pc) = _
  rw [Nat.add_sub_cancel_left]
theorem x_d127 {cc : ByteArray} {pc : Nat} (h : x_by cc pc = some 127) : decode cc pc = .ok (.land, 1) := by
  have hu := x_u1 h
  have hi : (Jvm.ClassFile.Decoder.instr pc) cc pc = .ok (.land, pc + 1) := by
    show Except.bind ((Jvm.ClassFile.Reader.u1 : Jvm.ClassFile.Decoder Nat) cc pc) _ = _
    rw [hu]
    rfl
  show Except.bind ((Jvm.ClassFile.Decoder.instr pc) cc pc) _ = _
  rw [hi]
  show Except.ok (_, pc + 1 - pc) = _
  rw [Nat.add_sub_cancel_left]
theorem x_d128 {cc : ByteArray} {pc : Nat} (h : x_by cc pc = some 128) : decode cc pc = .ok (.ior, 1) := by
  have hu := x_u1 h
  have hi : (Jvm.ClassFile.Decoder.instr pc) cc pc = .ok (.ior, pc + 1) := by
    show Except.bind ((Jvm.ClassFile.Reader.u1 : Jvm.ClassFile.Decoder Nat) cc pc) _ = _
    rw [hu]
    rfl
  show Except.bind ((Jvm.ClassFile.Decoder.instr pc) cc pc) _ = _
  rw [hi]
  show Except.ok (_, pc + 1 - pc) = _
  rw [Nat.add_sub_cancel_left]
theorem x_d129 {cc : ByteArray} {pc : Nat} (h : x_by cc pc = some 129) : decode cc pc = .ok (.lor, 1) := by
  have hu := x_u1 h
  have hi : (Jvm.ClassFile.Decoder.instr pc) cc pc = .ok (.lor, pc + 1) := by
    show Except.bind ((Jvm.ClassFile.Reader.u1 : Jvm.ClassFile.Decoder Nat) cc pc) _ = _
    rw [hu]
    rfl
  show Except.bind ((Jvm.ClassFile.Decoder.instr pc) cc pc) _ = _
  rw [hi]
  show Except.ok (_, pc + 1 - pc) = _
  rw [Nat.add_sub_cancel_left]
theorem x_d130 {cc : ByteArray} {pc : Nat} (h : x_by cc pc = some 130) : decode cc pc = .ok (.ixor, 1) := by
  have hu := x_u1 h
  have hi : (Jvm.ClassFile.Decoder.instr pc) cc pc = .ok (.ixor, pc + 1) := by
    show Except.bind ((Jvm.ClassFile.Reader.u1 : Jvm.ClassFile.Decoder Nat) cc pc) _ = _
    rw [hu]
    rfl
  show Except.bind ((Jvm.ClassFile.Decoder.instr pc) cc pc) _ = _
  rw [hi]
  show Except.ok (_, pc + 1 - pc) = _
  rw [Nat.add_sub_cancel_left]
theorem x_d131 {cc : ByteArray} {pc : Nat} (h : x_by cc pc = some 131) : decode cc pc = .ok (.lxor, 1) := by
  have hu := x_u1 h
  have hi : (Jvm.ClassFile.Decoder.instr pc) cc pc = .ok (.lxor, pc + 1) := by
    show Except.bind ((Jvm.ClassFile.Reader.u1 : Jvm.ClassFile.Decoder Nat) cc pc) _ = _
    rw [hu]
    rfl
  show Except.bind ((Jvm.ClassFile.Decoder.instr pc) cc pc) _ = _
  rw [hi]
  show Except.ok (_, pc + 1 - pc) = _
  rw [Nat.add_sub_cancel_left]
theorem x_d132 {cc : ByteArray} {pc b1 b2 : Nat} (h : x_by cc pc = some 132) (h1 : x_by cc (pc + 1) = some b1) (h2 : x_by cc (pc + 1 + 1) = some b2) : decode cc pc = .ok (.iinc b1 (Jvm.ClassFile.Reader.signed 8 b2), 3) := by
  have hu := x_u1 h
  have hu1 := x_u1 h1
  have hu2 := x_u1 h2
  have hi : (Jvm.ClassFile.Decoder.instr pc) cc pc = .ok (.iinc b1 (Jvm.ClassFile.Reader.signed 8 b2), pc + 3) := by
    show Except.bind ((Jvm.ClassFile.Reader.u1 : Jvm.ClassFile.Decoder Nat) cc pc) _ = _
    rw [hu]
    show Except.bind ((Jvm.ClassFile.Reader.u1 : Jvm.ClassFile.Decoder Nat) cc (pc + 1)) _ = _
    rw [hu1]
    show Except.bind (Except.bind ((Jvm.ClassFile.Reader.u1 : Jvm.ClassFile.Decoder Nat) cc (pc + 1 + 1)) _) _ = _
    rw [hu2]
    rfl
  show Except.bind ((Jvm.ClassFile.Decoder.instr pc) cc pc) _ = _
  rw [hi]
  show Except.ok (_, pc + 3 - pc) = _
  rw [Nat.add_sub_cancel_left]
theorem x_d133 {cc : ByteArray} {pc : Nat} (h : x_by cc pc = some 133) : decode cc pc = .ok (.i2l, 1) := by
  have hu := x_u1 h
  have hi : (Jvm.ClassFile.Decoder.instr pc) cc pc = .ok (.i2l, pc + 1) := by
    show Except.bind ((Jvm.ClassFile.Reader.u1 : Jvm.ClassFile.Decoder Nat) cc pc) _ = _
    rw [hu]
    rfl
  show Except.bind ((Jvm.ClassFile.Decoder.instr pc) cc pc) _ = _
  rw [hi]
  show Except.ok (_, pc + 1 - pc) = _
  rw [Nat.add_sub_cancel_left]
theorem x_d136 {cc : ByteArray} {pc : Nat} (h : x_by cc pc = some 136) : decode cc pc = .ok (.l2i, 1) := by
  have hu := x_u1 h
  have hi : (Jvm.ClassFile.Decoder.instr pc) cc pc = .ok (.l2i, pc + 1) := by
    show Except.bind ((Jvm.ClassFile.Reader.u1 : Jvm.ClassFile.Decoder Nat) cc pc) _ = _
    rw [hu]
    rfl
  show Except.bind ((Jvm.ClassFile.Decoder.instr pc) cc pc) _ = _
  rw [hi]
  show Except.ok (_, pc + 1 - pc) = _
  rw [Nat.add_sub_cancel_left]
theorem x_d146 {cc : ByteArray} {pc : Nat} (h : x_by cc pc = some 146) : decode cc pc = .ok (.i2c, 1) := by
  have hu := x_u1 h
  have hi : (Jvm.ClassFile.Decoder.instr pc) cc pc = .ok (.i2c, pc + 1) := by
    show Except.bind ((Jvm.ClassFile.Reader.u1 : Jvm.ClassFile.Decoder Nat) cc pc) _ = _
    rw [hu]
    rfl
  show Except.bind ((Jvm.ClassFile.Decoder.instr pc) cc pc) _ = _
  rw [hi]
  show Except.ok (_, pc + 1 - pc) = _
  rw [Nat.add_sub_cancel_left]
theorem x_d148 {cc : ByteArray} {pc : Nat} (h : x_by cc pc = some 148) : decode cc pc = .ok (.lcmp, 1) := by
  have hu := x_u1 h
  have hi : (Jvm.ClassFile.Decoder.instr pc) cc pc = .ok (.lcmp, pc + 1) := by
    show Except.bind ((Jvm.ClassFile.Reader.u1 : Jvm.ClassFile.Decoder Nat) cc pc) _ = _
    rw [hu]
    rfl
  show Except.bind ((Jvm.ClassFile.Decoder.instr pc) cc pc) _ = _
  rw [hi]
  show Except.ok (_, pc + 1 - pc) = _
  rw [Nat.add_sub_cancel_left]
theorem x_d153 {cc : ByteArray} {pc b1 b2 : Nat} (h : x_by cc pc = some 153) (h1 : x_by cc (pc + 1) = some b1) (h2 : x_by cc (pc + 1 + 1) = some b2) : decode cc pc = .ok (.ifCond .eq (Jvm.ClassFile.Reader.signed 16 (b1 * 256 + b2)), 3) := by
  have hu := x_u1 h
  have hu1 := x_u1 h1
  have hu2 := x_u1 h2
  have hi : (Jvm.ClassFile.Decoder.instr pc) cc pc = .ok (.ifCond .eq (Jvm.ClassFile.Reader.signed 16 (b1 * 256 + b2)), pc + 3) := by
    show Except.bind ((Jvm.ClassFile.Reader.u1 : Jvm.ClassFile.Decoder Nat) cc pc) _ = _
    rw [hu]
    show Except.bind (Except.bind (Except.bind ((Jvm.ClassFile.Reader.u1 : Jvm.ClassFile.Decoder Nat) cc (pc + 1)) _) _) _ = _
    rw [hu1]
    show Except.bind (Except.bind (Except.bind ((Jvm.ClassFile.Reader.u1 : Jvm.ClassFile.Decoder Nat) cc (pc + 1 + 1)) _) _) _ = _
    rw [hu2]
    rfl
  show Except.bind ((Jvm.ClassFile.Decoder.instr pc) cc pc) _ = _
  rw [hi]
  show Except.ok (_, pc + 3 - pc) = _
  rw [Nat.add_sub_cancel_left]
theorem x_d154 {cc : ByteArray} {pc b1 b2 : Nat} (h : x_by cc pc = some 154) (h1 : x_by cc (pc + 1) = some b1) (h2 : x_by cc (pc + 1 + 1) = some b2) : decode cc pc = .ok (.ifCond .ne (Jvm.ClassFile.Reader.signed 16 (b1 * 256 + b2)), 3) := by
  have hu := x_u1 h
  have hu1 := x_u1 h1
  have hu2 := x_u1 h2
  have hi : (Jvm.ClassFile.Decoder.instr pc) cc pc = .ok (.ifCond .ne (Jvm.ClassFile.Reader.signed 16 (b1 * 256 + b2)), pc + 3) := by
    show Except.bind ((Jvm.ClassFile.Reader.u1 : Jvm.ClassFile.Decoder Nat) cc pc) _ = _
    rw [hu]
    show Except.bind (Except.bind (Except.bind ((Jvm.ClassFile.Reader.u1 : Jvm.ClassFile.Decoder Nat) cc (pc + 1)) _) _) _ = _
    rw [hu1]
    show Except.bind (Except.bind (Except.bind ((Jvm.ClassFile.Reader.u1 : Jvm.ClassFile.Decoder Nat) cc (pc + 1 + 1)) _) _) _ = _
    rw [hu2]
    rfl
  show Except.bind ((Jvm.ClassFile.Decoder.instr pc) cc pc) _ = _
  rw [hi]
  show Except.ok (_, pc + 3 - pc) = _
  rw [Nat.add_sub_cancel_left]
theorem x_d155 {cc : ByteArray} {pc b1 b2 : Nat} (h : x_by cc pc = some 155) (h1 : x_by cc (pc + 1) = some b1) (h2 : x_by cc (pc + 1 + 1) = some b2) : decode cc pc = .ok (.ifCond .lt (Jvm.ClassFile.Reader.signed 16 (b1 * 256 + b2)), 3) := by
  have hu := x_u1 h
  have hu1 := x_u1 h1
  have hu2 := x_u1 h2
  have hi : (Jvm.ClassFile.Decoder.instr pc) cc pc = .ok (.ifCond .lt (Jvm.ClassFile.Reader.signed 16 (b1 * 256 + b2)), pc + 3) := by
    show Except.bind ((Jvm.ClassFile.Reader.u1 : Jvm.ClassFile.Decoder Nat) cc pc) _ = _
    rw [hu]
    show Except.bind (Except.bind (Except.bind ((Jvm.ClassFile.Reader.u1 : Jvm.ClassFile.Decoder Nat) cc (pc + 1)) _) _) _ = _
    rw [hu1]
    show Except.bind (Except.bind (Except.bind ((Jvm.ClassFile.Reader.u1 : Jvm.ClassFile.Decoder Nat) cc (pc + 1 + 1)) _) _) _ = _
    rw [hu2]
    rfl
  show Except.bind ((Jvm.ClassFile.Decoder.instr pc) cc pc) _ = _
  rw [hi]
  show Except.ok (_, pc + 3 - pc) = _
  rw [Nat.add_sub_cancel_left]
theorem x_d156 {cc : ByteArray} {pc b1 b2 : Nat} (h : x_by cc pc = some 156) (h1 : x_by cc (pc + 1) = some b1) (h2 : x_by cc (pc + 1 + 1) = some b2) : decode cc pc = .ok (.ifCond .ge (Jvm.ClassFile.Reader.signed 16 (b1 * 256 + b2)), 3) := by
  have hu := x_u1 h
  have hu1 := x_u1 h1
  have hu2 := x_u1 h2
  have hi : (Jvm.ClassFile.Decoder.instr pc) cc pc = .ok (.ifCond .ge (Jvm.ClassFile.Reader.signed 16 (b1 * 256 + b2)), pc + 3) := by
    show Except.bind ((Jvm.ClassFile.Reader.u1 : Jvm.ClassFile.Decoder Nat) cc pc) _ = _
    rw [hu]
    show Except.bind (Except.bind (Except.bind ((Jvm.ClassFile.Reader.u1 : Jvm.ClassFile.Decoder Nat) cc (pc + 1)) _) _) _ = _
    rw [hu1]
    show Except.bind (Except.bind (Except.bind ((Jvm.ClassFile.Reader.u1 : Jvm.ClassFile.Decoder Nat) cc (pc + 1 + 1)) _) _) _ = _
    rw [hu2]
    rfl
  show Except.bind ((Jvm.ClassFile.Decoder.instr pc) cc pc) _ = _
  rw [hi]
  show Except.ok (_, pc + 3 - pc) = _
  rw [Nat.add_sub_cancel_left]
theorem x_d157 {cc : ByteArray} {pc b1 b2 : Nat} (h : x_by cc pc = some 157) (h1 : x_by cc (pc + 1) = some b1) (h2 : x_by cc (pc + 1 + 1) = some b2) : decode cc pc = .ok (.ifCond .gt (Jvm.ClassFile.Reader.signed 16 (b1 * 256 + b2)), 3) := by
  have hu := x_u1 h
  have hu1 := x_u1 h1
  have hu2 := x_u1 h2
  have hi : (Jvm.ClassFile.Decoder.instr pc) cc pc = .ok (.ifCond .gt (Jvm.ClassFile.Reader.signed 16 (b1 * 256 + b2)), pc + 3) := by
    show Except.bind ((Jvm.ClassFile.Reader.u1 : Jvm.ClassFile.Decoder Nat) cc pc) _ = _
    rw [hu]
    show Except.bind (Except.bind (Except.bind ((Jvm.ClassFile.Reader.u1 : Jvm.ClassFile.Decoder Nat) cc (pc + 1)) _) _) _ = _
    rw [hu1]
    show Except.bind (Except.bind (Except.bind ((Jvm.ClassFile.Reader.u1 : Jvm.ClassFile.Decoder Nat) cc (pc + 1 + 1)) _) _) _ = _
    rw [hu2]
    rfl
  show Except.bind ((Jvm.ClassFile.Decoder.instr pc) cc pc) _ = _
  rw [hi]
  show Except.ok (_, pc + 3 - pc) = _
  rw [Nat.add_sub_cancel_left]
theorem x_d158 {cc : ByteArray} {pc b1 b2 : Nat} (h : x_by cc pc = some 158) (h1 : x_by cc (pc + 1) = some b1) (h2 : x_by cc (pc + 1 + 1) = some b2) : decode cc pc = .ok (.ifCond .le (Jvm.ClassFile.Reader.signed 16 (b1 * 256 + b2)), 3) := by
  have hu := x_u1 h
  have hu1 := x_u1 h1
  have hu2 := x_u1 h2
  have hi : (Jvm.ClassFile.Decoder.instr pc) cc pc = .ok (.ifCond .le (Jvm.ClassFile.Reader.signed 16 (b1 * 256 + b2)), pc + 3) := by
    show Except.bind ((Jvm.ClassFile.Reader.u1 : Jvm.ClassFile.Decoder Nat) cc pc) _ = _
    rw [hu]
    show Except.bind (Except.bind (Except.bind ((Jvm.ClassFile.Reader.u1 : Jvm.ClassFile.Decoder Nat) cc (pc + 1)) _) _) _ = _
    rw [hu1]
    show Except.bind (Except.bind (Except.bind ((Jvm.ClassFile.Reader.u1 : Jvm.ClassFile.Decoder Nat) cc (pc + 1 + 1)) _) _) _ = _
    rw [hu2]
    rfl
  show Except.bind ((Jvm.ClassFile.Decoder.instr pc) cc pc) _ = _
  rw [hi]
  show Except.ok (_, pc + 3 - pc) = _
  rw [Nat.add_sub_cancel_left]
theorem x_d159 {cc : ByteArray} {pc b1 b2 : Nat} (h : x_by cc pc = some 159) (h1 : x_by cc (pc + 1) = some b1) (h2 : x_by cc (pc + 1 + 1) = some b2) : decode cc pc = .ok (.if_icmp .eq (Jvm.ClassFile.Reader.signed 16 (b1 * 256 + b2)), 3) := by
  have hu := x_u1 h
  have hu1 := x_u1 h1
  have hu2 := x_u1 h2
  have hi : (Jvm.ClassFile.Decoder.instr pc) cc pc = .ok (.if_icmp .eq (Jvm.ClassFile.Reader.signed 16 (b1 * 256 + b2)), pc + 3) := by
    show Except.bind ((Jvm.ClassFile.Reader.u1 : Jvm.ClassFile.Decoder Nat) cc pc) _ = _
    rw [hu]
    show Except.bind (Except.bind (Except.bind ((Jvm.ClassFile.Reader.u1 : Jvm.ClassFile.Decoder Nat) cc (pc + 1)) _) _) _ = _
    rw [hu1]
    show Except.bind (Except.bind (Except.bind ((Jvm.ClassFile.Reader.u1 : Jvm.ClassFile.Decoder Nat) cc (pc + 1 + 1)) _) _) _ = _
    rw [hu2]
    rfl
  show Except.bind ((Jvm.ClassFile.Decoder.instr pc) cc pc) _ = _
  rw [hi]
  show Except.ok (_, pc + 3 - pc) = _
  rw [Nat.add_sub_cancel_left]
theorem x_d160 {cc : ByteArray} {pc b1 b2 : Nat} (h : x_by cc pc = some 160) (h1 : x_by cc (pc + 1) = some b1) (h2 : x_by cc (pc + 1 + 1) = some b2) : decode cc pc = .ok (.if_icmp .ne (Jvm.ClassFile.Reader.signed 16 (b1 * 256 + b2)), 3) := by
  have hu := x_u1 h
  have hu1 := x_u1 h1
  have hu2 := x_u1 h2
  have hi : (Jvm.ClassFile.Decoder.instr pc) cc pc = .ok (.if_icmp .ne (Jvm.ClassFile.Reader.signed 16 (b1 * 256 + b2)), pc + 3) := by
    show Except.bind ((Jvm.ClassFile.Reader.u1 : Jvm.ClassFile.Decoder Nat) cc pc) _ = _
    rw [hu]
    show Except.bind (Except.bind (Except.bind ((Jvm.ClassFile.Reader.u1 : Jvm.ClassFile.Decoder Nat) cc (pc + 1)) _) _) _ = _
    rw [hu1]
    show Except.bind (Except.bind (Except.bind ((Jvm.ClassFile.Reader.u1 : Jvm.ClassFile.Decoder Nat) cc (pc + 1 + 1)) _) _) _ = _
    rw [hu2]
    rfl
  show Except.bind ((Jvm.ClassFile.Decoder.instr pc) cc pc) _ = _
  rw [hi]
  show Except.ok (_, pc + 3 - pc) = _
  rw [Nat.add_sub_cancel_left]
theorem x_d161 {cc : ByteArray} {pc b1 b2 : Nat} (h : x_by cc pc = some 161) (h1 : x_by cc (pc + 1) = some b1) (h2 : x_by cc (pc + 1 + 1) = some b2) : decode cc pc = .ok (.if_icmp .lt (Jvm.ClassFile.Reader.signed 16 (b1 * 256 + b2)), 3) := by
  have hu := x_u1 h
  have hu1 := x_u1 h1
  have hu2 := x_u1 h2
  have hi : (Jvm.ClassFile.Decoder.instr pc) cc pc = .ok (.if_icmp .lt (Jvm.ClassFile.Reader.signed 16 (b1 * 256 + b2)), pc + 3) := by
    show Except.bind ((Jvm.ClassFile.Reader.u1 : Jvm.ClassFile.Decoder Nat) cc pc) _ = _
    rw [hu]
    show Except.bind (Except.bind (Except.bind ((Jvm.ClassFile.Reader.u1 : Jvm.ClassFile.Decoder Nat) cc (pc + 1)) _) _) _ = _
    rw [hu1]
    show Except.bind (Except.bind (Except.bind ((Jvm.ClassFile.Reader.u1 : Jvm.ClassFile.Decoder Nat) cc (pc + 1 + 1)) _) _) _ = _
    rw [hu2]
    rfl
  show Except.bind ((Jvm.ClassFile.Decoder.instr pc) cc pc) _ = _
  rw [hi]
  show Except.ok (_, pc + 3 - pc) = _
  rw [Nat.add_sub_cancel_left]
theorem x_d162 {cc : ByteArray} {pc b1 b2 : Nat} (h : x_by cc pc = some 162) (h1 : x_by cc (pc + 1) = some b1) (h2 : x_by cc (pc + 1 + 1) = some b2) : decode cc pc = .ok (.if_icmp .ge (Jvm.ClassFile.Reader.signed 16 (b1 * 256 + b2)), 3) := by
  have hu := x_u1 h
  have hu1 := x_u1 h1
  have hu2 := x_u1 h2
  have hi : (Jvm.ClassFile.Decoder.instr pc) cc pc = .ok (.if_icmp .ge (Jvm.ClassFile.Reader.signed 16 (b1 * 256 + b2)), pc + 3) := by
    show Except.bind ((Jvm.ClassFile.Reader.u1 : Jvm.ClassFile.Decoder Nat) cc pc) _ = _
    rw [hu]
    show Except.bind (Except.bind (Except.bind ((Jvm.ClassFile.Reader.u1 : Jvm.ClassFile.Decoder Nat) cc (pc + 1)) _) _) _ = _
    rw [hu1]
    show Except.bind (Except.bind (Except.bind ((Jvm.ClassFile.Reader.u1 : Jvm.ClassFile.Decoder Nat) cc (pc + 1 + 1)) _) _) _ = _
    rw [hu2]
    rfl
  show Except.bind ((Jvm.ClassFile.Decoder.instr pc) cc pc) _ = _
  rw [hi]
  show Except.ok (_, pc + 3 - pc) = _
  rw [Nat.add_sub_cancel_left]
theorem x_d163 {cc : ByteArray} {pc b1 b2 : Nat} (h : x_by cc pc = some 163) (h1 : x_by cc (pc + 1) = some b1) (h2 : x_by cc (pc + 1 + 1) = some b2) : decode cc pc = .ok (.if_icmp .gt (Jvm.ClassFile.Reader.signed 16 (b1 * 256 + b2)), 3) := by
  have hu := x_u1 h
  have hu1 := x_u1 h1
  have hu2 := x_u1 h2
  have hi : (Jvm.ClassFile.Decoder.instr pc) cc pc = .ok (.if_icmp .gt (Jvm.ClassFile.Reader.signed 16 (b1 * 256 + b2)), pc + 3) := by
    show Except.bind ((Jvm.ClassFile.Reader.u1 : Jvm.ClassFile.Decoder Nat) cc pc) _ = _
    rw [hu]
    show Except.bind (Except.bind (Except.bind ((Jvm.ClassFile.Reader.u1 : Jvm.ClassFile.Decoder Nat) cc (pc + 1)) _) _) _ = _
    rw [hu1]
    show Except.bind (Except.bind (Except.bind ((Jvm.ClassFile.Reader.u1 : Jvm.ClassFile.Decoder Nat) cc (pc + 1 + 1)) _) _) _ = _
    rw [hu2]
    rfl
  show Except.bind ((Jvm.ClassFile.Decoder.instr pc) cc pc) _ = _
  rw [hi]
  show Except.ok (_, pc + 3 - pc) = _
  rw [Nat.add_sub_cancel_left]
theorem x_d164 {cc : ByteArray} {pc b1 b2 : Nat} (h : x_by cc pc = some 164) (h1 : x_by cc (pc + 1) = some b1) (h2 : x_by cc (pc + 1 + 1) = some b2) : decode cc pc = .ok (.if_icmp .le (Jvm.ClassFile.Reader.signed 16 (b1 * 256 + b2)), 3) := by
  have hu := x_u1 h
  have hu1 := x_u1 h1
  have hu2 := x_u1 h2
  have hi : (Jvm.ClassFile.Decoder.instr pc) cc pc = .ok (.if_icmp .le (Jvm.ClassFile.Reader.signed 16 (b1 * 256 + b2)), pc + 3) := by
    show Except.bind ((Jvm.ClassFile.Reader.u1 : Jvm.ClassFile.Decoder Nat) cc pc) _ = _
    rw [hu]
    show Except.bind (Except.bind (Except.bind ((Jvm.ClassFile.Reader.u1 : Jvm.ClassFile.Decoder Nat) cc (pc + 1)) _) _) _ = _
    rw [hu1]
    show Except.bind (Except.bind (Except.bind ((Jvm.ClassFile.Reader.u1 : Jvm.ClassFile.Decoder Nat) cc (pc + 1 + 1)) _) _) _ = _
    rw [hu2]
    rfl
  show Except.bind ((Jvm.ClassFile.Decoder.instr pc) cc pc) _ = _
  rw [hi]
  show Except.ok (_, pc + 3 - pc) = _
  rw [Nat.add_sub_cancel_left]
theorem x_d167 {cc : ByteArray} {pc b1 b2 : Nat} (h : x_by cc pc = some 167) (h1 : x_by cc (pc + 1) = some b1) (h2 : x_by cc (pc + 1 + 1) = some b2) : decode cc pc = .ok (.goto  (Jvm.ClassFile.Reader.signed 16 (b1 * 256 + b2)), 3) := by
  have hu := x_u1 h
  have hu1 := x_u1 h1
  have hu2 := x_u1 h2
  have hi : (Jvm.ClassFile.Decoder.instr pc) cc pc = .ok (.goto  (Jvm.ClassFile.Reader.signed 16 (b1 * 256 + b2)), pc + 3) := by
    show Except.bind ((Jvm.ClassFile.Reader.u1 : Jvm.ClassFile.Decoder Nat) cc pc) _ = _
    rw [hu]
    show Except.bind (Except.bind (Except.bind ((Jvm.ClassFile.Reader.u1 : Jvm.ClassFile.Decoder Nat) cc (pc + 1)) _) _) _ = _
    rw [hu1]
    show Except.bind (Except.bind (Except.bind ((Jvm.ClassFile.Reader.u1 : Jvm.ClassFile.Decoder Nat) cc (pc + 1 + 1)) _) _) _ = _
    rw [hu2]
    rfl
  show Except.bind ((Jvm.ClassFile.Decoder.instr pc) cc pc) _ = _
  rw [hi]
  show Except.ok (_, pc + 3 - pc) = _
  rw [Nat.add_sub_cancel_left]
theorem x_d172 {cc : ByteArray} {pc : Nat} (h : x_by cc pc = some 172) : decode cc pc = .ok (.ireturn, 1) := by
  have hu := x_u1 h
  have hi : (Jvm.ClassFile.Decoder.instr pc) cc pc = .ok (.ireturn, pc + 1) := by
    show Except.bind ((Jvm.ClassFile.Reader.u1 : Jvm.ClassFile.Decoder Nat) cc pc) _ = _
    rw [hu]
    rfl
  show Except.bind ((Jvm.ClassFile.Decoder.instr pc) cc pc) _ = _
  rw [hi]
  show Except.ok (_, pc + 1 - pc) = _
  rw [Nat.add_sub_cancel_left]
theorem x_d173 {cc : ByteArray} {pc : Nat} (h : x_by cc pc = some 173) : decode cc pc = .ok (.lreturn, 1) := by
  have hu := x_u1 h
  have hi : (Jvm.ClassFile.Decoder.instr pc) cc pc = .ok (.lreturn, pc + 1) := by
    show Except.bind ((Jvm.ClassFile.Reader.u1 : Jvm.ClassFile.Decoder Nat) cc pc) _ = _
    rw [hu]
    rfl
  show Except.bind ((Jvm.ClassFile.Decoder.instr pc) cc pc) _ = _
  rw [hi]
  show Except.ok (_, pc + 1 - pc) = _
  rw [Nat.add_sub_cancel_left]
theorem x_d176 {cc : ByteArray} {pc : Nat} (h : x_by cc pc = some 176) : decode cc pc = .ok (.areturn, 1) := by
  have hu := x_u1 h
  have hi : (Jvm.ClassFile.Decoder.instr pc) cc pc = .ok (.areturn, pc + 1) := by
    show Except.bind ((Jvm.ClassFile.Reader.u1 : Jvm.ClassFile.Decoder Nat) cc pc) _ = _
    rw [hu]
    rfl
  show Except.bind ((Jvm.ClassFile.Decoder.instr pc) cc pc) _ = _
  rw [hi]
  show Except.ok (_, pc + 1 - pc) = _
  rw [Nat.add_sub_cancel_left]
theorem x_d177 {cc : ByteArray} {pc : Nat} (h : x_by cc pc = some 177) : decode cc pc = .ok (.return_, 1) := by
  have hu := x_u1 h
  have hi : (Jvm.ClassFile.Decoder.instr pc) cc pc = .ok (.return_, pc + 1) := by
    show Except.bind ((Jvm.ClassFile.Reader.u1 : Jvm.ClassFile.Decoder Nat) cc pc) _ = _
    rw [hu]
    rfl
  show Except.bind ((Jvm.ClassFile.Decoder.instr pc) cc pc) _ = _
  rw [hi]
  show Except.ok (_, pc + 1 - pc) = _
  rw [Nat.add_sub_cancel_left]
theorem x_d180 {cc : ByteArray} {pc b1 b2 : Nat} (h : x_by cc pc = some 180) (h1 : x_by cc (pc + 1) = some b1) (h2 : x_by cc (pc + 1 + 1) = some b2) : decode cc pc = .ok (.getfield  (b1 * 256 + b2), 3) := by
  have hu := x_u1 h
  have hu1 := x_u1 h1
  have hu2 := x_u1 h2
  have hi : (Jvm.ClassFile.Decoder.instr pc) cc pc = .ok (.getfield  (b1 * 256 + b2), pc + 3) := by
    show Except.bind ((Jvm.ClassFile.Reader.u1 : Jvm.ClassFile.Decoder Nat) cc pc) _ = _
    rw [hu]
    show Except.bind (Except.bind ((Jvm.ClassFile.Reader.u1 : Jvm.ClassFile.Decoder Nat) cc (pc + 1)) _) _ = _
    rw [hu1]
    show Except.bind (Except.bind ((Jvm.ClassFile.Reader.u1 : Jvm.ClassFile.Decoder Nat) cc (pc + 1 + 1)) _) _ = _
    rw [hu2]
    rfl
  show Except.bind ((Jvm.ClassFile.Decoder.instr pc) cc pc) _ = _
  rw [hi]
  show Except.ok (_, pc + 3 - pc) = _
  rw [Nat.add_sub_cancel_left]
theorem x_d181 {cc : ByteArray} {pc b1 b2 : Nat} (h : x_by cc pc = some 181) (h1 : x_by cc (pc + 1) = some b1) (h2 : x_by cc (pc + 1 + 1) = some b2) : decode cc pc = .ok (.putfield  (b1 * 256 + b2), 3) := by
  have hu := x_u1 h
  have hu1 := x_u1 h1
  have hu2 := x_u1 h2
  have hi : (Jvm.ClassFile.Decoder.instr pc) cc pc = .ok (.putfield  (b1 * 256 + b2), pc + 3) := by
    show Except.bind ((Jvm.ClassFile.Reader.u1 : Jvm.ClassFile.Decoder Nat) cc pc) _ = _
    rw [hu]
    show Except.bind (Except.bind ((Jvm.ClassFile.Reader.u1 : Jvm.ClassFile.Decoder Nat) cc (pc + 1)) _) _ = _
    rw [hu1]
    show Except.bind (Except.bind ((Jvm.ClassFile.Reader.u1 : Jvm.ClassFile.Decoder Nat) cc (pc + 1 + 1)) _) _ = _
    rw [hu2]
    rfl
  show Except.bind ((Jvm.ClassFile.Decoder.instr pc) cc pc) _ = _
  rw [hi]
  show Except.ok (_, pc + 3 - pc) = _
  rw [Nat.add_sub_cancel_left]
theorem x_d182 {cc : ByteArray} {pc b1 b2 : Nat} (h : x_by cc pc = some 182) (h1 : x_by cc (pc + 1) = some b1) (h2 : x_by cc (pc + 1 + 1) = some b2) : decode cc pc = .ok (.invokevirtual  (b1 * 256 + b2), 3) := by
  have hu := x_u1 h
  have hu1 := x_u1 h1
  have hu2 := x_u1 h2
  have hi : (Jvm.ClassFile.Decoder.instr pc) cc pc = .ok (.invokevirtual  (b1 * 256 + b2), pc + 3) := by
    show Except.bind ((Jvm.ClassFile.Reader.u1 : Jvm.ClassFile.Decoder Nat) cc pc) _ = _
    rw [hu]
    show Except.bind (Except.bind ((Jvm.ClassFile.Reader.u1 : Jvm.ClassFile.Decoder Nat) cc (pc + 1)) _) _ = _
    rw [hu1]
    show Except.bind (Except.bind ((Jvm.ClassFile.Reader.u1 : Jvm.ClassFile.Decoder Nat) cc (pc + 1 + 1)) _) _ = _
    rw [hu2]
    rfl
  show Except.bind ((Jvm.ClassFile.Decoder.instr pc) cc pc) _ = _
  rw [hi]
  show Except.ok (_, pc + 3 - pc) = _
  rw [Nat.add_sub_cancel_left]
theorem x_d183 {cc : ByteArray} {pc b1 b2 : Nat} (h : x_by cc pc = some 183) (h1 : x_by cc (pc + 1) = some b1) (h2 : x_by cc (pc + 1 + 1) = some b2) : decode cc pc = .ok (.invokespecial  (b1 * 256 + b2), 3) := by
  have hu := x_u1 h
  have hu1 := x_u1 h1
  have hu2 := x_u1 h2
  have hi : (Jvm.ClassFile.Decoder.instr pc) cc pc = .ok (.invokespecial  (b1 * 256 + b2), pc + 3) := by
    show Except.bind ((Jvm.ClassFile.Reader.u1 : Jvm.ClassFile.Decoder Nat) cc pc) _ = _
    rw [hu]
    show Except.bind (Except.bind ((Jvm.ClassFile.Reader.u1 : Jvm.ClassFile.Decoder Nat) cc (pc + 1)) _) _ = _
    rw [hu1]
    show Except.bind (Except.bind ((Jvm.ClassFile.Reader.u1 : Jvm.ClassFile.Decoder Nat) cc (pc + 1 + 1)) _) _ = _
    rw [hu2]
    rfl
  show Except.bind ((Jvm.ClassFile.Decoder.instr pc) cc pc) _ = _
  rw [hi]
  show Except.ok (_, pc + 3 - pc) = _
  rw [Nat.add_sub_cancel_left]
theorem x_d184 {cc : ByteArray} {pc b1 b2 : Nat} (h : x_by cc pc = some 184) (h1 : x_by cc (pc + 1) = some b1) (h2 : x_by cc (pc + 1 + 1) = some b2) : decode cc pc = .ok (.invokestatic  (b1 * 256 + b2), 3) := by
  have hu := x_u1 h
  have hu1 := x_u1 h1
  have hu2 := x_u1 h2
  have hi : (Jvm.ClassFile.Decoder.instr pc) cc pc = .ok (.invokestatic  (b1 * 256 + b2), pc + 3) := by
    show Except.bind ((Jvm.ClassFile.Reader.u1 : Jvm.ClassFile.Decoder Nat) cc pc) _ = _
    rw [hu]
    show Except.bind (Except.bind ((Jvm.ClassFile.Reader.u1 : Jvm.ClassFile.Decoder Nat) cc (pc + 1)) _) _ = _
    rw [hu1]
    show Except.bind (Except.bind ((Jvm.ClassFile.Reader.u1 : Jvm.ClassFile.Decoder Nat) cc (pc + 1 + 1)) _) _ = _
    rw [hu2]
    rfl
  show Except.bind ((Jvm.ClassFile.Decoder.instr pc) cc pc) _ = _
  rw [hi]
  show Except.ok (_, pc + 3 - pc) = _
  rw [Nat.add_sub_cancel_left]
theorem x_d187 {cc : ByteArray} {pc b1 b2 : Nat} (h : x_by cc pc = some 187) (h1 : x_by cc (pc + 1) = some b1) (h2 : x_by cc (pc + 1 + 1) = some b2) : decode cc pc = .ok (.new  (b1 * 256 + b2), 3) := by
  have hu := x_u1 h
  have hu1 := x_u1 h1
  have hu2 := x_u1 h2
  have hi : (Jvm.ClassFile.Decoder.instr pc) cc pc = .ok (.new  (b1 * 256 + b2), pc + 3) := by
    show Except.bind ((Jvm.ClassFile.Reader.u1 : Jvm.ClassFile.Decoder Nat) cc pc) _ = _
    rw [hu]
    show Except.bind (Except.bind ((Jvm.ClassFile.Reader.u1 : Jvm.ClassFile.Decoder Nat) cc (pc + 1)) _) _ = _
    rw [hu1]
    show Except.bind (Except.bind ((Jvm.ClassFile.Reader.u1 : Jvm.ClassFile.Decoder Nat) cc (pc + 1 + 1)) _) _ = _
    rw [hu2]
    rfl
  show Except.bind ((Jvm.ClassFile.Decoder.instr pc) cc pc) _ = _
  rw [hi]
  show Except.ok (_, pc + 3 - pc) = _
  rw [Nat.add_sub_cancel_left]
theorem x_d192 {cc : ByteArray} {pc b1 b2 : Nat} (h : x_by cc pc = some 192) (h1 : x_by cc (pc + 1) = some b1) (h2 : x_by cc (pc + 1 + 1) = some b2) : decode cc pc = .ok (.checkcast  (b1 * 256 + b2), 3) := by
  have hu := x_u1 h
  have hu1 := x_u1 h1
  have hu2 := x_u1 h2
  have hi : (Jvm.ClassFile.Decoder.instr pc) cc pc = .ok (.checkcast  (b1 * 256 + b2), pc + 3) := by
    show Except.bind ((Jvm.ClassFile.Reader.u1 : Jvm.ClassFile.Decoder Nat) cc pc) _ = _
    rw [hu]
    show Except.bind (Except.bind ((Jvm.ClassFile.Reader.u1 : Jvm.ClassFile.Decoder Nat) cc (pc + 1)) _) _ = _
    rw [hu1]
    show Except.bind (Except.bind ((Jvm.ClassFile.Reader.u1 : Jvm.ClassFile.Decoder Nat) cc (pc + 1 + 1)) _) _ = _
    rw [hu2]
    rfl
  show Except.bind ((Jvm.ClassFile.Decoder.instr pc) cc pc) _ = _
  rw [hi]
  show Except.ok (_, pc + 3 - pc) = _
  rw [Nat.add_sub_cancel_left]
theorem x_d189 {cc : ByteArray} {pc b1 b2 : Nat} (h : x_by cc pc = some 189) (h1 : x_by cc (pc + 1) = some b1) (h2 : x_by cc (pc + 1 + 1) = some b2) : decode cc pc = .ok (.anewarray  (b1 * 256 + b2), 3) := by
  have hu := x_u1 h
  have hu1 := x_u1 h1
  have hu2 := x_u1 h2
  have hi : (Jvm.ClassFile.Decoder.instr pc) cc pc = .ok (.anewarray  (b1 * 256 + b2), pc + 3) := by
    show Except.bind ((Jvm.ClassFile.Reader.u1 : Jvm.ClassFile.Decoder Nat) cc pc) _ = _
    rw [hu]
    show Except.bind (Except.bind ((Jvm.ClassFile.Reader.u1 : Jvm.ClassFile.Decoder Nat) cc (pc + 1)) _) _ = _
    rw [hu1]
    show Except.bind (Except.bind ((Jvm.ClassFile.Reader.u1 : Jvm.ClassFile.Decoder Nat) cc (pc + 1 + 1)) _) _ = _
    rw [hu2]
    rfl
  show Except.bind ((Jvm.ClassFile.Decoder.instr pc) cc pc) _ = _
  rw [hi]
  show Except.ok (_, pc + 3 - pc) = _
  rw [Nat.add_sub_cancel_left]
theorem x_d190 {cc : ByteArray} {pc : Nat} (h : x_by cc pc = some 190) : decode cc pc = .ok (.arraylength, 1) := by
  have hu := x_u1 h
  have hi : (Jvm.ClassFile.Decoder.instr pc) cc pc = .ok (.arraylength, pc + 1) := by
    show Except.bind ((Jvm.ClassFile.Reader.u1 : Jvm.ClassFile.Decoder Nat) cc pc) _ = _
    rw [hu]
    rfl
  show Except.bind ((Jvm.ClassFile.Decoder.instr pc) cc pc) _ = _
  rw [hi]
  show Except.ok (_, pc + 1 - pc) = _
  rw [Nat.add_sub_cancel_left]
theorem x_d198 {cc : ByteArray} {pc b1 b2 : Nat} (h : x_by cc pc = some 198) (h1 : x_by cc (pc + 1) = some b1) (h2 : x_by cc (pc + 1 + 1) = some b2) : decode cc pc = .ok (.ifnull  (Jvm.ClassFile.Reader.signed 16 (b1 * 256 + b2)), 3) := by
  have hu := x_u1 h
  have hu1 := x_u1 h1
  have hu2 := x_u1 h2
  have hi : (Jvm.ClassFile.Decoder.instr pc) cc pc = .ok (.ifnull  (Jvm.ClassFile.Reader.signed 16 (b1 * 256 + b2)), pc + 3) := by
    show Except.bind ((Jvm.ClassFile.Reader.u1 : Jvm.ClassFile.Decoder Nat) cc pc) _ = _
    rw [hu]
    show Except.bind (Except.bind (Except.bind ((Jvm.ClassFile.Reader.u1 : Jvm.ClassFile.Decoder Nat) cc (pc + 1)) _) _) _ = _
    rw [hu1]
    show Except.bind (Except.bind (Except.bind ((Jvm.ClassFile.Reader.u1 : Jvm.ClassFile.Decoder Nat) cc (pc + 1 + 1)) _) _) _ = _
    rw [hu2]
    rfl
  show Except.bind ((Jvm.ClassFile.Decoder.instr pc) cc pc) _ = _
  rw [hi]
  show Except.ok (_, pc + 3 - pc) = _
  rw [Nat.add_sub_cancel_left]
theorem x_d199 {cc : ByteArray} {pc b1 b2 : Nat} (h : x_by cc pc = some 199) (h1 : x_by cc (pc + 1) = some b1) (h2 : x_by cc (pc + 1 + 1) = some b2) : decode cc pc = .ok (.ifnonnull  (Jvm.ClassFile.Reader.signed 16 (b1 * 256 + b2)), 3) := by
  have hu := x_u1 h
  have hu1 := x_u1 h1
  have hu2 := x_u1 h2
  have hi : (Jvm.ClassFile.Decoder.instr pc) cc pc = .ok (.ifnonnull  (Jvm.ClassFile.Reader.signed 16 (b1 * 256 + b2)), pc + 3) := by
    show Except.bind ((Jvm.ClassFile.Reader.u1 : Jvm.ClassFile.Decoder Nat) cc pc) _ = _
    rw [hu]
    show Except.bind (Except.bind (Except.bind ((Jvm.ClassFile.Reader.u1 : Jvm.ClassFile.Decoder Nat) cc (pc + 1)) _) _) _ = _
    rw [hu1]
    show Except.bind (Except.bind (Except.bind ((Jvm.ClassFile.Reader.u1 : Jvm.ClassFile.Decoder Nat) cc (pc + 1 + 1)) _) _) _ = _
    rw [hu2]
    rfl
  show Except.bind ((Jvm.ClassFile.Decoder.instr pc) cc pc) _ = _
  rw [hi]
  show Except.ok (_, pc + 3 - pc) = _
  rw [Nat.add_sub_cancel_left]
theorem x_d188_10 {cc : ByteArray} {pc : Nat} (h : x_by cc pc = some 188) (h1 : x_by cc (pc + 1) = some 10) : decode cc pc = .ok (.newarray .int, 2) := by
  have hu := x_u1 h
  have hu1 := x_u1 h1
  have hi : (Jvm.ClassFile.Decoder.instr pc) cc pc = .ok (.newarray .int, pc + 2) := by
    show Except.bind ((Jvm.ClassFile.Reader.u1 : Jvm.ClassFile.Decoder Nat) cc pc) _ = _
    rw [hu]
    show Except.bind ((Jvm.ClassFile.Reader.u1 : Jvm.ClassFile.Decoder Nat) cc (pc + 1)) _ = _
    rw [hu1]
    rfl
  show Except.bind ((Jvm.ClassFile.Decoder.instr pc) cc pc) _ = _
  rw [hi]
  show Except.ok (_, pc + 2 - pc) = _
  rw [Nat.add_sub_cancel_left]
theorem x_d188_11 {cc : ByteArray} {pc : Nat} (h : x_by cc pc = some 188) (h1 : x_by cc (pc + 1) = some 11) : decode cc pc = .ok (.newarray .long, 2) := by
  have hu := x_u1 h
  have hu1 := x_u1 h1
  have hi : (Jvm.ClassFile.Decoder.instr pc) cc pc = .ok (.newarray .long, pc + 2) := by
    show Except.bind ((Jvm.ClassFile.Reader.u1 : Jvm.ClassFile.Decoder Nat) cc pc) _ = _
    rw [hu]
    show Except.bind ((Jvm.ClassFile.Reader.u1 : Jvm.ClassFile.Decoder Nat) cc (pc + 1)) _ = _
    rw [hu1]
    rfl
  show Except.bind ((Jvm.ClassFile.Decoder.instr pc) cc pc) _ = _
  rw [hi]
  show Except.ok (_, pc + 2 - pc) = _
  rw [Nat.add_sub_cancel_left]
theorem x_d188_4 {cc : ByteArray} {pc : Nat} (h : x_by cc pc = some 188) (h1 : x_by cc (pc + 1) = some 4) : decode cc pc = .ok (.newarray .boolean, 2) := by
  have hu := x_u1 h
  have hu1 := x_u1 h1
  have hi : (Jvm.ClassFile.Decoder.instr pc) cc pc = .ok (.newarray .boolean, pc + 2) := by
    show Except.bind ((Jvm.ClassFile.Reader.u1 : Jvm.ClassFile.Decoder Nat) cc pc) _ = _
    rw [hu]
    show Except.bind ((Jvm.ClassFile.Reader.u1 : Jvm.ClassFile.Decoder Nat) cc (pc + 1)) _ = _
    rw [hu1]
    rfl
  show Except.bind ((Jvm.ClassFile.Decoder.instr pc) cc pc) _ = _
  rw [hi]
  show Except.ok (_, pc + 2 - pc) = _
  rw [Nat.add_sub_cancel_left]
theorem x_d188_8 {cc : ByteArray} {pc : Nat} (h : x_by cc pc = some 188) (h1 : x_by cc (pc + 1) = some 8) : decode cc pc = .ok (.newarray .byte, 2) := by
  have hu := x_u1 h
  have hu1 := x_u1 h1
  have hi : (Jvm.ClassFile.Decoder.instr pc) cc pc = .ok (.newarray .byte, pc + 2) := by
    show Except.bind ((Jvm.ClassFile.Reader.u1 : Jvm.ClassFile.Decoder Nat) cc pc) _ = _
    rw [hu]
    show Except.bind ((Jvm.ClassFile.Reader.u1 : Jvm.ClassFile.Decoder Nat) cc (pc + 1)) _ = _
    rw [hu1]
    rfl
  show Except.bind ((Jvm.ClassFile.Decoder.instr pc) cc pc) _ = _
  rw [hi]
  show Except.ok (_, pc + 2 - pc) = _
  rw [Nat.add_sub_cancel_left]
theorem x_d188_5 {cc : ByteArray} {pc : Nat} (h : x_by cc pc = some 188) (h1 : x_by cc (pc + 1) = some 5) : decode cc pc = .ok (.newarray .char, 2) := by
  have hu := x_u1 h
  have hu1 := x_u1 h1
  have hi : (Jvm.ClassFile.Decoder.instr pc) cc pc = .ok (.newarray .char, pc + 2) := by
    show Except.bind ((Jvm.ClassFile.Reader.u1 : Jvm.ClassFile.Decoder Nat) cc pc) _ = _
    rw [hu]
    show Except.bind ((Jvm.ClassFile.Reader.u1 : Jvm.ClassFile.Decoder Nat) cc (pc + 1)) _ = _
    rw [hu1]
    rfl
  show Except.bind ((Jvm.ClassFile.Decoder.instr pc) cc pc) _ = _
  rw [hi]
  show Except.ok (_, pc + 2 - pc) = _
  rw [Nat.add_sub_cancel_left]
def x_na (b : Nat) : Option Jvm.ClassFile.Instr := if b = 10 then some (.newarray .int) else if b = 11 then some (.newarray .long) else if b = 4 then some (.newarray .boolean) else none
def x_t0 : List (Nat × Jvm.ClassFile.Instr) := [(1, .aconst_null), (2, .iconst (-1)), (3, .iconst 0), (4, .iconst 1), (5, .iconst 2), (6, .iconst 3), (7, .iconst 4), (8, .iconst 5), (9, .lconst 0), (10, .lconst 1), (26, .iload_n 0), (27, .iload_n 1), (28, .iload_n 2), (29, .iload_n 3), (30, .lload_n 0), (31, .lload_n 1), (32, .lload_n 2), (33, .lload_n 3), (42, .aload_n 0), (43, .aload_n 1), (44, .aload_n 2), (45, .aload_n 3), (46, .iaload), (47, .laload), (50, .aaload), (51, .baload), (59, .istore_n 0), (60, .istore_n 1), (61, .istore_n 2), (62, .istore_n 3), (63, .lstore_n 0), (64, .lstore_n 1), (65, .lstore_n 2), (66, .lstore_n 3), (75, .astore_n 0), (76, .astore_n 1), (77, .astore_n 2), (78, .astore_n 3), (79, .iastore), (80, .lastore), (83, .aastore), (84, .bastore), (87, .pop), (88, .pop2), (89, .dup), (90, .dup_x1), (92, .dup2), (96, .iadd), (97, .ladd), (100, .isub), (101, .lsub), (104, .imul), (105, .lmul), (108, .idiv), (109, .ldiv), (112, .irem), (113, .lrem), (116, .ineg), (117, .lneg), (120, .ishl), (121, .lshl), (122, .ishr), (123, .lshr), (124, .iushr), (125, .lushr), (126, .iand), (127, .land), (128, .ior), (129, .lor), (130, .ixor), (131, .lxor), (133, .i2l), (136, .l2i), (146, .i2c), (148, .lcmp), (172, .ireturn), (173, .lreturn), (176, .areturn), (177, .return_), (190, .arraylength)]
def x_t1 : List (Nat × (Nat → Option Jvm.ClassFile.Instr)) := [(16, fun b1 => some (.bipush (Jvm.ClassFile.Reader.signed 8 b1))), (18, fun b1 => some (.ldc b1)), (21, fun b1 => some (.iload b1)), (22, fun b1 => some (.lload b1)), (25, fun b1 => some (.aload b1)), (54, fun b1 => some (.istore b1)), (55, fun b1 => some (.lstore b1)), (58, fun b1 => some (.astore b1)), (188, x_na)]
def x_t2 : List (Nat × (Nat → Nat → Jvm.ClassFile.Instr)) := [(17, fun b1 b2 => .sipush  (Jvm.ClassFile.Reader.signed 16 (b1 * 256 + b2))), (20, fun b1 b2 => .ldc2_w (b1 * 256 + b2)), (132, fun b1 b2 => .iinc b1 (Jvm.ClassFile.Reader.signed 8 b2)), (153, fun b1 b2 => .ifCond .eq (Jvm.ClassFile.Reader.signed 16 (b1 * 256 + b2))), (154, fun b1 b2 => .ifCond .ne (Jvm.ClassFile.Reader.signed 16 (b1 * 256 + b2))), (155, fun b1 b2 => .ifCond .lt (Jvm.ClassFile.Reader.signed 16 (b1 * 256 + b2))), (156, fun b1 b2 => .ifCond .ge (Jvm.ClassFile.Reader.signed 16 (b1 * 256 + b2))), (157, fun b1 b2 => .ifCond .gt (Jvm.ClassFile.Reader.signed 16 (b1 * 256 + b2))), (158, fun b1 b2 => .ifCond .le (Jvm.ClassFile.Reader.signed 16 (b1 * 256 + b2))), (159, fun b1 b2 => .if_icmp .eq (Jvm.ClassFile.Reader.signed 16 (b1 * 256 + b2))), (160, fun b1 b2 => .if_icmp .ne (Jvm.ClassFile.Reader.signed 16 (b1 * 256 + b2))), (161, fun b1 b2 => .if_icmp .lt (Jvm.ClassFile.Reader.signed 16 (b1 * 256 + b2))), (162, fun b1 b2 => .if_icmp .ge (Jvm.ClassFile.Reader.signed 16 (b1 * 256 + b2))), (163, fun b1 b2 => .if_icmp .gt (Jvm.ClassFile.Reader.signed 16 (b1 * 256 + b2))), (164, fun b1 b2 => .if_icmp .le (Jvm.ClassFile.Reader.signed 16 (b1 * 256 + b2))), (167, fun b1 b2 => .goto  (Jvm.ClassFile.Reader.signed 16 (b1 * 256 + b2))), (180, fun b1 b2 => .getfield (b1 * 256 + b2)), (181, fun b1 b2 => .putfield (b1 * 256 + b2)), (182, fun b1 b2 => .invokevirtual (b1 * 256 + b2)), (183, fun b1 b2 => .invokespecial (b1 * 256 + b2)), (184, fun b1 b2 => .invokestatic (b1 * 256 + b2)), (187, fun b1 b2 => .new (b1 * 256 + b2)), (192, fun b1 b2 => .checkcast (b1 * 256 + b2)), (189, fun b1 b2 => .anewarray (b1 * 256 + b2)), (198, fun b1 b2 => .ifnull  (Jvm.ClassFile.Reader.signed 16 (b1 * 256 + b2))), (199, fun b1 b2 => .ifnonnull  (Jvm.ClassFile.Reader.signed 16 (b1 * 256 + b2)))]
theorem x_t0_ok {cc : ByteArray} {pc : Nat} : ∀ e ∈ x_t0, x_by cc pc = some e.1 → decode cc pc = .ok (e.2, 1) := by
  unfold x_t0
  simp only [List.forall_mem_cons]
  refine ⟨fun h => x_d1 h, fun h => x_d2 h, fun h => x_d3 h, fun h => x_d4 h, fun h => x_d5 h, fun h => x_d6 h, fun h => x_d7 h, fun h => x_d8 h, fun h => x_d9 h, fun h => x_d10 h, fun h => x_d26 h, fun h => x_d27 h, fun h => x_d28 h, fun h => x_d29 h, fun h => x_d30 h, fun h => x_d31 h, fun h => x_d32 h, fun h => x_d33 h, fun h => x_d42 h, fun h => x_d43 h, fun h => x_d44 h, fun h => x_d45 h, fun h => x_d46 h, fun h => x_d47 h, fun h => x_d50 h, fun h => x_d51 h, fun h => x_d59 h, fun h => x_d60 h, fun h => x_d61 h, fun h => x_d62 h, fun h => x_d63 h, fun h => x_d64 h, fun h => x_d65 h, fun h => x_d66 h, fun h => x_d75 h, fun h => x_d76 h, fun h => x_d77 h, fun h => x_d78 h, fun h => x_d79 h, fun h => x_d80 h, fun h => x_d83 h, fun h => x_d84 h, fun h => x_d87 h, fun h => x_d88 h, fun h => x_d89 h, fun h => x_d90 h, fun h => x_d92 h, fun h => x_d96 h, fun h => x_d97 h, fun h => x_d100 h, fun h => x_d101 h, fun h => x_d104 h, fun h => x_d105 h, fun h => x_d108 h, fun h => x_d109 h, fun h => x_d112 h, fun h => x_d113 h, fun h => x_d116 h, fun h => x_d117 h, fun h => x_d120 h, fun h => x_d121 h, fun h => x_d122 h, fun h => x_d123 h, fun h => x_d124 h, fun h => x_d125 h, fun h => x_d126 h, fun h => x_d127 h, fun h => x_d128 h, fun h => x_d129 h, fun h => x_d130 h, fun h => x_d131 h, fun h => x_d133 h, fun h => x_d136 h, fun h => x_d146 h, fun h => x_d148 h, fun h => x_d172 h, fun h => x_d173 h, fun h => x_d176 h, fun h => x_d177 h, fun h => x_d190 h, fun _ h => absurd h List.not_mem_nil⟩
theorem x_na_ok {cc : ByteArray} {pc b : Nat} {i : Jvm.ClassFile.Instr} (h0 : x_by cc pc = some 188) (h1 : x_by cc (pc + 1) = some b) (h : x_na b = some i) : decode cc pc = .ok (i, 2) := by
  unfold x_na at h
  split at h
  · rename_i hb; subst hb; cases h; exact x_d188_10 h0 h1
  · split at h
    · rename_i hb; subst hb; cases h; exact x_d188_11 h0 h1
    · split at h
      · rename_i hb; subst hb; cases h; exact x_d188_4 h0 h1
      · cases h
theorem x_t1_ok {cc : ByteArray} {pc b : Nat} {i : Jvm.ClassFile.Instr} : ∀ e ∈ x_t1, x_by cc pc = some e.1 → x_by cc (pc + 1) = some b → e.2 b = some i → decode cc pc = .ok (i, 2) := by
  unfold x_t1
  simp only [List.forall_mem_cons]
  refine ⟨fun h h1 h2 => by cases h2; exact x_d16 h h1, fun h h1 h2 => by cases h2; exact x_d18 h h1, fun h h1 h2 => by cases h2; exact x_d21 h h1, fun h h1 h2 => by cases h2; exact x_d22 h h1, fun h h1 h2 => by cases h2; exact x_d25 h h1, fun h h1 h2 => by cases h2; exact x_d54 h h1, fun h h1 h2 => by cases h2; exact x_d55 h h1, fun h h1 h2 => by cases h2; exact x_d58 h h1, fun h h1 h2 => x_na_ok h h1 h2, fun _ h => absurd h List.not_mem_nil⟩
theorem x_t2_ok {cc : ByteArray} {pc b1 b2 : Nat} : ∀ e ∈ x_t2, x_by cc pc = some e.1 → x_by cc (pc + 1) = some b1 → x_by cc (pc + 1 + 1) = some b2 → decode cc pc = .ok (e.2 b1 b2, 3) := by
  unfold x_t2
  simp only [List.forall_mem_cons]
  refine ⟨fun h h1 h2 => x_d17 h h1 h2, fun h h1 h2 => x_d20 h h1 h2, fun h h1 h2 => x_d132 h h1 h2, fun h h1 h2 => x_d153 h h1 h2, fun h h1 h2 => x_d154 h h1 h2, fun h h1 h2 => x_d155 h h1 h2, fun h h1 h2 => x_d156 h h1 h2, fun h h1 h2 => x_d157 h h1 h2, fun h h1 h2 => x_d158 h h1 h2, fun h h1 h2 => x_d159 h h1 h2, fun h h1 h2 => x_d160 h h1 h2, fun h h1 h2 => x_d161 h h1 h2, fun h h1 h2 => x_d162 h h1 h2, fun h h1 h2 => x_d163 h h1 h2, fun h h1 h2 => x_d164 h h1 h2, fun h h1 h2 => x_d167 h h1 h2, fun h h1 h2 => x_d180 h h1 h2, fun h h1 h2 => x_d181 h h1 h2, fun h h1 h2 => x_d182 h h1 h2, fun h h1 h2 => x_d183 h h1 h2, fun h h1 h2 => x_d184 h h1 h2, fun h h1 h2 => x_d187 h h1 h2, fun h h1 h2 => x_d192 h h1 h2, fun h h1 h2 => x_d189 h h1 h2, fun h h1 h2 => x_d198 h h1 h2, fun h h1 h2 => x_d199 h h1 h2, fun _ h => absurd h List.not_mem_nil⟩
def x_dt (t : Nat → Option Nat) (pc : Nat) : Option (Jvm.ClassFile.Instr × Nat) := (t pc).bind fun b =>
  match x_t0.find? (fun e => e.1 == b) with
  | some e => some (e.2, 1)
  | none => match x_t1.find? (fun e => e.1 == b) with
    | some e => (t (pc + 1)).bind fun b1 => (e.2 b1).bind fun i => some (i, 2)
    | none => match x_t2.find? (fun e => e.1 == b) with
      | some e => (t (pc + 1)).bind fun b1 => (t (pc + 1 + 1)).bind fun b2 => some (e.2 b1 b2, 3)
      | none => none
theorem x_dt_ok {cc : ByteArray} {t : Nat → Option Nat} {pc : Nat} {e : Jvm.ClassFile.Instr × Nat} (ht : ∀ p, x_by cc p = t p) (h : x_dt t pc = some e) : decode cc pc = .ok e := by
  unfold x_dt at h
  obtain ⟨b, h0, h⟩ := Option.bind_eq_some_iff.mp h
  have h0 := (ht pc).trans h0
  cases e0 : x_t0.find? (fun e => e.1 == b) with
  | some q =>
    rw [e0] at h
    cases h
    have hb : q.1 = b := by simpa using List.find?_some e0
    subst hb
    exact x_t0_ok q (List.mem_of_find?_eq_some e0) h0
  | none =>
    rw [e0] at h
    dsimp only at h
    cases e1 : x_t1.find? (fun e => e.1 == b) with
    | some q =>
      rw [e1] at h
      dsimp only at h
      obtain ⟨b1, h1, h⟩ := Option.bind_eq_some_iff.mp h
      obtain ⟨i, h2, h⟩ := Option.bind_eq_some_iff.mp h
      cases h
      have hb : q.1 = b := by simpa using List.find?_some e1
      subst hb
      exact x_t1_ok q (List.mem_of_find?_eq_some e1) h0 ((ht _).trans h1) h2
    | none =>
      rw [e1] at h
      dsimp only at h
      cases e2 : x_t2.find? (fun e => e.1 == b) with
      | some q =>
        rw [e2] at h
        dsimp only at h
        obtain ⟨b1, h1, h⟩ := Option.bind_eq_some_iff.mp h
        obtain ⟨b2, h2, h⟩ := Option.bind_eq_some_iff.mp h
        cases h
        have hb : q.1 = b := by simpa using List.find?_some e2
        subst hb
        exact x_t2_ok q (List.mem_of_find?_eq_some e2) h0 ((ht _).trans h1) ((ht _).trans h2)
      | none =>
        rw [e2] at h
        cases h
/-- the bytes of a method as one number -/
def x_un : Nat → Nat → List Nat
  | _, 0 => []
  | N, n + 1 => N % 256 :: x_un (N / 256) n
def x_tb (N n p : Nat) : Option Nat := if p < n then some ((N >>> (8 * p)) % 256) else none
theorem x_un_at : ∀ (n N p : Nat), (x_un N n)[p]? = x_tb N n p
  | 0, N, p => by simp [x_un, x_tb]
  | n + 1, N, 0 => by simp [x_un, x_tb]
  | n + 1, N, p + 1 => by
    unfold x_un
    rw [List.getElem?_cons_succ, x_un_at n (N / 256) p]
    unfold x_tb
    by_cases h : p < n
    · rw [if_pos h, if_pos (by omega), show (256 : Nat) = 2 ^ 8 from rfl, ← Nat.shiftRight_eq_div_pow, ← Nat.shiftRight_add, show 8 + 8 * p = 8 * (p + 1) by omega]
    · rw [if_neg h, if_neg (by omega)]
theorem x_by_un {cc : ByteArray} {N n : Nat} (h : cc.data.toList.map UInt8.toNat = x_un N n) (p : Nat) : x_by cc p = x_tb N n p := by
  rw [← x_un_at, ← h, List.getElem?_map]
  unfold x_by
  by_cases hp : p < cc.size
  · rw [dif_pos hp]
    have hp2 : p < cc.data.toList.length := by rw [Array.length_toList]; exact hp
    rw [List.getElem?_eq_getElem hp2]
    rfl
  · rw [dif_neg hp]
    have hp2 : cc.data.toList.length ≤ p := by rw [Array.length_toList]; exact Nat.le_of_not_lt hp
    rw [List.getElem?_eq_none hp2]
    rfl
/-- a list of instructions against the bytes -/
def x_il (N n : Nat) (I : List (Nat × Jvm.ClassFile.Instr × Nat)) : Bool := I.all (fun q => decide (x_dt (x_tb N n) q.1 = some q.2))
theorem x_il_ok {cc : ByteArray} {N n : Nat} {I : List (Nat × Jvm.ClassFile.Instr × Nat)} (h : cc.data.toList.map UInt8.toNat = x_un N n) (hI : x_il N n I = true) (k : Nat) {pc : Nat} {i : Jvm.ClassFile.Instr} {len : Nat} (hk : I[k]? = some (pc, i, len)) : decode cc pc = .ok (i, len) := by
  have h1 := List.all_eq_true.mp hI _ (List.mem_of_getElem? hk)
  exact x_dt_ok (x_by_un h) (of_decide_eq_true h1)
