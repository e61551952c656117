section
/-! decode, by the bytes -/
def x_by (cc : ByteArray) (p : Nat) : Option Nat := if h : p < cc.size then some cc[p].toNat else none
theorem x_u1 {cc : ByteArray} {p b : Nat} (h : x_by cc p = some b) : (Jvm.ClassFile.Reader.u1 : Jvm.ClassFile.Decoder Nat) cc p = .ok (b, p + 1) := by
  unfold x_by at h
  by_cases hp : p < cc.size
  · rw [dif_pos hp] at h
    cases h
    show (dite (p < cc.size) (fun h => (do set (p + 1); pure cc[p].toNat : Jvm.ClassFile.Decoder Nat)) (fun _ => throw _)) cc p = _
    rw [dif_pos hp]
    rfl
  · rw [dif_neg hp] at h
    cases h
theorem x_d1 {cc : ByteArray} {pc : Nat} (h : x_by cc pc = some 1) : decode cc pc = .ok (.aconst_null, 1) := by
  have hu := x_u1 h
  have hi : (Jvm.ClassFile.Decoder.instr pc) cc pc = .ok (.aconst_null, pc + 1) := by
    show Except.bind ((Jvm.ClassFile.Reader.u1 : Jvm.ClassFile.Decoder Nat) cc pc) _ = _
    rw [hu]
    rfl
  show Except.bind ((Jvm.ClassFile.Decoder.instr pc) cc pc) _ = _
  rw [hi]
  show Except.ok (_, pc + 1 - pc) = _
  rw [Nat.add_sub_cancel_left]
theorem x_d2 {cc : ByteArray} {pc : Nat} (h : x_by cc pc = some 2) : decode cc pc = .ok (.iconst (-1), 1) := by
  have hu := x_u1 h
  have hi : (Jvm.ClassFile.Decoder.instr pc) cc pc = .ok (.iconst (-1), pc + 1) := by
    show Except.bind ((Jvm.ClassFile.Reader.u1 : Jvm.ClassFile.Decoder Nat) cc pc) _ = _
    rw [hu]
    rfl
  show Except.bind ((Jvm.ClassFile.Decoder.instr pc) cc pc) _ = _
  rw [hi]
  show Except.ok (_, pc + 1 - pc) = _
  rw [Nat.add_sub_cancel_left]
theorem x_d3 {cc : ByteArray} {pc : Nat} (h : x_by cc pc = some 3) : decode cc pc = .ok (.iconst 0, 1) := by
  have hu := x_u1 h
  have hi : (Jvm.ClassFile.Decoder.instr pc) cc pc = .ok (.iconst 0, pc + 1) := by
    show Except.bind ((Jvm.ClassFile.Reader.u1 : Jvm.ClassFile.Decoder Nat) cc pc) _ = _
    rw [hu]
    rfl
  show Except.bind ((Jvm.ClassFile.Decoder.instr pc) cc pc) _ = _
  rw [hi]
  show Except.ok (_, pc + 1 - pc) = _
  rw [Nat.add_sub_cancel_left]
theorem x_d4 {cc : ByteArray} {pc : Nat} (h : x_by cc pc = some 4) : decode cc pc = .ok (.iconst 1, 1) := by
  have hu := x_u1 h
  have hi : (Jvm.ClassFile.Decoder.instr pc) cc pc = .ok (.iconst 1, pc + 1) := by
    show Except.bind ((Jvm.ClassFile.Reader.u1 : Jvm.ClassFile.Decoder Nat) cc pc) _ = _
    rw [hu]
    rfl
  show Except.bind ((Jvm.ClassFile.Decoder.instr pc) cc pc) _ = _
  rw [hi]
  show Except.ok (_, pc + 1 - pc) = _
  rw [Nat.add_sub_cancel_left]
theorem x_d5 {cc : ByteArray} {pc : Nat} (h : x_by cc pc = some 5) : decode cc pc = .ok (.iconst 2, 1) := by
  have hu := x_u1 h
  have hi : (Jvm.ClassFile.Decoder.instr pc) cc pc = .ok (.iconst 2, pc + 1) := by
    show Except.bind ((Jvm.ClassFile.Reader.u1 : Jvm.ClassFile.Decoder Nat) cc pc) _ = _
    rw [hu]
    rfl
  show Except.bind ((Jvm.ClassFile.Decoder.instr pc) cc pc) _ = _
  rw [hi]
  show Except.ok (_, pc + 1 - pc) = _
  rw [Nat.add_sub_cancel_left]
theorem x_d6 {cc : ByteArray} {pc : Nat} (h : x_by cc pc = some 6) : decode cc pc = .ok (.iconst 3, 1) := by
  have hu := x_u1 h
  have hi : (Jvm.ClassFile.Decoder.instr pc) cc pc = .ok (.iconst 3, pc + 1) := by
    show Except.bind ((Jvm.ClassFile.Reader.u1 : Jvm.ClassFile.Decoder Nat) cc pc) _ = _
    rw [hu]
    rfl
  show Except.bind ((Jvm.ClassFile.Decoder.instr pc) cc pc) _ = _
  rw [hi]
  show Except.ok (_, pc + 1 - pc) = _
  rw [Nat.add_sub_cancel_left]
theorem x_d7 {cc : ByteArray} {pc : Nat} (h : x_by cc pc = some 7) : decode cc pc = .ok (.iconst 4, 1) := by
  have hu := x_u1 h
  have hi : (Jvm.ClassFile.Decoder.instr pc) cc pc = .ok (.iconst 4, pc + 1) := by
    show Except.bind ((Jvm.ClassFile.Reader.u1 : Jvm.ClassFile.Decoder Nat) cc pc) _ = _
    rw [hu]
    rfl
  show Except.bind ((Jvm.ClassFile.Decoder.instr pc) cc pc) _ = _
  rw [hi]
  show Except.ok (_, pc + 1 - pc) = _
  rw [Nat.add_sub_cancel_left]
theorem x_d8 {cc : ByteArray} {pc : Nat} (h : x_by cc pc = some 8) : decode cc pc = .ok (.iconst 5, 1) := by
  have hu := x_u1 h
  have hi : (Jvm.ClassFile.Decoder.instr pc) cc pc = .ok (.iconst 5, pc + 1) := by
    show Except.bind ((Jvm.ClassFile.Reader.u1 : Jvm.ClassFile.Decoder Nat) cc pc) _ = _
    rw [hu]
    rfl
  show Except.bind ((Jvm.ClassFile.Decoder.instr pc) cc pc) _ = _
  rw [hi]
  show Except.ok (_, pc + 1 - pc) = _
  rw [Nat.add_sub_cancel_left]
theorem x_d9 {cc : ByteArray} {pc : Nat} (h : x_by cc pc = some 9) : decode cc pc = .ok (.lconst 0, 1) := by
  have hu := x_u1 h
  have hi : (Jvm.ClassFile.Decoder.instr pc) cc pc = .ok (.lconst 0, pc + 1) := by
    show Except.bind ((Jvm.ClassFile.Reader.u1 : Jvm.ClassFile.Decoder Nat) cc pc) _ = _
    rw [hu]
    rfl
  show Except.bind ((Jvm.ClassFile.Decoder.instr pc) cc pc) _ = _
  rw [hi]
  show Except.ok (_, pc + 1 - pc) = _
  rw [Nat.add_sub_cancel_left]
theorem x_d10 {cc : ByteArray} {pc : Nat} (h : x_by cc pc = some 10) : decode cc pc = .ok (.lconst 1, 1) := by
  have hu := x_u1 h
  have hi : (Jvm.ClassFile.Decoder.instr pc) cc pc = .ok (.lconst 1, pc + 1) := by
    show Except.bind ((Jvm.ClassFile.Reader.u1 : Jvm.ClassFile.Decoder Nat) cc pc) _ = _
    rw [hu]
    rfl
  show Except.bind ((Jvm.ClassFile.Decoder.instr pc) cc pc) _ = _
  rw [hi]
  show Except.ok (_, pc + 1 - pc) = _
  rw [Nat.add_sub_cancel_left]
theorem x_d16 {cc : ByteArray} {pc b1 : Nat} (h : x_by cc pc = some 16) (h1 : x_by cc (pc + 1) = some b1) : decode cc pc = .ok (.bipush  (Jvm.ClassFile.Reader.signed 8 b1), 2) := by
  have hu := x_u1 h
  have hu1 := x_u1 h1
  have hi : (Jvm.ClassFile.Decoder.instr pc) cc pc = .ok (.bipush  (Jvm.ClassFile.Reader.signed 8 b1), pc + 2) := by
    show Except.bind ((Jvm.ClassFile.Reader.u1 : Jvm.ClassFile.Decoder Nat) cc pc) _ = _
    rw [hu]
    show Except.bind (Except.bind ((Jvm.ClassFile.Reader.u1 : Jvm.ClassFile.Decoder Nat) cc (pc + 1)) _) _ = _
    rw [hu1]
    rfl
  show Except.bind ((Jvm.ClassFile.Decoder.instr pc) cc pc) _ = _
  rw [hi]
  show Except.ok (_, pc + 2 - pc) = _
  rw [Nat.add_sub_cancel_left]
theorem x_d17 {cc : ByteArray} {pc b1 b2 : Nat} (h : x_by cc pc = some 17) (h1 : x_by cc (pc + 1) = some b1) (h2 : x_by cc (pc + 1 + 1) = some b2) : decode cc pc = .ok (.sipush  (Jvm.ClassFile.Reader.signed 16 (b1 * 256 + b2)), 3) := by
  have hu := x_u1 h
  have hu1 := x_u1 h1
  have hu2 := x_u1 h2
  have hi : (Jvm.ClassFile.Decoder.instr pc) cc pc = .ok (.sipush  (Jvm.ClassFile.Reader.signed 16 (b1 * 256 + b2)), pc + 3) := by
    show Except.bind ((Jvm.ClassFile.Reader.u1 : Jvm.ClassFile.Decoder Nat) cc pc) _ = _
    rw [hu]
    show Except.bind (Except.bind (Except.bind ((Jvm.ClassFile.Reader.u1 : Jvm.ClassFile.Decoder Nat) cc (pc + 1)) _) _) _ = _
    rw [hu1]
    show Except.bind (Except.bind (Except.bind ((Jvm.ClassFile.Reader.u1 : Jvm.ClassFile.Decoder Nat) cc (pc + 1 + 1)) _) _) _ = _
    rw [hu2]
    rfl
  show Except.bind ((Jvm.ClassFile.Decoder.instr pc) cc pc) _ = _
  rw [hi]
  show Except.ok (_, pc + 3 - pc) = _
  rw [Nat.add_sub_cancel_left]
theorem x_d18 {cc : ByteArray} {pc b1 : Nat} (h : x_by cc pc = some 18) (h1 : x_by cc (pc + 1) = some b1) : decode cc pc = .ok (.ldc  b1, 2) := by
  have hu := x_u1 h
  have hu1 := x_u1 h1
  have hi : (Jvm.ClassFile.Decoder.instr pc) cc pc = .ok (.ldc  b1, pc + 2) := by
    show Except.bind ((Jvm.ClassFile.Reader.u1 : Jvm.ClassFile.Decoder Nat) cc pc) _ = _
    rw [hu]
    show Except.bind ((Jvm.ClassFile.Reader.u1 : Jvm.ClassFile.Decoder Nat) cc (pc + 1)) _ = _
    rw [hu1]
    rfl
  show Except.bind ((Jvm.ClassFile.Decoder.instr pc) cc pc) _ = _
  rw [hi]
  show Except.ok (_, pc + 2 - pc) = _
  rw [Nat.add_sub_cancel_left]
theorem x_d20 {cc : ByteArray} {pc b1 b2 : Nat} (h : x_by cc pc = some 20) (h1 : x_by cc (pc + 1) = some b1) (h2 : x_by cc (pc + 1 + 1) = some b2) : decode cc pc = .ok (.ldc2_w  (b1 * 256 + b2), 3) := by
  have hu := x_u1 h
  have hu1 := x_u1 h1
  have hu2 := x_u1 h2
  have hi : (Jvm.ClassFile.Decoder.instr pc) cc pc = .ok (.ldc2_w  (b1 * 256 + b2), pc + 3) := by
    show Except.bind ((Jvm.ClassFile.Reader.u1 : Jvm.ClassFile.Decoder Nat) cc pc) _ = _
    rw [hu]
    show Except.bind (Except.bind ((Jvm.ClassFile.Reader.u1 : Jvm.ClassFile.Decoder Nat) cc (pc + 1)) _) _ = _
    rw [hu1]
    show Except.bind (Except.bind ((Jvm.ClassFile.Reader.u1 : Jvm.ClassFile.Decoder Nat) cc (pc + 1 + 1)) _) _ = _
    rw [hu2]
    rfl
  show Except.bind ((Jvm.ClassFile.Decoder.instr pc) cc pc) _ = _
  rw [hi]
  show Except.ok (_, pc + 3 - pc) = _
  rw [Nat.add_sub_cancel_left]
theorem x_d21 {cc : ByteArray} {pc b1 : Nat} (h : x_by cc pc = some 21) (h1 : x_by cc (pc + 1) = some b1) : decode cc pc = .ok (.iload  b1, 2) := by
  have hu := x_u1 h
  have hu1 := x_u1 h1
  have hi : (Jvm.ClassFile.Decoder.instr pc) cc pc = .ok (.iload  b1, pc + 2) := by
    show Except.bind ((Jvm.ClassFile.Reader.u1 : Jvm.ClassFile.Decoder Nat) cc pc) _ = _
    rw [hu]
    show Except.bind ((Jvm.ClassFile.Reader.u1 : Jvm.ClassFile.Decoder Nat) cc (pc + 1)) _ = _
    rw [hu1]
    rfl
  show Except.bind ((Jvm.ClassFile.Decoder.instr pc) cc pc) _ = _
  rw [hi]
  show Except.ok (_, pc + 2 - pc) = _
  rw [Nat.add_sub_cancel_left]
theorem x_d22 {cc : ByteArray} {pc b1 : Nat} (h : x_by cc pc = some 22) (h1 : x_by cc (pc + 1) = some b1) : decode cc pc = .ok (.lload  b1, 2) := by
  have hu := x_u1 h
  have hu1 := x_u1 h1
  have hi : (Jvm.ClassFile.Decoder.instr pc) cc pc = .ok (.lload  b1, pc + 2) := by
    show Except.bind ((Jvm.ClassFile.Reader.u1 : Jvm.ClassFile.Decoder Nat) cc pc) _ = _
    rw [hu]
    show Except.bind ((Jvm.ClassFile.Reader.u1 : Jvm.ClassFile.Decoder Nat) cc (pc + 1)) _ = _
    rw [hu1]
    rfl
  show Except.bind ((Jvm.ClassFile.Decoder.instr pc) cc pc) _ = _
  rw [hi]
  show Except.ok (_, pc + 2 - pc) = _
  rw [Nat.add_sub_cancel_left]
theorem x_d25 {cc : ByteArray} {pc b1 : Nat} (h : x_by cc pc = some 25) (h1 : x_by cc (pc + 1) = some b1) : decode cc pc = .ok (.aload  b1, 2) := by
  have hu := x_u1 h
  have hu1 := x_u1 h1
  have hi : (Jvm.ClassFile.Decoder.instr pc) cc pc = .ok (.aload  b1, pc + 2) := by
    show Except.bind ((Jvm.ClassFile.Reader.u1 : Jvm.ClassFile.Decoder Nat) cc pc) _ = _
    rw [hu]
    show Except.bind ((Jvm.ClassFile.Reader.u1 : Jvm.ClassFile.Decoder Nat) cc (pc + 1)) _ = _
    rw [hu1]
    rfl
  show Except.bind ((Jvm.ClassFile.Decoder.instr pc) cc pc) _ = _
  rw [hi]
  show Except.ok (_, pc + 2 - pc) = _
  rw [Nat.add_sub_cancel_left]
theorem x_d26 {cc : ByteArray} {pc : Nat} (h : x_by cc pc = some 26) : decode cc pc = .ok (.iload_n 0, 1) := by
  have hu := x_u1 h
  have hi : (Jvm.ClassFile.Decoder.instr pc) cc pc = .ok (.iload_n 0, pc + 1) := by
    show Except.bind ((Jvm.ClassFile.Reader.u1 : Jvm.ClassFile.Decoder Nat) cc pc) _ = _
    rw [hu]
    rfl
  show Except.bind ((Jvm.ClassFile.Decoder.instr pc) cc pc) _ = _
  rw [hi]
  show Except.ok (_, pc + 1 - pc) = _
  rw [Nat.add_sub_cancel_left]
theorem x_d27 {cc : ByteArray} {pc : Nat} (h : x_by cc pc = some 27) : decode cc pc = .ok (.iload_n 1, 1) := by
  have hu := x_u1 h
  have hi : (Jvm.ClassFile.Decoder.instr pc) cc pc = .ok (.iload_n 1, pc + 1) := by
    show Except.bind ((Jvm.ClassFile.Reader.u1 : Jvm.ClassFile.Decoder Nat) cc pc) _ = _
    rw [hu]
    rfl
  show Except.bind ((Jvm.ClassFile.Decoder.instr pc) cc pc) _ = _
  rw [hi]
  show Except.ok (_, pc + 1 - pc) = _
  rw [Nat.add_sub_cancel_left]
theorem x_d28 {cc : ByteArray} {pc : Nat} (h : x_by cc pc = some 28) : decode cc pc = .ok (.iload_n 2, 1) := by
  have hu := x_u1 h
  have hi : (Jvm.ClassFile.Decoder.instr pc) cc pc = .ok (.iload_n 2, pc + 1) := by
    show Except.bind ((Jvm.ClassFile.Reader.u1 : Jvm.ClassFile.Decoder Nat) cc pc) _ = _
    rw [hu]
    rfl
  show Except.bind ((Jvm.ClassFile.Decoder.instr pc) cc pc) _ = _
  rw [hi]
  show Except.ok (_, pc + 1 - pc) = _
  rw [Nat.add_sub_cancel_left]
theorem x_d29 {cc : ByteArray} {pc : Nat} (h : x_by cc pc = some 29) : decode cc pc = .ok (.iload_n 3, 1) := by
  have hu := x_u1 h
  have hi : (Jvm.ClassFile.Decoder.instr pc) cc pc = .ok (.iload_n 3, pc + 1) := by
    show Except.bind ((Jvm.ClassFile.Reader.u1 : Jvm.ClassFile.Decoder Nat) cc pc) _ = _
    rw [hu]
    rfl
  show Except.bind ((Jvm.ClassFile.Decoder.instr pc) cc pc) _ = _
  rw [hi]
  show Except.ok (_, pc + 1 - pc) = _
  rw [Nat.add_sub_cancel_left]
theorem x_d30 {cc : ByteArray} {pc : Nat} (h : x_by cc pc = some 30) : decode cc pc = .ok (.lload_n 0, 1) := by
  have hu := x_u1 h
  have hi : (Jvm.ClassFile.Decoder.instr pc) cc pc = .ok (.lload_n 0, pc + 1) := by
    show Except.bind ((Jvm.ClassFile.Reader.u1 : Jvm.ClassFile.Decoder Nat) cc pc) _ = _
    rw [hu]
    rfl
  show Except.bind ((Jvm.ClassFile.Decoder.instr pc) cc pc) _ = _
  rw [hi]
  show Except.ok (_, pc + 1 - pc) = _
  rw [Nat.add_sub_cancel_left]
theorem x_d31 {cc : ByteArray} {pc : Nat} (h : x_by cc pc = some 31) : decode cc pc = .ok (.lload_n 1, 1) := by
  have hu := x_u1 h
  have hi : (Jvm.ClassFile.Decoder.instr pc) cc pc = .ok (.lload_n 1, pc + 1) := by
    show Except.bind ((Jvm.ClassFile.Reader.u1 : Jvm.ClassFile.Decoder Nat) cc pc) _ = _
    rw [hu]
    rfl
  show Except.bind ((Jvm.ClassFile.Decoder.instr pc) cc pc) _ = _
  rw [hi]
  show Except.ok (_, pc + 1 - pc) = _
  rw [Nat.add_sub_cancel_left]
theorem x_d32 {cc : ByteArray} {pc : Nat} (h : x_by cc pc = some 32) : decode cc pc = .ok (.lload_n 2, 1) := by
  have hu := x_u1 h
  have hi : (Jvm.ClassFile.Decoder.instr pc) cc pc = .ok (.lload_n 2, pc + 1) := by
    show Except.bind ((Jvm.ClassFile.Reader.u1 : Jvm.ClassFile.Decoder Nat) cc pc) _ = _
    rw [hu]
    rfl
  show Except.bind ((Jvm.ClassFile.Decoder.instr pc) cc pc) _ = _
  rw [hi]
  show Except.ok (_, pc + 1 - pc) = _
  rw [Nat.add_sub_cancel_left]
theorem x_d33 {cc : ByteArray} {pc : Nat} (h : x_by cc pc = some 33) : decode cc pc = .ok (.lload_n 3, 1) := by
  have hu := x_u1 h
  have hi : (Jvm.ClassFile.Decoder.instr pc) cc pc = .ok (.lload_n 3, pc + 1) := by
    show Except.bind ((Jvm.ClassFile.Reader.u1 : Jvm.ClassFile.Decoder Nat) cc pc) _ = _
    rw [hu]
    rfl
  show Except.bind ((Jvm.ClassFile.Decoder.instr pc) cc pc) _ = _
  rw [hi]
  show Except.ok (_, pc + 1 - pc) = _
  rw [Nat.add_sub_cancel_left]
theorem x_d42 {cc : ByteArray} {pc : Nat} (h : x_by cc pc = some 42) : decode cc pc = .ok (.aload_n 0, 1) := by
  have hu := x_u1 h
  have hi : (Jvm.ClassFile.Decoder.instr pc) cc pc = .ok (.aload_n 0, pc + 1) := by
    show Except.bind ((Jvm.ClassFile.Reader.u1 : Jvm.ClassFile.Decoder Nat) cc pc) _ = _
    rw [hu]
    rfl
  show Except.bind ((Jvm.ClassFile.Decoder.instr pc) cc pc) _ = _
  rw [hi]
  show Except.ok (_, pc + 1 - pc) = _
  rw [Nat.add_sub_cancel_left]
theorem x_d43 {cc : ByteArray} {pc : Nat} (h : x_by cc pc = some 43) : decode cc pc = .ok (.aload_n 1, 1) := by
  have hu := x_u1 h
  have hi : (Jvm.ClassFile.Decoder.instr pc) cc pc = .ok (.aload_n 1, pc + 1) := by
    show Except.bind ((Jvm.ClassFile.Reader.u1 : Jvm.ClassFile.Decoder Nat) cc pc) _ = _
    rw [hu]
    rfl
  show Except.bind ((Jvm.ClassFile.Decoder.instr pc) cc pc) _ = _
  rw [hi]
  show Except.ok (_, pc + 1 - pc) = _
  rw [Nat.add_sub_cancel_left]
theorem x_d44 {cc : ByteArray} {pc : Nat} (h : x_by cc pc = some 44) : decode cc pc = .ok (.aload_n 2, 1) := by
  have hu := x_u1 h
  have hi : (Jvm.ClassFile.Decoder.instr pc) cc pc = .ok (.aload_n 2, pc + 1) := by
    show Except.bind ((Jvm.ClassFile.Reader.u1 : Jvm.ClassFile.Decoder Nat) cc pc) _ = _
    rw [hu]
    rfl
  show Except.bind ((Jvm.ClassFile.Decoder.instr pc) cc pc) _ = _
  rw [hi]
  show Except.ok (_, pc + 1 - pc) = _
  rw [Nat.add_sub_cancel_left]
theorem x_d45 {cc : ByteArray} {pc : Nat} (h : x_by cc pc = some 45) : decode cc pc = .ok (.aload_n 3, 1) := by
  have hu := x_u1 h
  have hi : (Jvm.ClassFile.Decoder.instr pc) cc pc = .ok (.aload_n 3, pc + 1) := by
    show Except.bind ((Jvm.ClassFile.Reader.u1 : Jvm.ClassFile.Decoder Nat) cc pc) _ = _
    rw [hu]
    rfl
  show Except.bind ((Jvm.ClassFile.Decoder.instr pc) cc pc) _ = _
  rw [hi]
  show Except.ok (_, pc + 1 - pc) = _
  rw [Nat.add_sub_cancel_left]
theorem x_d46 {cc : ByteArray} {pc : Nat} (h : x_by cc pc = some 46) : decode cc pc = .ok (.iaload, 1) := by
  have hu := x_u1 h
  have hi : (Jvm.ClassFile.Decoder.instr pc) cc pc = .ok (.iaload, pc + 1) := by
    show Except.bind ((Jvm.ClassFile.Reader.u1 : Jvm.ClassFile.Decoder Nat) cc pc) _ = _
    rw [hu]
    rfl
  show Except.bind ((Jvm.ClassFile.Decoder.instr pc) cc pc) _ = _
  rw [hi]
  show Except.ok (_, pc + 1 - pc) = _
  rw [Nat.add_sub_cancel_left]
theorem x_d47 {cc : ByteArray} {pc : Nat} (h : x_by cc pc = some 47) : decode cc pc = .ok (.laload, 1) := by
  have hu := x_u1 h
  have hi : (Jvm.ClassFile.Decoder.instr pc) cc pc = .ok (.laload, pc + 1) := by
    show Except.bind ((Jvm.ClassFile.Reader.u1 : Jvm.ClassFile.Decoder Nat) cc pc) _ = _
    rw [hu]
    rfl
  show Except.bind ((Jvm.ClassFile.Decoder.instr pc) cc pc) _ = _
  rw [hi]
  show Except.ok (_, pc + 1 - pc) = _
  rw [Nat.add_sub_cancel_left]
theorem x_d50 {cc : ByteArray} {pc : Nat} (h : x_by cc pc = some 50) : decode cc pc = .ok (.aaload, 1) := by
  have hu := x_u1 h
  have hi : (Jvm.ClassFile.Decoder.instr pc) cc pc = .ok (.aaload, pc + 1) := by
    show Except.bind ((Jvm.ClassFile.Reader.u1 : Jvm.ClassFile.Decoder Nat) cc pc) _ = _
    rw [hu]
    rfl
  show Except.bind ((Jvm.ClassFile.Decoder.instr pc) cc pc) _ = _
  rw [hi]
  show Except.ok (_, pc + 1 - pc) = _
  rw [Nat.add_sub_cancel_left]
theorem x_d51 {cc : ByteArray} {pc : Nat} (h : x_by cc pc = some 51) : decode cc pc = .ok (.baload, 1) := by
  have hu := x_u1 h
  have hi : (Jvm.ClassFile.Decoder.instr pc) cc pc = .ok (.baload, pc + 1) := by
    show Except.bind ((Jvm.ClassFile.Reader.u1 : Jvm.ClassFile.Decoder Nat) cc pc) _ = _
    rw [hu]
    rfl
  show Except.bind ((Jvm.ClassFile.Decoder.instr pc) cc pc) _ = _
  rw [hi]
  show Except.ok (_, pc + 1 - pc) = _
  rw [Nat.add_sub_cancel_left]
theorem x_d54 {cc : ByteArray} {pc b1 : Nat} (h : x_by cc pc = some 54) (h1 : x_by cc (pc + 1) = some b1) : decode cc pc = .ok (.istore  b1, 2) := by
  have hu := x_u1 h
  have hu1 := x_u1 h1
  have hi : (Jvm.ClassFile.Decoder.instr pc) cc pc = .ok (.istore  b1, pc + 2) := by
    show Except.bind ((Jvm.ClassFile.Reader.u1 : Jvm.ClassFile.Decoder Nat) cc pc) _ = _
    rw [hu]
    show Except.bind ((Jvm.ClassFile.Reader.u1 : Jvm.ClassFile.Decoder Nat) cc (pc + 1)) _ = _
    rw [hu1]
    rfl
  show Except.bind ((Jvm.ClassFile.Decoder.instr pc) cc pc) _ = _
  rw [hi]
  show Except.ok (_, pc + 2 - pc) = _
  rw [Nat.add_sub_cancel_left]
theorem x_d55 {cc : ByteArray} {pc b1 : Nat} (h : x_by cc pc = some 55) (h1 : x_by cc (pc + 1) = some b1) : decode cc pc = .ok (.lstore  b1, 2) := by
  have hu := x_u1 h
  have hu1 := x_u1 h1
  have hi : (Jvm.ClassFile.Decoder.instr pc) cc pc = .ok (.lstore  b1, pc + 2) := by
    show Except.bind ((Jvm.ClassFile.Reader.u1 : Jvm.ClassFile.Decoder Nat) cc pc) _ = _
    rw [hu]
    show Except.bind ((Jvm.ClassFile.Reader.u1 : Jvm.ClassFile.Decoder Nat) cc (pc + 1)) _ = _
    rw [hu1]
    rfl
  show Except.bind ((Jvm.ClassFile.Decoder.instr pc) cc pc) _ = _
  rw [hi]
  show Except.ok (_, pc + 2 - pc) = _
  rw [Nat.add_sub_cancel_left]
theorem x_d58 {cc : ByteArray} {pc b1 : Nat} (h : x_by cc pc = some 58) (h1 : x_by cc (pc + 1) = some b1) : decode cc pc = .ok (.astore  b1, 2) := by
  have hu := x_u1 h
  have hu1 := x_u1 h1
  have hi : (Jvm.ClassFile.Decoder.instr pc) cc pc = .ok (.astore  b1, pc + 2) := by
    show Except.bind ((Jvm.ClassFile.Reader.u1 : Jvm.ClassFile.Decoder Nat) cc pc) _ = _
    rw [hu]
    show Except.bind ((Jvm.ClassFile.Reader.u1 : Jvm.ClassFile.Decoder Nat) cc (pc + 1)) _ = _
    rw [hu1]
    rfl
  show Except.bind ((Jvm.ClassFile.Decoder.instr pc) cc pc) _ = _
  rw [hi]
  show Except.ok (_, pc + 2 - pc) = _
  rw [Nat.add_sub_cancel_left]
theorem x_d59 {cc : ByteArray} {pc : Nat} (h : x_by cc pc = some 59) : decode cc pc = .ok (.istore_n 0, 1) := by
  have hu := x_u1 h
  have hi : (Jvm.ClassFile.Decoder.instr pc) cc pc = .ok (.istore_n 0, pc + 1) := by
    show Except.bind ((Jvm.ClassFile.Reader.u1 : Jvm.ClassFile.Decoder Nat) cc pc) _ = _
    rw [hu]
    rfl
  show Except.bind ((Jvm.ClassFile.Decoder.instr pc) cc pc) _ = _
  rw [hi]
  show Except.ok (_, pc + 1 - pc) = _
  rw [Nat.add_sub_cancel_left]
theorem x_d60 {cc : ByteArray} {pc : Nat} (h : x_by cc pc = some 60) : decode cc pc = .ok (.istore_n 1, 1) := by
  have hu := x_u1 h
  have hi : (Jvm.ClassFile.Decoder.instr pc) cc pc = .ok (.istore_n 1, pc + 1) := by
    show Except.bind ((Jvm.ClassFile.Reader.u1 : Jvm.ClassFile.Decoder Nat) cc pc) _ = _
    rw [hu]
    rfl
  show Except.bind ((Jvm.ClassFile.Decoder.instr pc) cc pc) _ = _
  rw [hi]
  show Except.ok (_, pc + 1 - pc) = _
  rw [Nat.add_sub_cancel_left]
theorem x_d61 {cc : ByteArray} {pc : Nat} (h : x_by cc pc = some 61) : decode cc pc = .ok (.istore_n 2, 1) := by
  have hu := x_u1 h
  have hi : (Jvm.ClassFile.Decoder.instr pc) cc pc = .ok (.istore_n 2, pc + 1) := by
    show Except.bind ((Jvm.ClassFile.Reader.u1 : Jvm.ClassFile.Decoder Nat) cc pc) _ = _
    rw [hu]
    rfl
  show Except.bind ((Jvm.ClassFile.Decoder.instr pc) cc pc) _ = _
  rw [hi]
  show Except.ok (_, pc + 1 - pc) = _
  rw [Nat.add_sub_cancel_left]
theorem x_d62 {cc : ByteArray} {pc : Nat} (h : x_by cc pc = some 62) : decode cc pc = .ok (.istore_n 3, 1) := by
  have hu := x_u1 h
  have hi : (Jvm.ClassFile.Decoder.instr pc) cc pc = .ok (.istore_n 3, pc + 1) := by
    show Except.bind ((Jvm.ClassFile.Reader.u1 : Jvm.ClassFile.Decoder Nat) cc pc) _ = _
    rw [hu]
    rfl
  show Except.bind ((Jvm.ClassFile.Decoder.instr pc) cc pc) _ = _
  rw [hi]
  show Except.ok (_, pc + 1 - pc) = _
  rw [Nat.add_sub_cancel_left]
theorem x_d63 {cc : ByteArray} {pc : Nat} (h : x_by cc pc = some 63) : decode cc pc = .ok (.lstore_n 0, 1) := by
  have hu := x_u1 h
  have hi : (Jvm.ClassFile.Decoder.instr pc) cc pc = .ok (.lstore_n 0, pc + 1) := by
    show Except.bind ((Jvm.ClassFile.Reader.u1 : Jvm.ClassFile.Decoder Nat) cc pc) _ = _
    rw [hu]
    rfl
  show Except.bind ((Jvm.ClassFile.Decoder.instr pc) cc pc) _ = _
  rw [hi]
  show Except.ok (_, pc + 1 - pc) = _
  rw [Nat.add_sub_cancel_left]
theorem x_d64 {cc : ByteArray} {pc : Nat} (h : x_by cc pc = some 64) : decode cc pc = .ok (.lstore_n 1, 1) := by
  have hu := x_u1 h
  have hi : (Jvm.ClassFile.Decoder.instr pc) cc pc = .ok (.lstore_n 1, pc + 1) := by
    show Except.bind ((Jvm.ClassFile.Reader.u1 : Jvm.ClassFile.Decoder Nat) cc pc) _ = _
    rw [hu]
    rfl
  show Except.bind ((Jvm.ClassFile.Decoder.instr pc) cc pc) _ = _
  rw [hi]
  show Except.ok (_, pc + 1 - pc) = _
  rw [Nat.add_sub_cancel_left]
theorem x_d65 {cc : ByteArray} {pc : Nat} (h : x_by cc pc = some 65) : decode cc pc = .ok (.lstore_n 2, 1) := by
  have hu := x_u1 h
  have hi : (Jvm.ClassFile.Decoder.instr pc) cc pc = .ok (.lstore_n 2, pc + 1) := by
    show Except.bind ((Jvm.ClassFile.Reader.u1 : Jvm.ClassFile.Decoder Nat) cc pc) _ = _
    rw [hu]
    rfl
  show Except.bind ((Jvm.ClassFile.Decoder.instr pc) cc pc) _ = _
  rw [hi]
  show Except.ok (_, pc + 1 - pc) = _
  rw [Nat.add_sub_cancel_left]
theorem x_d66 {cc : ByteArray} {pc : Nat} (h : x_by cc pc = some 66) : decode cc pc = .ok (.lstore_n 3, 1) := by
  have hu := x_u1 h
  have hi : (Jvm.ClassFile.Decoder.instr pc) cc pc = .ok (.lstore_n 3, pc + 1) := by
    show Except.bind ((Jvm.ClassFile.Reader.u1 : Jvm.ClassFile.Decoder Nat) cc pc) _ = _
    rw [hu]
    rfl
  show Except.bind ((Jvm.ClassFile.Decoder.instr pc) cc pc) _ = _
  rw [hi]
  show Except.ok (_, pc + 1 - pc) = _
  rw [Nat.add_sub_cancel_left]
theorem x_d75 {cc : ByteArray} {pc : Nat} (h : x_by cc pc = some 75) : decode cc pc = .ok (.astore_n 0, 1) := by
  have hu := x_u1 h
  have hi : (Jvm.ClassFile.Decoder.instr pc) cc pc = .ok (.astore_n 0, pc + 1) := by
    show Except.bind ((Jvm.ClassFile.Reader.u1 : Jvm.ClassFile.Decoder Nat) cc pc) _ = _
    rw [hu]
    rfl
  show Except.bind ((Jvm.ClassFile.Decoder.instr pc) cc pc) _ = _
  rw [hi]
  show Except.ok (_, pc + 1 - pc) = _
  rw [Nat.add_sub_cancel_left]
theorem x_d76 {cc : ByteArray} {pc : Nat} (h : x_by cc pc = some 76) : decode cc pc = .ok (.astore_n 1, 1) := by
  have hu := x_u1 h
  have hi : (Jvm.ClassFile.Decoder.instr pc) cc pc = .ok (.astore_n 1, pc + 1) := by
    show Except.bind ((Jvm.ClassFile.Reader.u1 : Jvm.ClassFile.Decoder Nat) cc pc) _ = _
    rw [hu]
    rfl
  show Except.bind ((Jvm.ClassFile.Decoder.instr pc) cc pc) _ = _
  rw [hi]
  show Except.ok (_, pc + 1 - pc) = _
  rw [Nat.add_sub_cancel_left]
theorem x_d77 {cc : ByteArray} {pc : Nat} (h : x_by cc pc = some 77) : decode cc pc = .ok (.astore_n 2, 1) := by
  have hu := x_u1 h
  have hi : (Jvm.ClassFile.Decoder.instr pc) cc pc = .ok (.astore_n 2, pc + 1) := by
    show Except.bind ((Jvm.ClassFile.Reader.u1 : Jvm.ClassFile.Decoder Nat) cc pc) _ = _
    rw [hu]
    rfl
  show Except.bind ((Jvm.ClassFile.Decoder.instr pc) cc pc) _ = _
  rw [hi]
  show Except.ok (_, pc + 1 - pc) = _
  rw [Nat.add_sub_cancel_left]
theorem x_d78 {cc : ByteArray} {pc : Nat} (h : x_by cc pc = some 78) : decode cc pc = .ok (.astore_n 3, 1) := by
  have hu := x_u1 h
  have hi : (Jvm.ClassFile.Decoder.instr pc) cc pc = .ok (.astore_n 3, pc + 1) := by
    show Except.bind ((Jvm.ClassFile.Reader.u1 : Jvm.ClassFile.Decoder Nat) cc pc) _ = _
    rw [hu]
    rfl
  show Except.bind ((Jvm.ClassFile.Decoder.instr pc) cc pc) _ = _
  rw [hi]
  show Except.ok (_, pc + 1 - pc) = _
  rw [Nat.add_sub_cancel_left]
theorem x_d79 {cc : ByteArray} {pc : Nat} (h : x_by cc pc = some 79) : decode cc pc = .ok (.iastore, 1) := by
  have hu := x_u1 h
  have hi : (Jvm.ClassFile.Decoder.instr pc) cc pc = .ok (.iastore, pc + 1) := by
    show Except.bind ((Jvm.ClassFile.Reader.u1 : Jvm.ClassFile.Decoder Nat) cc pc) _ = _
    rw [hu]
    rfl
  show Except.bind ((Jvm.ClassFile.Decoder.instr pc) cc pc) _ = _
  rw [hi]
  show Except.ok (_, pc + 1 - pc) = _
  rw [Nat.add_sub_cancel_left]
theorem x_d80 {cc : ByteArray} {pc : Nat} (h : x_by cc pc = some 80) : decode cc pc = .ok (.lastore, 1) := by
  have hu := x_u1 h
  have hi : (Jvm.ClassFile.Decoder.instr pc) cc pc = .ok (.lastore, pc + 1) := by
    show Except.bind ((Jvm.ClassFile.Reader.u1 : Jvm.ClassFile.Decoder Nat) cc pc) _ = _
    rw [hu]
    rfl
  show Except.bind ((Jvm.ClassFile.Decoder.instr pc) cc pc) _ = _
  rw [hi]
  show Except.ok (_, pc + 1 - pc) = _
  rw [Nat.add_sub_cancel_left]
theorem x_d83 {cc : ByteArray} {pc : Nat} (h : x_by cc pc = some 83) : decode cc pc = .ok (.aastore, 1) := by
  have hu := x_u1 h
  have hi : (Jvm.ClassFile.Decoder.instr pc) cc pc = .ok (.aastore, pc + 1) := by
    show Except.bind ((Jvm.ClassFile.Reader.u1 : Jvm.ClassFile.Decoder Nat) cc pc) _ = _
    rw [hu]
    rfl
  show Except.bind ((Jvm.ClassFile.Decoder.instr pc) cc pc) _ = _
  rw [hi]
  show Except.ok (_, pc + 1 - pc) = _
  rw [Nat.add_sub_cancel_left]
theorem x_d84 {cc : ByteArray} {pc : Nat} (h : x_by cc pc = some 84) : decode cc pc = .ok (.bastore, 1) := by
  have hu := x_u1 h
  have hi : (Jvm.ClassFile.Decoder.instr pc) cc pc = .ok (.bastore, pc + 1) := by
    show Except.bind ((Jvm.ClassFile.Reader.u1 : Jvm.ClassFile.Decoder Nat) cc pc) _ = _
    rw [hu]
    rfl
  show Except.bind ((Jvm.ClassFile.Decoder.instr pc) cc pc) _ = _
  rw [hi]
  show Except.ok (_, pc + 1 - pc) = _
  rw [Nat.add_sub_cancel_left]
theorem x_d87 {cc : ByteArray} {pc : Nat} (h : x_by cc pc = some 87) : decode cc pc = .ok (.pop, 1) := by
  have hu := x_u1 h
  have hi : (Jvm.ClassFile.Decoder.instr pc) cc pc = .ok (.pop, pc + 1) := by
    show Except.bind ((Jvm.ClassFile.Reader.u1 : Jvm.ClassFile.Decoder Nat) cc pc) _ = _
    rw [hu]
    rfl
  show Except.bind ((Jvm.ClassFile.Decoder.instr pc) cc pc) _ = _
  rw [hi]
  show Except.ok (_, pc + 1 - pc) = _
  rw [Nat.add_sub_cancel_left]
theorem x_d88 {cc : ByteArray} {pc : Nat} (h : x_by cc pc = some 88) : decode cc pc = .ok (.pop2, 1) := by
  have hu := x_u1 h
  have hi : (Jvm.ClassFile.Decoder.instr pc) cc pc = .ok (.pop2, pc + 1) := by
    show Except.bind ((Jvm.ClassFile.Reader.u1 : Jvm.ClassFile.Decoder Nat) cc pc) _ = _
    rw [hu]
    rfl
  show Except.bind ((Jvm.ClassFile.Decoder.instr pc) cc pc) _ = _
  rw [hi]
  show Except.ok (_, pc + 1 - pc) = _
  rw [Nat.add_sub_cancel_left]
theorem x_d89 {cc : ByteArray} {pc : Nat} (h : x_by cc pc = some 89) : decode cc pc = .ok (.dup, 1) := by
  have hu := x_u1 h
  have hi : (Jvm.ClassFile.Decoder.instr pc) cc pc = .ok (.dup, pc + 1) := by
    show Except.bind ((Jvm.ClassFile.Reader.u1 : Jvm.ClassFile.Decoder Nat) cc pc) _ = _
    rw [hu]
    rfl
  show Except.bind ((Jvm.ClassFile.Decoder.instr pc) cc pc) _ = _
  rw [hi]
  show Except.ok (_, pc + 1 - pc) = _
  rw [Nat.add_sub_cancel_left]
theorem x_d90 {cc : ByteArray} {pc : Nat} (h : x_by cc pc = some 90) : decode cc pc = .ok (.dup_x1, 1) := by
  have hu := x_u1 h
  have hi : (Jvm.ClassFile.Decoder.instr pc) cc pc = .ok (.dup_x1, pc + 1) := by
    show Except.bind ((Jvm.ClassFile.Reader.u1 : Jvm.ClassFile.Decoder Nat) cc pc) _ = _
    rw [hu]
    rfl
  show Except.bind ((Jvm.ClassFile.Decoder.instr pc) cc pc) _ = _
  rw [hi]
  show Except.ok (_, pc + 1 - pc) = _
  rw [Nat.add_sub_cancel_left]
theorem x_d92 {cc : ByteArray} {pc : Nat} (h : x_by cc pc = some 92) : decode cc pc = .ok (.dup2, 1) := by
  have hu := x_u1 h
  have hi : (Jvm.ClassFile.Decoder.instr pc) cc pc = .ok (.dup2, pc + 1) := by
    show Except.bind ((Jvm.ClassFile.Reader.u1 : Jvm.ClassFile.Decoder Nat) cc pc) _ = _
    rw [hu]
    rfl
  show Except.bind ((Jvm.ClassFile.Decoder.instr pc) cc pc) _ = _
  rw [hi]
  show Except.ok (_, pc + 1 - pc) = _
  rw [Nat.add_sub_cancel_left]
theorem x_d96 {cc : ByteArray} {pc : Nat} (h : x_by cc pc = some 96) : decode cc pc = .ok (.iadd, 1) := by
  have hu := x_u1 h
  have hi : (Jvm.ClassFile.Decoder.instr pc) cc pc = .ok (.iadd, pc + 1) := by
    show Except.bind ((Jvm.ClassFile.Reader.u1 : Jvm.ClassFile.Decoder Nat) cc pc) _ = _
    rw [hu]
    rfl
  show Except.bind ((Jvm.ClassFile.Decoder.instr pc) cc pc) _ = _
  rw [hi]
  show Except.ok (_, pc + 1 - pc) = _
  rw [Nat.add_sub_cancel_left]
theorem x_d97 {cc : ByteArray} {pc : Nat} (h : x_by cc pc = some 97) : decode cc pc = .ok (.ladd, 1) := by
  have hu := x_u1 h
  have hi : (Jvm.ClassFile.Decoder.instr pc) cc pc = .ok (.ladd, pc + 1) := by
    show Except.bind ((Jvm.ClassFile.Reader.u1 : Jvm.ClassFile.Decoder Nat) cc pc) _ = _
    rw [hu]
    rfl
  show Except.bind ((Jvm.ClassFile.Decoder.instr pc) cc pc) _ = _
  rw [hi]
  show Except.ok (_, pc + 1 - pc) = _
  rw [Nat.add_sub_cancel_left]
theorem x_d100 {cc : ByteArray} {pc : Nat} (h : x_by cc pc = some 100) : decode cc pc = .ok (.isub, 1) := by
  have hu := x_u1 h
  have hi : (Jvm.ClassFile.Decoder.instr pc) cc pc = .ok (.isub, pc + 1) := by
    show Except.bind ((Jvm.ClassFile.Reader.u1 : Jvm.ClassFile.Decoder Nat) cc pc) _ = _
    rw [hu]
    rfl
  show Except.bind ((Jvm.ClassFile.Decoder.instr pc) cc pc) _ = _
  rw [hi]
  show Except.ok (_, pc + 1 - pc) = _
  rw [Nat.add_sub_cancel_left]
theorem x_d101 {cc : ByteArray} {pc : Nat} (h : x_by cc pc = some 101) : decode cc pc = .ok (.lsub, 1) := by
  have hu := x_u1 h
  have hi : (Jvm.ClassFile.Decoder.instr pc) cc pc = .ok (.lsub, pc + 1) := by
    show Except.bind ((Jvm.ClassFile.Reader.u1 : Jvm.ClassFile.Decoder Nat) cc pc) _ = _
    rw [hu]
    rfl
  show Except.bind ((Jvm.ClassFile.Decoder.instr pc) cc pc) _ = _
  rw [hi]
  show Except.ok (_, pc + 1 - pc) = _
  rw [Nat.add_sub_cancel_left]
theorem x_d104 {cc : ByteArray} {pc : Nat} (h : x_by cc pc = some 104) : decode cc pc = .ok (.imul, 1) := by
  have hu := x_u1 h
  have hi : (Jvm.ClassFile.Decoder.instr pc) cc pc = .ok (.imul, pc + 1) := by
    show Except.bind ((Jvm.ClassFile.Reader.u1 : Jvm.ClassFile.Decoder Nat) cc pc) _ = _
    rw [hu]
    rfl
  show Except.bind ((Jvm.ClassFile.Decoder.instr pc) cc pc) _ = _
  rw [hi]
  show Except.ok (_, pc + 1 - pc) = _
  rw [Nat.add_sub_cancel_left]
theorem x_d105 {cc : ByteArray} {pc : Nat} (h : x_by cc pc = some 105) : decode cc pc = .ok (.lmul, 1) := by
  have hu := x_u1 h
  have hi : (Jvm.ClassFile.Decoder.instr pc) cc pc = .ok (.lmul, pc + 1) := by
    show Except.bind ((Jvm.ClassFile.Reader.u1 : Jvm.ClassFile.Decoder Nat) cc pc) _ = _
    rw [hu]
    rfl
  show Except.bind ((Jvm.ClassFile.Decoder.instr pc) cc pc) _ = _
  rw [hi]
  show Except.ok (_, pc + 1 - pc) = _
  rw [Nat.add_sub_cancel_left]
theorem x_d108 {cc : ByteArray} {pc : Nat} (h : x_by cc pc = some 108) : decode cc pc = .ok (.idiv, 1) := by
  have hu := x_u1 h
  have hi : (Jvm.ClassFile.Decoder.instr pc) cc pc = .ok (.idiv, pc + 1) := by
    show Except.bind ((Jvm.ClassFile.Reader.u1 : Jvm.ClassFile.Decoder Nat) cc pc) _ = _
    rw [hu]
    rfl
  show Except.bind ((Jvm.ClassFile.Decoder.instr pc) cc pc) _ = _
  rw [hi]
  show Except.ok (_, pc + 1 - pc) = _
  rw [Nat.add_sub_cancel_left]
theorem x_d109 {cc : ByteArray} {pc : Nat} (h : x_by cc pc = some 109) : decode cc pc = .ok (.ldiv, 1) := by
  have hu := x_u1 h
  have hi : (Jvm.ClassFile.Decoder.instr pc) cc pc = .ok (.ldiv, pc + 1) := by
    show Except.bind ((Jvm.ClassFile.Reader.u1 : Jvm.ClassFile.Decoder Nat) cc pc) _ = _
    rw [hu]
    rfl
  show Except.bind ((Jvm.ClassFile.Decoder.instr pc) cc pc) _ = _
  rw [hi]
  show Except.ok (_, pc + 1 - pc) = _
  rw [Nat.add_sub_cancel_left]
theorem x_d112 {cc : ByteArray} {pc : Nat} (h : x_by cc pc = some 112) : decode cc pc = .ok (.irem, 1) := by
  have hu := x_u1 h
  have hi : (Jvm.ClassFile.Decoder.instr pc) cc pc = .ok (.irem, pc + 1) := by
    show Except.bind ((Jvm.ClassFile.Reader.u1 : Jvm.ClassFile.Decoder Nat) cc pc) _ = _
    rw [hu]
    rfl
  show Except.bind ((Jvm.ClassFile.Decoder.instr pc) cc pc) _ = _
  rw [hi]
  show Except.ok (_, pc + 1 - pc) = _
  rw [Nat.add_sub_cancel_left]
theorem x_d113 {cc : ByteArray} {pc : Nat} (h : x_by cc pc = some 113) : decode cc pc = .ok (.lrem, 1) := by
  have hu := x_u1 h
  have hi : (Jvm.ClassFile.Decoder.instr pc) cc pc = .ok (.lrem, pc + 1) := by
    show Except.bind ((Jvm.ClassFile.Reader.u1 : Jvm.ClassFile.Decoder Nat) cc pc) _ = _
    rw [hu]
    rfl
  show Except.bind ((Jvm.ClassFile.Decoder.instr pc) cc pc) _ = _
  rw [hi]
  show Except.ok (_, pc + 1 - pc) = _
  rw [Nat.add_sub_cancel_left]
theorem x_d116 {cc : ByteArray} {pc : Nat} (h : x_by cc pc = some 116) : decode cc pc = .ok (.ineg, 1) := by
  have hu := x_u1 h
  have hi : (Jvm.ClassFile.Decoder.instr pc) cc pc = .ok (.ineg, pc + 1) := by
    show Except.bind ((Jvm.ClassFile.Reader.u1 : Jvm.ClassFile.Decoder Nat) cc pc) _ = _
    rw [hu]
    rfl
  show Except.bind ((Jvm.ClassFile.Decoder.instr pc) cc pc) _ = _
  rw [hi]
  show Except.ok (_, pc + 1 - pc) = _
  rw [Nat.add_sub_cancel_left]
theorem x_d117 {cc : ByteArray} {pc : Nat} (h : x_by cc pc = some 117) : decode cc pc = .ok (.lneg, 1) := by
  have hu := x_u1 h
  have hi : (Jvm.ClassFile.Decoder.instr pc) cc pc = .ok (.lneg, pc + 1) := by
    show Except.bind ((Jvm.ClassFile.Reader.u1 : Jvm.ClassFile.Decoder Nat) cc pc) _ = _
    rw [hu]
    rfl
  show Except.bind ((Jvm.ClassFile.Decoder.instr pc) cc pc) _ = _
  rw [hi]
  show Except.ok (_, pc + 1 - pc) = _
  rw [Nat.add_sub_cancel_left]
theorem x_d120 {cc : ByteArray} {pc : Nat} (h : x_by cc pc = some 120) : decode cc pc = .ok (.ishl, 1) := by
  have hu := x_u1 h
  have hi : (Jvm.ClassFile.Decoder.instr pc) cc pc = .ok (.ishl, pc + 1) := by
    show Except.bind ((Jvm.ClassFile.Reader.u1 : Jvm.ClassFile.Decoder Nat) cc pc) _ = _
    rw [hu]
    rfl
  show Except.bind ((Jvm.ClassFile.Decoder.instr pc) cc pc) _ = _
  rw [hi]
  show Except.ok (_, pc + 1 - pc) = _
  rw [Nat.add_sub_cancel_left]
theorem x_d121 {cc : ByteArray} {pc : Nat} (h : x_by cc pc = some 121) : decode cc pc = .ok (.lshl, 1) := by
  have hu := x_u1 h
  have hi : (Jvm.ClassFile.Decoder.instr pc) cc pc = .ok (.lshl, pc + 1) := by
    show Except.bind ((Jvm.ClassFile.Reader.u1 : Jvm.ClassFile.Decoder Nat) cc pc) _ = _
    rw [hu]
    rfl
  show Except.bind ((Jvm.ClassFile.Decoder.instr pc) cc pc) _ = _
  rw [hi]
  show Except.ok (_, pc + 1 - pc) = _
  rw [Nat.add_sub_cancel_left]
theorem x_d122 {cc : ByteArray} {pc : Nat} (h : x_by cc pc = some 122) : decode cc pc = .ok (.ishr, 1) := by
  have hu := x_u1 h
  have hi : (Jvm.ClassFile.Decoder.instr pc) cc pc = .ok (.ishr, pc + 1) := by
    show Except.bind ((Jvm.ClassFile.Reader.u1 : Jvm.ClassFile.Decoder Nat) cc pc) _ = _
    rw [hu]
    rfl
  show Except.bind ((Jvm.ClassFile.Decoder.instr pc) cc pc) _ = _
  rw [hi]
  show Except.ok (_, pc + 1 - pc) = _
  rw [Nat.add_sub_cancel_left]
theorem x_d123 {cc : ByteArray} {pc : Nat} (h : x_by cc pc = some 123) : decode cc pc = .ok (.lshr, 1) := by
  have hu := x_u1 h
  have hi : (Jvm.ClassFile.Decoder.instr pc) cc pc = .ok (.lshr, pc + 1) := by
    show Except.bind ((Jvm.ClassFile.Reader.u1 : Jvm.ClassFile.Decoder Nat) cc pc) _ = _
    rw [hu]
    rfl
  show Except.bind ((Jvm.ClassFile.Decoder.instr pc) cc pc) _ = _
  rw [hi]
  show Except.ok (_, pc + 1 - pc) = _
  rw [Nat.add_sub_cancel_left]
theorem x_d124 {cc : ByteArray} {pc : Nat} (h : x_by cc pc = some 124) : decode cc pc = .ok (.iushr, 1) := by
  have hu := x_u1 h
  have hi : (Jvm.ClassFile.Decoder.instr pc) cc pc = .ok (.iushr, pc + 1) := by
    show Except.bind ((Jvm.ClassFile.Reader.u1 : Jvm.ClassFile.Decoder Nat) cc pc) _ = _
    rw [hu]
    rfl
  show Except.bind ((Jvm.ClassFile.Decoder.instr pc) cc pc) _ = _
  rw [hi]
  show Except.ok (_, pc + 1 - pc) = _
  rw [Nat.add_sub_cancel_left]
theorem x_d125 {cc : ByteArray} {pc : Nat} (h : x_by cc pc = some 125) : decode cc pc = .ok (.lushr, 1) := by
  have hu := x_u1 h
  have hi : (Jvm.ClassFile.Decoder.instr pc) cc pc = .ok (.lushr, pc + 1) := by
    show Except.bind ((Jvm.ClassFile.Reader.u1 : Jvm.ClassFile.Decoder Nat) cc pc) _ = _
    rw [hu]
    rfl
  show Except.bind ((Jvm.ClassFile.Decoder.instr pc) cc pc) _ = _
  rw [hi]
  show Except.ok (_, pc + 1 - pc) = _
  rw [Nat.add_sub_cancel_left]
theorem x_d126 {cc : ByteArray} {pc : Nat} (h : x_by cc pc = some 126) : decode cc pc = .ok (.iand, 1) := by
  have hu := x_u1 h
  have hi : (Jvm.ClassFile.Decoder.instr pc) cc pc = .ok (.iand, pc + 1) := by
    show Except.bind ((Jvm.ClassFile.Reader.u1 : Jvm.ClassFile.Decoder Nat) cc pc) _ = _
    rw [hu]
    rfl
  show Except.bind ((Jvm.ClassFile.Decoder.instr pc) cc pc) _ = _
  rw [hi]
  show Except.ok (_, pc + 1 - pc) = _
  rw [Nat.add_sub_cancel_left]
theorem x_d127 {cc : ByteArray} {pc : Nat} (h : x_by cc pc = some 127) : decode cc pc = .ok (.land, 1) := by
  have hu := x_u1 h
  have hi : (Jvm.ClassFile.Decoder.instr pc) cc pc = .ok (.land, pc + 1) := by
    show Except.bind ((Jvm.ClassFile.Reader.u1 : Jvm.ClassFile.Decoder Nat) cc pc) _ = _
    rw [hu]
    rfl
  show Except.bind ((Jvm.ClassFile.Decoder.instr pc) cc pc) _ = _
  rw [hi]
  show Except.ok (_, pc + 1 - pc) = _
  rw [Nat.add_sub_cancel_left]
theorem x_d128 {cc : ByteArray} {pc : Nat} (h : x_by cc pc = some 128) : decode cc pc = .ok (.ior, 1) := by
  have hu := x_u1 h
  have hi : (Jvm.ClassFile.Decoder.instr pc) cc pc = .ok (.ior, pc + 1) := by
    show Except.bind ((Jvm.ClassFile.Reader.u1 : Jvm.ClassFile.Decoder Nat) cc pc) _ = _
    rw [hu]
    rfl
  show Except.bind ((Jvm.ClassFile.Decoder.instr pc) cc pc) _ = _
  rw [hi]
  show Except.ok (_, pc + 1 - pc) = _
  rw [Nat.add_sub_cancel_left]
theorem x_d129 {cc : ByteArray} {pc : Nat} (h : x_by cc pc = some 129) : decode cc pc = .ok (.lor, 1) := by
  have hu := x_u1 h
  have hi : (Jvm.ClassFile.Decoder.instr pc) cc pc = .ok (.lor, pc + 1) := by
    show Except.bind ((Jvm.ClassFile.Reader.u1 : Jvm.ClassFile.Decoder Nat) cc pc) _ = _
    rw [hu]
    rfl
  show Except.bind ((Jvm.ClassFile.Decoder.instr pc) cc pc) _ = _
  rw [hi]
  show Except.ok (_, pc + 1 - pc) = _
  rw [Nat.add_sub_cancel_left]
theorem x_d130 {cc : ByteArray} {pc : Nat} (h : x_by cc pc = some 130) : decode cc pc = .ok (.ixor, 1) := by
  have hu := x_u1 h
  have hi : (Jvm.ClassFile.Decoder.instr pc) cc pc = .ok (.ixor, pc + 1) := by
    show Except.bind ((Jvm.ClassFile.Reader.u1 : Jvm.ClassFile.Decoder Nat) cc pc) _ = _
    rw [hu]
    rfl
  show Except.bind ((Jvm.ClassFile.Decoder.instr pc) cc pc) _ = _
  rw [hi]
  show Except.ok (_, pc + 1 - pc) = _
  rw [Nat.add_sub_cancel_left]
theorem x_d131 {cc : ByteArray} {pc : Nat} (h : x_by cc pc = some 131) : decode cc pc = .ok (.lxor, 1) := by
  have hu := x_u1 h
  have hi : (Jvm.ClassFile.Decoder.instr pc) cc pc = .ok (.lxor, pc + 1) := by
    show Except.bind ((Jvm.ClassFile.Reader.u1 : Jvm.ClassFile.Decoder Nat) cc pc) _ = _
    rw [hu]
    rfl
  show Except.bind ((Jvm.ClassFile.Decoder.instr pc) cc pc) _ = _
  rw [hi]
  show Except.ok (_, pc + 1 - pc) = _
  rw [Nat.add_sub_cancel_left]
theorem x_d132 {cc : ByteArray} {pc b1 b2 : Nat} (h : x_by cc pc = some 132) (h1 : x_by cc (pc + 1) = some b1) (h2 : x_by cc (pc + 1 + 1) = some b2) : decode cc pc = .ok (.iinc b1 (Jvm.ClassFile.Reader.signed 8 b2), 3) := by
  have hu := x_u1 h
  have hu1 := x_u1 h1
  have hu2 := x_u1 h2
  have hi : (Jvm.ClassFile.Decoder.instr pc) cc pc = .ok (.iinc b1 (Jvm.ClassFile.Reader.signed 8 b2), pc + 3) := by
    show Except.bind ((Jvm.ClassFile.Reader.u1 : Jvm.ClassFile.Decoder Nat) cc pc) _ = _
    rw [hu]
    show Except.bind ((Jvm.ClassFile.Reader.u1 : Jvm.ClassFile.Decoder Nat) cc (pc + 1)) _ = _
    rw [hu1]
    show Except.bind (Except.bind ((Jvm.ClassFile.Reader.u1 : Jvm.ClassFile.Decoder Nat) cc (pc + 1 + 1)) _) _ = _
    rw [hu2]
    rfl
  show Except.bind ((Jvm.ClassFile.Decoder.instr pc) cc pc) _ = _
  rw [hi]
  show Except.ok (_, pc + 3 - pc) = _
  rw [Nat.add_sub_cancel_left]
theorem x_d133 {cc : ByteArray} {pc : Nat} (h : x_by cc pc = some 133) : decode cc pc = .ok (.i2l, 1) := by
  have hu := x_u1 h
  have hi : (Jvm.ClassFile.Decoder.instr pc) cc pc = .ok (.i2l, pc + 1) := by
    show Except.bind ((Jvm.ClassFile.Reader.u1 : Jvm.ClassFile.Decoder Nat) cc pc) _ = _
    rw [hu]
    rfl
  show Except.bind ((Jvm.ClassFile.Decoder.instr pc) cc pc) _ = _
  rw [hi]
  show Except.ok (_, pc + 1 - pc) = _
  rw [Nat.add_sub_cancel_left]
theorem x_d136 {cc : ByteArray} {pc : Nat} (h : x_by cc pc = some 136) : decode cc pc = .ok (.l2i, 1) := by
  have hu := x_u1 h
  have hi : (Jvm.ClassFile.Decoder.instr pc) cc pc = .ok (.l2i, pc + 1) := by
    show Except.bind ((Jvm.ClassFile.Reader.u1 : Jvm.ClassFile.Decoder Nat) cc pc) _ = _
    rw [hu]
    rfl
  show Except.bind ((Jvm.ClassFile.Decoder.instr pc) cc pc) _ = _
  rw [hi]
  show Except.ok (_, pc + 1 - pc) = _
  rw [Nat.add_sub_cancel_left]
theorem x_d146 {cc : ByteArray} {pc : Nat} (h : x_by cc pc = some 146) : decode cc pc = .ok (.i2c, 1) := by
  have hu := x_u1 h
  have hi : (Jvm.ClassFile.Decoder.instr pc) cc pc = .ok (.i2c, pc + 1) := by
    show Except.bind ((Jvm.ClassFile.Reader.u1 : Jvm.ClassFile.Decoder Nat) cc pc) _ = _
    rw [hu]
    rfl
  show Except.bind ((Jvm.ClassFile.Decoder.instr pc) cc pc) _ = _
  rw [hi]
  show Except.ok (_, pc + 1 - pc) = _
  rw [Nat.add_sub_cancel_left]
theorem x_d148 {cc : ByteArray} {pc : Nat} (h : x_by cc pc = some 148) : decode cc pc = .ok (.lcmp, 1) := by
  have hu := x_u1 h
  have hi : (Jvm.ClassFile.Decoder.instr pc) cc pc = .ok (.lcmp, pc + 1) := by
    show Except.bind ((Jvm.ClassFile.Reader.u1 : Jvm.ClassFile.Decoder Nat) cc pc) _ = _
    rw [hu]
    rfl
  show Except.bind ((Jvm.ClassFile.Decoder.instr pc) cc pc) _ = _
  rw [hi]
  show Except.ok (_, pc + 1 - pc) = _
  rw [Nat.add_sub_cancel_left]
theorem x_d153 {cc : ByteArray} {pc b1 b2 : Nat} (h : x_by cc pc = some 153) (h1 : x_by cc (pc + 1) = some b1) (h2 : x_by cc (pc + 1 + 1) = some b2) : decode cc pc = .ok (.ifCond .eq (Jvm.ClassFile.Reader.signed 16 (b1 * 256 + b2)), 3) := by
  have hu := x_u1 h
  have hu1 := x_u1 h1
  have hu2 := x_u1 h2
  have hi : (Jvm.ClassFile.Decoder.instr pc) cc pc = .ok (.ifCond .eq (Jvm.ClassFile.Reader.signed 16 (b1 * 256 + b2)), pc + 3) := by
    show Except.bind ((Jvm.ClassFile.Reader.u1 : Jvm.ClassFile.Decoder Nat) cc pc) _ = _
    rw [hu]
    show Except.bind (Except.bind (Except.bind ((Jvm.ClassFile.Reader.u1 : Jvm.ClassFile.Decoder Nat) cc (pc + 1)) _) _) _ = _
    rw [hu1]
    show Except.bind (Except.bind (Except.bind ((Jvm.ClassFile.Reader.u1 : Jvm.ClassFile.Decoder Nat) cc (pc + 1 + 1)) _) _) _ = _
    rw [hu2]
    rfl
  show Except.bind ((Jvm.ClassFile.Decoder.instr pc) cc pc) _ = _
  rw [hi]
  show Except.ok (_, pc + 3 - pc) = _
  rw [Nat.add_sub_cancel_left]
theorem x_d154 {cc : ByteArray} {pc b1 b2 : Nat} (h : x_by cc pc = some 154) (h1 : x_by cc (pc + 1) = some b1) (h2 : x_by cc (pc + 1 + 1) = some b2) : decode cc pc = .ok (.ifCond .ne (Jvm.ClassFile.Reader.signed 16 (b1 * 256 + b2)), 3) := by
  have hu := x_u1 h
  have hu1 := x_u1 h1
  have hu2 := x_u1 h2
  have hi : (Jvm.ClassFile.Decoder.instr pc) cc pc = .ok (.ifCond .ne (Jvm.ClassFile.Reader.signed 16 (b1 * 256 + b2)), pc + 3) := by
    show Except.bind ((Jvm.ClassFile.Reader.u1 : Jvm.ClassFile.Decoder Nat) cc pc) _ = _
    rw [hu]
    show Except.bind (Except.bind (Except.bind ((Jvm.ClassFile.Reader.u1 : Jvm.ClassFile.Decoder Nat) cc (pc + 1)) _) _) _ = _
    rw [hu1]
    show Except.bind (Except.bind (Except.bind ((Jvm.ClassFile.Reader.u1 : Jvm.ClassFile.Decoder Nat) cc (pc + 1 + 1)) _) _) _ = _
    rw [hu2]
    rfl
  show Except.bind ((Jvm.ClassFile.Decoder.instr pc) cc pc) _ = _
  rw [hi]
  show Except.ok (_, pc + 3 - pc) = _
  rw [Nat.add_sub_cancel_left]
theorem x_d155 {cc : ByteArray} {pc b1 b2 : Nat} (h : x_by cc pc = some 155) (h1 : x_by cc (pc + 1) = some b1) (h2 : x_by cc (pc + 1 + 1) = some b2) : decode cc pc = .ok (.ifCond .lt (Jvm.ClassFile.Reader.signed 16 (b1 * 256 + b2)), 3) := by
  have hu := x_u1 h
  have hu1 := x_u1 h1
  have hu2 := x_u1 h2
  have hi : (Jvm.ClassFile.Decoder.instr pc) cc pc = .ok (.ifCond .lt (Jvm.ClassFile.Reader.signed 16 (b1 * 256 + b2)), pc + 3) := by
    show Except.bind ((Jvm.ClassFile.Reader.u1 : Jvm.ClassFile.Decoder Nat) cc pc) _ = _
    rw [hu]
    show Except.bind (Except.bind (Except.bind ((Jvm.ClassFile.Reader.u1 : Jvm.ClassFile.Decoder Nat) cc (pc + 1)) _) _) _ = _
    rw [hu1]
    show Except.bind (Except.bind (Except.bind ((Jvm.ClassFile.Reader.u1 : Jvm.ClassFile.Decoder Nat) cc (pc + 1 + 1)) _) _) _ = _
    rw [hu2]
    rfl
  show Except.bind ((Jvm.ClassFile.Decoder.instr pc) cc pc) _ = _
  rw [hi]
  show Except.ok (_, pc + 3 - pc) = _
  rw [Nat.add_sub_cancel_left]
theorem x_d156 {cc : ByteArray} {pc b1 b2 : Nat} (h : x_by cc pc = some 156) (h1 : x_by cc (pc + 1) = some b1) (h2 : x_by cc (pc + 1 + 1) = some b2) : decode cc pc = .ok (.ifCond .ge (Jvm.ClassFile.Reader.signed 16 (b1 * 256 + b2)), 3) := by
  have hu := x_u1 h
  have hu1 := x_u1 h1
  have hu2 := x_u1 h2
  have hi : (Jvm.ClassFile.Decoder.instr pc) cc pc = .ok (.ifCond .ge (Jvm.ClassFile.Reader.signed 16 (b1 * 256 + b2)), pc + 3) := by
    show Except.bind ((Jvm.ClassFile.Reader.u1 : Jvm.ClassFile.Decoder Nat) cc pc) _ = _
    rw [hu]
    show Except.bind (Except.bind (Except.bind ((Jvm.ClassFile.Reader.u1 : Jvm.ClassFile.Decoder Nat) cc (pc + 1)) _) _) _ = _
    rw [hu1]
    show Except.bind (Except.bind (Except.bind ((Jvm.ClassFile.Reader.u1 : Jvm.ClassFile.Decoder Nat) cc (pc + 1 + 1)) _) _) _ = _
    rw [hu2]
    rfl
  show Except.bind ((Jvm.ClassFile.Decoder.instr pc) cc pc) _ = _
  rw [hi]
  show Except.ok (_, pc + 3 - pc) = _
  rw [Nat.add_sub_cancel_left]
theorem x_d157 {cc : ByteArray} {pc b1 b2 : Nat} (h : x_by cc pc = some 157) (h1 : x_by cc (pc + 1) = some b1) (h2 : x_by cc (pc + 1 + 1) = some b2) : decode cc pc = .ok (.ifCond .gt (Jvm.ClassFile.Reader.signed 16 (b1 * 256 + b2)), 3) := by
  have hu := x_u1 h
  have hu1 := x_u1 h1
  have hu2 := x_u1 h2
  have hi : (Jvm.ClassFile.Decoder.instr pc) cc pc = .ok (.ifCond .gt (Jvm.ClassFile.Reader.signed 16 (b1 * 256 + b2)), pc + 3) := by
    show Except.bind ((Jvm.ClassFile.Reader.u1 : Jvm.ClassFile.Decoder Nat) cc pc) _ = _
    rw [hu]
    show Except.bind (Except.bind (Except.bind ((Jvm.ClassFile.Reader.u1 : Jvm.ClassFile.Decoder Nat) cc (pc + 1)) _) _) _ = _
    rw [hu1]
    show Except.bind (Except.bind (Except.bind ((Jvm.ClassFile.Reader.u1 : Jvm.ClassFile.Decoder Nat) cc (pc + 1 + 1)) _) _) _ = _
    rw [hu2]
    rfl
  show Except.bind ((Jvm.ClassFile.Decoder.instr pc) cc pc) _ = _
  rw [hi]
  show Except.ok (_, pc + 3 - pc) = _
  rw [Nat.add_sub_cancel_left]
theorem x_d158 {cc : ByteArray} {pc b1 b2 : Nat} (h : x_by cc pc = some 158) (h1 : x_by cc (pc + 1) = some b1) (h2 : x_by cc (pc + 1 + 1) = some b2) : decode cc pc = .ok (.ifCond .le (Jvm.ClassFile.Reader.signed 16 (b1 * 256 + b2)), 3) := by
  have hu := x_u1 h
  have hu1 := x_u1 h1
  have hu2 := x_u1 h2
  have hi : (Jvm.ClassFile.Decoder.instr pc) cc pc = .ok (.ifCond .le (Jvm.ClassFile.Reader.signed 16 (b1 * 256 + b2)), pc + 3) := by
    show Except.bind ((Jvm.ClassFile.Reader.u1 : Jvm.ClassFile.Decoder Nat) cc pc) _ = _
    rw [hu]
    show Except.bind (Except.bind (Except.bind ((Jvm.ClassFile.Reader.u1 : Jvm.ClassFile.Decoder Nat) cc (pc + 1)) _) _) _ = _
    rw [hu1]
    show Except.bind (Except.bind (Except.bind ((Jvm.ClassFile.Reader.u1 : Jvm.ClassFile.Decoder Nat) cc (pc + 1 + 1)) _) _) _ = _
    rw [hu2]
    rfl
  show Except.bind ((Jvm.ClassFile.Decoder.instr pc) cc pc) _ = _
  rw [hi]
  show Except.ok (_, pc + 3 - pc) = _
  rw [Nat.add_sub_cancel_left]
theorem x_d159 {cc : ByteArray} {pc b1 b2 : Nat} (h : x_by cc pc = some 159) (h1 : x_by cc (pc + 1) = some b1) (h2 : x_by cc (pc + 1 + 1) = some b2) : decode cc pc = .ok (.if_icmp .eq (Jvm.ClassFile.Reader.signed 16 (b1 * 256 + b2)), 3) := by
  have hu := x_u1 h
  have hu1 := x_u1 h1
  have hu2 := x_u1 h2
  have hi : (Jvm.ClassFile.Decoder.instr pc) cc pc = .ok (.if_icmp .eq (Jvm.ClassFile.Reader.signed 16 (b1 * 256 + b2)), pc + 3) := by
    show Except.bind ((Jvm.ClassFile.Reader.u1 : Jvm.ClassFile.Decoder Nat) cc pc) _ = _
    rw [hu]
    show Except.bind (Except.bind (Except.bind ((Jvm.ClassFile.Reader.u1 : Jvm.ClassFile.Decoder Nat) cc (pc + 1)) _) _) _ = _
    rw [hu1]
    show Except.bind (Except.bind (Except.bind ((Jvm.ClassFile.Reader.u1 : Jvm.ClassFile.Decoder Nat) cc (pc + 1 + 1)) _) _) _ = _
    rw [hu2]
    rfl
  show Except.bind ((Jvm.ClassFile.Decoder.instr pc) cc pc) _ = _
  rw [hi]
  show Except.ok (_, pc + 3 - pc) = _
  rw [Nat.add_sub_cancel_left]
theorem x_d160 {cc : ByteArray} {pc b1 b2 : Nat} (h : x_by cc pc = some 160) (h1 : x_by cc (pc + 1) = some b1) (h2 : x_by cc (pc + 1 + 1) = some b2) : decode cc pc = .ok (.if_icmp .ne (Jvm.ClassFile.Reader.signed 16 (b1 * 256 + b2)), 3) := by
  have hu := x_u1 h
  have hu1 := x_u1 h1
  have hu2 := x_u1 h2
  have hi : (Jvm.ClassFile.Decoder.instr pc) cc pc = .ok (.if_icmp .ne (Jvm.ClassFile.Reader.signed 16 (b1 * 256 + b2)), pc + 3) := by
    show Except.bind ((Jvm.ClassFile.Reader.u1 : Jvm.ClassFile.Decoder Nat) cc pc) _ = _
    rw [hu]
    show Except.bind (Except.bind (Except.bind ((Jvm.ClassFile.Reader.u1 : Jvm.ClassFile.Decoder Nat) cc (pc + 1)) _) _) _ = _
    rw [hu1]
    show Except.bind (Except.bind (Except.bind ((Jvm.ClassFile.Reader.u1 : Jvm.ClassFile.Decoder Nat) cc (pc + 1 + 1)) _) _) _ = _
    rw [hu2]
    rfl
  show Except.bind ((Jvm.ClassFile.Decoder.instr pc) cc pc) _ = _
  rw [hi]
  show Except.ok (_, pc + 3 - pc) = _
  rw [Nat.add_sub_cancel_left]
theorem x_d161 {cc : ByteArray} {pc b1 b2 : Nat} (h : x_by cc pc = some 161) (h1 : x_by cc (pc + 1) = some b1) (h2 : x_by cc (pc + 1 + 1) = some b2) : decode cc pc = .ok (.if_icmp .lt (Jvm.ClassFile.Reader.signed 16 (b1 * 256 + b2)), 3) := by
  have hu := x_u1 h
  have hu1 := x_u1 h1
  have hu2 := x_u1 h2
  have hi : (Jvm.ClassFile.Decoder.instr pc) cc pc = .ok (.if_icmp .lt (Jvm.ClassFile.Reader.signed 16 (b1 * 256 + b2)), pc + 3) := by
    show Except.bind ((Jvm.ClassFile.Reader.u1 : Jvm.ClassFile.Decoder Nat) cc pc) _ = _
    rw [hu]
    show Except.bind (Except.bind (Except.bind ((Jvm.ClassFile.Reader.u1 : Jvm.ClassFile.Decoder Nat) cc (pc + 1)) _) _) _ = _
    rw [hu1]
    show Except.bind (Except.bind (Except.bind ((Jvm.ClassFile.Reader.u1 : Jvm.ClassFile.Decoder Nat) cc (pc + 1 + 1)) _) _) _ = _
    rw [hu2]
    rfl
  show Except.bind ((Jvm.ClassFile.Decoder.instr pc) cc pc) _ = _
  rw [hi]
  show Except.ok (_, pc + 3 - pc) = _
  rw [Nat.add_sub_cancel_left]
theorem x_d162 {cc : ByteArray} {pc b1 b2 : Nat} (h : x_by cc pc = some 162) (h1 : x_by cc (pc + 1) = some b1) (h2 : x_by cc (pc + 1 + 1) = some b2) : decode cc pc = .ok (.if_icmp .ge (Jvm.ClassFile.Reader.signed 16 (b1 * 256 + b2)), 3) := by
  have hu := x_u1 h
  have hu1 := x_u1 h1
  have hu2 := x_u1 h2
  have hi : (Jvm.ClassFile.Decoder.instr pc) cc pc = .ok (.if_icmp .ge (Jvm.ClassFile.Reader.signed 16 (b1 * 256 + b2)), pc + 3) := by
    show Except.bind ((Jvm.ClassFile.Reader.u1 : Jvm.ClassFile.Decoder Nat) cc pc) _ = _
    rw [hu]
    show Except.bind (Except.bind (Except.bind ((Jvm.ClassFile.Reader.u1 : Jvm.ClassFile.Decoder Nat) cc (pc + 1)) _) _) _ = _
    rw [hu1]
    show Except.bind (Except.bind (Except.bind ((Jvm.ClassFile.Reader.u1 : Jvm.ClassFile.Decoder Nat) cc (pc + 1 + 1)) _) _) _ = _
    rw [hu2]
    rfl
  show Except.bind ((Jvm.ClassFile.Decoder.instr pc) cc pc) _ = _
  rw [hi]
  show Except.ok (_, pc + 3 - pc) = _
  rw [Nat.add_sub_cancel_left]
theorem x_d163 {cc : ByteArray} {pc b1 b2 : Nat} (h : x_by cc pc = some 163) (h1 : x_by cc (pc + 1) = some b1) (h2 : x_by cc (pc + 1 + 1) = some b2) : decode cc pc = .ok (.if_icmp .gt (Jvm.ClassFile.Reader.signed 16 (b1 * 256 + b2)), 3) := by
  have hu := x_u1 h
  have hu1 := x_u1 h1
  have hu2 := x_u1 h2
  have hi : (Jvm.ClassFile.Decoder.instr pc) cc pc = .ok (.if_icmp .gt (Jvm.ClassFile.Reader.signed 16 (b1 * 256 + b2)), pc + 3) := by
    show Except.bind ((Jvm.ClassFile.Reader.u1 : Jvm.ClassFile.Decoder Nat) cc pc) _ = _
    rw [hu]
    show Except.bind (Except.bind (Except.bind ((Jvm.ClassFile.Reader.u1 : Jvm.ClassFile.Decoder Nat) cc (pc + 1)) _) _) _ = _
    rw [hu1]
    show Except.bind (Except.bind (Except.bind ((Jvm.ClassFile.Reader.u1 : Jvm.ClassFile.Decoder Nat) cc (pc + 1 + 1)) _) _) _ = _
    rw [hu2]
    rfl
  show Except.bind ((Jvm.ClassFile.Decoder.instr pc) cc pc) _ = _
  rw [hi]
  show Except.ok (_, pc + 3 - pc) = _
  rw [Nat.add_sub_cancel_left]
theorem x_d164 {cc : ByteArray} {pc b1 b2 : Nat} (h : x_by cc pc = some 164) (h1 : x_by cc (pc + 1) = some b1) (h2 : x_by cc (pc + 1 + 1) = some b2) : decode cc pc = .ok (.if_icmp .le (Jvm.ClassFile.Reader.signed 16 (b1 * 256 + b2)), 3) := by
  have hu := x_u1 h
  have hu1 := x_u1 h1
  have hu2 := x_u1 h2
  have hi : (Jvm.ClassFile.Decoder.instr pc) cc pc = .ok (.if_icmp .le (Jvm.ClassFile.Reader.signed 16 (b1 * 256 + b2)), pc + 3) := by
    show Except.bind ((Jvm.ClassFile.Reader.u1 : Jvm.ClassFile.Decoder Nat) cc pc) _ = _
    rw [hu]
    show Except.bind (Except.bind (Except.bind ((Jvm.ClassFile.Reader.u1 : Jvm.ClassFile.Decoder Nat) cc (pc + 1)) _) _) _ = _
    rw [hu1]
    show Except.bind (Except.bind (Except.bind ((Jvm.ClassFile.Reader.u1 : Jvm.ClassFile.Decoder Nat) cc (pc + 1 + 1)) _) _) _ = _
    rw [hu2]
    rfl
  show Except.bind ((Jvm.ClassFile.Decoder.instr pc) cc pc) _ = _
  rw [hi]
  show Except.ok (_, pc + 3 - pc) = _
  rw [Nat.add_sub_cancel_left]
theorem x_d167 {cc : ByteArray} {pc b1 b2 : Nat} (h : x_by cc pc = some 167) (h1 : x_by cc (pc + 1) = some b1) (h2 : x_by cc (pc + 1 + 1) = some b2) : decode cc pc = .ok (.goto  (Jvm.ClassFile.Reader.signed 16 (b1 * 256 + b2)), 3) := by
  have hu := x_u1 h
  have hu1 := x_u1 h1
  have hu2 := x_u1 h2
  have hi : (Jvm.ClassFile.Decoder.instr pc) cc pc = .ok (.goto  (Jvm.ClassFile.Reader.signed 16 (b1 * 256 + b2)), pc + 3) := by
    show Except.bind ((Jvm.ClassFile.Reader.u1 : Jvm.ClassFile.Decoder Nat) cc pc) _ = _
    rw [hu]
    show Except.bind (Except.bind (Except.bind ((Jvm.ClassFile.Reader.u1 : Jvm.ClassFile.Decoder Nat) cc (pc + 1)) _) _) _ = _
    rw [hu1]
    show Except.bind (Except.bind (Except.bind ((Jvm.ClassFile.Reader.u1 : Jvm.ClassFile.Decoder Nat) cc (pc + 1 + 1)) _) _) _ = _
    rw [hu2]
    rfl
  show Except.bind ((Jvm.ClassFile.Decoder.instr pc) cc pc) _ = _
  rw [hi]
  show Except.ok (_, pc + 3 - pc) = _
  rw [Nat.add_sub_cancel_left]
theorem x_d172 {cc : ByteArray} {pc : Nat} (h : x_by cc pc = some 172) : decode cc pc = .ok (.ireturn, 1) := by
  have hu := x_u1 h
  have hi : (Jvm.ClassFile.Decoder.instr pc) cc pc = .ok (.ireturn, pc + 1) := by
    show Except.bind ((Jvm.ClassFile.Reader.u1 : Jvm.ClassFile.Decoder Nat) cc pc) _ = _
    rw [hu]
    rfl
  show Except.bind ((Jvm.ClassFile.Decoder.instr pc) cc pc) _ = _
  rw [hi]
  show Except.ok (_, pc + 1 - pc) = _
  rw [Nat.add_sub_cancel_left]
theorem x_d173 {cc : ByteArray} {pc : Nat} (h : x_by cc pc = some 173) : decode cc pc = .ok (.lreturn, 1) := by
  have hu := x_u1 h
  have hi : (Jvm.ClassFile.Decoder.instr pc) cc pc = .ok (.lreturn, pc + 1) := by
    show Except.bind ((Jvm.ClassFile.Reader.u1 : Jvm.ClassFile.Decoder Nat) cc pc) _ = _
    rw [hu]
    rfl
  show Except.bind ((Jvm.ClassFile.Decoder.instr pc) cc pc) _ = _
  rw [hi]
  show Except.ok (_, pc + 1 - pc) = _
  rw [Nat.add_sub_cancel_left]
theorem x_d176 {cc : ByteArray} {pc : Nat} (h : x_by cc pc = some 176) : decode cc pc = .ok (.areturn, 1) := by
  have hu := x_u1 h
  have hi : (Jvm.ClassFile.Decoder.instr pc) cc pc = .ok (.areturn, pc + 1) := by
    show Except.bind ((Jvm.ClassFile.Reader.u1 : Jvm.ClassFile.Decoder Nat) cc pc) _ = _
    rw [hu]
    rfl
  show Except.bind ((Jvm.ClassFile.Decoder.instr pc) cc pc) _ = _
  rw [hi]
  show Except.ok (_, pc + 1 - pc) = _
  rw [Nat.add_sub_cancel_left]
theorem x_d177 {cc : ByteArray} {pc : Nat} (h : x_by cc pc = some 177) : decode cc pc = .ok (.return_, 1) := by
  have hu := x_u1 h
  have hi : (Jvm.ClassFile.Decoder.instr pc) cc pc = .ok (.return_, pc + 1) := by
    show Except.bind ((Jvm.ClassFile.Reader.u1 : Jvm.ClassFile.Decoder Nat) cc pc) _ = _
    rw [hu]
    rfl
  show Except.bind ((Jvm.ClassFile.Decoder.instr pc) cc pc) _ = _
  rw [hi]
  show Except.ok (_, pc + 1 - pc) = _
  rw [Nat.add_sub_cancel_left]
theorem x_d180 {cc : ByteArray} {pc b1 b2 : Nat} (h : x_by cc pc = some 180) (h1 : x_by cc (pc + 1) = some b1) (h2 : x_by cc (pc + 1 + 1) = some b2) : decode cc pc = .ok (.getfield  (b1 * 256 + b2), 3) := by
  have hu := x_u1 h
  have hu1 := x_u1 h1
  have hu2 := x_u1 h2
  have hi : (Jvm.ClassFile.Decoder.instr pc) cc pc = .ok (.getfield  (b1 * 256 + b2), pc + 3) := by
    show Except.bind ((Jvm.ClassFile.Reader.u1 : Jvm.ClassFile.Decoder Nat) cc pc) _ = _
    rw [hu]
    show Except.bind (Except.bind ((Jvm.ClassFile.Reader.u1 : Jvm.ClassFile.Decoder Nat) cc (pc + 1)) _) _ = _
    rw [hu1]
    show Except.bind (Except.bind ((Jvm.ClassFile.Reader.u1 : Jvm.ClassFile.Decoder Nat) cc (pc + 1 + 1)) _) _ = _
    rw [hu2]
    rfl
  show Except.bind ((Jvm.ClassFile.Decoder.instr pc) cc pc) _ = _
  rw [hi]
  show Except.ok (_, pc + 3 - pc) = _
  rw [Nat.add_sub_cancel_left]
theorem x_d181 {cc : ByteArray} {pc b1 b2 : Nat} (h : x_by cc pc = some 181) (h1 : x_by cc (pc + 1) = some b1) (h2 : x_by cc (pc + 1 + 1) = some b2) : decode cc pc = .ok (.putfield  (b1 * 256 + b2), 3) := by
  have hu := x_u1 h
  have hu1 := x_u1 h1
  have hu2 := x_u1 h2
  have hi : (Jvm.ClassFile.Decoder.instr pc) cc pc = .ok (.putfield  (b1 * 256 + b2), pc + 3) := by
    show Except.bind ((Jvm.ClassFile.Reader.u1 : Jvm.ClassFile.Decoder Nat) cc pc) _ = _
    rw [hu]
    show Except.bind (Except.bind ((Jvm.ClassFile.Reader.u1 : Jvm.ClassFile.Decoder Nat) cc (pc + 1)) _) _ = _
    rw [hu1]
    show Except.bind (Except.bind ((Jvm.ClassFile.Reader.u1 : Jvm.ClassFile.Decoder Nat) cc (pc + 1 + 1)) _) _ = _
    rw [hu2]
    rfl
  show Except.bind ((Jvm.ClassFile.Decoder.instr pc) cc pc) _ = _
  rw [hi]
  show Except.ok (_, pc + 3 - pc) = _
  rw [Nat.add_sub_cancel_left]
theorem x_d182 {cc : ByteArray} {pc b1 b2 : Nat} (h : x_by cc pc = some 182) (h1 : x_by cc (pc + 1) = some b1) (h2 : x_by cc (pc + 1 + 1) = some b2) : decode cc pc = .ok (.invokevirtual  (b1 * 256 + b2), 3) := by
  have hu := x_u1 h
  have hu1 := x_u1 h1
  have hu2 := x_u1 h2
  have hi : (Jvm.ClassFile.Decoder.instr pc) cc pc = .ok (.invokevirtual  (b1 * 256 + b2), pc + 3) := by
    show Except.bind ((Jvm.ClassFile.Reader.u1 : Jvm.ClassFile.Decoder Nat) cc pc) _ = _
    rw [hu]
    show Except.bind (Except.bind ((Jvm.ClassFile.Reader.u1 : Jvm.ClassFile.Decoder Nat) cc (pc + 1)) _) _ = _
    rw [hu1]
    show Except.bind (Except.bind ((Jvm.ClassFile.Reader.u1 : Jvm.ClassFile.Decoder Nat) cc (pc + 1 + 1)) _) _ = _
    rw [hu2]
    rfl
  show Except.bind ((Jvm.ClassFile.Decoder.instr pc) cc pc) _ = _
  rw [hi]
  show Except.ok (_, pc + 3 - pc) = _
  rw [Nat.add_sub_cancel_left]
theorem x_d183 {cc : ByteArray} {pc b1 b2 : Nat} (h : x_by cc pc = some 183) (h1 : x_by cc (pc + 1) = some b1) (h2 : x_by cc (pc + 1 + 1) = some b2) : decode cc pc = .ok (.invokespecial  (b1 * 256 + b2), 3) := by
  have hu := x_u1 h
  have hu1 := x_u1 h1
  have hu2 := x_u1 h2
  have hi : (Jvm.ClassFile.Decoder.instr pc) cc pc = .ok (.invokespecial  (b1 * 256 + b2), pc + 3) := by
    show Except.bind ((Jvm.ClassFile.Reader.u1 : Jvm.ClassFile.Decoder Nat) cc pc) _ = _
    rw [hu]
    show Except.bind (Except.bind ((Jvm.ClassFile.Reader.u1 : Jvm.ClassFile.Decoder Nat) cc (pc + 1)) _) _ = _
    rw [hu1]
    show Except.bind (Except.bind ((Jvm.ClassFile.Reader.u1 : Jvm.ClassFile.Decoder Nat) cc (pc + 1 + 1)) _) _ = _
    rw [hu2]
    rfl
  show Except.bind ((Jvm.ClassFile.Decoder.instr pc) cc pc) _ = _
  rw [hi]
  show Except.ok (_, pc + 3 - pc) = _
  rw [Nat.add_sub_cancel_left]
theorem x_d184 {cc : ByteArray} {pc b1 b2 : Nat} (h : x_by cc pc = some 184) (h1 : x_by cc (pc + 1) = some b1) (h2 : x_by cc (pc + 1 + 1) = some b2) : decode cc pc = .ok (.invokestatic  (b1 * 256 + b2), 3) := by
  have hu := x_u1 h
  have hu1 := x_u1 h1
  have hu2 := x_u1 h2
  have hi : (Jvm.ClassFile.Decoder.instr pc) cc pc = .ok (.invokestatic  (b1 * 256 + b2), pc + 3) := by
    show Except.bind ((Jvm.ClassFile.Reader.u1 : Jvm.ClassFile.Decoder Nat) cc pc) _ = _
    rw [hu]
    show Except.bind (Except.bind ((Jvm.ClassFile.Reader.u1 : Jvm.ClassFile.Decoder Nat) cc (pc + 1)) _) _ = _
    rw [hu1]
    show Except.bind (Except.bind ((Jvm.ClassFile.Reader.u1 : Jvm.ClassFile.Decoder Nat) cc (pc + 1 + 1)) _) _ = _
    rw [hu2]
    rfl
  show Except.bind ((Jvm.ClassFile.Decoder.instr pc) cc pc) _ = _
  rw [hi]
  show Except.ok (_, pc + 3 - pc) = _
  rw [Nat.add_sub_cancel_left]
theorem x_d187 {cc : ByteArray} {pc b1 b2 : Nat} (h : x_by cc pc = some 187) (h1 : x_by cc (pc + 1) = some b1) (h2 : x_by cc (pc + 1 + 1) = some b2) : decode cc pc = .ok (.new  (b1 * 256 + b2), 3) := by
  have hu := x_u1 h
  have hu1 := x_u1 h1
  have hu2 := x_u1 h2
  have hi : (Jvm.ClassFile.Decoder.instr pc) cc pc = .ok (.new  (b1 * 256 + b2), pc + 3) := by
    show Except.bind ((Jvm.ClassFile.Reader.u1 : Jvm.ClassFile.Decoder Nat) cc pc) _ = _
    rw [hu]
    show Except.bind (Except.bind ((Jvm.ClassFile.Reader.u1 : Jvm.ClassFile.Decoder Nat) cc (pc + 1)) _) _ = _
    rw [hu1]
    show Except.bind (Except.bind ((Jvm.ClassFile.Reader.u1 : Jvm.ClassFile.Decoder Nat) cc (pc + 1 + 1)) _) _ = _
    rw [hu2]
    rfl
  show Except.bind ((Jvm.ClassFile.Decoder.instr pc) cc pc) _ = _
  rw [hi]
  show Except.ok (_, pc + 3 - pc) = _
  rw [Nat.add_sub_cancel_left]
theorem x_d192 {cc : ByteArray} {pc b1 b2 : Nat} (h : x_by cc pc = some 192) (h1 : x_by cc (pc + 1) = some b1) (h2 : x_by cc (pc + 1 + 1) = some b2) : decode cc pc = .ok (.checkcast  (b1 * 256 + b2), 3) := by
  have hu := x_u1 h
  have hu1 := x_u1 h1
  have hu2 := x_u1 h2
  have hi : (Jvm.ClassFile.Decoder.instr pc) cc pc = .ok (.checkcast  (b1 * 256 + b2), pc + 3) := by
    show Except.bind ((Jvm.ClassFile.Reader.u1 : Jvm.ClassFile.Decoder Nat) cc pc) _ = _
    rw [hu]
    show Except.bind (Except.bind ((Jvm.ClassFile.Reader.u1 : Jvm.ClassFile.Decoder Nat) cc (pc + 1)) _) _ = _
    rw [hu1]
    show Except.bind (Except.bind ((Jvm.ClassFile.Reader.u1 : Jvm.ClassFile.Decoder Nat) cc (pc + 1 + 1)) _) _ = _
    rw [hu2]
    rfl
  show Except.bind ((Jvm.ClassFile.Decoder.instr pc) cc pc) _ = _
  rw [hi]
  show Except.ok (_, pc + 3 - pc) = _
  rw [Nat.add_sub_cancel_left]
theorem x_d189 {cc : ByteArray} {pc b1 b2 : Nat} (h : x_by cc pc = some 189) (h1 : x_by cc (pc + 1) = some b1) (h2 : x_by cc (pc + 1 + 1) = some b2) : decode cc pc = .ok (.anewarray  (b1 * 256 + b2), 3) := by
  have hu := x_u1 h
  have hu1 := x_u1 h1
  have hu2 := x_u1 h2
  have hi : (Jvm.ClassFile.Decoder.instr pc) cc pc = .ok (.anewarray  (b1 * 256 + b2), pc + 3) := by
    show Except.bind ((Jvm.ClassFile.Reader.u1 : Jvm.ClassFile.Decoder Nat) cc pc) _ = _
    rw [hu]
    show Except.bind (Except.bind ((Jvm.ClassFile.Reader.u1 : Jvm.ClassFile.Decoder Nat) cc (pc + 1)) _) _ = _
    rw [hu1]
    show Except.bind (Except.bind ((Jvm.ClassFile.Reader.u1 : Jvm.ClassFile.Decoder Nat) cc (pc + 1 + 1)) _) _ = _
    rw [hu2]
    rfl
  show Except.bind ((Jvm.ClassFile.Decoder.instr pc) cc pc) _ = _
  rw [hi]
  show Except.ok (_, pc + 3 - pc) = _
  rw [Nat.add_sub_cancel_left]
theorem x_d190 {cc : ByteArray} {pc : Nat} (h : x_by cc pc = some 190) : decode cc pc = .ok (.arraylength, 1) := by
  have hu := x_u1 h
  have hi : (Jvm.ClassFile.Decoder.instr pc) cc pc = .ok (.arraylength, pc + 1) := by
    show Except.bind ((Jvm.ClassFile.Reader.u1 : Jvm.ClassFile.Decoder Nat) cc pc) _ = _
    rw [hu]
    rfl
  show Except.bind ((Jvm.ClassFile.Decoder.instr pc) cc pc) _ = _
  rw [hi]
  show Except.ok (_, pc + 1 - pc) = _
  rw [Nat.add_sub_cancel_left]
theorem x_d198 {cc : ByteArray} {pc b1 b2 : Nat} (h : x_by cc pc = some 198) (h1 : x_by cc (pc + 1) = some b1) (h2 : x_by cc (pc + 1 + 1) = some b2) : decode cc pc = .ok (.ifnull  (Jvm.ClassFile.Reader.signed 16 (b1 * 256 + b2)), 3) := by
  have hu := x_u1 h
  have hu1 := x_u1 h1
  have hu2 := x_u1 h2
  have hi : (Jvm.ClassFile.Decoder.instr pc) cc pc = .ok (.ifnull  (Jvm.ClassFile.Reader.signed 16 (b1 * 256 + b2)), pc + 3) := by
    show Except.bind ((Jvm.ClassFile.Reader.u1 : Jvm.ClassFile.Decoder Nat) cc pc) _ = _
    rw [hu]
    show Except.bind (Except.bind (Except.bind ((Jvm.ClassFile.Reader.u1 : Jvm.ClassFile.Decoder Nat) cc (pc + 1)) _) _) _ = _
    rw [hu1]
    show Except.bind (Except.bind (Except.bind ((Jvm.ClassFile.Reader.u1 : Jvm.ClassFile.Decoder Nat) cc (pc + 1 + 1)) _) _) _ = _
    rw [hu2]
    rfl
  show Except.bind ((Jvm.ClassFile.Decoder.instr pc) cc pc) _ = _
  rw [hi]
  show Except.ok (_, pc + 3 - pc) = _
  rw [Nat.add_sub_cancel_left]
theorem x_d199 {cc : ByteArray} {pc b1 b2 : Nat} (h : x_by cc pc = some 199) (h1 : x_by cc (pc + 1) = some b1) (h2 : x_by cc (pc + 1 + 1) = some b2) : decode cc pc = .ok (.ifnonnull  (Jvm.ClassFile.Reader.signed 16 (b1 * 256 + b2)), 3) := by
  have hu := x_u1 h
  have hu1 := x_u1 h1
  have hu2 := x_u1 h2
  have hi : (Jvm.ClassFile.Decoder.instr pc) cc pc = .ok (.ifnonnull  (Jvm.ClassFile.Reader.signed 16 (b1 * 256 + b2)), pc + 3) := by
    show Except.bind ((Jvm.ClassFile.Reader.u1 : Jvm.ClassFile.Decoder Nat) cc pc) _ = _
    rw [hu]
    show Except.bind (Except.bind (Except.bind ((Jvm.ClassFile.Reader.u1 : Jvm.ClassFile.Decoder Nat) cc (pc + 1)) _) _) _ = _
    rw [hu1]
    show Except.bind (Except.bind (Except.bind ((Jvm.ClassFile.Reader.u1 : Jvm.ClassFile.Decoder Nat) cc (pc + 1 + 1)) _) _) _ = _
    rw [hu2]
    rfl
  show Except.bind ((Jvm.ClassFile.Decoder.instr pc) cc pc) _ = _
  rw [hi]
  show Except.ok (_, pc + 3 - pc) = _
  rw [Nat.add_sub_cancel_left]
theorem x_d188_10 {cc : ByteArray} {pc : Nat} (h : x_by cc pc = some 188) (h1 : x_by cc (pc + 1) = some 10) : decode cc pc = .ok (.newarray .int, 2) := by
  have hu := x_u1 h
  have hu1 := x_u1 h1
  have hi : (Jvm.ClassFile.Decoder.instr pc) cc pc = .ok (.newarray .int, pc + 2) := by
    show Except.bind ((Jvm.ClassFile.Reader.u1 : Jvm.ClassFile.Decoder Nat) cc pc) _ = _
    rw [hu]
    show Except.bind ((Jvm.ClassFile.Reader.u1 : Jvm.ClassFile.Decoder Nat) cc (pc + 1)) _ = _
    rw [hu1]
    rfl
  show Except.bind ((Jvm.ClassFile.Decoder.instr pc) cc pc) _ = _
  rw [hi]
  show Except.ok (_, pc + 2 - pc) = _
  rw [Nat.add_sub_cancel_left]
theorem x_d188_11 {cc : ByteArray} {pc : Nat} (h : x_by cc pc = some 188) (h1 : x_by cc (pc + 1) = some 11) : decode cc pc = .ok (.newarray .long, 2) := by
  have hu := x_u1 h
  have hu1 := x_u1 h1
  have hi : (Jvm.ClassFile.Decoder.instr pc) cc pc = .ok (.newarray .long, pc + 2) := by
    show Except.bind ((Jvm.ClassFile.Reader.u1 : Jvm.ClassFile.Decoder Nat) cc pc) _ = _
    rw [hu]
    show Except.bind ((Jvm.ClassFile.Reader.u1 : Jvm.ClassFile.Decoder Nat) cc (pc + 1)) _ = _
    rw [hu1]
    rfl
  show Except.bind ((Jvm.ClassFile.Decoder.instr pc) cc pc) _ = _
  rw [hi]
  show Except.ok (_, pc + 2 - pc) = _
  rw [Nat.add_sub_cancel_left]
theorem x_d188_4 {cc : ByteArray} {pc : Nat} (h : x_by cc pc = some 188) (h1 : x_by cc (pc + 1) = some 4) : decode cc pc = .ok (.newarray .boolean, 2) := by
  have hu := x_u1 h
  have hu1 := x_u1 h1
  have hi : (Jvm.ClassFile.Decoder.instr pc) cc pc = .ok (.newarray .boolean, pc + 2) := by
    show Except.bind ((Jvm.ClassFile.Reader.u1 : Jvm.ClassFile.Decoder Nat) cc pc) _ = _
    rw [hu]
    show Except.bind ((Jvm.ClassFile.Reader.u1 : Jvm.ClassFile.Decoder Nat) cc (pc + 1)) _ = _
    rw [hu1]
    rfl
  show Except.bind ((Jvm.ClassFile.Decoder.instr pc) cc pc) _ = _
  rw [hi]
  show Except.ok (_, pc + 2 - pc) = _
  rw [Nat.add_sub_cancel_left]
theorem x_d188_8 {cc : ByteArray} {pc : Nat} (h : x_by cc pc = some 188) (h1 : x_by cc (pc + 1) = some 8) : decode cc pc = .ok (.newarray .byte, 2) := by
  have hu := x_u1 h
  have hu1 := x_u1 h1
  have hi : (Jvm.ClassFile.Decoder.instr pc) cc pc = .ok (.newarray .byte, pc + 2) := by
    show Except.bind ((Jvm.ClassFile.Reader.u1 : Jvm.ClassFile.Decoder Nat) cc pc) _ = _
    rw [hu]
    show Except.bind ((Jvm.ClassFile.Reader.u1 : Jvm.ClassFile.Decoder Nat) cc (pc + 1)) _ = _
    rw [hu1]
    rfl
  show Except.bind ((Jvm.ClassFile.Decoder.instr pc) cc pc) _ = _
  rw [hi]
  show Except.ok (_, pc + 2 - pc) = _
  rw [Nat.add_sub_cancel_left]
theorem x_d188_5 {cc : ByteArray} {pc : Nat} (h : x_by cc pc = some 188) (h1 : x_by cc (pc + 1) = some 5) : decode cc pc = .ok (.newarray .char, 2) := by
  have hu := x_u1 h
  have hu1 := x_u1 h1
  have hi : (Jvm.ClassFile.Decoder.instr pc) cc pc = .ok (.newarray .char, pc + 2) := by
    show Except.bind ((Jvm.ClassFile.Reader.u1 : Jvm.ClassFile.Decoder Nat) cc pc) _ = _
    rw [hu]
    show Except.bind ((Jvm.ClassFile.Reader.u1 : Jvm.ClassFile.Decoder Nat) cc (pc + 1)) _ = _
    rw [hu1]
    rfl
  show Except.bind ((Jvm.ClassFile.Decoder.instr pc) cc pc) _ = _
  rw [hi]
  show Except.ok (_, pc + 2 - pc) = _
  rw [Nat.add_sub_cancel_left]
def x_na (b : Nat) : Option Jvm.ClassFile.Instr := if b = 10 then some (.newarray .int) else if b = 11 then some (.newarray .long) else if b = 4 then some (.newarray .boolean) else none
def x_t0 : List (Nat × Jvm.ClassFile.Instr) := [(1, .aconst_null), (2, .iconst (-1)), (3, .iconst 0), (4, .iconst 1), (5, .iconst 2), (6, .iconst 3), (7, .iconst 4), (8, .iconst 5), (9, .lconst 0), (10, .lconst 1), (26, .iload_n 0), (27, .iload_n 1), (28, .iload_n 2), (29, .iload_n 3), (30, .lload_n 0), (31, .lload_n 1), (32, .lload_n 2), (33, .lload_n 3), (42, .aload_n 0), (43, .aload_n 1), (44, .aload_n 2), (45, .aload_n 3), (46, .iaload), (47, .laload), (50, .aaload), (51, .baload), (59, .istore_n 0), (60, .istore_n 1), (61, .istore_n 2), (62, .istore_n 3), (63, .lstore_n 0), (64, .lstore_n 1), (65, .lstore_n 2), (66, .lstore_n 3), (75, .astore_n 0), (76, .astore_n 1), (77, .astore_n 2), (78, .astore_n 3), (79, .iastore), (80, .lastore), (83, .aastore), (84, .bastore), (87, .pop), (88, .pop2), (89, .dup), (90, .dup_x1), (92, .dup2), (96, .iadd), (97, .ladd), (100, .isub), (101, .lsub), (104, .imul), (105, .lmul), (108, .idiv), (109, .ldiv), (112, .irem), (113, .lrem), (116, .ineg), (117, .lneg), (120, .ishl), (121, .lshl), (122, .ishr), (123, .lshr), (124, .iushr), (125, .lushr), (126, .iand), (127, .land), (128, .ior), (129, .lor), (130, .ixor), (131, .lxor), (133, .i2l), (136, .l2i), (146, .i2c), (148, .lcmp), (172, .ireturn), (173, .lreturn), (176, .areturn), (177, .return_), (190, .arraylength)]
def x_t1 : List (Nat × (Nat → Option Jvm.ClassFile.Instr)) := [(16, fun b1 => some (.bipush (Jvm.ClassFile.Reader.signed 8 b1))), (18, fun b1 => some (.ldc b1)), (21, fun b1 => some (.iload b1)), (22, fun b1 => some (.lload b1)), (25, fun b1 => some (.aload b1)), (54, fun b1 => some (.istore b1)), (55, fun b1 => some (.lstore b1)), (58, fun b1 => some (.astore b1)), (188, x_na)]
def x_t2 : List (Nat × (Nat → Nat → Jvm.ClassFile.Instr)) := [(17, fun b1 b2 => .sipush  (Jvm.ClassFile.Reader.signed 16 (b1 * 256 + b2))), (20, fun b1 b2 => .ldc2_w (b1 * 256 + b2)), (132, fun b1 b2 => .iinc b1 (Jvm.ClassFile.Reader.signed 8 b2)), (153, fun b1 b2 => .ifCond .eq (Jvm.ClassFile.Reader.signed 16 (b1 * 256 + b2))), (154, fun b1 b2 => .ifCond .ne (Jvm.ClassFile.Reader.signed 16 (b1 * 256 + b2))), (155, fun b1 b2 => .ifCond .lt (Jvm.ClassFile.Reader.signed 16 (b1 * 256 + b2))), (156, fun b1 b2 => .ifCond .ge (Jvm.ClassFile.Reader.signed 16 (b1 * 256 + b2))), (157, fun b1 b2 => .ifCond .gt (Jvm.ClassFile.Reader.signed 16 (b1 * 256 + b2))), (158, fun b1 b2 => .ifCond .le (Jvm.ClassFile.Reader.signed 16 (b1 * 256 + b2))), (159, fun b1 b2 => .if_icmp .eq (Jvm.ClassFile.Reader.signed 16 (b1 * 256 + b2))), (160, fun b1 b2 => .if_icmp .ne (Jvm.ClassFile.Reader.signed 16 (b1 * 256 + b2))), (161, fun b1 b2 => .if_icmp .lt (Jvm.ClassFile.Reader.signed 16 (b1 * 256 + b2))), (162, fun b1 b2 => .if_icmp .ge (Jvm.ClassFile.Reader.signed 16 (b1 * 256 + b2))), (163, fun b1 b2 => .if_icmp .gt (Jvm.ClassFile.Reader.signed 16 (b1 * 256 + b2))), (164, fun b1 b2 => .if_icmp .le (Jvm.ClassFile.Reader.signed 16 (b1 * 256 + b2))), (167, fun b1 b2 => .goto  (Jvm.ClassFile.Reader.signed 16 (b1 * 256 + b2))), (180, fun b1 b2 => .getfield (b1 * 256 + b2)), (181, fun b1 b2 => .putfield (b1 * 256 + b2)), (182, fun b1 b2 => .invokevirtual (b1 * 256 + b2)), (183, fun b1 b2 => .invokespecial (b1 * 256 + b2)), (184, fun b1 b2 => .invokestatic (b1 * 256 + b2)), (187, fun b1 b2 => .new (b1 * 256 + b2)), (192, fun b1 b2 => .checkcast (b1 * 256 + b2)), (189, fun b1 b2 => .anewarray (b1 * 256 + b2)), (198, fun b1 b2 => .ifnull  (Jvm.ClassFile.Reader.signed 16 (b1 * 256 + b2))), (199, fun b1 b2 => .ifnonnull  (Jvm.ClassFile.Reader.signed 16 (b1 * 256 + b2)))]
theorem x_t0_ok {cc : ByteArray} {pc : Nat} : ∀ e ∈ x_t0, x_by cc pc = some e.1 → decode cc pc = .ok (e.2, 1) := by
  unfold x_t0
  simp only [List.forall_mem_cons]
  refine ⟨fun h => x_d1 h, fun h => x_d2 h, fun h => x_d3 h, fun h => x_d4 h, fun h => x_d5 h, fun h => x_d6 h, fun h => x_d7 h, fun h => x_d8 h, fun h => x_d9 h, fun h => x_d10 h, fun h => x_d26 h, fun h => x_d27 h, fun h => x_d28 h, fun h => x_d29 h, fun h => x_d30 h, fun h => x_d31 h, fun h => x_d32 h, fun h => x_d33 h, fun h => x_d42 h, fun h => x_d43 h, fun h => x_d44 h, fun h => x_d45 h, fun h => x_d46 h, fun h => x_d47 h, fun h => x_d50 h, fun h => x_d51 h, fun h => x_d59 h, fun h => x_d60 h, fun h => x_d61 h, fun h => x_d62 h, fun h => x_d63 h, fun h => x_d64 h, fun h => x_d65 h, fun h => x_d66 h, fun h => x_d75 h, fun h => x_d76 h, fun h => x_d77 h, fun h => x_d78 h, fun h => x_d79 h, fun h => x_d80 h, fun h => x_d83 h, fun h => x_d84 h, fun h => x_d87 h, fun h => x_d88 h, fun h => x_d89 h, fun h => x_d90 h, fun h => x_d92 h, fun h => x_d96 h, fun h => x_d97 h, fun h => x_d100 h, fun h => x_d101 h, fun h => x_d104 h, fun h => x_d105 h, fun h => x_d108 h, fun h => x_d109 h, fun h => x_d112 h, fun h => x_d113 h, fun h => x_d116 h, fun h => x_d117 h, fun h => x_d120 h, fun h => x_d121 h, fun h => x_d122 h, fun h => x_d123 h, fun h => x_d124 h, fun h => x_d125 h, fun h => x_d126 h, fun h => x_d127 h, fun h => x_d128 h, fun h => x_d129 h, fun h => x_d130 h, fun h => x_d131 h, fun h => x_d133 h, fun h => x_d136 h, fun h => x_d146 h, fun h => x_d148 h, fun h => x_d172 h, fun h => x_d173 h, fun h => x_d176 h, fun h => x_d177 h, fun h => x_d190 h, fun _ h => absurd h List.not_mem_nil⟩
theorem x_na_ok {cc : ByteArray} {pc b : Nat} {i : Jvm.ClassFile.Instr} (h0 : x_by cc pc = some 188) (h1 : x_by cc (pc + 1) = some b) (h : x_na b = some i) : decode cc pc = .ok (i, 2) := by
  unfold x_na at h
  split at h
  · rename_i hb; subst hb; cases h; exact x_d188_10 h0 h1
  · split at h
    · rename_i hb; subst hb; cases h; exact x_d188_11 h0 h1
    · split at h
      · rename_i hb; subst hb; cases h; exact x_d188_4 h0 h1
      · cases h
theorem x_t1_ok {cc : ByteArray} {pc b : Nat} {i : Jvm.ClassFile.Instr} : ∀ e ∈ x_t1, x_by cc pc = some e.1 → x_by cc (pc + 1) = some b → e.2 b = some i → decode cc pc = .ok (i, 2) := by
  unfold x_t1
  simp only [List.forall_mem_cons]
  refine ⟨fun h h1 h2 => by cases h2; exact x_d16 h h1, fun h h1 h2 => by cases h2; exact x_d18 h h1, fun h h1 h2 => by cases h2; exact x_d21 h h1, fun h h1 h2 => by cases h2; exact x_d22 h h1, fun h h1 h2 => by cases h2; exact x_d25 h h1, fun h h1 h2 => by cases h2; exact x_d54 h h1, fun h h1 h2 => by cases h2; exact x_d55 h h1, fun h h1 h2 => by cases h2; exact x_d58 h h1, fun h h1 h2 => x_na_ok h h1 h2, fun _ h => absurd h List.not_mem_nil⟩
theorem x_t2_ok {cc : ByteArray} {pc b1 b2 : Nat} : ∀ e ∈ x_t2, x_by cc pc = some e.1 → x_by cc (pc + 1) = some b1 → x_by cc (pc + 1 + 1) = some b2 → decode cc pc = .ok (e.2 b1 b2, 3) := by
  unfold x_t2
  simp only [List.forall_mem_cons]
  refine ⟨fun h h1 h2 => x_d17 h h1 h2, fun h h1 h2 => x_d20 h h1 h2, fun h h1 h2 => x_d132 h h1 h2, fun h h1 h2 => x_d153 h h1 h2, fun h h1 h2 => x_d154 h h1 h2, fun h h1 h2 => x_d155 h h1 h2, fun h h1 h2 => x_d156 h h1 h2, fun h h1 h2 => x_d157 h h1 h2, fun h h1 h2 => x_d158 h h1 h2, fun h h1 h2 => x_d159 h h1 h2, fun h h1 h2 => x_d160 h h1 h2, fun h h1 h2 => x_d161 h h1 h2, fun h h1 h2 => x_d162 h h1 h2, fun h h1 h2 => x_d163 h h1 h2, fun h h1 h2 => x_d164 h h1 h2, fun h h1 h2 => x_d167 h h1 h2, fun h h1 h2 => x_d180 h h1 h2, fun h h1 h2 => x_d181 h h1 h2, fun h h1 h2 => x_d182 h h1 h2, fun h h1 h2 => x_d183 h h1 h2, fun h h1 h2 => x_d184 h h1 h2, fun h h1 h2 => x_d187 h h1 h2, fun h h1 h2 => x_d192 h h1 h2, fun h h1 h2 => x_d189 h h1 h2, fun h h1 h2 => x_d198 h h1 h2, fun h h1 h2 => x_d199 h h1 h2, fun _ h => absurd h List.not_mem_nil⟩
def x_dt (t : Nat → Option Nat) (pc : Nat) : Option (Jvm.ClassFile.Instr × Nat) := (t pc).bind fun b =>
  match x_t0.find? (fun e => e.1 == b) with
  | some e => some (e.2, 1)
  | none => match x_t1.find? (fun e => e.1 == b) with
    | some e => (t (pc + 1)).bind fun b1 => (e.2 b1).bind fun i => some (i, 2)
    | none => match x_t2.find? (fun e => e.1 == b) with
      | some e => (t (pc + 1)).bind fun b1 => (t (pc + 1 + 1)).bind fun b2 => some (e.2 b1 b2, 3)
      | none => none
theorem x_dt_ok {cc : ByteArray} {t : Nat → Option Nat} {pc : Nat} {e : Jvm.ClassFile.Instr × Nat} (ht : ∀ p, x_by cc p = t p) (h : x_dt t pc = some e) : decode cc pc = .ok e := by
  unfold x_dt at h
  obtain ⟨b, h0, h⟩ := Option.bind_eq_some_iff.mp h
  have h0 := (ht pc).trans h0
  cases e0 : x_t0.find? (fun e => e.1 == b) with
  | some q =>
    rw [e0] at h
    cases h
    have hb : q.1 = b := by simpa using List.find?_some e0
    subst hb
    exact x_t0_ok q (List.mem_of_find?_eq_some e0) h0
  | none =>
    rw [e0] at h
    dsimp only at h
    cases e1 : x_t1.find? (fun e => e.1 == b) with
    | some q =>
      rw [e1] at h
      dsimp only at h
      obtain ⟨b1, h1, h⟩ := Option.bind_eq_some_iff.mp h
      obtain ⟨i, h2, h⟩ := Option.bind_eq_some_iff.mp h
      cases h
      have hb : q.1 = b := by simpa using List.find?_some e1
      subst hb
      exact x_t1_ok q (List.mem_of_find?_eq_some e1) h0 ((ht _).trans h1) h2
    | none =>
      rw [e1] at h
      dsimp only at h
      cases e2 : x_t2.find? (fun e => e.1 == b) with
      | some q =>
        rw [e2] at h
        dsimp only at h
        obtain ⟨b1, h1, h⟩ := Option.bind_eq_some_iff.mp h
        obtain ⟨b2, h2, h⟩ := Option.bind_eq_some_iff.mp h
        cases h
        have hb : q.1 = b := by simpa using List.find?_some e2
        subst hb
        exact x_t2_ok q (List.mem_of_find?_eq_some e2) h0 ((ht _).trans h1) ((ht _).trans h2)
      | none =>
        rw [e2] at h
        cases h
/-- the bytes of a method as one number -/
def x_un : Nat → Nat → List Nat
  | _, 0 => []
  | N, n + 1 => N % 256 :: x_un (N / 256) n
def x_tb (N n p : Nat) : Option Nat := if p < n then some ((N >>> (8 * p)) % 256) else none
theorem x_un_at : ∀ (n N p : Nat), (x_un N n)[p]? = x_tb N n p
  | 0, N, p => by simp [x_un, x_tb]
  | n + 1, N, 0 => by simp [x_un, x_tb]
  | n + 1, N, p + 1 => by
    unfold x_un
    rw [List.getElem?_cons_succ, x_un_at n (N / 256) p]
    unfold x_tb
    by_cases h : p < n
    · rw [if_pos h, if_pos (by omega), show (256 : Nat) = 2 ^ 8 from rfl, ← Nat.shiftRight_eq_div_pow, ← Nat.shiftRight_add, show 8 + 8 * p = 8 * (p + 1) by omega]
    · rw [if_neg h, if_neg (by omega)]
theorem x_by_un {cc : ByteArray} {N n : Nat} (h : cc.data.toList.map UInt8.toNat = x_un N n) (p : Nat) : x_by cc p = x_tb N n p := by
  rw [← x_un_at, ← h, List.getElem?_map]
  unfold x_by
  by_cases hp : p < cc.size
  · rw [dif_pos hp]
    have hp2 : p < cc.data.toList.length := by rw [Array.length_toList]; exact hp
    rw [List.getElem?_eq_getElem hp2]
    rfl
  · rw [dif_neg hp]
    have hp2 : cc.data.toList.length ≤ p := by rw [Array.length_toList]; exact Nat.le_of_not_lt hp
    rw [List.getElem?_eq_none hp2]
    rfl
/-- a list of instructions against the bytes -/
def x_il (N n : Nat) (I : List (Nat × Jvm.ClassFile.Instr × Nat)) : Bool := I.all (fun q => decide (x_dt (x_tb N n) q.1 = some q.2))
theorem x_il_ok {cc : ByteArray} {N n : Nat} {I : List (Nat × Jvm.ClassFile.Instr × Nat)} (h : cc.data.toList.map UInt8.toNat = x_un N n) (hI : x_il N n I = true) (k : Nat) {pc : Nat} {i : Jvm.ClassFile.Instr} {len : Nat} (hk : I[k]? = some (pc, i, len)) : decode cc pc = .ok (i, len) := by
  have h1 := List.all_eq_true.mp hI _ (List.mem_of_getElem? hk)
  exact x_dt_ok (x_by_un h) (of_decide_eq_true h1)
end
section
/-! Runs with an abstract state: Rel says which cells a state stands for. -/
def x_at (M : xM) (j pc : Nat) (i : Jvm.ClassFile.Instr) (len : Nat) (y : MethodName) (nL : Nat) (ret : Option FieldType) : Prop := ∃ cc, M j = some (y, cc, nL, ret) ∧ decode cc pc = .ok (i, len)
def x_get (L : xL) (j : Nat) : Option Value := (L.find? (fun q => q.1 == j)).map (fun q => q.2)
theorem x_get_mem {L : xL} {j : Nat} {v : Value} (h : x_get L j = some v) : (j, v) ∈ L := by
  unfold x_get at h
  obtain ⟨q, h1, h2⟩ := Option.map_eq_some_iff.mp h
  have h3 := List.find?_some h1
  have h4 := List.mem_of_find?_eq_some h1
  have h5 : q.1 = j := by simpa using h3
  subst h5; subst h2
  exact h4
/-- with some number of steps -/
def x_G (sk : xK) (cl : List vw_C) (kd : List FieldType) (Ts : List Cond) (AO : List Cond) (M : xM) (base d : Nat) (X : Option (Nat × Nat × (Nat → Int32))) (j : Nat) (a : xS) (r : Option Value) (h' : List xC) : Prop := ∃ n, x_go sk cl kd Ts AO M base n d X j a r h'
theorem x_go_mono {sk : xK} {cl : List vw_C} {kd : List FieldType} {Ts : List Cond} {AO : List Cond} {M : xM} {base : Nat} : ∀ (n n2 d d2 : Nat) (X : Option (Nat × Nat × (Nat → Int32))) (j : Nat) (a : xS) (r : Option Value) (h' : List xC), n ≤ n2 → d ≤ d2 → x_go sk cl kd Ts AO M base n d X j a r h' → x_go sk cl kd Ts AO M base n2 d2 X j a r h'
  | 0, _, _, _, _, _, _, _, _, _, _, h => h.elim
  | n + 1, 0, _, _, _, _, _, _, _, h1, _, _ => absurd h1 (by omega)
  | n + 1, n2 + 1, d, d2, X, j, a, r, h', h1, h2, h => by
    obtain ⟨y, cc, nL, ret, i, len, hM, hd, hh⟩ := h
    refine ⟨y, cc, nL, ret, i, len, hM, hd, ?_⟩
    rcases hh with ⟨b, hi, hg⟩ | hr | ⟨d', j2, y2, cc2, nL2, ret2, As, rest, v, h1', rfl, a0, a1, a2, a3, hg1, hg2⟩ | ⟨d', b, rfl, hi, hg⟩
    · exact Or.inl ⟨b, hi, x_go_mono n n2 _ _ _ _ _ _ _ (by omega) h2 hg⟩
    · exact Or.inr (Or.inl hr)
    · obtain ⟨e, rfl⟩ : ∃ e, d2 = e + 1 := ⟨d2 - 1, by omega⟩
      exact Or.inr (Or.inr (Or.inl ⟨e, j2, y2, cc2, nL2, ret2, As, rest, v, h1', rfl, a0, a1, a2, a3, x_go_mono n n2 _ _ _ _ _ _ _ (by omega) (by omega) hg1, x_go_mono n n2 _ _ _ _ _ _ _ (by omega) h2 hg2⟩))
    · obtain ⟨e, rfl⟩ : ∃ e, d2 = e + 1 := ⟨d2 - 1, by omega⟩
      exact Or.inr (Or.inr (Or.inr ⟨e, b, rfl, hi, x_go_mono n n2 _ _ _ _ _ _ _ (by omega) h2 hg⟩))
section XWP
variable {sk : xK} {cl : List vw_C} {kd : List FieldType} {Ts : List Cond} {AO : List Cond} {M : xM} {base d : Nat} {X : Option (Nat × Nat × (Nat → Int32))} {j : Nat} {r : Option Value} {h' : List xC} {y : MethodName} {nL : Nat} {ret : Option FieldType} {i : Jvm.ClassFile.Instr} {len pc : Nat}
theorem x_G.step {L : xL} {st : List Value} {h : List xC} {b : xS} (q : x_at M j pc i len y nL ret) (hi : x_ins cl kd Ts AO X base y.cls y.name nL i len (pc, L, st, h) b) (k : x_G sk cl kd Ts AO M base d X j b r h') : x_G sk cl kd Ts AO M base d X j (pc, L, st, h) r h' := by
  obtain ⟨cc, hM, hd⟩ := q
  obtain ⟨n, hn⟩ := k
  exact ⟨n + 1, y, cc, nL, ret, i, len, hM, hd, Or.inl ⟨b, Or.inl hi, hn⟩⟩
theorem x_G.sstep {L : xL} {st : List Value} {h : List xC} {b : xS} (q : x_at M j pc i len y nL ret) (hi : x_sins sk Ts y.cls i len (pc, L, st, h) b) (k : x_G sk cl kd Ts AO M base d X j b r h') : x_G sk cl kd Ts AO M base d X j (pc, L, st, h) r h' := by
  obtain ⟨cc, hM, hd⟩ := q
  obtain ⟨n, hn⟩ := k
  exact ⟨n + 1, y, cc, nL, ret, i, len, hM, hd, Or.inl ⟨b, Or.inr hi, hn⟩⟩
theorem x_G.rt {L : xL} {st : List Value} {h : List xC} (q : x_at M j pc i len y nL ret) (hi : x_ret ret i len st r) : x_G sk cl kd Ts AO M base d X j (pc, L, st, h) r h := by
  obtain ⟨cc, hM, hd⟩ := q
  exact ⟨1, y, cc, nL, ret, i, len, hM, hd, Or.inr (Or.inl ⟨hi, rfl⟩)⟩
theorem x_G.call {L : xL} {st : List Value} {h h1 : List xC} {j2 : Nat} {y2 : MethodName} {cc2 : ByteArray} {nL2 : Nat} {ret2 : Option FieldType} {As rest : List Value} {v : Option Value} (q : x_at M j pc i len y nL ret) (hj2 : 0 < j2) (hM2 : M j2 = some (y2, cc2, nL2, ret2)) (hc : x_cal sk cl Ts AO base y.cls i len (pc, L, st, h) y2 As rest) (hl : (lg_sl As).length ≤ nL2) (k1 : x_G sk cl kd Ts AO M base d none j2 (0, lv_args 0 As, [], h) v h1) (k2 : x_G sk cl kd Ts AO M base (d + 1) X j (pc + 3, L, v.toList ++ rest, h1) r h') : x_G sk cl kd Ts AO M base (d + 1) X j (pc, L, st, h) r h' := by
  obtain ⟨cc, hM, hd⟩ := q
  obtain ⟨n1, hn1⟩ := k1
  obtain ⟨n2, hn2⟩ := k2
  exact ⟨n1 + n2 + 1, y, cc, nL, ret, i, len, hM, hd, Or.inr (Or.inr (Or.inl ⟨d, j2, y2, cc2, nL2, ret2, As, rest, v, h1, rfl, hj2, hM2, hc, hl, x_go_mono n1 _ _ _ _ _ _ _ _ (by omega) (Nat.le_refl _) hn1, x_go_mono n2 _ _ _ _ _ _ _ _ (by omega) (Nat.le_refl _) hn2⟩))⟩
theorem x_G.nat {L : xL} {st : List Value} {h : List xC} {b : xS} (q : x_at M j pc i len y nL ret) (hi : x_nat kd Ts AO base y.cls i len (pc, L, st, h) b) (k : x_G sk cl kd Ts AO M base (d + 1) X j b r h') : x_G sk cl kd Ts AO M base (d + 1) X j (pc, L, st, h) r h' := by
  obtain ⟨cc, hM, hd⟩ := q
  obtain ⟨n, hn⟩ := k
  exact ⟨n + 1, y, cc, nL, ret, i, len, hM, hd, Or.inr (Or.inr (Or.inr ⟨d, b, rfl, hi, hn⟩))⟩
theorem x_G.deep {d2 : Nat} {a : xS} (hd : d ≤ d2) (k : x_G sk cl kd Ts AO M base d X j a r h') : x_G sk cl kd Ts AO M base d2 X j a r h' := by
  obtain ⟨n, hn⟩ := k
  exact ⟨n, x_go_mono n n d d2 _ _ _ _ _ (Nat.le_refl _) hd hn⟩
end XWP
/-- from the state s a run ends, and Φ holds of its answer and of the state behind it -/
def xw {σ : Type} (sk : xK) (cl : List vw_C) (kd : List FieldType) (Ts : List Cond) (AO : List Cond) (M : xM) (base d : Nat) (X : Option (Nat × Nat × (Nat → Int32))) (Rel : σ → List xC → Prop) (j pc : Nat) (L : xL) (st : List Value) (s : σ) (Φ : Option Value → σ → Prop) : Prop :=
  ∀ h, Rel s h → ∃ r h', x_G sk cl kd Ts AO M base d X j (pc, L, st, h) r h' ∧ ∃ s', Rel s' h' ∧ Φ r s'
section XWR
variable {σ : Type} {sk : xK} {cl : List vw_C} {kd : List FieldType} {Ts : List Cond} {AO : List Cond} {M : xM} {base d : Nat} {X : Option (Nat × Nat × (Nat → Int32))} {Rel : σ → List xC → Prop} {j : Nat} {y : MethodName} {nL : Nat} {ret : Option FieldType} {len pc : Nat} {L : xL} {st : List Value} {s : σ} {Φ : Option Value → σ → Prop}
theorem xw_pu {i : Jvm.ClassFile.Instr} {pc' : Nat} {L' : xL} {st' : List Value} (q : x_at M j pc i len y nL ret) (hi : ∀ h, x_ins cl kd Ts AO X base y.cls y.name nL i len (pc, L, st, h) (pc', L', st', h)) (k : xw sk cl kd Ts AO M base d X Rel j pc' L' st' s Φ) : xw sk cl kd Ts AO M base d X Rel j pc L st s Φ := by
  intro h hR
  obtain ⟨r, h', g, k2⟩ := k h hR
  exact ⟨r, h', x_G.step q (hi h) g, k2⟩
theorem xw_su {i : Jvm.ClassFile.Instr} {pc' : Nat} {L' : xL} {st' : List Value} (q : x_at M j pc i len y nL ret) (hi : ∀ h, x_sins sk Ts y.cls i len (pc, L, st, h) (pc', L', st', h)) (k : xw sk cl kd Ts AO M base d X Rel j pc' L' st' s Φ) : xw sk cl kd Ts AO M base d X Rel j pc L st s Φ := by
  intro h hR
  obtain ⟨r, h', g, k2⟩ := k h hR
  exact ⟨r, h', x_G.sstep q (hi h) g, k2⟩
theorem xw_ret {i : Jvm.ClassFile.Instr} {r : Option Value} (q : x_at M j pc i len y nL ret) (hi : x_ret ret i len st r) (k : Φ r s) : xw sk cl kd Ts AO M base d X Rel j pc L st s Φ :=
  fun h hR => ⟨r, h, x_G.rt q hi, s, hR, k⟩
theorem xw_mono {Φ2 : Option Value → σ → Prop} (k : xw sk cl kd Ts AO M base d X Rel j pc L st s Φ) (hΦ : ∀ r s, Φ r s → Φ2 r s) : xw sk cl kd Ts AO M base d X Rel j pc L st s Φ2 := by
  intro h hR
  obtain ⟨r, h', g, s', g2, g3⟩ := k h hR
  exact ⟨r, h', g, s', g2, hΦ r s' g3⟩
theorem xw_deep {d2 : Nat} (hd : d ≤ d2) (k : xw sk cl kd Ts AO M base d X Rel j pc L st s Φ) : xw sk cl kd Ts AO M base d2 X Rel j pc L st s Φ := by
  intro h hR
  obtain ⟨r, h', g, k2⟩ := k h hR
  exact ⟨r, h', x_G.deep hd g, k2⟩
/-- a call, over what is known of the callee -/
theorem xw_call {i : Jvm.ClassFile.Instr} {j2 : Nat} {y2 : MethodName} {cc2 : ByteArray} {nL2 : Nat} {ret2 : Option FieldType} {As rest : List Value} {Φ2 : Option Value → σ → Prop} (q : x_at M j pc i len y nL ret) (hj2 : 0 < j2) (hM2 : M j2 = some (y2, cc2, nL2, ret2)) (hc : ∀ h, Rel s h → x_cal sk cl Ts AO base y.cls i len (pc, L, st, h) y2 As rest) (hl : (lg_sl As).length ≤ nL2) (k1 : xw sk cl kd Ts AO M base d none Rel j2 0 (lv_args 0 As) [] s Φ2) (k2 : ∀ v s', Φ2 v s' → xw sk cl kd Ts AO M base (d + 1) X Rel j (pc + 3) L (v.toList ++ rest) s' Φ) : xw sk cl kd Ts AO M base (d + 1) X Rel j pc L st s Φ := by
  intro h hR
  obtain ⟨v, h1, g1, s1, hR1, p1⟩ := k1 h hR
  obtain ⟨r, h', g2, k3⟩ := k2 v s1 p1 h1 hR1
  exact ⟨r, h', x_G.call q hj2 hM2 (hc h hR) hl g1 g2, k3⟩

theorem xw_null (q : x_at M j pc .aconst_null 1 y nL ret) (k : xw sk cl kd Ts AO M base d X Rel j (pc + 1) L (.null :: st) s Φ) : xw sk cl kd Ts AO M base d X Rel j pc L st s Φ :=
  xw_pu q (fun _ => ⟨rfl, rfl⟩) k
theorem xw_iconst {n : Int} (q : x_at M j pc (.iconst n) 1 y nL ret) (k : xw sk cl kd Ts AO M base d X Rel j (pc + 1) L (.int (Int32.ofInt n) :: st) s Φ) : xw sk cl kd Ts AO M base d X Rel j pc L st s Φ :=
  xw_pu q (fun _ => ⟨rfl, rfl⟩) k
theorem xw_bipush {n : Int} (q : x_at M j pc (.bipush n) 2 y nL ret) (k : xw sk cl kd Ts AO M base d X Rel j (pc + 2) L (.int (Int8.ofInt n).toInt32 :: st) s Φ) : xw sk cl kd Ts AO M base d X Rel j pc L st s Φ :=
  xw_pu q (fun _ => ⟨rfl, rfl⟩) k
theorem xw_sipush {n : Int} (q : x_at M j pc (.sipush n) 3 y nL ret) (k : xw sk cl kd Ts AO M base d X Rel j (pc + 3) L (.int (Int16.ofInt n).toInt32 :: st) s Φ) : xw sk cl kd Ts AO M base d X Rel j pc L st s Φ :=
  xw_pu q (fun _ => ⟨rfl, rfl⟩) k
theorem xw_lconst {n : Fin 2} (q : x_at M j pc (.lconst n) 1 y nL ret) (k : xw sk cl kd Ts AO M base d X Rel j (pc + 1) L (.long (Int64.ofNat (n : Nat)) :: st) s Φ) : xw sk cl kd Ts AO M base d X Rel j pc L st s Φ :=
  xw_pu q (fun _ => ⟨rfl, rfl⟩) k
theorem xw_ldc {idx : Nat} {v : Int32} (q : x_at M j pc (.ldc idx) 2 y nL ret) (hc : Cond.constant y.cls idx v ∈ Ts) (k : xw sk cl kd Ts AO M base d X Rel j (pc + 2) L (.int v :: st) s Φ) : xw sk cl kd Ts AO M base d X Rel j pc L st s Φ :=
  xw_pu q (fun _ => ⟨rfl, v, hc, rfl⟩) k
theorem xw_ldc2 {idx : Nat} {v : Int64} (q : x_at M j pc (.ldc2_w idx) 3 y nL ret) (hc : Cond.constantLong y.cls idx v ∈ Ts) (k : xw sk cl kd Ts AO M base d X Rel j (pc + 3) L (.long v :: st) s Φ) : xw sk cl kd Ts AO M base d X Rel j pc L st s Φ :=
  xw_pu q (fun _ => ⟨rfl, v, hc, rfl⟩) k
theorem xw_iload {i : Nat} {x : Int32} (q : x_at M j pc (.iload i) 2 y nL ret) (hl : x_get L i = some (.int x)) (k : xw sk cl kd Ts AO M base d X Rel j (pc + 2) L (.int x :: st) s Φ) : xw sk cl kd Ts AO M base d X Rel j pc L st s Φ :=
  xw_pu q (fun _ => ⟨rfl, x, x_get_mem hl, rfl⟩) k
theorem xw_iloadn {i : Fin 4} {x : Int32} (q : x_at M j pc (.iload_n i) 1 y nL ret) (hl : x_get L i = some (.int x)) (k : xw sk cl kd Ts AO M base d X Rel j (pc + 1) L (.int x :: st) s Φ) : xw sk cl kd Ts AO M base d X Rel j pc L st s Φ :=
  xw_pu q (fun _ => ⟨rfl, x, x_get_mem hl, rfl⟩) k
theorem xw_lload {i : Nat} {x : Int64} (q : x_at M j pc (.lload i) 2 y nL ret) (hl : x_get L i = some (.long x)) (k : xw sk cl kd Ts AO M base d X Rel j (pc + 2) L (.long x :: st) s Φ) : xw sk cl kd Ts AO M base d X Rel j pc L st s Φ :=
  xw_pu q (fun _ => ⟨rfl, x, x_get_mem hl, rfl⟩) k
theorem xw_lloadn {i : Fin 4} {x : Int64} (q : x_at M j pc (.lload_n i) 1 y nL ret) (hl : x_get L i = some (.long x)) (k : xw sk cl kd Ts AO M base d X Rel j (pc + 1) L (.long x :: st) s Φ) : xw sk cl kd Ts AO M base d X Rel j pc L st s Φ :=
  xw_pu q (fun _ => ⟨rfl, x, x_get_mem hl, rfl⟩) k
theorem xw_aload {i : Nat} {x : Option Nat} (q : x_at M j pc (.aload i) 2 y nL ret) (hl : x_get L i = some (va_rf x)) (k : xw sk cl kd Ts AO M base d X Rel j (pc + 2) L (va_rf x :: st) s Φ) : xw sk cl kd Ts AO M base d X Rel j pc L st s Φ :=
  xw_pu q (fun _ => ⟨rfl, x, x_get_mem hl, rfl⟩) k
theorem xw_aloadn {i : Fin 4} {x : Option Nat} (q : x_at M j pc (.aload_n i) 1 y nL ret) (hl : x_get L i = some (va_rf x)) (k : xw sk cl kd Ts AO M base d X Rel j (pc + 1) L (va_rf x :: st) s Φ) : xw sk cl kd Ts AO M base d X Rel j pc L st s Φ :=
  xw_pu q (fun _ => ⟨rfl, x, x_get_mem hl, rfl⟩) k
theorem xw_istore {i : Nat} {x : Int32} {L2 : xL} (q : x_at M j pc (.istore i) 2 y nL ret) (hn : i < nL) (hl : x_s1 L i (.int x) = L2) (k : xw sk cl kd Ts AO M base d X Rel j (pc + 2) L2 st s Φ) : xw sk cl kd Ts AO M base d X Rel j pc L (.int x :: st) s Φ :=
  xw_pu q (fun _ => by subst hl; exact ⟨rfl, hn, x, st, rfl, rfl⟩) k
theorem xw_istoren {i : Fin 4} {x : Int32} {L2 : xL} (q : x_at M j pc (.istore_n i) 1 y nL ret) (hn : (i : Nat) < nL) (hl : x_s1 L i (.int x) = L2) (k : xw sk cl kd Ts AO M base d X Rel j (pc + 1) L2 st s Φ) : xw sk cl kd Ts AO M base d X Rel j pc L (.int x :: st) s Φ :=
  xw_pu q (fun _ => by subst hl; exact ⟨rfl, hn, x, st, rfl, rfl⟩) k
theorem xw_lstore {i : Nat} {x : Int64} {L2 : xL} (q : x_at M j pc (.lstore i) 2 y nL ret) (hn : i + 1 < nL) (hl : x_s2 L i (.long x) = L2) (k : xw sk cl kd Ts AO M base d X Rel j (pc + 2) L2 st s Φ) : xw sk cl kd Ts AO M base d X Rel j pc L (.long x :: st) s Φ :=
  xw_pu q (fun _ => by subst hl; exact ⟨rfl, hn, x, st, rfl, rfl⟩) k
theorem xw_lstoren {i : Fin 4} {x : Int64} {L2 : xL} (q : x_at M j pc (.lstore_n i) 1 y nL ret) (hn : (i : Nat) + 1 < nL) (hl : x_s2 L i (.long x) = L2) (k : xw sk cl kd Ts AO M base d X Rel j (pc + 1) L2 st s Φ) : xw sk cl kd Ts AO M base d X Rel j pc L (.long x :: st) s Φ :=
  xw_pu q (fun _ => by subst hl; exact ⟨rfl, hn, x, st, rfl, rfl⟩) k
theorem xw_astore {i : Nat} {x : Option Nat} {L2 : xL} (q : x_at M j pc (.astore i) 2 y nL ret) (hn : i < nL) (hl : x_s1 L i (va_rf x) = L2) (k : xw sk cl kd Ts AO M base d X Rel j (pc + 2) L2 st s Φ) : xw sk cl kd Ts AO M base d X Rel j pc L (va_rf x :: st) s Φ :=
  xw_pu q (fun _ => by subst hl; exact ⟨rfl, hn, x, st, rfl, rfl⟩) k
theorem xw_astoren {i : Fin 4} {x : Option Nat} {L2 : xL} (q : x_at M j pc (.astore_n i) 1 y nL ret) (hn : (i : Nat) < nL) (hl : x_s1 L i (va_rf x) = L2) (k : xw sk cl kd Ts AO M base d X Rel j (pc + 1) L2 st s Φ) : xw sk cl kd Ts AO M base d X Rel j pc L (va_rf x :: st) s Φ :=
  xw_pu q (fun _ => by subst hl; exact ⟨rfl, hn, x, st, rfl, rfl⟩) k
theorem xw_iinc {i : Nat} {n : Int} {x : Int32} {L2 : xL} (q : x_at M j pc (.iinc i n) 3 y nL ret) (hg : x_get L i = some (.int x)) (hn : i < nL) (hl : x_s1 L i (.int (x + Int32.ofInt n)) = L2) (k : xw sk cl kd Ts AO M base d X Rel j (pc + 3) L2 st s Φ) : xw sk cl kd Ts AO M base d X Rel j pc L st s Φ :=
  xw_pu q (fun _ => by subst hl; exact ⟨rfl, hn, x, x_get_mem hg, rfl⟩) k
theorem xw_iadd {x y1 : Int32} (q : x_at M j pc .iadd 1 y nL ret) (k : xw sk cl kd Ts AO M base d X Rel j (pc + 1) L (.int (x + y1) :: st) s Φ) : xw sk cl kd Ts AO M base d X Rel j pc L (.int y1 :: .int x :: st) s Φ :=
  xw_pu q (fun _ => ⟨rfl, x, y1, st, rfl, rfl⟩) k
theorem xw_isub {x y1 : Int32} (q : x_at M j pc .isub 1 y nL ret) (k : xw sk cl kd Ts AO M base d X Rel j (pc + 1) L (.int (x - y1) :: st) s Φ) : xw sk cl kd Ts AO M base d X Rel j pc L (.int y1 :: .int x :: st) s Φ :=
  xw_pu q (fun _ => ⟨rfl, x, y1, st, rfl, rfl⟩) k
theorem xw_imul {x y1 : Int32} (q : x_at M j pc .imul 1 y nL ret) (k : xw sk cl kd Ts AO M base d X Rel j (pc + 1) L (.int (x * y1) :: st) s Φ) : xw sk cl kd Ts AO M base d X Rel j pc L (.int y1 :: .int x :: st) s Φ :=
  xw_pu q (fun _ => ⟨rfl, x, y1, st, rfl, rfl⟩) k
theorem xw_iand {x y1 : Int32} (q : x_at M j pc .iand 1 y nL ret) (k : xw sk cl kd Ts AO M base d X Rel j (pc + 1) L (.int (x &&& y1) :: st) s Φ) : xw sk cl kd Ts AO M base d X Rel j pc L (.int y1 :: .int x :: st) s Φ :=
  xw_pu q (fun _ => ⟨rfl, x, y1, st, rfl, rfl⟩) k
theorem xw_ior {x y1 : Int32} (q : x_at M j pc .ior 1 y nL ret) (k : xw sk cl kd Ts AO M base d X Rel j (pc + 1) L (.int (x ||| y1) :: st) s Φ) : xw sk cl kd Ts AO M base d X Rel j pc L (.int y1 :: .int x :: st) s Φ :=
  xw_pu q (fun _ => ⟨rfl, x, y1, st, rfl, rfl⟩) k
theorem xw_ixor {x y1 : Int32} (q : x_at M j pc .ixor 1 y nL ret) (k : xw sk cl kd Ts AO M base d X Rel j (pc + 1) L (.int (x ^^^ y1) :: st) s Φ) : xw sk cl kd Ts AO M base d X Rel j pc L (.int y1 :: .int x :: st) s Φ :=
  xw_pu q (fun _ => ⟨rfl, x, y1, st, rfl, rfl⟩) k
theorem xw_ishl {x y1 : Int32} (q : x_at M j pc .ishl 1 y nL ret) (k : xw sk cl kd Ts AO M base d X Rel j (pc + 1) L (.int (x <<< (y1 &&& 31)) :: st) s Φ) : xw sk cl kd Ts AO M base d X Rel j pc L (.int y1 :: .int x :: st) s Φ :=
  xw_pu q (fun _ => ⟨rfl, x, y1, st, rfl, rfl⟩) k
theorem xw_ishr {x y1 : Int32} (q : x_at M j pc .ishr 1 y nL ret) (k : xw sk cl kd Ts AO M base d X Rel j (pc + 1) L (.int (x >>> (y1 &&& 31)) :: st) s Φ) : xw sk cl kd Ts AO M base d X Rel j pc L (.int y1 :: .int x :: st) s Φ :=
  xw_pu q (fun _ => ⟨rfl, x, y1, st, rfl, rfl⟩) k
theorem xw_iushr {x y1 : Int32} (q : x_at M j pc .iushr 1 y nL ret) (k : xw sk cl kd Ts AO M base d X Rel j (pc + 1) L (.int ((x.toUInt32 >>> (y1.toUInt32 &&& Int32.toUInt32 31)).toInt32) :: st) s Φ) : xw sk cl kd Ts AO M base d X Rel j pc L (.int y1 :: .int x :: st) s Φ :=
  xw_pu q (fun _ => ⟨rfl, x, y1, st, rfl, rfl⟩) k
theorem xw_idiv {x y1 : Int32} (q : x_at M j pc .idiv 1 y nL ret) (h0 : ¬ y1 = 0) (k : xw sk cl kd Ts AO M base d X Rel j (pc + 1) L (.int (x / y1) :: st) s Φ) : xw sk cl kd Ts AO M base d X Rel j pc L (.int y1 :: .int x :: st) s Φ :=
  xw_pu q (fun _ => ⟨rfl, x, y1, st, h0, rfl, rfl⟩) k
theorem xw_irem {x y1 : Int32} (q : x_at M j pc .irem 1 y nL ret) (h0 : ¬ y1 = 0) (k : xw sk cl kd Ts AO M base d X Rel j (pc + 1) L (.int (x - x / y1 * y1) :: st) s Φ) : xw sk cl kd Ts AO M base d X Rel j pc L (.int y1 :: .int x :: st) s Φ :=
  xw_pu q (fun _ => ⟨rfl, x, y1, st, h0, rfl, rfl⟩) k
theorem xw_ineg {x : Int32} (q : x_at M j pc .ineg 1 y nL ret) (k : xw sk cl kd Ts AO M base d X Rel j (pc + 1) L (.int (-x) :: st) s Φ) : xw sk cl kd Ts AO M base d X Rel j pc L (.int x :: st) s Φ :=
  xw_pu q (fun _ => ⟨rfl, x, st, rfl, rfl⟩) k
theorem xw_ladd {x y1 : Int64} (q : x_at M j pc .ladd 1 y nL ret) (k : xw sk cl kd Ts AO M base d X Rel j (pc + 1) L (.long (x + y1) :: st) s Φ) : xw sk cl kd Ts AO M base d X Rel j pc L (.long y1 :: .long x :: st) s Φ :=
  xw_pu q (fun _ => ⟨rfl, x, y1, st, rfl, rfl⟩) k
theorem xw_lsub {x y1 : Int64} (q : x_at M j pc .lsub 1 y nL ret) (k : xw sk cl kd Ts AO M base d X Rel j (pc + 1) L (.long (x - y1) :: st) s Φ) : xw sk cl kd Ts AO M base d X Rel j pc L (.long y1 :: .long x :: st) s Φ :=
  xw_pu q (fun _ => ⟨rfl, x, y1, st, rfl, rfl⟩) k
theorem xw_lmul {x y1 : Int64} (q : x_at M j pc .lmul 1 y nL ret) (k : xw sk cl kd Ts AO M base d X Rel j (pc + 1) L (.long (x * y1) :: st) s Φ) : xw sk cl kd Ts AO M base d X Rel j pc L (.long y1 :: .long x :: st) s Φ :=
  xw_pu q (fun _ => ⟨rfl, x, y1, st, rfl, rfl⟩) k
theorem xw_land {x y1 : Int64} (q : x_at M j pc .land 1 y nL ret) (k : xw sk cl kd Ts AO M base d X Rel j (pc + 1) L (.long (x &&& y1) :: st) s Φ) : xw sk cl kd Ts AO M base d X Rel j pc L (.long y1 :: .long x :: st) s Φ :=
  xw_pu q (fun _ => ⟨rfl, x, y1, st, rfl, rfl⟩) k
theorem xw_lor {x y1 : Int64} (q : x_at M j pc .lor 1 y nL ret) (k : xw sk cl kd Ts AO M base d X Rel j (pc + 1) L (.long (x ||| y1) :: st) s Φ) : xw sk cl kd Ts AO M base d X Rel j pc L (.long y1 :: .long x :: st) s Φ :=
  xw_pu q (fun _ => ⟨rfl, x, y1, st, rfl, rfl⟩) k
theorem xw_lxor {x y1 : Int64} (q : x_at M j pc .lxor 1 y nL ret) (k : xw sk cl kd Ts AO M base d X Rel j (pc + 1) L (.long (x ^^^ y1) :: st) s Φ) : xw sk cl kd Ts AO M base d X Rel j pc L (.long y1 :: .long x :: st) s Φ :=
  xw_pu q (fun _ => ⟨rfl, x, y1, st, rfl, rfl⟩) k
theorem xw_lshl {x : Int64} {y1 : Int32} (q : x_at M j pc .lshl 1 y nL ret) (k : xw sk cl kd Ts AO M base d X Rel j (pc + 1) L (.long (x <<< (y1.toInt64 &&& 63)) :: st) s Φ) : xw sk cl kd Ts AO M base d X Rel j pc L (.int y1 :: .long x :: st) s Φ :=
  xw_pu q (fun _ => ⟨rfl, x, y1, st, rfl, rfl⟩) k
theorem xw_lshr {x : Int64} {y1 : Int32} (q : x_at M j pc .lshr 1 y nL ret) (k : xw sk cl kd Ts AO M base d X Rel j (pc + 1) L (.long (x >>> (y1.toInt64 &&& 63)) :: st) s Φ) : xw sk cl kd Ts AO M base d X Rel j pc L (.int y1 :: .long x :: st) s Φ :=
  xw_pu q (fun _ => ⟨rfl, x, y1, st, rfl, rfl⟩) k
theorem xw_lushr {x : Int64} {y1 : Int32} (q : x_at M j pc .lushr 1 y nL ret) (k : xw sk cl kd Ts AO M base d X Rel j (pc + 1) L (.long ((x.toUInt64 >>> (y1.toInt64.toUInt64 &&& Int64.toUInt64 63)).toInt64) :: st) s Φ) : xw sk cl kd Ts AO M base d X Rel j pc L (.int y1 :: .long x :: st) s Φ :=
  xw_pu q (fun _ => ⟨rfl, x, y1, st, rfl, rfl⟩) k
theorem xw_ldiv {x y1 : Int64} (q : x_at M j pc .ldiv 1 y nL ret) (h0 : ¬ y1 = 0) (k : xw sk cl kd Ts AO M base d X Rel j (pc + 1) L (.long (x / y1) :: st) s Φ) : xw sk cl kd Ts AO M base d X Rel j pc L (.long y1 :: .long x :: st) s Φ :=
  xw_pu q (fun _ => ⟨rfl, x, y1, st, h0, rfl, rfl⟩) k
theorem xw_lrem {x y1 : Int64} (q : x_at M j pc .lrem 1 y nL ret) (h0 : ¬ y1 = 0) (k : xw sk cl kd Ts AO M base d X Rel j (pc + 1) L (.long (x - x / y1 * y1) :: st) s Φ) : xw sk cl kd Ts AO M base d X Rel j pc L (.long y1 :: .long x :: st) s Φ :=
  xw_pu q (fun _ => ⟨rfl, x, y1, st, h0, rfl, rfl⟩) k
theorem xw_lneg {x : Int64} (q : x_at M j pc .lneg 1 y nL ret) (k : xw sk cl kd Ts AO M base d X Rel j (pc + 1) L (.long (-x) :: st) s Φ) : xw sk cl kd Ts AO M base d X Rel j pc L (.long x :: st) s Φ :=
  xw_pu q (fun _ => ⟨rfl, x, st, rfl, rfl⟩) k
theorem xw_lcmp {x y1 : Int64} (q : x_at M j pc .lcmp 1 y nL ret) (k : xw sk cl kd Ts AO M base d X Rel j (pc + 1) L (.int (lg_cmp x y1) :: st) s Φ) : xw sk cl kd Ts AO M base d X Rel j pc L (.long y1 :: .long x :: st) s Φ :=
  xw_pu q (fun _ => ⟨rfl, x, y1, st, rfl, rfl⟩) k
theorem xw_i2l {x : Int32} (q : x_at M j pc .i2l 1 y nL ret) (k : xw sk cl kd Ts AO M base d X Rel j (pc + 1) L (.long x.toInt64 :: st) s Φ) : xw sk cl kd Ts AO M base d X Rel j pc L (.int x :: st) s Φ :=
  xw_pu q (fun _ => ⟨rfl, x, st, rfl, rfl⟩) k
theorem xw_l2i {x : Int64} (q : x_at M j pc .l2i 1 y nL ret) (k : xw sk cl kd Ts AO M base d X Rel j (pc + 1) L (.int x.toInt32 :: st) s Φ) : xw sk cl kd Ts AO M base d X Rel j pc L (.long x :: st) s Φ :=
  xw_pu q (fun _ => ⟨rfl, x, st, rfl, rfl⟩) k
theorem xw_i2c {x : Int32} (q : x_at M j pc .i2c 1 y nL ret) (k : xw sk cl kd Ts AO M base d X Rel j (pc + 1) L (.int (x.toUInt32 % 65536).toInt32 :: st) s Φ) : xw sk cl kd Ts AO M base d X Rel j pc L (.int x :: st) s Φ :=
  xw_pu q (fun _ => ⟨rfl, x, st, rfl, rfl⟩) k
theorem xw_dup {v : Value} (q : x_at M j pc .dup 1 y nL ret) (hv : v.category = 1) (k : xw sk cl kd Ts AO M base d X Rel j (pc + 1) L (v :: v :: st) s Φ) : xw sk cl kd Ts AO M base d X Rel j pc L (v :: st) s Φ :=
  xw_pu q (fun _ => ⟨rfl, v, st, hv, rfl, rfl⟩) k
theorem xw_dup2 {v w : Value} (q : x_at M j pc .dup2 1 y nL ret) (hv : v.category = 1) (hw : w.category = 1) (k : xw sk cl kd Ts AO M base d X Rel j (pc + 1) L (v :: w :: v :: w :: st) s Φ) : xw sk cl kd Ts AO M base d X Rel j pc L (v :: w :: st) s Φ :=
  xw_pu q (fun _ => ⟨rfl, v, w, st, hv, hw, rfl, rfl⟩) k
theorem xw_dupx1 {v w : Value} (q : x_at M j pc .dup_x1 1 y nL ret) (hv : v.category = 1) (hw : w.category = 1) (k : xw sk cl kd Ts AO M base d X Rel j (pc + 1) L (v :: w :: v :: st) s Φ) : xw sk cl kd Ts AO M base d X Rel j pc L (v :: w :: st) s Φ :=
  xw_pu q (fun _ => ⟨rfl, v, w, st, hv, hw, rfl, rfl⟩) k
theorem xw_pop {v : Value} (q : x_at M j pc .pop 1 y nL ret) (hv : v.category = 1) (k : xw sk cl kd Ts AO M base d X Rel j (pc + 1) L st s Φ) : xw sk cl kd Ts AO M base d X Rel j pc L (v :: st) s Φ :=
  xw_pu q (fun _ => ⟨rfl, v, st, hv, rfl, rfl⟩) k
theorem xw_pop2 {v : Value} (q : x_at M j pc .pop2 1 y nL ret) (hv : v.category = 2) (k : xw sk cl kd Ts AO M base d X Rel j (pc + 1) L st s Φ) : xw sk cl kd Ts AO M base d X Rel j pc L (v :: st) s Φ :=
  xw_pu q (fun _ => ⟨rfl, v, st, hv, rfl, rfl⟩) k
theorem xw_goto {off : Int} {tgt : Nat} (q : x_at M j pc (.goto off) 3 y nL ret) (ht : (pc : Int) + off = (tgt : Int)) (k : xw sk cl kd Ts AO M base d X Rel j tgt L st s Φ) : xw sk cl kd Ts AO M base d X Rel j pc L st s Φ :=
  xw_pu q (fun _ => ⟨rfl, tgt, ht, rfl⟩) k
theorem xw_ifeq {x : Int32} {off : Int} {tgt : Nat} (q : x_at M j pc (.ifCond .eq off) 3 y nL ret) (ht : (pc : Int) + off = (tgt : Int)) (kt : x = 0 → xw sk cl kd Ts AO M base d X Rel j tgt L st s Φ) (kf : ¬ x = 0 → xw sk cl kd Ts AO M base d X Rel j (pc + 3) L st s Φ) : xw sk cl kd Ts AO M base d X Rel j pc L (.int x :: st) s Φ := by
  by_cases hx : x = 0
  · exact xw_pu q (fun _ => ⟨rfl, x, st, tgt, rfl, ht, Or.inl ⟨hx, rfl⟩⟩) (kt hx)
  · exact xw_pu q (fun _ => ⟨rfl, x, st, tgt, rfl, ht, Or.inr ⟨hx, rfl⟩⟩) (kf hx)
theorem xw_ifne {x : Int32} {off : Int} {tgt : Nat} (q : x_at M j pc (.ifCond .ne off) 3 y nL ret) (ht : (pc : Int) + off = (tgt : Int)) (kt : ¬ x = 0 → xw sk cl kd Ts AO M base d X Rel j tgt L st s Φ) (kf : x = 0 → xw sk cl kd Ts AO M base d X Rel j (pc + 3) L st s Φ) : xw sk cl kd Ts AO M base d X Rel j pc L (.int x :: st) s Φ := by
  by_cases hx : x = 0
  · exact xw_pu q (fun _ => ⟨rfl, x, st, tgt, rfl, ht, Or.inr ⟨fun z => z hx, rfl⟩⟩) (kf hx)
  · exact xw_pu q (fun _ => ⟨rfl, x, st, tgt, rfl, ht, Or.inl ⟨hx, rfl⟩⟩) (kt hx)
theorem xw_iflt {x : Int32} {off : Int} {tgt : Nat} (q : x_at M j pc (.ifCond .lt off) 3 y nL ret) (ht : (pc : Int) + off = (tgt : Int)) (kt : x < 0 → xw sk cl kd Ts AO M base d X Rel j tgt L st s Φ) (kf : ¬ x < 0 → xw sk cl kd Ts AO M base d X Rel j (pc + 3) L st s Φ) : xw sk cl kd Ts AO M base d X Rel j pc L (.int x :: st) s Φ := by
  by_cases hx : x < 0
  · exact xw_pu q (fun _ => ⟨rfl, x, st, tgt, rfl, ht, Or.inl ⟨hx, rfl⟩⟩) (kt hx)
  · exact xw_pu q (fun _ => ⟨rfl, x, st, tgt, rfl, ht, Or.inr ⟨hx, rfl⟩⟩) (kf hx)
theorem xw_ifge {x : Int32} {off : Int} {tgt : Nat} (q : x_at M j pc (.ifCond .ge off) 3 y nL ret) (ht : (pc : Int) + off = (tgt : Int)) (kt : 0 ≤ x → xw sk cl kd Ts AO M base d X Rel j tgt L st s Φ) (kf : ¬ 0 ≤ x → xw sk cl kd Ts AO M base d X Rel j (pc + 3) L st s Φ) : xw sk cl kd Ts AO M base d X Rel j pc L (.int x :: st) s Φ := by
  by_cases hx : 0 ≤ x
  · exact xw_pu q (fun _ => ⟨rfl, x, st, tgt, rfl, ht, Or.inl ⟨hx, rfl⟩⟩) (kt hx)
  · exact xw_pu q (fun _ => ⟨rfl, x, st, tgt, rfl, ht, Or.inr ⟨hx, rfl⟩⟩) (kf hx)
theorem xw_ifgt {x : Int32} {off : Int} {tgt : Nat} (q : x_at M j pc (.ifCond .gt off) 3 y nL ret) (ht : (pc : Int) + off = (tgt : Int)) (kt : 0 < x → xw sk cl kd Ts AO M base d X Rel j tgt L st s Φ) (kf : ¬ 0 < x → xw sk cl kd Ts AO M base d X Rel j (pc + 3) L st s Φ) : xw sk cl kd Ts AO M base d X Rel j pc L (.int x :: st) s Φ := by
  by_cases hx : 0 < x
  · exact xw_pu q (fun _ => ⟨rfl, x, st, tgt, rfl, ht, Or.inl ⟨hx, rfl⟩⟩) (kt hx)
  · exact xw_pu q (fun _ => ⟨rfl, x, st, tgt, rfl, ht, Or.inr ⟨hx, rfl⟩⟩) (kf hx)
theorem xw_ifle {x : Int32} {off : Int} {tgt : Nat} (q : x_at M j pc (.ifCond .le off) 3 y nL ret) (ht : (pc : Int) + off = (tgt : Int)) (kt : x ≤ 0 → xw sk cl kd Ts AO M base d X Rel j tgt L st s Φ) (kf : ¬ x ≤ 0 → xw sk cl kd Ts AO M base d X Rel j (pc + 3) L st s Φ) : xw sk cl kd Ts AO M base d X Rel j pc L (.int x :: st) s Φ := by
  by_cases hx : x ≤ 0
  · exact xw_pu q (fun _ => ⟨rfl, x, st, tgt, rfl, ht, Or.inl ⟨hx, rfl⟩⟩) (kt hx)
  · exact xw_pu q (fun _ => ⟨rfl, x, st, tgt, rfl, ht, Or.inr ⟨hx, rfl⟩⟩) (kf hx)
theorem xw_icmpeq {x y1 : Int32} {off : Int} {tgt : Nat} (q : x_at M j pc (.if_icmp .eq off) 3 y nL ret) (ht : (pc : Int) + off = (tgt : Int)) (kt : x = y1 → xw sk cl kd Ts AO M base d X Rel j tgt L st s Φ) (kf : ¬ x = y1 → xw sk cl kd Ts AO M base d X Rel j (pc + 3) L st s Φ) : xw sk cl kd Ts AO M base d X Rel j pc L (.int y1 :: .int x :: st) s Φ := by
  by_cases hx : x = y1
  · exact xw_pu q (fun _ => ⟨rfl, x, y1, st, tgt, rfl, ht, Or.inl ⟨hx, rfl⟩⟩) (kt hx)
  · exact xw_pu q (fun _ => ⟨rfl, x, y1, st, tgt, rfl, ht, Or.inr ⟨hx, rfl⟩⟩) (kf hx)
theorem xw_icmpne {x y1 : Int32} {off : Int} {tgt : Nat} (q : x_at M j pc (.if_icmp .ne off) 3 y nL ret) (ht : (pc : Int) + off = (tgt : Int)) (kt : ¬ x = y1 → xw sk cl kd Ts AO M base d X Rel j tgt L st s Φ) (kf : x = y1 → xw sk cl kd Ts AO M base d X Rel j (pc + 3) L st s Φ) : xw sk cl kd Ts AO M base d X Rel j pc L (.int y1 :: .int x :: st) s Φ := by
  by_cases hx : x = y1
  · exact xw_pu q (fun _ => ⟨rfl, x, y1, st, tgt, rfl, ht, Or.inr ⟨fun z => z hx, rfl⟩⟩) (kf hx)
  · exact xw_pu q (fun _ => ⟨rfl, x, y1, st, tgt, rfl, ht, Or.inl ⟨hx, rfl⟩⟩) (kt hx)
theorem xw_icmplt {x y1 : Int32} {off : Int} {tgt : Nat} (q : x_at M j pc (.if_icmp .lt off) 3 y nL ret) (ht : (pc : Int) + off = (tgt : Int)) (kt : x < y1 → xw sk cl kd Ts AO M base d X Rel j tgt L st s Φ) (kf : ¬ x < y1 → xw sk cl kd Ts AO M base d X Rel j (pc + 3) L st s Φ) : xw sk cl kd Ts AO M base d X Rel j pc L (.int y1 :: .int x :: st) s Φ := by
  by_cases hx : x < y1
  · exact xw_pu q (fun _ => ⟨rfl, x, y1, st, tgt, rfl, ht, Or.inl ⟨hx, rfl⟩⟩) (kt hx)
  · exact xw_pu q (fun _ => ⟨rfl, x, y1, st, tgt, rfl, ht, Or.inr ⟨hx, rfl⟩⟩) (kf hx)
theorem xw_icmpge {x y1 : Int32} {off : Int} {tgt : Nat} (q : x_at M j pc (.if_icmp .ge off) 3 y nL ret) (ht : (pc : Int) + off = (tgt : Int)) (kt : y1 ≤ x → xw sk cl kd Ts AO M base d X Rel j tgt L st s Φ) (kf : ¬ y1 ≤ x → xw sk cl kd Ts AO M base d X Rel j (pc + 3) L st s Φ) : xw sk cl kd Ts AO M base d X Rel j pc L (.int y1 :: .int x :: st) s Φ := by
  by_cases hx : y1 ≤ x
  · exact xw_pu q (fun _ => ⟨rfl, x, y1, st, tgt, rfl, ht, Or.inl ⟨hx, rfl⟩⟩) (kt hx)
  · exact xw_pu q (fun _ => ⟨rfl, x, y1, st, tgt, rfl, ht, Or.inr ⟨hx, rfl⟩⟩) (kf hx)
theorem xw_icmpgt {x y1 : Int32} {off : Int} {tgt : Nat} (q : x_at M j pc (.if_icmp .gt off) 3 y nL ret) (ht : (pc : Int) + off = (tgt : Int)) (kt : y1 < x → xw sk cl kd Ts AO M base d X Rel j tgt L st s Φ) (kf : ¬ y1 < x → xw sk cl kd Ts AO M base d X Rel j (pc + 3) L st s Φ) : xw sk cl kd Ts AO M base d X Rel j pc L (.int y1 :: .int x :: st) s Φ := by
  by_cases hx : y1 < x
  · exact xw_pu q (fun _ => ⟨rfl, x, y1, st, tgt, rfl, ht, Or.inl ⟨hx, rfl⟩⟩) (kt hx)
  · exact xw_pu q (fun _ => ⟨rfl, x, y1, st, tgt, rfl, ht, Or.inr ⟨hx, rfl⟩⟩) (kf hx)
theorem xw_icmple {x y1 : Int32} {off : Int} {tgt : Nat} (q : x_at M j pc (.if_icmp .le off) 3 y nL ret) (ht : (pc : Int) + off = (tgt : Int)) (kt : x ≤ y1 → xw sk cl kd Ts AO M base d X Rel j tgt L st s Φ) (kf : ¬ x ≤ y1 → xw sk cl kd Ts AO M base d X Rel j (pc + 3) L st s Φ) : xw sk cl kd Ts AO M base d X Rel j pc L (.int y1 :: .int x :: st) s Φ := by
  by_cases hx : x ≤ y1
  · exact xw_pu q (fun _ => ⟨rfl, x, y1, st, tgt, rfl, ht, Or.inl ⟨hx, rfl⟩⟩) (kt hx)
  · exact xw_pu q (fun _ => ⟨rfl, x, y1, st, tgt, rfl, ht, Or.inr ⟨hx, rfl⟩⟩) (kf hx)
theorem xw_ifnull {v : Option Nat} {off : Int} {tgt : Nat} (q : x_at M j pc (.ifnull off) 3 y nL ret) (ht : (pc : Int) + off = (tgt : Int)) (kt : v = none → xw sk cl kd Ts AO M base d X Rel j tgt L st s Φ) (kf : ¬ v = none → xw sk cl kd Ts AO M base d X Rel j (pc + 3) L st s Φ) : xw sk cl kd Ts AO M base d X Rel j pc L (va_rf v :: st) s Φ := by
  by_cases hx : v = none
  · exact xw_pu q (fun _ => ⟨rfl, v, st, tgt, rfl, ht, Or.inl ⟨hx, rfl⟩⟩) (kt hx)
  · exact xw_pu q (fun _ => ⟨rfl, v, st, tgt, rfl, ht, Or.inr ⟨hx, rfl⟩⟩) (kf hx)
theorem xw_ifnonnull {v : Option Nat} {off : Int} {tgt : Nat} (q : x_at M j pc (.ifnonnull off) 3 y nL ret) (ht : (pc : Int) + off = (tgt : Int)) (kt : ¬ v = none → xw sk cl kd Ts AO M base d X Rel j tgt L st s Φ) (kf : v = none → xw sk cl kd Ts AO M base d X Rel j (pc + 3) L st s Φ) : xw sk cl kd Ts AO M base d X Rel j pc L (va_rf v :: st) s Φ := by
  by_cases hx : v = none
  · exact xw_pu q (fun _ => ⟨rfl, v, st, tgt, rfl, ht, Or.inr ⟨hx, rfl⟩⟩) (kf hx)
  · exact xw_pu q (fun _ => ⟨rfl, v, st, tgt, rfl, ht, Or.inl ⟨hx, rfl⟩⟩) (kt hx)
theorem xw_tsw {x : Int32} {dflt lo hi : Int} {offs : Array Int} {tgt : Nat} (q : x_at M j pc (.tableswitch dflt lo hi offs) len y nL ret) (ht : ((x.toInt < lo ∨ hi < x.toInt) ∧ (pc : Int) + dflt = (tgt : Int)) ∨ (¬ x.toInt < lo ∧ ¬ hi < x.toInt ∧ ∃ off, offs[(x.toInt - lo).toNat]? = some off ∧ (pc : Int) + off = (tgt : Int))) (k : xw sk cl kd Ts AO M base d X Rel j tgt L st s Φ) : xw sk cl kd Ts AO M base d X Rel j pc L (.int x :: st) s Φ :=
  xw_pu q (fun _ => ⟨x, st, tgt, rfl, rfl, ht⟩) k
theorem xw_lsw {x : Int32} {dflt : Int} {ps : Array (Int × Int)} {tgt : Nat} (q : x_at M j pc (.lookupswitch dflt ps) len y nL ret) (hp : (ps.toList.zip (ps.toList.drop 1)).all (fun (a, next) => a.1 < next.1) = true) (ht : (pc : Int) + Jvm.Op.lookupswitch.offset ps.toList dflt x.toInt = (tgt : Int)) (k : xw sk cl kd Ts AO M base d X Rel j tgt L st s Φ) : xw sk cl kd Ts AO M base d X Rel j pc L (.int x :: st) s Φ :=
  xw_pu q (fun _ => ⟨x, st, tgt, rfl, rfl, hp, ht⟩) k
theorem xw_iret {x : Int32} {ty : FieldType} (q : x_at M j pc .ireturn 1 y nL ret) (hr : ret = some ty) (hn : narrow ty (.int x) = .int x) (k : Φ (some (.int x)) s) : xw sk cl kd Ts AO M base d X Rel j pc L [.int x] s Φ :=
  xw_ret q ⟨rfl, x, ty, rfl, rfl, hr, hn⟩ k
theorem xw_lret {x : Int64} (q : x_at M j pc .lreturn 1 y nL ret) (hr : ret = some .long) (k : Φ (some (.long x)) s) : xw sk cl kd Ts AO M base d X Rel j pc L [.long x] s Φ :=
  xw_ret q ⟨rfl, x, rfl, rfl, hr⟩ k
theorem xw_aret {v : Option Nat} {ty : FieldType} (q : x_at M j pc .areturn 1 y nL ret) (hr : ret = some ty) (ht : (∃ n, ty = .object n) ∨ ∃ t, ty = .array t) (k : Φ (some (va_rf v)) s) : xw sk cl kd Ts AO M base d X Rel j pc L [va_rf v] s Φ :=
  xw_ret q ⟨rfl, v, ty, rfl, rfl, hr, ht⟩ k
theorem xw_vret (q : x_at M j pc .return_ 1 y nL ret) (hr : ret = none) (k : Φ none s) : xw sk cl kd Ts AO M base d X Rel j pc L [] s Φ :=
  xw_ret q ⟨rfl, rfl, rfl, hr⟩ k
end XWR
end
