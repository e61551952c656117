/-! More locals do no harm. -/
theorem x_s1_sub {L L2 : xL} {i : Nat} {v : Value} (h : ∀ q ∈ L, q ∈ L2) : ∀ q ∈ x_s1 L i v, q ∈ x_s1 L2 i v := by
  intro q hq
  unfold x_s1 at hq ⊢
  rcases List.mem_cons.mp hq with e | e
  · exact List.mem_cons.mpr (Or.inl e)
  · have e2 := List.mem_filter.mp e
    exact List.mem_cons.mpr (Or.inr (List.mem_filter.mpr ⟨h q e2.1, e2.2⟩))
theorem x_s2_sub {L L2 : xL} {i : Nat} {v : Value} (h : ∀ q ∈ L, q ∈ L2) : ∀ q ∈ x_s2 L i v, q ∈ x_s2 L2 i v := by
  intro q hq
  unfold x_s2 at hq ⊢
  rcases List.mem_cons.mp hq with e | e
  · exact List.mem_cons.mpr (Or.inl e)
  · have e2 := List.mem_filter.mp e
    exact List.mem_cons.mpr (Or.inr (List.mem_filter.mpr ⟨h q e2.1, e2.2⟩))
theorem x_ins_L {cl : List vw_C} {kd : List FieldType} {Ts : List Cond} {AO : List Cond} {X : Option (Nat × Nat × (Nat → Int32))} {base : Nat} {own mname : String} {nL : Nat} {i : Jvm.ClassFile.Instr} {len : Nat} {pc : Nat} {L L2 : xL} {st : List Value} {h : List xC} {b : xS} (hL : ∀ q ∈ L, q ∈ L2) (hi : x_ins cl kd Ts AO X base own mname nL i len (pc, L, st, h) b) : ∃ L3, (∀ q ∈ b.2.1, q ∈ L3) ∧ x_ins cl kd Ts AO X base own mname nL i len (pc, L2, st, h) (b.1, L3, b.2.2) := by
  cases i with
  | aconst_null =>
    obtain ⟨h_0, rfl⟩ := hi
    exact ⟨_, hL, h_0, rfl⟩
  | iconst n =>
    obtain ⟨h_0, rfl⟩ := hi
    exact ⟨_, hL, h_0, rfl⟩
  | bipush n =>
    obtain ⟨h_0, rfl⟩ := hi
    exact ⟨_, hL, h_0, rfl⟩
  | sipush n =>
    obtain ⟨h_0, rfl⟩ := hi
    exact ⟨_, hL, h_0, rfl⟩
  | lconst n =>
    obtain ⟨h_0, rfl⟩ := hi
    exact ⟨_, hL, h_0, rfl⟩
  | ldc idx =>
    obtain ⟨h_0, w_v1, h_2, rfl⟩ := hi
    exact ⟨_, hL, h_0, w_v1, h_2, rfl⟩
  | ldc2_w idx =>
    obtain ⟨h_0, w_v1, h_2, rfl⟩ := hi
    exact ⟨_, hL, h_0, w_v1, h_2, rfl⟩
  | iload j =>
    obtain ⟨h_0, w_x1, h_2, rfl⟩ := hi
    exact ⟨_, hL, h_0, w_x1, (hL _ h_2), rfl⟩
  | iload_n j =>
    obtain ⟨h_0, w_x1, h_2, rfl⟩ := hi
    exact ⟨_, hL, h_0, w_x1, (hL _ h_2), rfl⟩
  | lload j =>
    obtain ⟨h_0, w_x1, h_2, rfl⟩ := hi
    exact ⟨_, hL, h_0, w_x1, (hL _ h_2), rfl⟩
  | lload_n j =>
    obtain ⟨h_0, w_x1, h_2, rfl⟩ := hi
    exact ⟨_, hL, h_0, w_x1, (hL _ h_2), rfl⟩
  | aload j =>
    obtain ⟨h_0, w_r1, h_2, rfl⟩ := hi
    exact ⟨_, hL, h_0, w_r1, (hL _ h_2), rfl⟩
  | aload_n j =>
    obtain ⟨h_0, w_r1, h_2, rfl⟩ := hi
    exact ⟨_, hL, h_0, w_r1, (hL _ h_2), rfl⟩
  | istore j =>
    obtain ⟨h_0, h_1, w_x2, w_r2, h_3, rfl⟩ := hi
    exact ⟨_, x_s1_sub hL, h_0, h_1, w_x2, w_r2, h_3, rfl⟩
  | istore_n j =>
    obtain ⟨h_0, h_1, w_x2, w_r2, h_3, rfl⟩ := hi
    exact ⟨_, x_s1_sub hL, h_0, h_1, w_x2, w_r2, h_3, rfl⟩
  | lstore j =>
    obtain ⟨h_0, h_1, w_x2, w_r2, h_3, rfl⟩ := hi
    exact ⟨_, x_s2_sub hL, h_0, h_1, w_x2, w_r2, h_3, rfl⟩
  | lstore_n j =>
    obtain ⟨h_0, h_1, w_x2, w_r2, h_3, rfl⟩ := hi
    exact ⟨_, x_s2_sub hL, h_0, h_1, w_x2, w_r2, h_3, rfl⟩
  | astore j =>
    obtain ⟨h_0, h_1, w_x2, w_r2, h_3, rfl⟩ := hi
    exact ⟨_, x_s1_sub hL, h_0, h_1, w_x2, w_r2, h_3, rfl⟩
  | astore_n j =>
    obtain ⟨h_0, h_1, w_x2, w_r2, h_3, rfl⟩ := hi
    exact ⟨_, x_s1_sub hL, h_0, h_1, w_x2, w_r2, h_3, rfl⟩
  | iinc j n =>
    obtain ⟨h_0, h_1, w_x2, h_3, rfl⟩ := hi
    exact ⟨_, x_s1_sub hL, h_0, h_1, w_x2, (hL _ h_3), rfl⟩
  | iadd =>
    obtain ⟨h_0, w_x1, w_y1, w_r1, h_2, rfl⟩ := hi
    exact ⟨_, hL, h_0, w_x1, w_y1, w_r1, h_2, rfl⟩
  | isub =>
    obtain ⟨h_0, w_x1, w_y1, w_r1, h_2, rfl⟩ := hi
    exact ⟨_, hL, h_0, w_x1, w_y1, w_r1, h_2, rfl⟩
  | imul =>
    obtain ⟨h_0, w_x1, w_y1, w_r1, h_2, rfl⟩ := hi
    exact ⟨_, hL, h_0, w_x1, w_y1, w_r1, h_2, rfl⟩
  | iand =>
    obtain ⟨h_0, w_x1, w_y1, w_r1, h_2, rfl⟩ := hi
    exact ⟨_, hL, h_0, w_x1, w_y1, w_r1, h_2, rfl⟩
  | ior =>
    obtain ⟨h_0, w_x1, w_y1, w_r1, h_2, rfl⟩ := hi
    exact ⟨_, hL, h_0, w_x1, w_y1, w_r1, h_2, rfl⟩
  | ixor =>
    obtain ⟨h_0, w_x1, w_y1, w_r1, h_2, rfl⟩ := hi
    exact ⟨_, hL, h_0, w_x1, w_y1, w_r1, h_2, rfl⟩
  | ishl =>
    obtain ⟨h_0, w_x1, w_y1, w_r1, h_2, rfl⟩ := hi
    exact ⟨_, hL, h_0, w_x1, w_y1, w_r1, h_2, rfl⟩
  | ishr =>
    obtain ⟨h_0, w_x1, w_y1, w_r1, h_2, rfl⟩ := hi
    exact ⟨_, hL, h_0, w_x1, w_y1, w_r1, h_2, rfl⟩
  | iushr =>
    obtain ⟨h_0, w_x1, w_y1, w_r1, h_2, rfl⟩ := hi
    exact ⟨_, hL, h_0, w_x1, w_y1, w_r1, h_2, rfl⟩
  | idiv =>
    obtain ⟨h_0, w_x1, w_y1, w_r1, h_2, h_3, rfl⟩ := hi
    exact ⟨_, hL, h_0, w_x1, w_y1, w_r1, h_2, h_3, rfl⟩
  | irem =>
    obtain ⟨h_0, w_x1, w_y1, w_r1, h_2, h_3, rfl⟩ := hi
    exact ⟨_, hL, h_0, w_x1, w_y1, w_r1, h_2, h_3, rfl⟩
  | ineg =>
    obtain ⟨h_0, w_x1, w_r1, h_2, rfl⟩ := hi
    exact ⟨_, hL, h_0, w_x1, w_r1, h_2, rfl⟩
  | ladd =>
    obtain ⟨h_0, w_x1, w_y1, w_r1, h_2, rfl⟩ := hi
    exact ⟨_, hL, h_0, w_x1, w_y1, w_r1, h_2, rfl⟩
  | lsub =>
    obtain ⟨h_0, w_x1, w_y1, w_r1, h_2, rfl⟩ := hi
    exact ⟨_, hL, h_0, w_x1, w_y1, w_r1, h_2, rfl⟩
  | lmul =>
    obtain ⟨h_0, w_x1, w_y1, w_r1, h_2, rfl⟩ := hi
    exact ⟨_, hL, h_0, w_x1, w_y1, w_r1, h_2, rfl⟩
  | land =>
    obtain ⟨h_0, w_x1, w_y1, w_r1, h_2, rfl⟩ := hi
    exact ⟨_, hL, h_0, w_x1, w_y1, w_r1, h_2, rfl⟩
  | lor =>
    obtain ⟨h_0, w_x1, w_y1, w_r1, h_2, rfl⟩ := hi
    exact ⟨_, hL, h_0, w_x1, w_y1, w_r1, h_2, rfl⟩
  | lxor =>
    obtain ⟨h_0, w_x1, w_y1, w_r1, h_2, rfl⟩ := hi
    exact ⟨_, hL, h_0, w_x1, w_y1, w_r1, h_2, rfl⟩
  | lshl =>
    obtain ⟨h_0, w_x1, w_y1, w_r1, h_2, rfl⟩ := hi
    exact ⟨_, hL, h_0, w_x1, w_y1, w_r1, h_2, rfl⟩
  | lshr =>
    obtain ⟨h_0, w_x1, w_y1, w_r1, h_2, rfl⟩ := hi
    exact ⟨_, hL, h_0, w_x1, w_y1, w_r1, h_2, rfl⟩
  | lushr =>
    obtain ⟨h_0, w_x1, w_y1, w_r1, h_2, rfl⟩ := hi
    exact ⟨_, hL, h_0, w_x1, w_y1, w_r1, h_2, rfl⟩
  | ldiv =>
    obtain ⟨h_0, w_x1, w_y1, w_r1, h_2, h_3, rfl⟩ := hi
    exact ⟨_, hL, h_0, w_x1, w_y1, w_r1, h_2, h_3, rfl⟩
  | lrem =>
    obtain ⟨h_0, w_x1, w_y1, w_r1, h_2, h_3, rfl⟩ := hi
    exact ⟨_, hL, h_0, w_x1, w_y1, w_r1, h_2, h_3, rfl⟩
  | lneg =>
    obtain ⟨h_0, w_x1, w_r1, h_2, rfl⟩ := hi
    exact ⟨_, hL, h_0, w_x1, w_r1, h_2, rfl⟩
  | lcmp =>
    obtain ⟨h_0, w_x1, w_y1, w_r1, h_2, rfl⟩ := hi
    exact ⟨_, hL, h_0, w_x1, w_y1, w_r1, h_2, rfl⟩
  | i2l =>
    obtain ⟨h_0, w_x1, w_r1, h_2, rfl⟩ := hi
    exact ⟨_, hL, h_0, w_x1, w_r1, h_2, rfl⟩
  | l2i =>
    obtain ⟨h_0, w_x1, w_r1, h_2, rfl⟩ := hi
    exact ⟨_, hL, h_0, w_x1, w_r1, h_2, rfl⟩
  | i2c =>
    obtain ⟨h_0, w_x1, w_r1, h_2, rfl⟩ := hi
    exact ⟨_, hL, h_0, w_x1, w_r1, h_2, rfl⟩
  | dup =>
    obtain ⟨h_0, w_v1, w_r1, h_2, h_3, rfl⟩ := hi
    exact ⟨_, hL, h_0, w_v1, w_r1, h_2, h_3, rfl⟩
  | dup2 =>
    obtain ⟨h_0, w_v1, w_w1, w_r1, h_2, h_3, h_4, rfl⟩ := hi
    exact ⟨_, hL, h_0, w_v1, w_w1, w_r1, h_2, h_3, h_4, rfl⟩
  | dup_x1 =>
    obtain ⟨h_0, w_v1, w_w1, w_r1, h_2, h_3, h_4, rfl⟩ := hi
    exact ⟨_, hL, h_0, w_v1, w_w1, w_r1, h_2, h_3, h_4, rfl⟩
  | pop =>
    obtain ⟨h_0, w_v1, w_r1, h_2, h_3, rfl⟩ := hi
    exact ⟨_, hL, h_0, w_v1, w_r1, h_2, h_3, rfl⟩
  | pop2 =>
    obtain ⟨h_0, w_v1, w_r1, h_2, h_3, rfl⟩ := hi
    exact ⟨_, hL, h_0, w_v1, w_r1, h_2, h_3, rfl⟩
  | ifCond cn off =>
    obtain ⟨h_0, w_x1, w_r1, w_tgt2, h_3, h_4, ⟨h_5, rfl⟩ | ⟨h_6, rfl⟩⟩ := hi
    · exact ⟨_, hL, h_0, w_x1, w_r1, w_tgt2, h_3, h_4, Or.inl ⟨h_5, rfl⟩⟩
    · exact ⟨_, hL, h_0, w_x1, w_r1, w_tgt2, h_3, h_4, Or.inr ⟨h_6, rfl⟩⟩
  | if_icmp cn off =>
    obtain ⟨h_0, w_x1, w_y1, w_r1, w_tgt2, h_3, h_4, ⟨h_5, rfl⟩ | ⟨h_6, rfl⟩⟩ := hi
    · exact ⟨_, hL, h_0, w_x1, w_y1, w_r1, w_tgt2, h_3, h_4, Or.inl ⟨h_5, rfl⟩⟩
    · exact ⟨_, hL, h_0, w_x1, w_y1, w_r1, w_tgt2, h_3, h_4, Or.inr ⟨h_6, rfl⟩⟩
  | ifnull off =>
    obtain ⟨h_0, w_v1, w_r1, w_tgt2, h_3, h_4, ⟨h_5, rfl⟩ | ⟨h_6, rfl⟩⟩ := hi
    · exact ⟨_, hL, h_0, w_v1, w_r1, w_tgt2, h_3, h_4, Or.inl ⟨h_5, rfl⟩⟩
    · exact ⟨_, hL, h_0, w_v1, w_r1, w_tgt2, h_3, h_4, Or.inr ⟨h_6, rfl⟩⟩
  | ifnonnull off =>
    obtain ⟨h_0, w_v1, w_r1, w_tgt2, h_3, h_4, ⟨h_5, rfl⟩ | ⟨h_6, rfl⟩⟩ := hi
    · exact ⟨_, hL, h_0, w_v1, w_r1, w_tgt2, h_3, h_4, Or.inl ⟨h_5, rfl⟩⟩
    · exact ⟨_, hL, h_0, w_v1, w_r1, w_tgt2, h_3, h_4, Or.inr ⟨h_6, rfl⟩⟩
  | goto off =>
    obtain ⟨h_0, w_tgt1, h_2, rfl⟩ := hi
    exact ⟨_, hL, h_0, w_tgt1, h_2, rfl⟩
  | tableswitch dflt lo hi offs =>
    obtain ⟨w_x0, w_r0, w_tgt1, h_2, rfl, h_3⟩ := hi
    exact ⟨_, hL, w_x0, w_r0, w_tgt1, h_2, rfl, h_3⟩
  | lookupswitch dflt ps =>
    obtain ⟨w_x0, w_r0, w_tgt1, h_2, rfl, h_3, h_4⟩ := hi
    exact ⟨_, hL, w_x0, w_r0, w_tgt1, h_2, rfl, h_3, h_4⟩
  | getfield idx =>
    obtain ⟨h_0, w_ci1, w_k1, w_C1, w_T1, w_N1, w_q1, w_fs1, w_v1, w_r1, h_2, h_3, h_4, h_5, rfl⟩ := hi
    exact ⟨_, hL, h_0, w_ci1, w_k1, w_C1, w_T1, w_N1, w_q1, w_fs1, w_v1, w_r1, h_2, h_3, h_4, h_5, rfl⟩
  | putfield idx =>
    obtain ⟨h_0, w_ci1, w_k1, w_C1, w_T1, w_N1, w_q1, w_fs1, w_v1, w_r1, w_ty1, h_2, h_3, h_4, h_5, h_6, h_7, h_8, h_9, rfl⟩ := hi
    exact ⟨_, hL, h_0, w_ci1, w_k1, w_C1, w_T1, w_N1, w_q1, w_fs1, w_v1, w_r1, w_ty1, h_2, h_3, h_4, h_5, h_6, h_7, h_8, h_9, rfl⟩
  | iaload =>
    obtain ⟨h_0, w_x1, w_r1, ⟨w_q2, w_k2, w_n2, w_f2, h_3, h_4, h_5, h_6, rfl⟩ | ⟨w_q7, w_n7, w_f7, h_8, h_9, h_10, rfl⟩⟩ := hi
    · exact ⟨_, hL, h_0, w_x1, w_r1, Or.inl ⟨w_q2, w_k2, w_n2, w_f2, h_3, h_4, h_5, h_6, rfl⟩⟩
    · exact ⟨_, hL, h_0, w_x1, w_r1, Or.inr ⟨w_q7, w_n7, w_f7, h_8, h_9, h_10, rfl⟩⟩
  | baload =>
    obtain ⟨h_0, w_x1, w_r1, w_q1, w_k1, w_n1, w_f1, h_2, h_3, h_4, h_5, rfl⟩ := hi
    exact ⟨_, hL, h_0, w_x1, w_r1, w_q1, w_k1, w_n1, w_f1, h_2, h_3, h_4, h_5, rfl⟩
  | laload =>
    obtain ⟨h_0, w_x1, w_r1, w_q1, w_k1, w_n1, w_f1, h_2, h_3, h_4, h_5, rfl⟩ := hi
    exact ⟨_, hL, h_0, w_x1, w_r1, w_q1, w_k1, w_n1, w_f1, h_2, h_3, h_4, h_5, rfl⟩
  | aaload =>
    obtain ⟨h_0, w_x1, w_r1, w_q1, w_k1, w_n1, w_f1, w_ty1, h_2, h_3, h_4, h_5, h_6, rfl⟩ := hi
    exact ⟨_, hL, h_0, w_x1, w_r1, w_q1, w_k1, w_n1, w_f1, w_ty1, h_2, h_3, h_4, h_5, h_6, rfl⟩
  | iastore =>
    obtain ⟨h_0, w_x1, w_v1, w_r1, w_q1, w_k1, w_n1, w_f1, h_2, h_3, h_4, h_5, rfl⟩ := hi
    exact ⟨_, hL, h_0, w_x1, w_v1, w_r1, w_q1, w_k1, w_n1, w_f1, h_2, h_3, h_4, h_5, rfl⟩
  | bastore =>
    obtain ⟨h_0, w_x1, w_v1, w_r1, w_q1, w_k1, w_n1, w_f1, h_2, h_3, h_4, h_5, rfl⟩ := hi
    exact ⟨_, hL, h_0, w_x1, w_v1, w_r1, w_q1, w_k1, w_n1, w_f1, h_2, h_3, h_4, h_5, rfl⟩
  | lastore =>
    obtain ⟨h_0, w_x1, w_v1, w_r1, w_q1, w_k1, w_n1, w_f1, h_2, h_3, h_4, h_5, rfl⟩ := hi
    exact ⟨_, hL, h_0, w_x1, w_v1, w_r1, w_q1, w_k1, w_n1, w_f1, h_2, h_3, h_4, h_5, rfl⟩
  | aastore =>
    obtain ⟨h_0, w_x1, w_v1, w_r1, w_q1, w_k1, w_n1, w_f1, h_2, h_3, h_4, rfl, h_5⟩ := hi
    exact ⟨_, hL, h_0, w_x1, w_v1, w_r1, w_q1, w_k1, w_n1, w_f1, h_2, h_3, h_4, rfl, h_5⟩
  | multianewarray idx dm =>
    obtain ⟨h_0, h_1, w_n2, w_z2, w_r2, w_k2, w_k22, h_3, h_4, h_5, h_6, h_7, h_8, h_9, h_10, h_11, h_12, rfl⟩ := hi
    exact ⟨_, hL, h_0, h_1, w_n2, w_z2, w_r2, w_k2, w_k22, h_3, h_4, h_5, h_6, h_7, h_8, h_9, h_10, h_11, h_12, rfl⟩
  | arraylength =>
    obtain ⟨h_0, w_r1, ⟨w_q2, w_k2, w_x2, h_3, h_4, h_5, rfl⟩ | ⟨w_q6, w_n6, w_f6, h_7, h_8, rfl⟩⟩ := hi
    · exact ⟨_, hL, h_0, w_r1, Or.inl ⟨w_q2, w_k2, w_x2, h_3, h_4, h_5, rfl⟩⟩
    · exact ⟨_, hL, h_0, w_r1, Or.inr ⟨w_q6, w_n6, w_f6, h_7, h_8, rfl⟩⟩
  | new idx =>
    obtain ⟨h_0, w_ci1, w_C1, w_T1, w_N1, w_ty2, h_3, h_4, h_5, h_6, h_7, rfl⟩ := hi
    exact ⟨_, hL, h_0, w_ci1, w_C1, w_T1, w_N1, w_ty2, h_3, h_4, h_5, h_6, h_7, rfl⟩
  | checkcast idx =>
    obtain ⟨h_0, w_q1, w_k1, w_x1, w_r1, h_2, h_3, h_4, h_5, rfl⟩ := hi
    exact ⟨_, hL, h_0, w_q1, w_k1, w_x1, w_r1, h_2, h_3, h_4, h_5, rfl⟩
  | newarray aty =>
    obtain ⟨h_0, w_n1, w_r1, w_k1, w_z1, h_2, h_3, h_4, h_5, h_6, h_7, rfl⟩ := hi
    exact ⟨_, hL, h_0, w_n1, w_r1, w_k1, w_z1, h_2, h_3, h_4, h_5, h_6, h_7, rfl⟩
  | anewarray idx =>
    obtain ⟨h_0, w_n1, w_r1, w_k1, w_C1, h_2, h_3, h_4, h_5, h_6, h_7, rfl⟩ := hi
    exact ⟨_, hL, h_0, w_n1, w_r1, w_k1, w_C1, h_2, h_3, h_4, h_5, h_6, h_7, rfl⟩
  | _ => exact hi.elim
theorem x_sins_L {sk : xK} {Ts : List Cond} {own : String} {i : Jvm.ClassFile.Instr} {len pc : Nat} {L L2 : xL} {st : List Value} {h : List xC} {b : xS} (hi : x_sins sk Ts own i len (pc, L, st, h) b) : x_sins sk Ts own i len (pc, L2, st, h) (b.1, L2, b.2.2) := by
  cases i with
  | ldc idx => obtain ⟨e0, k, hk, e1, e2, rfl⟩ := hi; exact ⟨e0, k, hk, e1, e2, rfl⟩
  | getfield idx =>
    obtain ⟨e0, k, r, hk, h1, ⟨h2, rfl⟩ | ⟨h2, rfl⟩⟩ := hi
    · exact ⟨e0, k, r, hk, h1, Or.inl ⟨h2, rfl⟩⟩
    · exact ⟨e0, k, r, hk, h1, Or.inr ⟨h2, rfl⟩⟩
  | arraylength => obtain ⟨e0, k, r, hk, h1, rfl⟩ := hi; exact ⟨e0, k, r, hk, h1, rfl⟩
  | baload => obtain ⟨e0, k, x, r, hk, h0, h1, rfl⟩ := hi; exact ⟨e0, k, x, r, hk, h0, h1, rfl⟩
  | getstatic idx =>
    obtain ⟨e0, ⟨h2, rfl⟩ | ⟨h2, rfl⟩⟩ := hi
    · exact ⟨e0, Or.inl ⟨h2, rfl⟩⟩
    · exact ⟨e0, Or.inr ⟨h2, rfl⟩⟩
  | i2b => obtain ⟨e0, x, r, h1, rfl⟩ := hi; exact ⟨e0, x, r, h1, rfl⟩
  | _ => exact hi.elim
theorem x_go_L {sk : xK} {cl : List vw_C} {kd : List FieldType} {Ts : List Cond} {AO : List Cond} {M : xM} {base : Nat} : ∀ (n d : Nat) (X : Option (Nat × Nat × (Nat → Int32))) (j pc : Nat) (L L2 : xL) (st : List Value) (h : List xC) (r : Option Value) (h' : List xC), (∀ q ∈ L, q ∈ L2) → x_go sk cl kd Ts AO M base n d X j (pc, L, st, h) r h' → x_go sk cl kd Ts AO M base n d X j (pc, L2, st, h) r h'
  | 0, _, _, _, _, _, _, _, _, _, _, _, h => h.elim
  | n + 1, d, X, j, pc, L, L2, st, h, r, h', hL, hg => by
    obtain ⟨y, cc, nL, ret, i, len, hM, hd, hh⟩ := hg
    refine ⟨y, cc, nL, ret, i, len, hM, hd, ?_⟩
    rcases hh with ⟨b, hi, hg⟩ | hr | ⟨d', j2, y2, cc2, nL2, ret2, As, rest, v, h1', rfl, a0, a1, a2, a3, hg1, hg2⟩ | ⟨d', b, rfl, hi, hg⟩
    · rcases hi with hi | hi
      · obtain ⟨L3, k1, k2⟩ := x_ins_L hL hi
        obtain ⟨bp, bL, bs, bh⟩ := b
        exact Or.inl ⟨_, Or.inl k2, x_go_L n d X j _ _ _ _ _ _ _ k1 hg⟩
      · have k2 := x_sins_L (L2 := L2) hi
        obtain ⟨bp, bL, bs, bh⟩ := b
        obtain ⟨e1, -⟩ := x_sins_h hi
        dsimp only at e1; subst e1
        exact Or.inl ⟨_, Or.inr k2, x_go_L n d X j _ _ _ _ _ _ _ hL hg⟩
    · exact Or.inr (Or.inl hr)
    · exact Or.inr (Or.inr (Or.inl ⟨d', j2, y2, cc2, nL2, ret2, As, rest, v, h1', rfl, a0, a1, a2, a3, hg1, x_go_L n _ X j _ _ _ _ _ _ _ hL hg2⟩))
    · cases i with
      | invokespecial idx =>
        obtain ⟨e1, q, r, e2, e3, e4, e5, e6, rfl⟩ := hi
        exact Or.inr (Or.inr (Or.inr ⟨d', _, rfl, ⟨e1, q, r, e2, e3, e4, e5, e6, rfl⟩, x_go_L n _ X j _ _ _ _ _ _ _ hL hg⟩))
      | invokevirtual idx =>
        obtain ⟨e1, e2, e3, e4, e5, e6, e7, q, k, m, f, r, e8, e9, e10, e11, rfl⟩ := hi
        exact Or.inr (Or.inr (Or.inr ⟨d', _, rfl, ⟨e1, e2, e3, e4, e5, e6, e7, q, k, m, f, r, e8, e9, e10, e11, rfl⟩, x_go_L n _ X j _ _ _ _ _ _ _ hL hg⟩))
      | invokestatic idx =>
        obtain ⟨e1, e2, e3, e4, e5, q0, q1, k, n0, n1, f, g, sp, dp, m, r, e6, e7, e8, e9, e10, e11, e12, e13, e14, e15, rfl⟩ := hi
        exact Or.inr (Or.inr (Or.inr ⟨d', _, rfl, ⟨e1, e2, e3, e4, e5, q0, q1, k, n0, n1, f, g, sp, dp, m, r, e6, e7, e8, e9, e10, e11, e12, e13, e14, e15, rfl⟩, x_go_L n _ X j _ _ _ _ _ _ _ hL hg⟩))
      | _ => exact hi.elim
def x_sub : xL → xL → Prop
  | [], _ => True
  | q :: r, L2 => x_get L2 q.1 = some q.2 ∧ x_sub r L2
theorem x_sub_mem {L2 : xL} : ∀ {L : xL}, x_sub L L2 → ∀ q ∈ L, q ∈ L2
  | [], _, _, hq => absurd hq (List.not_mem_nil)
  | p :: r, h, q, hq => by
    rcases List.mem_cons.mp hq with e | e
    · subst e; exact x_get_mem h.1
    · exact x_sub_mem h.2 q e
/-- a run that needs fewer locals -/
theorem hw_L {sk : xK} {base d : Nat} {X : Option (Nat × Nat × (Nat → Int32))} {j pc : Nat} {L L2 : xL} {st : List Value} {s : hS} {Φ : Option Value → hS → Prop} (k : hw sk base d X j pc L st s Φ) (hs : x_sub L L2) : hw sk base d X j pc L2 st s Φ := by
  intro h hR
  obtain ⟨r, h', ⟨n, g⟩, k2⟩ := k h hR
  exact ⟨r, h', ⟨n, x_go_L n d X j pc L L2 st h r h' (x_sub_mem hs) g⟩, k2⟩
