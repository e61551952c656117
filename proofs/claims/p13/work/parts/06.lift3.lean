section XB
variable {sk : xK} {l : Launch} {D : va_G} {cl : List vw_C} {dA : Nat → ClassId} {kd : List FieldType} {Ts : List Cond} {AO : List Cond} {M : xM} {base : Nat}
set_option maxHeartbeats 4000000 in
set_option maxRecDepth 100000 in
/-- THE LIFTING -/
theorem x_body (hOk : x_Ok cl Ts AO M) : ∀ n : Nat, x_Body sk l D cl dA kd Ts AO M base n
  | 0 => fun d X j a r h' hg => hg.elim
  | n + 1 => by
    have ih := x_body hOk n
    intro d X j a r h' hg p e R s m args below meth c Q y cc nL ret s0 H locs cells slots ls hM F hKS hnm hfr hlo hrc hrs hret hR
    obtain ⟨y9, cc9, nL9, ret9, i, len, hM9, hd, hh⟩ := hg
    rw [hM] at hM9
    cases hM9
    rcases hh with ⟨b, hi, hg⟩ | ⟨hi, rfl⟩ | ⟨d', j2, y2, cc2, nL2, ret2, As, rest, v, h1, rfl, hj2, hM2, hcal, hlen, hg1, hg2⟩ | ⟨d', b, rfl, hi, hg⟩
    · have hle := x_go_le n _ _ _ _ _ _ hg
      rcases hi with hi | hi
      · rw [← hnm] at hi
        refine x_ins_W F hd hi hR (by have := hle.1; omega) (by have := hle.2; omega) (fun H1 locs1 cells1 slots1 ls1 hR1 => ?_)
        exact ih d X j b r h' hg p e R s m args below meth c Q y cc nL ret s0 H1 locs1 cells1 slots1 ls1 hM F hKS hnm hfr hlo hrc hrs hret hR1
      · refine x_sins_W F hKS hd hi hR (fun H1 locs1 cells1 slots1 ls1 hR1 => ?_)
        exact ih d X j b r h' hg p e R s m args below meth c Q y cc nL ret s0 H1 locs1 cells1 slots1 ls1 hM F hKS hnm hfr hlo hrc hrs hret hR1
    · exact hret _ _ _ _ _ _ _ _ _ _ hd hi hR
    · have hle1 := x_go_le n _ _ _ _ _ _ hg1
      have hle2 := x_go_le n _ _ _ _ _ _ hg2
      obtain ⟨pc, L, st, h⟩ := a
      dsimp only at hd hcal hg1 hg2 hR hle1 hle2 ⊢
      have hMet := x_met hOk ih hg1 hj2 hM2 hlen
      obtain ⟨-, -, hKL2, hnone⟩ := hOk.2.1 _ _ _ _ _ hj2 hM2
      obtain ⟨⟨hx, hb, hml, hown, hts⟩, hK, hbs, hX, hcl⟩ := id F
      obtain ⟨hP, hS, hc, hsl, hl⟩ := id hR
      refine x_size hP hbs hS.1 hc (fun hz => ?_)
      obtain ⟨hsum, hini, hy1, hy2, rfl, hcal⟩ := hcal
      have hroom : d' + 1 ≤ R.frames ∧ 8 + (nL2 + 11) + x_KL * d' ≤ R.locals := ⟨hfr, by rw [Nat.mul_succ] at hlo; omega⟩
      have hfit : cells + (h1.length - h.length) ≤ R.cells ∧ slots + (x_sl h1 - x_sl h) ≤ R.slots := by
        have := hle1.1; have := hle1.2; have := hle2.1; have := hle2.2
        omega
      have hG2 : GoodIn Ts (Cond.code y2 cc2 nL2 ret2 :: Ts) := fun w hw => by
        rcases List.mem_cons.mp hw with rfl | hw
        · exact hOk.1.1 _ (hOk.2.1 _ _ _ _ _ hj2 hM2).1
        · exact hOk.1.1 w hw
      have hpre : ∀ U : State, U.heap = H → s.WarmedH U.vm → va_Pc As (x_Pre sk D cl dA kd AO base h) As.toArray U := fun U hU hW => ⟨rfl, by rw [hU]; exact hP, by rw [hU]; exact hz, x_K.warm hOk.1.2 hW hK, by rw [hU]; exact x_KS.kept hS.2.1 (x_KS.warm hW hKS)⟩
      have goon : ∀ (H1 : Heap) (locs1 : List Loc) (t : State), t.heap = H1 → va_P D cl (x_W dA base h1) t.heap → va_S (fun q => base ≤ q) s.heap H1 locs1 → W p l e R s m args below meth c H1 locs1 (cells + (h1.length - h.length)) (slots + (x_sl h1 - x_sl h)) Q (F0 m (pc + 3) ls (v.toList ++ rest)) := fun H1 locs1 t ht hB hS1 => by
        rw [ht] at hB
        have := hle1.1; have := hle1.2
        exact ih (d' + 1) X j (pc + 3, L, v.toList ++ rest, h1) r h' hg2 p e R s m args below meth c Q y cc nL ret s0 H1 locs1 _ _ ls hM F hKS hnm hfr hlo hrc hrs hret ⟨hB, hS1, (show base + h1.length = _ by omega), (show x_sl h1 = _ by omega), hl⟩
      cases i with
      | invokevirtual idx =>
        obtain ⟨hlk, h7, h8, hcal⟩ := hcal
        rcases hcal with ⟨q, ci, fs, T, N, Bs, rfl, rfl, h4, h5, h6⟩ | ⟨q, Bs, hq, hcs, rfl, rfl, h6⟩
        · have hp : PreV s H y2.cls (base + q) (va_Pc (.ref (base + q) :: Bs) (x_Pre sk D cl dA kd AO base h)) Bs := ⟨x_blind hOk.1.2, va_recv hK.1 hP h5 (x_W_get h4), hpre⟩
          rcases hlk with hlk | ⟨host, hlk⟩
          · exact x_call (va_runV ⟨hx, hb, hml, hown, hts⟩ hMet ⟨callB_of Bs.length hts hG2 rfl rfl rfl (hts _ hini) (hts _ hlk) ⟨hy1, hy2, h6⟩ hroom, hts _ h7, hts _ h8⟩ hp rfl rfl hl.1 rfl (lv_room hsum) hd hfit) hS (fun _ z => z) goon
          · exact x_call (va_runVN ⟨hx, hb, hml, hown, hts⟩ hMet ⟨va_cnB Bs.length hts hG2 rfl rfl rfl (hK.2 _ hlk) (hts _ hini) ⟨hy1, hy2, h6⟩ hroom, hts _ h7, hts _ h8⟩ hp rfl rfl hl.1 rfl (lv_room hsum) hd hfit) hS (fun _ z => z) goon
        · have hp : PreV s H y2.cls (sk.1 q) (va_Pc (.ref (sk.1 q) :: Bs) (x_Pre sk D cl dA kd AO base h)) Bs := ⟨x_blind hOk.1.2, by rw [hcs]; exact vk_recv hKS.1 hq hS, hpre⟩
          rcases hlk with hlk | ⟨host, hlk⟩
          · exact x_call (va_runV ⟨hx, hb, hml, hown, hts⟩ hMet ⟨callB_of Bs.length hts hG2 rfl rfl rfl (hts _ hini) (hts _ hlk) ⟨hy1, hy2, h6⟩ hroom, hts _ h7, hts _ h8⟩ hp rfl rfl hl.1 rfl (lv_room hsum) hd hfit) hS (fun _ z => z) goon
          · exact x_call (va_runVN ⟨hx, hb, hml, hown, hts⟩ hMet ⟨va_cnB Bs.length hts hG2 rfl rfl rfl (hK.2 _ hlk) (hts _ hini) ⟨hy1, hy2, h6⟩ hroom, hts _ h7, hts _ h8⟩ hp rfl rfl hl.1 rfl (lv_room hsum) hd hfit) hS (fun _ z => z) goon
      | invokestatic idx =>
        obtain ⟨hlk, rfl, h6, h7⟩ := hcal
        have hp : PreS s H (va_Pc As (x_Pre sk D cl dA kd AO base h)) As := ⟨x_blind hOk.1.2, hpre⟩
        rcases hlk with hlk | ⟨host, hlk⟩
        · exact x_call (va_runS ⟨hx, hb, hml, hown, hts⟩ hMet ⟨callB_of As.length hts hG2 rfl rfl rfl (hts _ hini) (hts _ hlk) ⟨hy1, hy2, h6⟩ hroom, hts _ h7⟩ hp rfl rfl hl.1 rfl (lv_room hsum) hd hfit) hS (fun _ z => z) goon
        · exact x_call (va_runSN ⟨hx, hb, hml, hown, hts⟩ hMet ⟨va_cnB As.length hts hG2 rfl rfl rfl (hK.2 _ hlk) (hts _ hini) ⟨hy1, hy2, h6⟩ hroom, hts _ h7, trivial⟩ hp rfl rfl hl.1 rfl (lv_room hsum) hd hfit) hS (fun _ z => z) goon
      | invokespecial idx =>
        obtain ⟨hlk, hini2, q, Bs, rfl, rfl, h6, h7⟩ := hcal
        have hp : PreS s H (va_Pc (.ref q :: Bs) (x_Pre sk D cl dA kd AO base h)) (.ref q :: Bs) := ⟨x_blind hOk.1.2, hpre⟩
        have hrn := hnone hini2
        subst hrn
        rcases hlk with hlk | ⟨host, hlk⟩
        · exact x_call (va_runI ⟨hx, hb, hml, hown, hts⟩ hMet ⟨callB_of Bs.length hts hG2 rfl rfl rfl (hts _ hini) (hts _ hlk) ⟨hy1, hy2, h6⟩ hroom, hini2, hts _ h7⟩ hp rfl rfl hl.1 rfl (lv_room hsum) hd hfit) hS (fun _ z => z) goon
        · exact x_call (va_runIN ⟨hx, hb, hml, hown, hts⟩ hMet ⟨va_cnB Bs.length hts hG2 rfl rfl rfl (hK.2 _ hlk) (hts _ hini) ⟨hy1, hy2, h6⟩ hroom, hini2, hts _ h7⟩ hp rfl rfl hl.1 rfl (lv_room hsum) hd hfit) hS (fun _ z => z) goon
      | _ => exact hcal.elim
    · have hle := x_go_le n _ _ _ _ _ _ hg
      have go2 : ∀ (H1 : Heap) (locs1 : List Loc) (cells1 slots1 : Nat) (ls1 : Array Slot), x_R D cl dA base s0 nL s H1 locs1 cells1 slots1 ls1 b.2.1 b.2.2.2 → W p l e R s m args below meth c H1 locs1 cells1 slots1 Q (F0 m b.1 ls1 b.2.2.1) := fun H1 locs1 cells1 slots1 ls1 hR1 => ih (d' + 1) X j b r h' hg p e R s m args below meth c Q y cc nL ret s0 H1 locs1 cells1 slots1 ls1 hM F hKS hnm hfr hlo hrc hrs hret hR1
      obtain ⟨pc, L, st, h⟩ := a
      dsimp only at hd hi hR ⊢
      obtain ⟨⟨hx, hb, hml, hown, hts⟩, hK, hbs, hX, hcl⟩ := id F
      obtain ⟨hP, hS, hc, hsl, hl⟩ := id hR
      have hlo2 : 84 ≤ R.locals := by
        rw [Nat.mul_succ] at hlo
        have : x_KL = 84 := rfl
        omega
      cases i with
      | invokespecial idx =>
        obtain ⟨rfl, q, r9, rfl, h1, h2, h3, h4, rfl⟩ := hi
        have hro := lv_room (m := m) (pc := pc) (ls := ls) (rest := .ref q :: r9) h1
        exact W.objInit hx hb hown (hts _ h2) (hts _ h3) (hts _ h4) rfl (by rw [hml]; exact hl.1) rfl hd (by omega) (by omega) (go2 _ _ _ _ _ hR)
      | invokevirtual idx =>
        obtain ⟨rfl, g1, g2, g3, g4, g5, g6, q, k, n9, f, r9, k1, k2, k3, rfl, rfl⟩ := hi
        have hle1 : h.length + 1 ≤ h'.length := by simpa [x_g] using hle.1
        have hle2 : x_sl h + n9 ≤ x_sl h' := by simpa [x_g, x_sl_app, x_n] using hle.2
        refine va_clone (x := (n9, .inl f)) hx hb (hml.trans hl.1.symm) hown (hts _ g1) (hts _ g2) (hts _ g3) (hts _ g4) (hts _ g5) (hK.2 _ g6) hK.1 hP (x_D dA base h) hS (fun q hq => Nat.le_trans hbs hq) q k (x_W_get k2) (x_kd k1) (hK.1.2 k _ (x_kd k1)).2 (va_fit (fun _ _ => rfl)) (by omega) (show (r9.map fun v => v.category).sum + 14 ≤ R.locals by omega) (by omega) (show slots + n9 ≤ R.slots by omega) hd (fun q9 H1 z0 z1 z2 z3 => ?_)
        refine x_fresh z1 z2 hc (fun eq => ?_)
        subst eq
        have e1 := x_W_app dA base h (.inl (k, n9, .inl f))
        rw [show x_W dA base h ++ [(base + h.length, .inl (dA k, n9, .inl f))] = _ from e1] at z1
        exact go2 H1 locs (cells + 1) (slots + n9) ls ⟨z1, z3, by simp [x_g]; omega, by simp [x_g, x_sl_app, x_n]; omega, hl⟩
      | invokestatic idx =>
        obtain ⟨rfl, g1, g2, g3, g4, q0, q1, k, n0, n1, f, g, sp, dp, n9, r9, k1, k2, k3, k4, k5, k6, k7, k8, k9, rfl, rfl⟩ := hi
        have hnw : nativeFrameWords "java/lang/System" "arraycopy" 5 ≤ 60 := by decide +kernel
        refine va_copyi hx hb (hml.trans hl.1.symm) hown (hts _ g1) (hts _ g2) (hts _ g3) (hts _ g4) hK.1 hP (x_D dA base h) hS q0 q1 k k (x_W_get k2) (x_W_get k3) (x_kd k1) (x_kd k1) rfl k4 k5 k6 k7 k8 (fun _ _ => rfl) (by omega) (show (r9.map fun v => v.category).sum + (nativeFrameWords "java/lang/System" "arraycopy" 5 + 11) ≤ R.locals by omega) hd (fun H1 locs1 z1 _ z3 => ?_)
        have e1 := x_W_set dA base h q1 (.inl (k, n1, .inl (va_cpy f g sp.toNatClampNeg dp.toNatClampNeg n9.toNatClampNeg)))
        rw [show ((x_W dA base h).set q1 (base + q1, .inl (dA k, n1, .inl (va_cpy f g sp.toNatClampNeg dp.toNatClampNeg n9.toNatClampNeg)))) = _ from e1] at z1
        exact go2 H1 locs1 cells slots ls ⟨z1, z3, (show base + (h.set q1 _).length = _ by rw [List.length_set]; exact hc), (x_sl_set (h := h) k3 (by simp [x_n])).trans hsl, hl⟩
      | _ => exact hi.elim
end XB
